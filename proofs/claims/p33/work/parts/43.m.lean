theorem dX12_areTold_0 : decode cX12_areTold 0 = .ok (.aload_n 0, 1) := dc_42 (show ((cX12_areTold.data.toList.drop 0).take 1).map UInt8.toNat = [42] by decide +kernel)
theorem dX12_areTold_1 : decode cX12_areTold 1 = .ok (.iload_n 1, 1) := dc_27 (show ((cX12_areTold.data.toList.drop 1).take 1).map UInt8.toNat = [27] by decide +kernel)
theorem dX12_areTold_2 : decode cX12_areTold 2 = .ok (.invokevirtual 205, 3) := dc_182 (show ((cX12_areTold.data.toList.drop 2).take 3).map UInt8.toNat = [182, 0, 205] by decide +kernel) rfl
theorem dX12_areTold_5 : decode cX12_areTold 5 = .ok (.ifCond .eq 12, 3) := dc_153 (show ((cX12_areTold.data.toList.drop 5).take 3).map UInt8.toNat = [153, 0, 12] by decide +kernel) rfl
theorem dX12_areTold_17 : decode cX12_areTold 17 = .ok (.iconst 0, 1) := dc_3 (show ((cX12_areTold.data.toList.drop 17).take 1).map UInt8.toNat = [3] by decide +kernel)
theorem dX12_areTold_18 : decode cX12_areTold 18 = .ok (.ireturn, 1) := dc_172 (show ((cX12_areTold.data.toList.drop 18).take 1).map UInt8.toNat = [172] by decide +kernel)
theorem dX12_areTold_8 : decode cX12_areTold 8 = .ok (.aload_n 0, 1) := dc_42 (show ((cX12_areTold.data.toList.drop 8).take 1).map UInt8.toNat = [42] by decide +kernel)
theorem dX12_areTold_9 : decode cX12_areTold 9 = .ok (.iconst 1, 1) := dc_4 (show ((cX12_areTold.data.toList.drop 9).take 1).map UInt8.toNat = [4] by decide +kernel)
theorem dX12_areTold_10 : decode cX12_areTold 10 = .ok (.iload_n 2, 1) := dc_28 (show ((cX12_areTold.data.toList.drop 10).take 1).map UInt8.toNat = [28] by decide +kernel)
theorem dX12_areTold_11 : decode cX12_areTold 11 = .ok (.invokevirtual 171, 3) := dc_182 (show ((cX12_areTold.data.toList.drop 11).take 3).map UInt8.toNat = [182, 0, 171] by decide +kernel) rfl
theorem dX12_areTold_14 : decode cX12_areTold 14 = .ok (.ifCond .ne 5, 3) := dc_154 (show ((cX12_areTold.data.toList.drop 14).take 3).map UInt8.toNat = [154, 0, 5] by decide +kernel) rfl
theorem dX12_areTold_19 : decode cX12_areTold 19 = .ok (.aload_n 0, 1) := dc_42 (show ((cX12_areTold.data.toList.drop 19).take 1).map UInt8.toNat = [42] by decide +kernel)
theorem dX12_areTold_20 : decode cX12_areTold 20 = .ok (.iconst 1, 1) := dc_4 (show ((cX12_areTold.data.toList.drop 20).take 1).map UInt8.toNat = [4] by decide +kernel)
theorem dX12_areTold_21 : decode cX12_areTold 21 = .ok (.iload_n 2, 1) := dc_28 (show ((cX12_areTold.data.toList.drop 21).take 1).map UInt8.toNat = [28] by decide +kernel)
theorem dX12_areTold_22 : decode cX12_areTold 22 = .ok (.invokestatic 190, 3) := dc_184 (show ((cX12_areTold.data.toList.drop 22).take 3).map UInt8.toNat = [184, 0, 190] by decide +kernel) rfl
theorem dX12_areTold_25 : decode cX12_areTold 25 = .ok (.putfield 224, 3) := dc_181 (show ((cX12_areTold.data.toList.drop 25).take 3).map UInt8.toNat = [181, 0, 224] by decide +kernel) rfl
theorem dX12_areTold_28 : decode cX12_areTold 28 = .ok (.aload_n 0, 1) := dc_42 (show ((cX12_areTold.data.toList.drop 28).take 1).map UInt8.toNat = [42] by decide +kernel)
theorem dX12_areTold_29 : decode cX12_areTold 29 = .ok (.iconst (-1), 1) := dc_2 (show ((cX12_areTold.data.toList.drop 29).take 1).map UInt8.toNat = [2] by decide +kernel)
theorem dX12_areTold_30 : decode cX12_areTold 30 = .ok (.putfield 245, 3) := dc_181 (show ((cX12_areTold.data.toList.drop 30).take 3).map UInt8.toNat = [181, 0, 245] by decide +kernel) rfl
theorem dX12_areTold_33 : decode cX12_areTold 33 = .ok (.iconst 1, 1) := dc_4 (show ((cX12_areTold.data.toList.drop 33).take 1).map UInt8.toNat = [4] by decide +kernel)
theorem dX12_areTold_34 : decode cX12_areTold 34 = .ok (.ireturn, 1) := dc_172 (show ((cX12_areTold.data.toList.drop 34).take 1).map UInt8.toNat = [172] by decide +kernel)
def ms_areTold (n : Nat) (f : gb_F) (w : Int64) (p1 : Int32) (p2 : Int32) : gb_MR Int32 := gb_bd (ms_isBorder n f w p1) (fun f_1 wl_2 r_3 => (if r_3 = 0 then some (f_1, wl_2, 0) else gb_bd (ms_isOf n f_1 wl_2 1 p2) (fun f_7 wl_8 r_9 => (if r_9 = 0 then some (f_7, wl_8, 0) else gb_bd (ms_placeOf n f_7 wl_8 1 p2) (fun f_13 wl_14 r_15 => gb_lt (gb_u f_13 0 (upd (f_13 0) 12 r_15)) (fun f_18 => gb_lt (gb_u f_18 0 (upd (f_18 0) 24 (-1))) (fun f_19 => some (f_19, wl_14, 1))))))))
set_option maxHeartbeats 8000000 in
set_option maxRecDepth 100000 in
theorem mc_areTold (l : Launch) (D : va_G) (cT : Nat → ClassId) (tt : Nat → Nat) (b1 b : Nat) (hb1 : b1 ≤ b) (n : Nat) (f : gb_F) (w : Int64) (p1 : Int32) (p2 : Int32) (fE : gb_F) (wE : Int64) (rE : Int32) (h : ms_areTold n f w p1 p2 = some (fE, wE, rE)) : Met l yX12_areTold (.code yX12_areTold cX12_areTold 3 (some FieldType.boolean) :: gb_wA) ({ frames := 3, cells := 0, slots := 0, locals := 65 }) (gb_Pc D cT tt b1 [.ref (b + 0), .int p1, .int p2] (fun h => va_P D vwCl (gb_wl b (gb_MW cT b f w)) h)) (gb_Qi (fun r h => r = rE ∧ va_P D vwCl (gb_wl b (gb_MW cT b fE wE)) h) (gb_fr b 22)) 0 0 (gb_fr b 22) := by
  refine Met.ofW (cc := cX12_areTold) (maxL := 3) (ret := (some FieldType.boolean)) (by decide) rfl ?_
  intro p e s m args below meth c s₁ B hml hv
  obtain ⟨rfl, hSt, hP⟩ := hv
  have hx := B.exec
  have hb := B.bytes
  have hr := B.returns
  have hts := atoms_spec (ws := .code yX12_areTold cX12_areTold 3 (some FieldType.boolean) :: gb_wA) B.pre
  have hq : ∀ w ∈ gb_wA, w.before _ s = true := fun w h => hts w (List.mem_cons_of_mem _ h)
  have hown : s.vm.findClass RX12 = some m.cls := findClass_of_methodNamed B.named
  have hlocks := B.notSynchronized
  clear B hts
  have hK := hSt.1
  have hS : va_S (gb_fr b 22) s.heap s.heap [] := va_S.rf
  have hl := lv_entry ([.ref (b + 0), .int p1, .int p2]) (n := 3) (Nat.le_of_ble_eq_true rfl)
  rw [lg_entry_eq]
  generalize (lg_sl ([.ref (b + 0), .int p1, .int p2]) ++ List.replicate (3 - (lg_sl ([.ref (b + 0), .int p1, .int p2])).length) Slot.unset).toArray = ls at hl ⊢
  replace hl : lv_has ls 3 [(0, .ref (b + 0)), (1, .int p1), (2, .int p2)] := hl
  unfold ms_areTold at h
  refine lv_aload_n hx hb dX12_areTold_0 rfl (lv_at hl 0 rfl) ?_
  refine lv_iload_n hx hb dX12_areTold_1 rfl (lv_at hl 1 rfl) ?_
  obtain ⟨f_1, wl_2, r_3, z_4, h⟩ := gb_bd_s h
  refine gb_calli (va_runV (C := RX12) (As := [.int p1]) (rest := []) ⟨hx, hb, hml, hown, hq⟩ (mc_isBorder l D cT tt b1 b hb1 n f w p1 f_1 wl_2 r_3 z_4) (cwV 1 hq (gb_gV w_1372 w_1374 s_4_1 w_14 w_1375) rfl rfl rfl (by decide +kernel) ⟨Nat.le_of_ble_eq_true rfl, Nat.le_of_ble_eq_true rfl⟩) (gb_preV (r := (RX12, TX12, 44)) (ci := 10) (q0 := 0) hSt hP rfl (gb_at b rfl) hS (fun q h => Nat.le_trans hb1 h.1) hP) rfl rfl hl.1 rfl (lv_room (Nat.le_of_ble_eq_true rfl)) dX12_areTold_2 ⟨Nat.le_of_ble_eq_true rfl, Nat.le_of_ble_eq_true rfl⟩) hS (fun _ h => h) (fun _ h => h) (fun q_5 H locs hY hk hS => ?_)
  obtain ⟨hq_5, hP⟩ := hY
  replace hq_5 := hq_5.symm
  subst hq_5
  refine lv_if_eq (tgt := 17) hx hb dX12_areTold_5 (by decide) (fun c_6 => ?_) (fun c_6 => ?_)
  · rw [if_pos c_6] at h
    refine lv_iconst (v := 0) hx hb dX12_areTold_17 (by decide) ?_
    obtain ⟨e1, e2, e3⟩ := gb_eq3 h
    exact W.zret (v := 0) hx hb hr (by decide) (fun t ht hW => gb_ri ht ⟨e3, by rw [← e1, ← e2]; exact hP⟩ hS) hS.2.2 dX12_areTold_18
  · rw [if_neg c_6] at h
    refine lv_aload_n hx hb dX12_areTold_8 rfl (lv_at hl 0 rfl) ?_
    refine lv_iconst (v := 1) hx hb dX12_areTold_9 (by decide) ?_
    refine lv_iload_n hx hb dX12_areTold_10 rfl (lv_at hl 2 rfl) ?_
    obtain ⟨f_7, wl_8, r_9, z_10, h⟩ := gb_bd_s h
    refine gb_calli (va_runV (C := RX12) (As := [.int 1, .int p2]) (rest := []) ⟨hx, hb, hml, hown, hq⟩ (mc_isOf l D cT tt b1 b hb1 n f_1 wl_2 1 p2 f_7 wl_8 r_9 z_10) (cwV 2 hq (gb_gV w_1272 w_1274 s_3_0 w_14 w_1275) rfl rfl rfl (by decide +kernel) ⟨Nat.le_of_ble_eq_true rfl, Nat.le_of_ble_eq_true rfl⟩) (gb_preV (r := (RX12, TX12, 44)) (ci := 10) (q0 := 0) hSt hP rfl (gb_at b rfl) hS (fun q h => Nat.le_trans hb1 h.1) hP) rfl rfl hl.1 rfl (lv_room (Nat.le_of_ble_eq_true rfl)) dX12_areTold_11 ⟨Nat.le_of_ble_eq_true rfl, Nat.le_of_ble_eq_true rfl⟩) hS (fun _ h => h) (fun _ h => h) (fun q_11 H locs hY hk hS => ?_)
    obtain ⟨hq_11, hP⟩ := hY
    replace hq_11 := hq_11.symm
    subst hq_11
    refine lv_if_ne (tgt := 19) hx hb dX12_areTold_14 (by decide) (fun c_12 => ?_) (fun c_12 => ?_)
    · rw [if_neg c_12] at h
      refine lv_aload_n hx hb dX12_areTold_19 rfl (lv_at hl 0 rfl) ?_
      refine lv_iconst (v := 1) hx hb dX12_areTold_20 (by decide) ?_
      refine lv_iload_n hx hb dX12_areTold_21 rfl (lv_at hl 2 rfl) ?_
      obtain ⟨f_13, wl_14, r_15, z_16, h⟩ := gb_bd_s h
      refine gb_calli (va_runS (As := [.int 1, .int p2]) (rest := [.ref (b + 0)]) ⟨hx, hb, hml, hown, hq⟩ (mc_placeOf l D cT tt b1 b hb1 n f_7 wl_8 1 p2 f_13 wl_14 r_15 z_16) (va_cwS 2 hq (gb_gS w_1361 w_1362 w_14 w_1363) rfl rfl rfl (by decide +kernel) ⟨Nat.le_of_ble_eq_true rfl, Nat.le_of_ble_eq_true rfl⟩) (gb_preS hSt hS (fun q h => Nat.le_trans hb1 h.1) hP) rfl rfl hl.1 rfl (lv_room (Nat.le_of_ble_eq_true rfl)) dX12_areTold_22 ⟨Nat.le_of_ble_eq_true rfl, Nat.le_of_ble_eq_true rfl⟩) hS (fun _ h => h) (fun _ h => h) (fun q_17 H locs hY hk hS => ?_)
      obtain ⟨hq_17, hP⟩ := hY
      replace hq_17 := hq_17.symm
      subst hq_17
      refine gb_put (ci := 10) (v := (.int r_15)) (ty := .int) (C := RX12) (T := TX12) (N := 44) hx hb hq i_X12 tyX12 tyX12_ok nmX12 hown hK hP (fun k h => ⟨Nat.le_add_right b k, Nat.add_lt_add_left h b⟩) hS rfl 0 rfl rfl 12 (by decide) (hq _ w_1136) (fun _ h9 => h9) rfl (by decide +kernel) rfl rfl (Nat.le_of_ble_eq_true rfl) dX12_areTold_25 (fun H locs hP hz_ hS => ?_)
      obtain ⟨f_18, ef_18⟩ : ∃ q, q = (gb_u f_13 0 (upd (f_13 0) 12 r_15)) := ⟨_, rfl⟩
      replace hP : va_P D vwCl (gb_wl b (gb_MW cT b f_18 wl_14)) H := by rw [ef_18]; exact hP
      replace h := gb_lt_s ef_18 h
      refine lv_aload_n hx hb dX12_areTold_28 rfl (lv_at hl 0 rfl) ?_
      refine lv_iconst (v := (-1)) hx hb dX12_areTold_29 (by decide) ?_
      refine gb_put (ci := 10) (v := (.int (-1))) (ty := .int) (C := RX12) (T := TX12) (N := 44) hx hb hq i_X12 tyX12 tyX12_ok nmX12 hown hK hP (fun k h => ⟨Nat.le_add_right b k, Nat.add_lt_add_left h b⟩) hS rfl 0 rfl rfl 24 (by decide) (hq _ w_1148) (fun _ h9 => h9) rfl (by decide +kernel) rfl rfl (Nat.le_of_ble_eq_true rfl) dX12_areTold_30 (fun H locs hP hz_ hS => ?_)
      obtain ⟨f_19, ef_19⟩ : ∃ q, q = (gb_u f_18 0 (upd (f_18 0) 24 (-1))) := ⟨_, rfl⟩
      replace hP : va_P D vwCl (gb_wl b (gb_MW cT b f_19 wl_14)) H := by rw [ef_19]; exact hP
      replace h := gb_lt_s ef_19 h
      refine lv_iconst (v := 1) hx hb dX12_areTold_33 (by decide) ?_
      obtain ⟨e1, e2, e3⟩ := gb_eq3 h
      exact W.zret (v := 1) hx hb hr (by decide) (fun t ht hW => gb_ri ht ⟨e3, by rw [← e1, ← e2]; exact hP⟩ hS) hS.2.2 dX12_areTold_34
    · rw [if_pos c_12] at h
      refine lv_iconst (v := 0) hx hb dX12_areTold_17 (by decide) ?_
      obtain ⟨e1, e2, e3⟩ := gb_eq3 h
      exact W.zret (v := 0) hx hb hr (by decide) (fun t ht hW => gb_ri ht ⟨e3, by rw [← e1, ← e2]; exact hP⟩ hS) hS.2.2 dX12_areTold_18
theorem dX12_runs_0 : decode cX12_runs 0 = .ok (.aload_n 0, 1) := dc_42 (show ((cX12_runs.data.toList.drop 0).take 1).map UInt8.toNat = [42] by decide +kernel)
theorem dX12_runs_1 : decode cX12_runs 1 = .ok (.invokevirtual 255, 3) := dc_182 (show ((cX12_runs.data.toList.drop 1).take 3).map UInt8.toNat = [182, 0, 255] by decide +kernel) rfl
theorem w_1439 : (Cond.code ({ cls := "GooseBorderModel", name := "begins", desc := "()V" } : MethodName) prog_14_method_46_code (3 : Nat) (Option.none : Option FieldType)) ∈ gb_wA := gb_t6 239 rfl rfl
theorem w_1436 : (Cond.methodLink "GooseBorderModel" (255 : Nat) ({ cls := "GooseBorderModel", name := "begins", desc := "()V" } : MethodName)) ∈ gb_wA := gb_t6 236 rfl rfl
theorem w_1438 : (Cond.instanceMethod ({ cls := "GooseBorderModel", name := "begins", desc := "()V" } : MethodName)) ∈ gb_wA := gb_t6 238 rfl rfl
theorem s_4_14 : Cond.selects "GooseBorderModel" (⟨"GooseBorderModel", "begins", "()V"⟩ : MethodName) (⟨"GooseBorderModel", "begins", "()V"⟩ : MethodName) ∈ gb_wA := gb_s4 14 rfl rfl
theorem dX12_runs_4 : decode cX12_runs 4 = .ok (.aload_n 0, 1) := dc_42 (show ((cX12_runs.data.toList.drop 4).take 1).map UInt8.toNat = [42] by decide +kernel)
theorem dX12_runs_5 : decode cX12_runs 5 = .ok (.getfield 236, 3) := dc_180 (show ((cX12_runs.data.toList.drop 5).take 3).map UInt8.toNat = [180, 0, 236] by decide +kernel) rfl
theorem dX12_runs_8 : decode cX12_runs 8 = .ok (.iload_n 1, 1) := dc_27 (show ((cX12_runs.data.toList.drop 8).take 1).map UInt8.toNat = [27] by decide +kernel)
theorem dX12_runs_9 : decode cX12_runs 9 = .ok (.if_icmp .ge 46, 3) := dc_162 (show ((cX12_runs.data.toList.drop 9).take 3).map UInt8.toNat = [162, 0, 46] by decide +kernel) rfl
theorem dX12_runs_55 : decode cX12_runs 55 = .ok (.return_, 1) := dc_177 (show ((cX12_runs.data.toList.drop 55).take 1).map UInt8.toNat = [177] by decide +kernel)
theorem dX12_runs_12 : decode cX12_runs 12 = .ok (.aload_n 0, 1) := dc_42 (show ((cX12_runs.data.toList.drop 12).take 1).map UInt8.toNat = [42] by decide +kernel)
theorem dX12_runs_13 : decode cX12_runs 13 = .ok (.getfield 236, 3) := dc_180 (show ((cX12_runs.data.toList.drop 13).take 3).map UInt8.toNat = [180, 0, 236] by decide +kernel) rfl
theorem dX12_runs_16 : decode cX12_runs 16 = .ok (.aload_n 0, 1) := dc_42 (show ((cX12_runs.data.toList.drop 16).take 1).map UInt8.toNat = [42] by decide +kernel)
theorem dX12_runs_17 : decode cX12_runs 17 = .ok (.invokevirtual 227, 3) := dc_182 (show ((cX12_runs.data.toList.drop 17).take 3).map UInt8.toNat = [182, 0, 227] by decide +kernel) rfl
theorem dX12_runs_20 : decode cX12_runs 20 = .ok (.if_icmp .ge 35, 3) := dc_162 (show ((cX12_runs.data.toList.drop 20).take 3).map UInt8.toNat = [162, 0, 35] by decide +kernel) rfl
theorem dX12_runs_23 : decode cX12_runs 23 = .ok (.aload_n 0, 1) := dc_42 (show ((cX12_runs.data.toList.drop 23).take 1).map UInt8.toNat = [42] by decide +kernel)
theorem dX12_runs_24 : decode cX12_runs 24 = .ok (.aload_n 0, 1) := dc_42 (show ((cX12_runs.data.toList.drop 24).take 1).map UInt8.toNat = [42] by decide +kernel)
theorem dX12_runs_25 : decode cX12_runs 25 = .ok (.getfield 236, 3) := dc_180 (show ((cX12_runs.data.toList.drop 25).take 3).map UInt8.toNat = [180, 0, 236] by decide +kernel) rfl
theorem dX12_runs_28 : decode cX12_runs 28 = .ok (.invokevirtual 258, 3) := dc_182 (show ((cX12_runs.data.toList.drop 28).take 3).map UInt8.toNat = [182, 1, 2] by decide +kernel) rfl
theorem w_1443 : (Cond.code ({ cls := "GooseBorderModel", name := "can", desc := "(I)Z" } : MethodName) prog_14_method_49_code (4 : Nat) (Option.some FieldType.boolean)) ∈ gb_wA := gb_t7 3 rfl rfl
theorem w_1440 : (Cond.methodLink "GooseBorderModel" (258 : Nat) ({ cls := "GooseBorderModel", name := "can", desc := "(I)Z" } : MethodName)) ∈ gb_wA := gb_t7 0 rfl rfl
theorem w_1442 : (Cond.instanceMethod ({ cls := "GooseBorderModel", name := "can", desc := "(I)Z" } : MethodName)) ∈ gb_wA := gb_t7 2 rfl rfl
theorem s_4_15 : Cond.selects "GooseBorderModel" (⟨"GooseBorderModel", "can", "(I)Z"⟩ : MethodName) (⟨"GooseBorderModel", "can", "(I)Z"⟩ : MethodName) ∈ gb_wA := gb_s4 15 rfl rfl
theorem dX12_runs_31 : decode cX12_runs 31 = .ok (.ifCond .eq 24, 3) := dc_153 (show ((cX12_runs.data.toList.drop 31).take 3).map UInt8.toNat = [153, 0, 24] by decide +kernel) rfl
theorem dX12_runs_34 : decode cX12_runs 34 = .ok (.aload_n 0, 1) := dc_42 (show ((cX12_runs.data.toList.drop 34).take 1).map UInt8.toNat = [42] by decide +kernel)
theorem dX12_runs_35 : decode cX12_runs 35 = .ok (.aload_n 0, 1) := dc_42 (show ((cX12_runs.data.toList.drop 35).take 1).map UInt8.toNat = [42] by decide +kernel)
theorem dX12_runs_36 : decode cX12_runs 36 = .ok (.getfield 236, 3) := dc_180 (show ((cX12_runs.data.toList.drop 36).take 3).map UInt8.toNat = [180, 0, 236] by decide +kernel) rfl
theorem dX12_runs_39 : decode cX12_runs 39 = .ok (.invokevirtual 261, 3) := dc_182 (show ((cX12_runs.data.toList.drop 39).take 3).map UInt8.toNat = [182, 1, 5] by decide +kernel) rfl
theorem w_1455 : (Cond.code ({ cls := "GooseBorderModel", name := "does", desc := "(I)V" } : MethodName) prog_14_method_52_code (4 : Nat) (Option.none : Option FieldType)) ∈ gb_wA := gb_t7 15 rfl rfl
theorem w_1452 : (Cond.methodLink "GooseBorderModel" (261 : Nat) ({ cls := "GooseBorderModel", name := "does", desc := "(I)V" } : MethodName)) ∈ gb_wA := gb_t7 12 rfl rfl
theorem w_1454 : (Cond.instanceMethod ({ cls := "GooseBorderModel", name := "does", desc := "(I)V" } : MethodName)) ∈ gb_wA := gb_t7 14 rfl rfl
theorem s_5_2 : Cond.selects "GooseBorderModel" (⟨"GooseBorderModel", "does", "(I)V"⟩ : MethodName) (⟨"GooseBorderModel", "does", "(I)V"⟩ : MethodName) ∈ gb_wA := gb_s5 2 rfl rfl
theorem dX12_runs_42 : decode cX12_runs 42 = .ok (.aload_n 0, 1) := dc_42 (show ((cX12_runs.data.toList.drop 42).take 1).map UInt8.toNat = [42] by decide +kernel)
theorem dX12_runs_43 : decode cX12_runs 43 = .ok (.dup, 1) := dc_89 (show ((cX12_runs.data.toList.drop 43).take 1).map UInt8.toNat = [89] by decide +kernel)
theorem dX12_runs_44 : decode cX12_runs 44 = .ok (.getfield 236, 3) := dc_180 (show ((cX12_runs.data.toList.drop 44).take 3).map UInt8.toNat = [180, 0, 236] by decide +kernel) rfl
theorem dX12_runs_47 : decode cX12_runs 47 = .ok (.iconst 1, 1) := dc_4 (show ((cX12_runs.data.toList.drop 47).take 1).map UInt8.toNat = [4] by decide +kernel)
theorem dX12_runs_48 : decode cX12_runs 48 = .ok (.iadd, 1) := dc_96 (show ((cX12_runs.data.toList.drop 48).take 1).map UInt8.toNat = [96] by decide +kernel)
theorem dX12_runs_49 : decode cX12_runs 49 = .ok (.putfield 236, 3) := dc_181 (show ((cX12_runs.data.toList.drop 49).take 3).map UInt8.toNat = [181, 0, 236] by decide +kernel) rfl
theorem dX12_runs_52 : decode cX12_runs 52 = .ok (.goto (-48), 3) := dc_167 (show ((cX12_runs.data.toList.drop 52).take 3).map UInt8.toNat = [167, 255, 208] by decide +kernel) rfl
def ms_runs_4 (n : Nat) : Nat → gb_F → Int64 → Int32 → gb_MR Unit
  | 0, _, _, _ => none
  | mm + 1, f, w, v1 => (if v1 ≤ (f 0 23) then some (f, w, ()) else gb_bd (ms_deeds n f w) (fun f_7 wl_8 r_9 => (if r_9 ≤ (f 0 23) then some (f_7, wl_8, ()) else gb_bd (ms_can n f_7 wl_8 (f_7 0 23)) (fun f_13 wl_14 r_15 => (if r_15 = 0 then some (f_13, wl_14, ()) else gb_bd (ms_does n f_13 wl_14 (f_13 0 23)) (fun f_19 wl_20 _ => gb_lt (gb_u f_19 0 (upd (f_19 0) 23 ((f_19 0 23) + 1))) (fun f_24 => ms_runs_4 n mm f_24 wl_20 v1)))))))
def ms_runs (n : Nat) (f : gb_F) (w : Int64) (p1 : Int32) : gb_MR Unit := gb_bd (ms_begins n f w) (fun f_1 wl_2 _ => ms_runs_4 n n f_1 wl_2 p1)
set_option maxHeartbeats 8000000 in
set_option maxRecDepth 100000 in
theorem mc_runs (l : Launch) (D : va_G) (cT : Nat → ClassId) (tt : Nat → Nat) (b1 b : Nat) (hb1 : b1 ≤ b) (n : Nat) (f : gb_F) (w : Int64) (p1 : Int32) (fE : gb_F) (wE : Int64) (rE : Unit) (h : ms_runs n f w p1 = some (fE, wE, rE)) : Met l yX12_runs (.code yX12_runs cX12_runs 2 none :: gb_wA) ({ frames := 5, cells := 0, slots := 0, locals := 120 }) (gb_Pc D cT tt b1 [.ref (b + 0), .int p1] (fun h => va_P D vwCl (gb_wl b (gb_MW cT b f w)) h)) (gb_Qv (fun h => va_P D vwCl (gb_wl b (gb_MW cT b fE wE)) h) (gb_fr b 22)) 0 0 (gb_fr b 22) := by
  refine Met.ofW (cc := cX12_runs) (maxL := 2) (ret := none) (by decide) rfl ?_
  intro p e s m args below meth c s₁ B hml hv
  obtain ⟨rfl, hSt, hP⟩ := hv
  have hx := B.exec
  have hb := B.bytes
  have hr := B.returns
  have hts := atoms_spec (ws := .code yX12_runs cX12_runs 2 none :: gb_wA) B.pre
  have hq : ∀ w ∈ gb_wA, w.before _ s = true := fun w h => hts w (List.mem_cons_of_mem _ h)
  have hown : s.vm.findClass RX12 = some m.cls := findClass_of_methodNamed B.named
  have hlocks := B.notSynchronized
  clear B hts
  have hK := hSt.1
  have hS : va_S (gb_fr b 22) s.heap s.heap [] := va_S.rf
  have hl := lv_entry ([.ref (b + 0), .int p1]) (n := 2) (Nat.le_of_ble_eq_true rfl)
  rw [lg_entry_eq]
  generalize (lg_sl ([.ref (b + 0), .int p1]) ++ List.replicate (2 - (lg_sl ([.ref (b + 0), .int p1])).length) Slot.unset).toArray = ls at hl ⊢
  replace hl : lv_has ls 2 [(0, .ref (b + 0)), (1, .int p1)] := hl
  have L4 : ∀ (mm : Nat) (f : gb_F) (w : Int64) (v1 : Int32) (H : Heap) (locs : List Loc) (ls : Array Slot), ms_runs_4 n mm f w v1 = some (fE, wE, rE) → va_P D vwCl (gb_wl b (gb_MW cT b f w)) H → va_S (gb_fr b 22) s.heap H locs → lv_has ls 2 [(0, .ref (b + 0)), (1, .int v1)] → W p l e (headSpec (.code yX12_runs cX12_runs 2 none :: gb_wA) ({ frames := 5, cells := 0, slots := 0, locals := 120 })).room s m ([.ref (b + 0), .int p1]).toArray below meth c H locs 0 0 (MQ below (gb_Qv (fun h => va_P D vwCl (gb_wl b (gb_MW cT b fE wE)) h) (gb_fr b 22)) ([.ref (b + 0), .int p1]).toArray s 0 0 (gb_fr b 22)) (F0 m 4 ls []) := by
    clear h hP hS hl ls f w
    intro mm
    induction mm with
    | zero =>
      intro f w v1 H locs ls h
      cases h
    | succ mm ih =>
      intro f w v1 H locs ls h hP hS hl
      rw [ms_runs_4] at h
      refine lv_aload_n hx hb dX12_runs_4 rfl (lv_at hl 0 rfl) ?_
      refine va_get (ci := 10) (v := (.int (f 0 23))) (C := RX12) (T := TX12) (N := 44) hx hb hq i_X12 hown hK hP 0 (gb_at b rfl) rfl 23 (by decide) (hq _ w_1147) (fun _ h9 => h9) rfl dX12_runs_5 ?_
      refine lv_iload_n hx hb dX12_runs_8 rfl (lv_at hl 1 rfl) ?_
      refine lv_icmp_ge (tgt := 55) hx hb dX12_runs_9 (by decide) (fun c_6 => ?_) (fun c_6 => ?_)
      · rw [if_pos c_6] at h
        obtain ⟨e1, e2, -⟩ := gb_eq3 h
        exact W.vret hx hb hr (fun t ht hW => gb_rv ht (by rw [← e1, ← e2]; exact hP) hS) hS.2.2 dX12_runs_55
      · rw [if_neg c_6] at h
        refine lv_aload_n hx hb dX12_runs_12 rfl (lv_at hl 0 rfl) ?_
        refine va_get (ci := 10) (v := (.int (f 0 23))) (C := RX12) (T := TX12) (N := 44) hx hb hq i_X12 hown hK hP 0 (gb_at b rfl) rfl 23 (by decide) (hq _ w_1147) (fun _ h9 => h9) rfl dX12_runs_13 ?_
        refine lv_aload_n hx hb dX12_runs_16 rfl (lv_at hl 0 rfl) ?_
        obtain ⟨f_7, wl_8, r_9, z_10, h⟩ := gb_bd_s h
        refine gb_calli (va_runV (C := RX12) (As := []) (rest := [.int (f 0 23)]) ⟨hx, hb, hml, hown, hq⟩ (mc_deeds l D cT tt b1 b hb1 n f w f_7 wl_8 r_9 z_10) (cwV 0 hq (gb_gV w_1416 w_1418 s_4_10 w_14 w_1419) rfl rfl rfl (by decide +kernel) ⟨Nat.le_of_ble_eq_true rfl, Nat.le_of_ble_eq_true rfl⟩) (gb_preV (r := (RX12, TX12, 44)) (ci := 10) (q0 := 0) hSt hP rfl (gb_at b rfl) hS (fun q h => Nat.le_trans hb1 h.1) hP) rfl rfl hl.1 rfl (lv_room (Nat.le_of_ble_eq_true rfl)) dX12_runs_17 ⟨Nat.le_of_ble_eq_true rfl, Nat.le_of_ble_eq_true rfl⟩) hS (fun _ h => h) (fun _ h => h) (fun q_11 H locs hY hk hS => ?_)
        obtain ⟨hq_11, hP⟩ := hY
        replace hq_11 := hq_11.symm
        subst hq_11
        refine lv_icmp_ge (tgt := 55) hx hb dX12_runs_20 (by decide) (fun c_12 => ?_) (fun c_12 => ?_)
        · rw [if_pos c_12] at h
          obtain ⟨e1, e2, -⟩ := gb_eq3 h
          exact W.vret hx hb hr (fun t ht hW => gb_rv ht (by rw [← e1, ← e2]; exact hP) hS) hS.2.2 dX12_runs_55
        · rw [if_neg c_12] at h
          refine lv_aload_n hx hb dX12_runs_23 rfl (lv_at hl 0 rfl) ?_
          refine lv_aload_n hx hb dX12_runs_24 rfl (lv_at hl 0 rfl) ?_
          refine va_get (ci := 10) (v := (.int (f_7 0 23))) (C := RX12) (T := TX12) (N := 44) hx hb hq i_X12 hown hK hP 0 (gb_at b rfl) rfl 23 (by decide) (hq _ w_1147) (fun _ h9 => h9) rfl dX12_runs_25 ?_
          obtain ⟨f_13, wl_14, r_15, z_16, h⟩ := gb_bd_s h
          refine gb_calli (va_runV (C := RX12) (As := [.int (f_7 0 23)]) (rest := []) ⟨hx, hb, hml, hown, hq⟩ (mc_can l D cT tt b1 b hb1 n f_7 wl_8 (f_7 0 23) f_13 wl_14 r_15 z_16) (cwV 1 hq (gb_gV w_1440 w_1442 s_4_15 w_14 w_1443) rfl rfl rfl (by decide +kernel) ⟨Nat.le_of_ble_eq_true rfl, Nat.le_of_ble_eq_true rfl⟩) (gb_preV (r := (RX12, TX12, 44)) (ci := 10) (q0 := 0) hSt hP rfl (gb_at b rfl) hS (fun q h => Nat.le_trans hb1 h.1) hP) rfl rfl hl.1 rfl (lv_room (Nat.le_of_ble_eq_true rfl)) dX12_runs_28 ⟨Nat.le_of_ble_eq_true rfl, Nat.le_of_ble_eq_true rfl⟩) hS (fun _ h => h) (fun _ h => h) (fun q_17 H locs hY hk hS => ?_)
          obtain ⟨hq_17, hP⟩ := hY
          replace hq_17 := hq_17.symm
          subst hq_17
          refine lv_if_eq (tgt := 55) hx hb dX12_runs_31 (by decide) (fun c_18 => ?_) (fun c_18 => ?_)
          · rw [if_pos c_18] at h
            obtain ⟨e1, e2, -⟩ := gb_eq3 h
            exact W.vret hx hb hr (fun t ht hW => gb_rv ht (by rw [← e1, ← e2]; exact hP) hS) hS.2.2 dX12_runs_55
          · rw [if_neg c_18] at h
            refine lv_aload_n hx hb dX12_runs_34 rfl (lv_at hl 0 rfl) ?_
            refine lv_aload_n hx hb dX12_runs_35 rfl (lv_at hl 0 rfl) ?_
            refine va_get (ci := 10) (v := (.int (f_13 0 23))) (C := RX12) (T := TX12) (N := 44) hx hb hq i_X12 hown hK hP 0 (gb_at b rfl) rfl 23 (by decide) (hq _ w_1147) (fun _ h9 => h9) rfl dX12_runs_36 ?_
            obtain ⟨f_19, wl_20, r_21, z_22, h⟩ := gb_bd_s h
            refine gb_callv (va_runV (C := RX12) (As := [.int (f_13 0 23)]) (rest := []) ⟨hx, hb, hml, hown, hq⟩ (mc_does l D cT tt b1 b hb1 n f_13 wl_14 (f_13 0 23) f_19 wl_20 r_21 z_22) (cwV 1 hq (gb_gV w_1452 w_1454 s_5_2 w_14 w_1455) rfl rfl rfl (by decide +kernel) ⟨Nat.le_of_ble_eq_true rfl, Nat.le_of_ble_eq_true rfl⟩) (gb_preV (r := (RX12, TX12, 44)) (ci := 10) (q0 := 0) hSt hP rfl (gb_at b rfl) hS (fun q h => Nat.le_trans hb1 h.1) hP) rfl rfl hl.1 rfl (lv_room (Nat.le_of_ble_eq_true rfl)) dX12_runs_39 ⟨Nat.le_of_ble_eq_true rfl, Nat.le_of_ble_eq_true rfl⟩) hS (fun _ h => h) (fun _ h => h) (fun H locs hY hk hS => ?_)
            have hP := hY
            refine lv_aload_n hx hb dX12_runs_42 rfl (lv_at hl 0 rfl) ?_
            refine lv_dup hx hb dX12_runs_43 rfl ?_
            refine va_get (ci := 10) (v := (.int (f_19 0 23))) (C := RX12) (T := TX12) (N := 44) hx hb hq i_X12 hown hK hP 0 (gb_at b rfl) rfl 23 (by decide) (hq _ w_1147) (fun _ h9 => h9) rfl dX12_runs_44 ?_
            refine lv_iconst (v := 1) hx hb dX12_runs_47 (by decide) ?_
            refine lv_iadd hx hb dX12_runs_48 ?_
            refine gb_put (ci := 10) (v := (.int ((f_19 0 23) + 1))) (ty := .int) (C := RX12) (T := TX12) (N := 44) hx hb hq i_X12 tyX12 tyX12_ok nmX12 hown hK hP (fun k h => ⟨Nat.le_add_right b k, Nat.add_lt_add_left h b⟩) hS rfl 0 rfl rfl 23 (by decide) (hq _ w_1147) (fun _ h9 => h9) rfl (by decide +kernel) rfl rfl (Nat.le_of_ble_eq_true rfl) dX12_runs_49 (fun H locs hP hz_ hS => ?_)
            obtain ⟨f_24, ef_24⟩ : ∃ q, q = (gb_u f_19 0 (upd (f_19 0) 23 ((f_19 0 23) + 1))) := ⟨_, rfl⟩
            replace hP : va_P D vwCl (gb_wl b (gb_MW cT b f_24 wl_20)) H := by rw [ef_24]; exact hP
            replace h := gb_lt_s ef_24 h
            refine lv_goto (tgt := 4) hx hb dX12_runs_52 (by decide) ?_
            exact ih _ _ _ _ _ _ h hP hS (lv_sub hl [0, 1] rfl)
  unfold ms_runs at h
  refine lv_aload_n hx hb dX12_runs_0 rfl (lv_at hl 0 rfl) ?_
  obtain ⟨f_1, wl_2, r_3, z_4, h⟩ := gb_bd_s h
  refine gb_callv (va_runV (C := RX12) (As := []) (rest := []) ⟨hx, hb, hml, hown, hq⟩ (mc_begins l D cT tt b1 b hb1 n f w f_1 wl_2 r_3 z_4) (cwV 0 hq (gb_gV w_1436 w_1438 s_4_14 w_14 w_1439) rfl rfl rfl (by decide +kernel) ⟨Nat.le_of_ble_eq_true rfl, Nat.le_of_ble_eq_true rfl⟩) (gb_preV (r := (RX12, TX12, 44)) (ci := 10) (q0 := 0) hSt hP rfl (gb_at b rfl) hS (fun q h => Nat.le_trans hb1 h.1) hP) rfl rfl hl.1 rfl (lv_room (Nat.le_of_ble_eq_true rfl)) dX12_runs_1 ⟨Nat.le_of_ble_eq_true rfl, Nat.le_of_ble_eq_true rfl⟩) hS (fun _ h => h) (fun _ h => h) (fun H locs hY hk hS => ?_)
  have hP := hY
  exact L4 n _ _ _ _ _ _ h hP hS (lv_sub hl [0, 1] rfl)
theorem dX12_stop_0 : decode cX12_stop 0 = .ok (.aload_n 0, 1) := dc_42 (show ((cX12_stop.data.toList.drop 0).take 1).map UInt8.toNat = [42] by decide +kernel)
theorem dX12_stop_1 : decode cX12_stop 1 = .ok (.iload_n 1, 1) := dc_27 (show ((cX12_stop.data.toList.drop 1).take 1).map UInt8.toNat = [27] by decide +kernel)
theorem dX12_stop_2 : decode cX12_stop 2 = .ok (.iload_n 2, 1) := dc_28 (show ((cX12_stop.data.toList.drop 2).take 1).map UInt8.toNat = [28] by decide +kernel)
theorem dX12_stop_3 : decode cX12_stop 3 = .ok (.invokevirtual 264, 3) := dc_182 (show ((cX12_stop.data.toList.drop 3).take 3).map UInt8.toNat = [182, 1, 8] by decide +kernel) rfl
theorem w_1431 : (Cond.code ({ cls := "GooseBorderModel", name := "areTold", desc := "(II)Z" } : MethodName) prog_14_method_53_code (3 : Nat) (Option.some FieldType.boolean)) ∈ gb_wA := gb_t6 231 rfl rfl
theorem w_1428 : (Cond.methodLink "GooseBorderModel" (264 : Nat) ({ cls := "GooseBorderModel", name := "areTold", desc := "(II)Z" } : MethodName)) ∈ gb_wA := gb_t6 228 rfl rfl
theorem w_1430 : (Cond.instanceMethod ({ cls := "GooseBorderModel", name := "areTold", desc := "(II)Z" } : MethodName)) ∈ gb_wA := gb_t6 230 rfl rfl
theorem s_4_12 : Cond.selects "GooseBorderModel" (⟨"GooseBorderModel", "areTold", "(II)Z"⟩ : MethodName) (⟨"GooseBorderModel", "areTold", "(II)Z"⟩ : MethodName) ∈ gb_wA := gb_s4 12 rfl rfl
theorem dX12_stop_6 : decode cX12_stop 6 = .ok (.ifCond .ne 5, 3) := dc_154 (show ((cX12_stop.data.toList.drop 6).take 3).map UInt8.toNat = [154, 0, 5] by decide +kernel) rfl
theorem dX12_stop_11 : decode cX12_stop 11 = .ok (.aload_n 0, 1) := dc_42 (show ((cX12_stop.data.toList.drop 11).take 1).map UInt8.toNat = [42] by decide +kernel)
theorem dX12_stop_12 : decode cX12_stop 12 = .ok (.bipush 24, 2) := dc_16 (show ((cX12_stop.data.toList.drop 12).take 2).map UInt8.toNat = [16, 24] by decide +kernel) rfl
theorem dX12_stop_14 : decode cX12_stop 14 = .ok (.invokevirtual 267, 3) := dc_182 (show ((cX12_stop.data.toList.drop 14).take 3).map UInt8.toNat = [182, 1, 11] by decide +kernel) rfl
theorem w_1435 : (Cond.code ({ cls := "GooseBorderModel", name := "runs", desc := "(I)V" } : MethodName) prog_14_method_54_code (2 : Nat) (Option.none : Option FieldType)) ∈ gb_wA := gb_t6 235 rfl rfl
theorem w_1432 : (Cond.methodLink "GooseBorderModel" (267 : Nat) ({ cls := "GooseBorderModel", name := "runs", desc := "(I)V" } : MethodName)) ∈ gb_wA := gb_t6 232 rfl rfl
theorem w_1434 : (Cond.instanceMethod ({ cls := "GooseBorderModel", name := "runs", desc := "(I)V" } : MethodName)) ∈ gb_wA := gb_t6 234 rfl rfl
theorem s_4_13 : Cond.selects "GooseBorderModel" (⟨"GooseBorderModel", "runs", "(I)V"⟩ : MethodName) (⟨"GooseBorderModel", "runs", "(I)V"⟩ : MethodName) ∈ gb_wA := gb_s4 13 rfl rfl
theorem dX12_stop_17 : decode cX12_stop 17 = .ok (.aload_n 0, 1) := dc_42 (show ((cX12_stop.data.toList.drop 17).take 1).map UInt8.toNat = [42] by decide +kernel)
theorem dX12_stop_18 : decode cX12_stop 18 = .ok (.getfield 236, 3) := dc_180 (show ((cX12_stop.data.toList.drop 18).take 3).map UInt8.toNat = [180, 0, 236] by decide +kernel) rfl
theorem dX12_stop_21 : decode cX12_stop 21 = .ok (.ireturn, 1) := dc_172 (show ((cX12_stop.data.toList.drop 21).take 1).map UInt8.toNat = [172] by decide +kernel)
theorem dX12_stop_9 : decode cX12_stop 9 = .ok (.iconst (-1), 1) := dc_2 (show ((cX12_stop.data.toList.drop 9).take 1).map UInt8.toNat = [2] by decide +kernel)
theorem dX12_stop_10 : decode cX12_stop 10 = .ok (.ireturn, 1) := dc_172 (show ((cX12_stop.data.toList.drop 10).take 1).map UInt8.toNat = [172] by decide +kernel)
def ms_stop (n : Nat) (f : gb_F) (w : Int64) (p1 : Int32) (p2 : Int32) : gb_MR Int32 := gb_bd (ms_areTold n f w p1 p2) (fun f_1 wl_2 r_3 => (if r_3 = 0 then some (f_1, wl_2, (-1)) else gb_bd (ms_runs n f_1 wl_2 24) (fun f_7 wl_8 _ => some (f_7, wl_8, (f_7 0 23)))))
set_option maxHeartbeats 8000000 in
set_option maxRecDepth 100000 in
theorem mc_stop (l : Launch) (D : va_G) (cT : Nat → ClassId) (tt : Nat → Nat) (b1 b : Nat) (hb1 : b1 ≤ b) (n : Nat) (f : gb_F) (w : Int64) (p1 : Int32) (p2 : Int32) (fE : gb_F) (wE : Int64) (rE : Int32) (h : ms_stop n f w p1 p2 = some (fE, wE, rE)) : Met l yX12_stop (.code yX12_stop cX12_stop 3 (some FieldType.int) :: gb_wA) ({ frames := 6, cells := 0, slots := 0, locals := 141 }) (gb_Pc D cT tt b1 [.ref (b + 0), .int p1, .int p2] (fun h => va_P D vwCl (gb_wl b (gb_MW cT b f w)) h)) (gb_Qi (fun r h => r = rE ∧ va_P D vwCl (gb_wl b (gb_MW cT b fE wE)) h) (gb_fr b 22)) 0 0 (gb_fr b 22) := by
  refine Met.ofW (cc := cX12_stop) (maxL := 3) (ret := (some FieldType.int)) (by decide) rfl ?_
  intro p e s m args below meth c s₁ B hml hv
  obtain ⟨rfl, hSt, hP⟩ := hv
  have hx := B.exec
  have hb := B.bytes
  have hr := B.returns
  have hts := atoms_spec (ws := .code yX12_stop cX12_stop 3 (some FieldType.int) :: gb_wA) B.pre
  have hq : ∀ w ∈ gb_wA, w.before _ s = true := fun w h => hts w (List.mem_cons_of_mem _ h)
  have hown : s.vm.findClass RX12 = some m.cls := findClass_of_methodNamed B.named
  have hlocks := B.notSynchronized
  clear B hts
  have hK := hSt.1
  have hS : va_S (gb_fr b 22) s.heap s.heap [] := va_S.rf
  have hl := lv_entry ([.ref (b + 0), .int p1, .int p2]) (n := 3) (Nat.le_of_ble_eq_true rfl)
  rw [lg_entry_eq]
  generalize (lg_sl ([.ref (b + 0), .int p1, .int p2]) ++ List.replicate (3 - (lg_sl ([.ref (b + 0), .int p1, .int p2])).length) Slot.unset).toArray = ls at hl ⊢
  replace hl : lv_has ls 3 [(0, .ref (b + 0)), (1, .int p1), (2, .int p2)] := hl
  unfold ms_stop at h
  refine lv_aload_n hx hb dX12_stop_0 rfl (lv_at hl 0 rfl) ?_
  refine lv_iload_n hx hb dX12_stop_1 rfl (lv_at hl 1 rfl) ?_
  refine lv_iload_n hx hb dX12_stop_2 rfl (lv_at hl 2 rfl) ?_
  obtain ⟨f_1, wl_2, r_3, z_4, h⟩ := gb_bd_s h
  refine gb_calli (va_runV (C := RX12) (As := [.int p1, .int p2]) (rest := []) ⟨hx, hb, hml, hown, hq⟩ (mc_areTold l D cT tt b1 b hb1 n f w p1 p2 f_1 wl_2 r_3 z_4) (cwV 2 hq (gb_gV w_1428 w_1430 s_4_12 w_14 w_1431) rfl rfl rfl (by decide +kernel) ⟨Nat.le_of_ble_eq_true rfl, Nat.le_of_ble_eq_true rfl⟩) (gb_preV (r := (RX12, TX12, 44)) (ci := 10) (q0 := 0) hSt hP rfl (gb_at b rfl) hS (fun q h => Nat.le_trans hb1 h.1) hP) rfl rfl hl.1 rfl (lv_room (Nat.le_of_ble_eq_true rfl)) dX12_stop_3 ⟨Nat.le_of_ble_eq_true rfl, Nat.le_of_ble_eq_true rfl⟩) hS (fun _ h => h) (fun _ h => h) (fun q_5 H locs hY hk hS => ?_)
  obtain ⟨hq_5, hP⟩ := hY
  replace hq_5 := hq_5.symm
  subst hq_5
  refine lv_if_ne (tgt := 11) hx hb dX12_stop_6 (by decide) (fun c_6 => ?_) (fun c_6 => ?_)
  · rw [if_neg c_6] at h
    refine lv_aload_n hx hb dX12_stop_11 rfl (lv_at hl 0 rfl) ?_
    refine lv_bipush (v := 24) hx hb dX12_stop_12 (by decide) ?_
    obtain ⟨f_7, wl_8, r_9, z_10, h⟩ := gb_bd_s h
    refine gb_callv (va_runV (C := RX12) (As := [.int 24]) (rest := []) ⟨hx, hb, hml, hown, hq⟩ (mc_runs l D cT tt b1 b hb1 n f_1 wl_2 24 f_7 wl_8 r_9 z_10) (cwV 1 hq (gb_gV w_1432 w_1434 s_4_13 w_14 w_1435) rfl rfl rfl (by decide +kernel) ⟨Nat.le_of_ble_eq_true rfl, Nat.le_of_ble_eq_true rfl⟩) (gb_preV (r := (RX12, TX12, 44)) (ci := 10) (q0 := 0) hSt hP rfl (gb_at b rfl) hS (fun q h => Nat.le_trans hb1 h.1) hP) rfl rfl hl.1 rfl (lv_room (Nat.le_of_ble_eq_true rfl)) dX12_stop_14 ⟨Nat.le_of_ble_eq_true rfl, Nat.le_of_ble_eq_true rfl⟩) hS (fun _ h => h) (fun _ h => h) (fun H locs hY hk hS => ?_)
    have hP := hY
    refine lv_aload_n hx hb dX12_stop_17 rfl (lv_at hl 0 rfl) ?_
    refine va_get (ci := 10) (v := (.int (f_7 0 23))) (C := RX12) (T := TX12) (N := 44) hx hb hq i_X12 hown hK hP 0 (gb_at b rfl) rfl 23 (by decide) (hq _ w_1147) (fun _ h9 => h9) rfl dX12_stop_18 ?_
    obtain ⟨e1, e2, e3⟩ := gb_eq3 h
    exact W.iret (v := (f_7 0 23)) hx hb hr (fun t ht hW => gb_ri ht ⟨e3, by rw [← e1, ← e2]; exact hP⟩ hS) hS.2.2 dX12_stop_21
  · rw [if_pos c_6] at h
    refine lv_iconst (v := (-1)) hx hb dX12_stop_9 (by decide) ?_
    obtain ⟨e1, e2, e3⟩ := gb_eq3 h
    exact W.iret (v := (-1)) hx hb hr (fun t ht hW => gb_ri ht ⟨e3, by rw [← e1, ← e2]; exact hP⟩ hS) hS.2.2 dX12_stop_10
theorem dX12_isState_0 : decode cX12_isState 0 = .ok (.aload_n 0, 1) := dc_42 (show ((cX12_isState.data.toList.drop 0).take 1).map UInt8.toNat = [42] by decide +kernel)
theorem dX12_isState_1 : decode cX12_isState 1 = .ok (.iload_n 1, 1) := dc_27 (show ((cX12_isState.data.toList.drop 1).take 1).map UInt8.toNat = [27] by decide +kernel)
theorem dX12_isState_2 : decode cX12_isState 2 = .ok (.iload_n 2, 1) := dc_28 (show ((cX12_isState.data.toList.drop 2).take 1).map UInt8.toNat = [28] by decide +kernel)
theorem dX12_isState_3 : decode cX12_isState 3 = .ok (.invokevirtual 264, 3) := dc_182 (show ((cX12_isState.data.toList.drop 3).take 3).map UInt8.toNat = [182, 1, 8] by decide +kernel) rfl
theorem dX12_isState_6 : decode cX12_isState 6 = .ok (.ifCond .eq 7, 3) := dc_153 (show ((cX12_isState.data.toList.drop 6).take 3).map UInt8.toNat = [153, 0, 7] by decide +kernel) rfl
theorem dX12_isState_13 : decode cX12_isState 13 = .ok (.iconst 0, 1) := dc_3 (show ((cX12_isState.data.toList.drop 13).take 1).map UInt8.toNat = [3] by decide +kernel)
theorem dX12_isState_14 : decode cX12_isState 14 = .ok (.ireturn, 1) := dc_172 (show ((cX12_isState.data.toList.drop 14).take 1).map UInt8.toNat = [172] by decide +kernel)
theorem dX12_isState_9 : decode cX12_isState 9 = .ok (.iload_n 3, 1) := dc_29 (show ((cX12_isState.data.toList.drop 9).take 1).map UInt8.toNat = [29] by decide +kernel)
theorem dX12_isState_10 : decode cX12_isState 10 = .ok (.ifCond .ge 5, 3) := dc_156 (show ((cX12_isState.data.toList.drop 10).take 3).map UInt8.toNat = [156, 0, 5] by decide +kernel) rfl
theorem dX12_isState_15 : decode cX12_isState 15 = .ok (.aload_n 0, 1) := dc_42 (show ((cX12_isState.data.toList.drop 15).take 1).map UInt8.toNat = [42] by decide +kernel)
theorem dX12_isState_16 : decode cX12_isState 16 = .ok (.iload_n 3, 1) := dc_29 (show ((cX12_isState.data.toList.drop 16).take 1).map UInt8.toNat = [29] by decide +kernel)
theorem dX12_isState_17 : decode cX12_isState 17 = .ok (.invokevirtual 267, 3) := dc_182 (show ((cX12_isState.data.toList.drop 17).take 3).map UInt8.toNat = [182, 1, 11] by decide +kernel) rfl
theorem dX12_isState_20 : decode cX12_isState 20 = .ok (.aload_n 0, 1) := dc_42 (show ((cX12_isState.data.toList.drop 20).take 1).map UInt8.toNat = [42] by decide +kernel)
theorem dX12_isState_21 : decode cX12_isState 21 = .ok (.getfield 236, 3) := dc_180 (show ((cX12_isState.data.toList.drop 21).take 3).map UInt8.toNat = [180, 0, 236] by decide +kernel) rfl
theorem dX12_isState_24 : decode cX12_isState 24 = .ok (.iload_n 3, 1) := dc_29 (show ((cX12_isState.data.toList.drop 24).take 1).map UInt8.toNat = [29] by decide +kernel)
theorem dX12_isState_25 : decode cX12_isState 25 = .ok (.if_icmp .ne 7, 3) := dc_160 (show ((cX12_isState.data.toList.drop 25).take 3).map UInt8.toNat = [160, 0, 7] by decide +kernel) rfl
theorem dX12_isState_32 : decode cX12_isState 32 = .ok (.iconst 0, 1) := dc_3 (show ((cX12_isState.data.toList.drop 32).take 1).map UInt8.toNat = [3] by decide +kernel)
theorem dX12_isState_33 : decode cX12_isState 33 = .ok (.ireturn, 1) := dc_172 (show ((cX12_isState.data.toList.drop 33).take 1).map UInt8.toNat = [172] by decide +kernel)
theorem dX12_isState_28 : decode cX12_isState 28 = .ok (.iconst 1, 1) := dc_4 (show ((cX12_isState.data.toList.drop 28).take 1).map UInt8.toNat = [4] by decide +kernel)
theorem dX12_isState_29 : decode cX12_isState 29 = .ok (.goto 4, 3) := dc_167 (show ((cX12_isState.data.toList.drop 29).take 3).map UInt8.toNat = [167, 0, 4] by decide +kernel) rfl
def ms_isState (n : Nat) (f : gb_F) (w : Int64) (p1 : Int32) (p2 : Int32) (p3 : Int32) : gb_MR Int32 := gb_bd (ms_areTold n f w p1 p2) (fun f_1 wl_2 r_3 => (if r_3 = 0 then some (f_1, wl_2, 0) else (if (0 : Int32) ≤ p3 then gb_bd (ms_runs n f_1 wl_2 p3) (fun f_8 wl_9 _ => (if (f_8 0 23) = p3 then some (f_8, wl_9, 1) else some (f_8, wl_9, 0))) else some (f_1, wl_2, 0))))
set_option maxHeartbeats 8000000 in
set_option maxRecDepth 100000 in
theorem mc_isState (l : Launch) (D : va_G) (cT : Nat → ClassId) (tt : Nat → Nat) (b1 b : Nat) (hb1 : b1 ≤ b) (n : Nat) (f : gb_F) (w : Int64) (p1 : Int32) (p2 : Int32) (p3 : Int32) (fE : gb_F) (wE : Int64) (rE : Int32) (h : ms_isState n f w p1 p2 p3 = some (fE, wE, rE)) : Met l yX12_isState (.code yX12_isState cX12_isState 4 (some FieldType.boolean) :: gb_wA) ({ frames := 6, cells := 0, slots := 0, locals := 141 }) (gb_Pc D cT tt b1 [.ref (b + 0), .int p1, .int p2, .int p3] (fun h => va_P D vwCl (gb_wl b (gb_MW cT b f w)) h)) (gb_Qi (fun r h => r = rE ∧ va_P D vwCl (gb_wl b (gb_MW cT b fE wE)) h) (gb_fr b 22)) 0 0 (gb_fr b 22) := by
  refine Met.ofW (cc := cX12_isState) (maxL := 4) (ret := (some FieldType.boolean)) (by decide) rfl ?_
  intro p e s m args below meth c s₁ B hml hv
  obtain ⟨rfl, hSt, hP⟩ := hv
  have hx := B.exec
  have hb := B.bytes
  have hr := B.returns
  have hts := atoms_spec (ws := .code yX12_isState cX12_isState 4 (some FieldType.boolean) :: gb_wA) B.pre
  have hq : ∀ w ∈ gb_wA, w.before _ s = true := fun w h => hts w (List.mem_cons_of_mem _ h)
  have hown : s.vm.findClass RX12 = some m.cls := findClass_of_methodNamed B.named
  have hlocks := B.notSynchronized
  clear B hts
  have hK := hSt.1
  have hS : va_S (gb_fr b 22) s.heap s.heap [] := va_S.rf
  have hl := lv_entry ([.ref (b + 0), .int p1, .int p2, .int p3]) (n := 4) (Nat.le_of_ble_eq_true rfl)
  rw [lg_entry_eq]
  generalize (lg_sl ([.ref (b + 0), .int p1, .int p2, .int p3]) ++ List.replicate (4 - (lg_sl ([.ref (b + 0), .int p1, .int p2, .int p3])).length) Slot.unset).toArray = ls at hl ⊢
  replace hl : lv_has ls 4 [(0, .ref (b + 0)), (1, .int p1), (2, .int p2), (3, .int p3)] := hl
  unfold ms_isState at h
  refine lv_aload_n hx hb dX12_isState_0 rfl (lv_at hl 0 rfl) ?_
  refine lv_iload_n hx hb dX12_isState_1 rfl (lv_at hl 1 rfl) ?_
  refine lv_iload_n hx hb dX12_isState_2 rfl (lv_at hl 2 rfl) ?_
  obtain ⟨f_1, wl_2, r_3, z_4, h⟩ := gb_bd_s h
  refine gb_calli (va_runV (C := RX12) (As := [.int p1, .int p2]) (rest := []) ⟨hx, hb, hml, hown, hq⟩ (mc_areTold l D cT tt b1 b hb1 n f w p1 p2 f_1 wl_2 r_3 z_4) (cwV 2 hq (gb_gV w_1428 w_1430 s_4_12 w_14 w_1431) rfl rfl rfl (by decide +kernel) ⟨Nat.le_of_ble_eq_true rfl, Nat.le_of_ble_eq_true rfl⟩) (gb_preV (r := (RX12, TX12, 44)) (ci := 10) (q0 := 0) hSt hP rfl (gb_at b rfl) hS (fun q h => Nat.le_trans hb1 h.1) hP) rfl rfl hl.1 rfl (lv_room (Nat.le_of_ble_eq_true rfl)) dX12_isState_3 ⟨Nat.le_of_ble_eq_true rfl, Nat.le_of_ble_eq_true rfl⟩) hS (fun _ h => h) (fun _ h => h) (fun q_5 H locs hY hk hS => ?_)
  obtain ⟨hq_5, hP⟩ := hY
  replace hq_5 := hq_5.symm
  subst hq_5
  refine lv_if_eq (tgt := 13) hx hb dX12_isState_6 (by decide) (fun c_6 => ?_) (fun c_6 => ?_)
  · rw [if_pos c_6] at h
    refine lv_iconst (v := 0) hx hb dX12_isState_13 (by decide) ?_
    obtain ⟨e1, e2, e3⟩ := gb_eq3 h
    exact W.zret (v := 0) hx hb hr (by decide) (fun t ht hW => gb_ri ht ⟨e3, by rw [← e1, ← e2]; exact hP⟩ hS) hS.2.2 dX12_isState_14
  · rw [if_neg c_6] at h
    refine lv_iload_n hx hb dX12_isState_9 rfl (lv_at hl 3 rfl) ?_
    refine lv_if_ge (tgt := 15) hx hb dX12_isState_10 (by decide) (fun c_7 => ?_) (fun c_7 => ?_)
    · rw [if_pos c_7] at h
      refine lv_aload_n hx hb dX12_isState_15 rfl (lv_at hl 0 rfl) ?_
      refine lv_iload_n hx hb dX12_isState_16 rfl (lv_at hl 3 rfl) ?_
      obtain ⟨f_8, wl_9, r_10, z_11, h⟩ := gb_bd_s h
      refine gb_callv (va_runV (C := RX12) (As := [.int p3]) (rest := []) ⟨hx, hb, hml, hown, hq⟩ (mc_runs l D cT tt b1 b hb1 n f_1 wl_2 p3 f_8 wl_9 r_10 z_11) (cwV 1 hq (gb_gV w_1432 w_1434 s_4_13 w_14 w_1435) rfl rfl rfl (by decide +kernel) ⟨Nat.le_of_ble_eq_true rfl, Nat.le_of_ble_eq_true rfl⟩) (gb_preV (r := (RX12, TX12, 44)) (ci := 10) (q0 := 0) hSt hP rfl (gb_at b rfl) hS (fun q h => Nat.le_trans hb1 h.1) hP) rfl rfl hl.1 rfl (lv_room (Nat.le_of_ble_eq_true rfl)) dX12_isState_17 ⟨Nat.le_of_ble_eq_true rfl, Nat.le_of_ble_eq_true rfl⟩) hS (fun _ h => h) (fun _ h => h) (fun H locs hY hk hS => ?_)
      have hP := hY
      refine lv_aload_n hx hb dX12_isState_20 rfl (lv_at hl 0 rfl) ?_
      refine va_get (ci := 10) (v := (.int (f_8 0 23))) (C := RX12) (T := TX12) (N := 44) hx hb hq i_X12 hown hK hP 0 (gb_at b rfl) rfl 23 (by decide) (hq _ w_1147) (fun _ h9 => h9) rfl dX12_isState_21 ?_
      refine lv_iload_n hx hb dX12_isState_24 rfl (lv_at hl 3 rfl) ?_
      refine lv_icmp_ne (tgt := 32) hx hb dX12_isState_25 (by decide) (fun c_13 => ?_) (fun c_13 => ?_)
      · rw [if_neg c_13] at h
        refine lv_iconst (v := 0) hx hb dX12_isState_32 (by decide) ?_
        obtain ⟨e1, e2, e3⟩ := gb_eq3 h
        exact W.zret (v := 0) hx hb hr (by decide) (fun t ht hW => gb_ri ht ⟨e3, by rw [← e1, ← e2]; exact hP⟩ hS) hS.2.2 dX12_isState_33
      · rw [if_pos c_13] at h
        refine lv_iconst (v := 1) hx hb dX12_isState_28 (by decide) ?_
        refine lv_goto (tgt := 33) hx hb dX12_isState_29 (by decide) ?_
        obtain ⟨e1, e2, e3⟩ := gb_eq3 h
        exact W.zret (v := 1) hx hb hr (by decide) (fun t ht hW => gb_ri ht ⟨e3, by rw [← e1, ← e2]; exact hP⟩ hS) hS.2.2 dX12_isState_33
    · rw [if_neg c_7] at h
      refine lv_iconst (v := 0) hx hb dX12_isState_13 (by decide) ?_
      obtain ⟨e1, e2, e3⟩ := gb_eq3 h
      exact W.zret (v := 0) hx hb hr (by decide) (fun t ht hW => gb_ri ht ⟨e3, by rw [← e1, ← e2]; exact hP⟩ hS) hS.2.2 dX12_isState_14
theorem dX12_goose_0 : decode cX12_goose 0 = .ok (.aload_n 0, 1) := dc_42 (show ((cX12_goose.data.toList.drop 0).take 1).map UInt8.toNat = [42] by decide +kernel)
theorem dX12_goose_1 : decode cX12_goose 1 = .ok (.iload_n 1, 1) := dc_27 (show ((cX12_goose.data.toList.drop 1).take 1).map UInt8.toNat = [27] by decide +kernel)
theorem dX12_goose_2 : decode cX12_goose 2 = .ok (.iload_n 2, 1) := dc_28 (show ((cX12_goose.data.toList.drop 2).take 1).map UInt8.toNat = [28] by decide +kernel)
theorem dX12_goose_3 : decode cX12_goose 3 = .ok (.iload_n 3, 1) := dc_29 (show ((cX12_goose.data.toList.drop 3).take 1).map UInt8.toNat = [29] by decide +kernel)
theorem dX12_goose_4 : decode cX12_goose 4 = .ok (.invokevirtual 270, 3) := dc_182 (show ((cX12_goose.data.toList.drop 4).take 3).map UInt8.toNat = [182, 1, 14] by decide +kernel) rfl
theorem w_1471 : (Cond.code ({ cls := "GooseBorderModel", name := "isState", desc := "(III)Z" } : MethodName) prog_14_method_56_code (4 : Nat) (Option.some FieldType.boolean)) ∈ gb_wA := gb_t7 31 rfl rfl
theorem w_1468 : (Cond.methodLink "GooseBorderModel" (270 : Nat) ({ cls := "GooseBorderModel", name := "isState", desc := "(III)Z" } : MethodName)) ∈ gb_wA := gb_t7 28 rfl rfl
theorem w_1470 : (Cond.instanceMethod ({ cls := "GooseBorderModel", name := "isState", desc := "(III)Z" } : MethodName)) ∈ gb_wA := gb_t7 30 rfl rfl
theorem s_5_5 : Cond.selects "GooseBorderModel" (⟨"GooseBorderModel", "isState", "(III)Z"⟩ : MethodName) (⟨"GooseBorderModel", "isState", "(III)Z"⟩ : MethodName) ∈ gb_wA := gb_s5 5 rfl rfl
theorem dX12_goose_7 : decode cX12_goose 7 = .ok (.ifCond .eq 12, 3) := dc_153 (show ((cX12_goose.data.toList.drop 7).take 3).map UInt8.toNat = [153, 0, 12] by decide +kernel) rfl
theorem dX12_goose_19 : decode cX12_goose 19 = .ok (.bipush (-2), 2) := dc_16 (show ((cX12_goose.data.toList.drop 19).take 2).map UInt8.toNat = [16, 254] by decide +kernel) rfl
theorem dX12_goose_21 : decode cX12_goose 21 = .ok (.ireturn, 1) := dc_172 (show ((cX12_goose.data.toList.drop 21).take 1).map UInt8.toNat = [172] by decide +kernel)
theorem dX12_goose_10 : decode cX12_goose 10 = .ok (.aload_n 0, 1) := dc_42 (show ((cX12_goose.data.toList.drop 10).take 1).map UInt8.toNat = [42] by decide +kernel)
theorem dX12_goose_11 : decode cX12_goose 11 = .ok (.iload 4, 2) := dc_21 (show ((cX12_goose.data.toList.drop 11).take 2).map UInt8.toNat = [21, 4] by decide +kernel) rfl
theorem dX12_goose_13 : decode cX12_goose 13 = .ok (.invokevirtual 214, 3) := dc_182 (show ((cX12_goose.data.toList.drop 13).take 3).map UInt8.toNat = [182, 0, 214] by decide +kernel) rfl
theorem dX12_goose_16 : decode cX12_goose 16 = .ok (.ifCond .ne 6, 3) := dc_154 (show ((cX12_goose.data.toList.drop 16).take 3).map UInt8.toNat = [154, 0, 6] by decide +kernel) rfl
theorem dX12_goose_22 : decode cX12_goose 22 = .ok (.iload 5, 2) := dc_21 (show ((cX12_goose.data.toList.drop 22).take 2).map UInt8.toNat = [21, 5] by decide +kernel) rfl
theorem dX12_goose_24 : decode cX12_goose 24 = .ok (.ifCond .ne 13, 3) := dc_154 (show ((cX12_goose.data.toList.drop 24).take 3).map UInt8.toNat = [154, 0, 13] by decide +kernel) rfl
theorem dX12_goose_37 : decode cX12_goose 37 = .ok (.iload 5, 2) := dc_21 (show ((cX12_goose.data.toList.drop 37).take 2).map UInt8.toNat = [21, 5] by decide +kernel) rfl
theorem dX12_goose_39 : decode cX12_goose 39 = .ok (.iconst 1, 1) := dc_4 (show ((cX12_goose.data.toList.drop 39).take 1).map UInt8.toNat = [4] by decide +kernel)
theorem dX12_goose_40 : decode cX12_goose 40 = .ok (.if_icmp .ne 13, 3) := dc_160 (show ((cX12_goose.data.toList.drop 40).take 3).map UInt8.toNat = [160, 0, 13] by decide +kernel) rfl
theorem dX12_goose_53 : decode cX12_goose 53 = .ok (.iload 5, 2) := dc_21 (show ((cX12_goose.data.toList.drop 53).take 2).map UInt8.toNat = [21, 5] by decide +kernel) rfl
theorem dX12_goose_55 : decode cX12_goose 55 = .ok (.iconst 2, 1) := dc_5 (show ((cX12_goose.data.toList.drop 55).take 1).map UInt8.toNat = [5] by decide +kernel)
theorem dX12_goose_56 : decode cX12_goose 56 = .ok (.if_icmp .ne 13, 3) := dc_160 (show ((cX12_goose.data.toList.drop 56).take 3).map UInt8.toNat = [160, 0, 13] by decide +kernel) rfl
theorem dX12_goose_69 : decode cX12_goose 69 = .ok (.iload 5, 2) := dc_21 (show ((cX12_goose.data.toList.drop 69).take 2).map UInt8.toNat = [21, 5] by decide +kernel) rfl
theorem dX12_goose_71 : decode cX12_goose 71 = .ok (.iconst 3, 1) := dc_6 (show ((cX12_goose.data.toList.drop 71).take 1).map UInt8.toNat = [6] by decide +kernel)
theorem dX12_goose_72 : decode cX12_goose 72 = .ok (.if_icmp .ne 13, 3) := dc_160 (show ((cX12_goose.data.toList.drop 72).take 3).map UInt8.toNat = [160, 0, 13] by decide +kernel) rfl
theorem dX12_goose_85 : decode cX12_goose 85 = .ok (.bipush (-2), 2) := dc_16 (show ((cX12_goose.data.toList.drop 85).take 2).map UInt8.toNat = [16, 254] by decide +kernel) rfl
theorem dX12_goose_87 : decode cX12_goose 87 = .ok (.ireturn, 1) := dc_172 (show ((cX12_goose.data.toList.drop 87).take 1).map UInt8.toNat = [172] by decide +kernel)
theorem dX12_goose_75 : decode cX12_goose 75 = .ok (.aload_n 0, 1) := dc_42 (show ((cX12_goose.data.toList.drop 75).take 1).map UInt8.toNat = [42] by decide +kernel)
theorem dX12_goose_76 : decode cX12_goose 76 = .ok (.getfield 29, 3) := dc_180 (show ((cX12_goose.data.toList.drop 76).take 3).map UInt8.toNat = [180, 0, 29] by decide +kernel) rfl
theorem dX12_goose_79 : decode cX12_goose 79 = .ok (.iload 4, 2) := dc_21 (show ((cX12_goose.data.toList.drop 79).take 2).map UInt8.toNat = [21, 4] by decide +kernel) rfl
theorem dX12_goose_81 : decode cX12_goose 81 = .ok (.iaload, 1) := dc_46 (show ((cX12_goose.data.toList.drop 81).take 1).map UInt8.toNat = [46] by decide +kernel)
theorem dX12_goose_82 : decode cX12_goose 82 = .ok (.goto 5, 3) := dc_167 (show ((cX12_goose.data.toList.drop 82).take 3).map UInt8.toNat = [167, 0, 5] by decide +kernel) rfl
theorem dX12_goose_59 : decode cX12_goose 59 = .ok (.aload_n 0, 1) := dc_42 (show ((cX12_goose.data.toList.drop 59).take 1).map UInt8.toNat = [42] by decide +kernel)
theorem dX12_goose_60 : decode cX12_goose 60 = .ok (.getfield 26, 3) := dc_180 (show ((cX12_goose.data.toList.drop 60).take 3).map UInt8.toNat = [180, 0, 26] by decide +kernel) rfl
theorem dX12_goose_63 : decode cX12_goose 63 = .ok (.iload 4, 2) := dc_21 (show ((cX12_goose.data.toList.drop 63).take 2).map UInt8.toNat = [21, 4] by decide +kernel) rfl
theorem dX12_goose_65 : decode cX12_goose 65 = .ok (.iaload, 1) := dc_46 (show ((cX12_goose.data.toList.drop 65).take 1).map UInt8.toNat = [46] by decide +kernel)
theorem dX12_goose_66 : decode cX12_goose 66 = .ok (.goto 21, 3) := dc_167 (show ((cX12_goose.data.toList.drop 66).take 3).map UInt8.toNat = [167, 0, 21] by decide +kernel) rfl
theorem dX12_goose_43 : decode cX12_goose 43 = .ok (.aload_n 0, 1) := dc_42 (show ((cX12_goose.data.toList.drop 43).take 1).map UInt8.toNat = [42] by decide +kernel)
theorem dX12_goose_44 : decode cX12_goose 44 = .ok (.getfield 23, 3) := dc_180 (show ((cX12_goose.data.toList.drop 44).take 3).map UInt8.toNat = [180, 0, 23] by decide +kernel) rfl
theorem dX12_goose_47 : decode cX12_goose 47 = .ok (.iload 4, 2) := dc_21 (show ((cX12_goose.data.toList.drop 47).take 2).map UInt8.toNat = [21, 4] by decide +kernel) rfl
theorem dX12_goose_49 : decode cX12_goose 49 = .ok (.iaload, 1) := dc_46 (show ((cX12_goose.data.toList.drop 49).take 1).map UInt8.toNat = [46] by decide +kernel)
theorem dX12_goose_50 : decode cX12_goose 50 = .ok (.goto 37, 3) := dc_167 (show ((cX12_goose.data.toList.drop 50).take 3).map UInt8.toNat = [167, 0, 37] by decide +kernel) rfl
theorem dX12_goose_27 : decode cX12_goose 27 = .ok (.aload_n 0, 1) := dc_42 (show ((cX12_goose.data.toList.drop 27).take 1).map UInt8.toNat = [42] by decide +kernel)
theorem dX12_goose_28 : decode cX12_goose 28 = .ok (.getfield 20, 3) := dc_180 (show ((cX12_goose.data.toList.drop 28).take 3).map UInt8.toNat = [180, 0, 20] by decide +kernel) rfl
theorem dX12_goose_31 : decode cX12_goose 31 = .ok (.iload 4, 2) := dc_21 (show ((cX12_goose.data.toList.drop 31).take 2).map UInt8.toNat = [21, 4] by decide +kernel) rfl
theorem dX12_goose_33 : decode cX12_goose 33 = .ok (.iaload, 1) := dc_46 (show ((cX12_goose.data.toList.drop 33).take 1).map UInt8.toNat = [46] by decide +kernel)
theorem dX12_goose_34 : decode cX12_goose 34 = .ok (.goto 53, 3) := dc_167 (show ((cX12_goose.data.toList.drop 34).take 3).map UInt8.toNat = [167, 0, 53] by decide +kernel) rfl
def ms_goose (n : Nat) (f : gb_F) (w : Int64) (p1 : Int32) (p2 : Int32) (p3 : Int32) (p4 : Int32) (p5 : Int32) : gb_MR Int32 := gb_bd (ms_isState n f w p1 p2 p3) (fun f_1 wl_2 r_3 => (if r_3 = 0 then some (f_1, wl_2, (-2)) else gb_bd (ms_isGoose n f_1 wl_2 p4) (fun f_7 wl_8 r_9 => (if r_9 = 0 then some (f_7, wl_8, (-2)) else (if p5 = 0 then gb_ck p4 8 (gb_lt (f_7 4 (Int32.toNatClampNeg p4)) (fun x_24 => some (f_7, wl_8, x_24))) else (if p5 = 1 then gb_ck p4 8 (gb_lt (f_7 5 (Int32.toNatClampNeg p4)) (fun x_22 => some (f_7, wl_8, x_22))) else (if p5 = 2 then gb_ck p4 8 (gb_lt (f_7 6 (Int32.toNatClampNeg p4)) (fun x_20 => some (f_7, wl_8, x_20))) else (if p5 = 3 then gb_ck p4 8 (gb_lt (f_7 7 (Int32.toNatClampNeg p4)) (fun x_18 => some (f_7, wl_8, x_18))) else some (f_7, wl_8, (-2))))))))))
set_option maxHeartbeats 8000000 in
set_option maxRecDepth 100000 in
theorem mc_goose (l : Launch) (D : va_G) (cT : Nat → ClassId) (tt : Nat → Nat) (b1 b : Nat) (hb1 : b1 ≤ b) (n : Nat) (f : gb_F) (w : Int64) (p1 : Int32) (p2 : Int32) (p3 : Int32) (p4 : Int32) (p5 : Int32) (fE : gb_F) (wE : Int64) (rE : Int32) (h : ms_goose n f w p1 p2 p3 p4 p5 = some (fE, wE, rE)) : Met l yX12_goose (.code yX12_goose cX12_goose 6 (some FieldType.int) :: gb_wA) ({ frames := 7, cells := 0, slots := 0, locals := 164 }) (gb_Pc D cT tt b1 [.ref (b + 0), .int p1, .int p2, .int p3, .int p4, .int p5] (fun h => va_P D vwCl (gb_wl b (gb_MW cT b f w)) h)) (gb_Qi (fun r h => r = rE ∧ va_P D vwCl (gb_wl b (gb_MW cT b fE wE)) h) (gb_fr b 22)) 0 0 (gb_fr b 22) := by
  refine Met.ofW (cc := cX12_goose) (maxL := 6) (ret := (some FieldType.int)) (by decide) rfl ?_
  intro p e s m args below meth c s₁ B hml hv
  obtain ⟨rfl, hSt, hP⟩ := hv
  have hx := B.exec
  have hb := B.bytes
  have hr := B.returns
  have hts := atoms_spec (ws := .code yX12_goose cX12_goose 6 (some FieldType.int) :: gb_wA) B.pre
  have hq : ∀ w ∈ gb_wA, w.before _ s = true := fun w h => hts w (List.mem_cons_of_mem _ h)
  have hown : s.vm.findClass RX12 = some m.cls := findClass_of_methodNamed B.named
  have hlocks := B.notSynchronized
  clear B hts
  have hK := hSt.1
  have hS : va_S (gb_fr b 22) s.heap s.heap [] := va_S.rf
  have hl := lv_entry ([.ref (b + 0), .int p1, .int p2, .int p3, .int p4, .int p5]) (n := 6) (Nat.le_of_ble_eq_true rfl)
  rw [lg_entry_eq]
  generalize (lg_sl ([.ref (b + 0), .int p1, .int p2, .int p3, .int p4, .int p5]) ++ List.replicate (6 - (lg_sl ([.ref (b + 0), .int p1, .int p2, .int p3, .int p4, .int p5])).length) Slot.unset).toArray = ls at hl ⊢
  replace hl : lv_has ls 6 [(0, .ref (b + 0)), (1, .int p1), (2, .int p2), (3, .int p3), (4, .int p4), (5, .int p5)] := hl
  unfold ms_goose at h
  refine lv_aload_n hx hb dX12_goose_0 rfl (lv_at hl 0 rfl) ?_
  refine lv_iload_n hx hb dX12_goose_1 rfl (lv_at hl 1 rfl) ?_
  refine lv_iload_n hx hb dX12_goose_2 rfl (lv_at hl 2 rfl) ?_
  refine lv_iload_n hx hb dX12_goose_3 rfl (lv_at hl 3 rfl) ?_
  obtain ⟨f_1, wl_2, r_3, z_4, h⟩ := gb_bd_s h
  refine gb_calli (va_runV (C := RX12) (As := [.int p1, .int p2, .int p3]) (rest := []) ⟨hx, hb, hml, hown, hq⟩ (mc_isState l D cT tt b1 b hb1 n f w p1 p2 p3 f_1 wl_2 r_3 z_4) (cwV 3 hq (gb_gV w_1468 w_1470 s_5_5 w_14 w_1471) rfl rfl rfl (by decide +kernel) ⟨Nat.le_of_ble_eq_true rfl, Nat.le_of_ble_eq_true rfl⟩) (gb_preV (r := (RX12, TX12, 44)) (ci := 10) (q0 := 0) hSt hP rfl (gb_at b rfl) hS (fun q h => Nat.le_trans hb1 h.1) hP) rfl rfl hl.1 rfl (lv_room (Nat.le_of_ble_eq_true rfl)) dX12_goose_4 ⟨Nat.le_of_ble_eq_true rfl, Nat.le_of_ble_eq_true rfl⟩) hS (fun _ h => h) (fun _ h => h) (fun q_5 H locs hY hk hS => ?_)
  obtain ⟨hq_5, hP⟩ := hY
  replace hq_5 := hq_5.symm
  subst hq_5
  refine lv_if_eq (tgt := 19) hx hb dX12_goose_7 (by decide) (fun c_6 => ?_) (fun c_6 => ?_)
  · rw [if_pos c_6] at h
    refine lv_bipush (v := (-2)) hx hb dX12_goose_19 (by decide) ?_
    obtain ⟨e1, e2, e3⟩ := gb_eq3 h
    exact W.iret (v := (-2)) hx hb hr (fun t ht hW => gb_ri ht ⟨e3, by rw [← e1, ← e2]; exact hP⟩ hS) hS.2.2 dX12_goose_21
  · rw [if_neg c_6] at h
    refine lv_aload_n hx hb dX12_goose_10 rfl (lv_at hl 0 rfl) ?_
    refine lv_iload hx hb dX12_goose_11 (lv_at hl 4 rfl) ?_
    obtain ⟨f_7, wl_8, r_9, z_10, h⟩ := gb_bd_s h
    refine gb_calli (va_runV (C := RX12) (As := [.int p4]) (rest := []) ⟨hx, hb, hml, hown, hq⟩ (mc_isGoose l D cT tt b1 b hb1 n f_1 wl_2 p4 f_7 wl_8 r_9 z_10) (cwV 1 hq (gb_gV w_1392 w_1394 s_4_6 w_14 w_1395) rfl rfl rfl (by decide +kernel) ⟨Nat.le_of_ble_eq_true rfl, Nat.le_of_ble_eq_true rfl⟩) (gb_preV (r := (RX12, TX12, 44)) (ci := 10) (q0 := 0) hSt hP rfl (gb_at b rfl) hS (fun q h => Nat.le_trans hb1 h.1) hP) rfl rfl hl.1 rfl (lv_room (Nat.le_of_ble_eq_true rfl)) dX12_goose_13 ⟨Nat.le_of_ble_eq_true rfl, Nat.le_of_ble_eq_true rfl⟩) hS (fun _ h => h) (fun _ h => h) (fun q_11 H locs hY hk hS => ?_)
    obtain ⟨hq_11, hP⟩ := hY
    replace hq_11 := hq_11.symm
    subst hq_11
    refine lv_if_ne (tgt := 22) hx hb dX12_goose_16 (by decide) (fun c_12 => ?_) (fun c_12 => ?_)
    · rw [if_neg c_12] at h
      refine lv_iload hx hb dX12_goose_22 (lv_at hl 5 rfl) ?_
      refine lv_if_ne (tgt := 37) hx hb dX12_goose_24 (by decide) (fun c_13 => ?_) (fun c_13 => ?_)
      · rw [if_neg c_13] at h
        refine lv_iload hx hb dX12_goose_37 (lv_at hl 5 rfl) ?_
        refine lv_iconst (v := 1) hx hb dX12_goose_39 (by decide) ?_
        refine lv_icmp_ne (tgt := 53) hx hb dX12_goose_40 (by decide) (fun c_14 => ?_) (fun c_14 => ?_)
        · rw [if_neg c_14] at h
          refine lv_iload hx hb dX12_goose_53 (lv_at hl 5 rfl) ?_
          refine lv_iconst (v := 2) hx hb dX12_goose_55 (by decide) ?_
          refine lv_icmp_ne (tgt := 69) hx hb dX12_goose_56 (by decide) (fun c_15 => ?_) (fun c_15 => ?_)
          · rw [if_neg c_15] at h
            refine lv_iload hx hb dX12_goose_69 (lv_at hl 5 rfl) ?_
            refine lv_iconst (v := 3) hx hb dX12_goose_71 (by decide) ?_
            refine lv_icmp_ne (tgt := 85) hx hb dX12_goose_72 (by decide) (fun c_16 => ?_) (fun c_16 => ?_)
            · rw [if_neg c_16] at h
              refine lv_bipush (v := (-2)) hx hb dX12_goose_85 (by decide) ?_
              obtain ⟨e1, e2, e3⟩ := gb_eq3 h
              exact W.iret (v := (-2)) hx hb hr (fun t ht hW => gb_ri ht ⟨e3, by rw [← e1, ← e2]; exact hP⟩ hS) hS.2.2 dX12_goose_87
            · rw [if_pos c_16] at h
              refine lv_aload_n hx hb dX12_goose_75 rfl (lv_at hl 0 rfl) ?_
              refine va_get (ci := 10) (v := (.ref (b + 7))) (C := RX12) (T := TX12) (N := 44) hx hb hq i_X12 hown hK hP 0 (gb_at b rfl) rfl 16 (by decide) (hq _ w_1140) (fun _ h9 => h9) rfl dX12_goose_76 ?_
              refine lv_iload hx hb dX12_goose_79 (lv_at hl 4 rfl) ?_
              obtain ⟨z_17, h⟩ := gb_ck_s h
              refine va_iald hx hb hK hP 7 0 (gb_at b rfl) rfl z_17 dX12_goose_81 ?_
              refine lv_topi (fun x_18 ex_18 => ?_)
              replace h := gb_lt_s ex_18 h
              refine lv_goto (tgt := 87) hx hb dX12_goose_82 (by decide) ?_
              obtain ⟨e1, e2, e3⟩ := gb_eq3 h
              exact W.iret (v := x_18) hx hb hr (fun t ht hW => gb_ri ht ⟨e3, by rw [← e1, ← e2]; exact hP⟩ hS) hS.2.2 dX12_goose_87
          · rw [if_pos c_15] at h
            refine lv_aload_n hx hb dX12_goose_59 rfl (lv_at hl 0 rfl) ?_
            refine va_get (ci := 10) (v := (.ref (b + 6))) (C := RX12) (T := TX12) (N := 44) hx hb hq i_X12 hown hK hP 0 (gb_at b rfl) rfl 15 (by decide) (hq _ w_1139) (fun _ h9 => h9) rfl dX12_goose_60 ?_
            refine lv_iload hx hb dX12_goose_63 (lv_at hl 4 rfl) ?_
            obtain ⟨z_19, h⟩ := gb_ck_s h
            refine va_iald hx hb hK hP 6 0 (gb_at b rfl) rfl z_19 dX12_goose_65 ?_
            refine lv_topi (fun x_20 ex_20 => ?_)
            replace h := gb_lt_s ex_20 h
            refine lv_goto (tgt := 87) hx hb dX12_goose_66 (by decide) ?_
            obtain ⟨e1, e2, e3⟩ := gb_eq3 h
            exact W.iret (v := x_20) hx hb hr (fun t ht hW => gb_ri ht ⟨e3, by rw [← e1, ← e2]; exact hP⟩ hS) hS.2.2 dX12_goose_87
        · rw [if_pos c_14] at h
          refine lv_aload_n hx hb dX12_goose_43 rfl (lv_at hl 0 rfl) ?_
          refine va_get (ci := 10) (v := (.ref (b + 5))) (C := RX12) (T := TX12) (N := 44) hx hb hq i_X12 hown hK hP 0 (gb_at b rfl) rfl 14 (by decide) (hq _ w_1138) (fun _ h9 => h9) rfl dX12_goose_44 ?_
          refine lv_iload hx hb dX12_goose_47 (lv_at hl 4 rfl) ?_
          obtain ⟨z_21, h⟩ := gb_ck_s h
          refine va_iald hx hb hK hP 5 0 (gb_at b rfl) rfl z_21 dX12_goose_49 ?_
          refine lv_topi (fun x_22 ex_22 => ?_)
          replace h := gb_lt_s ex_22 h
          refine lv_goto (tgt := 87) hx hb dX12_goose_50 (by decide) ?_
          obtain ⟨e1, e2, e3⟩ := gb_eq3 h
          exact W.iret (v := x_22) hx hb hr (fun t ht hW => gb_ri ht ⟨e3, by rw [← e1, ← e2]; exact hP⟩ hS) hS.2.2 dX12_goose_87
      · rw [if_pos c_13] at h
        refine lv_aload_n hx hb dX12_goose_27 rfl (lv_at hl 0 rfl) ?_
        refine va_get (ci := 10) (v := (.ref (b + 4))) (C := RX12) (T := TX12) (N := 44) hx hb hq i_X12 hown hK hP 0 (gb_at b rfl) rfl 13 (by decide) (hq _ w_1137) (fun _ h9 => h9) rfl dX12_goose_28 ?_
        refine lv_iload hx hb dX12_goose_31 (lv_at hl 4 rfl) ?_
        obtain ⟨z_23, h⟩ := gb_ck_s h
        refine va_iald hx hb hK hP 4 0 (gb_at b rfl) rfl z_23 dX12_goose_33 ?_
        refine lv_topi (fun x_24 ex_24 => ?_)
        replace h := gb_lt_s ex_24 h
        refine lv_goto (tgt := 87) hx hb dX12_goose_34 (by decide) ?_
        obtain ⟨e1, e2, e3⟩ := gb_eq3 h
        exact W.iret (v := x_24) hx hb hr (fun t ht hW => gb_ri ht ⟨e3, by rw [← e1, ← e2]; exact hP⟩ hS) hS.2.2 dX12_goose_87
    · rw [if_pos c_12] at h
      refine lv_bipush (v := (-2)) hx hb dX12_goose_19 (by decide) ?_
      obtain ⟨e1, e2, e3⟩ := gb_eq3 h
      exact W.iret (v := (-2)) hx hb hr (fun t ht hW => gb_ri ht ⟨e3, by rw [← e1, ← e2]; exact hP⟩ hS) hS.2.2 dX12_goose_21
theorem dX12_tally_0 : decode cX12_tally 0 = .ok (.aload_n 0, 1) := dc_42 (show ((cX12_tally.data.toList.drop 0).take 1).map UInt8.toNat = [42] by decide +kernel)
theorem dX12_tally_1 : decode cX12_tally 1 = .ok (.getfield 38, 3) := dc_180 (show ((cX12_tally.data.toList.drop 1).take 3).map UInt8.toNat = [180, 0, 38] by decide +kernel) rfl
theorem dX12_tally_4 : decode cX12_tally 4 = .ok (.iload_n 1, 1) := dc_27 (show ((cX12_tally.data.toList.drop 4).take 1).map UInt8.toNat = [27] by decide +kernel)
theorem dX12_tally_5 : decode cX12_tally 5 = .ok (.iaload, 1) := dc_46 (show ((cX12_tally.data.toList.drop 5).take 1).map UInt8.toNat = [46] by decide +kernel)
theorem dX12_tally_6 : decode cX12_tally 6 = .ok (.aload_n 0, 1) := dc_42 (show ((cX12_tally.data.toList.drop 6).take 1).map UInt8.toNat = [42] by decide +kernel)
theorem dX12_tally_7 : decode cX12_tally 7 = .ok (.getfield 41, 3) := dc_180 (show ((cX12_tally.data.toList.drop 7).take 3).map UInt8.toNat = [180, 0, 41] by decide +kernel) rfl
theorem dX12_tally_10 : decode cX12_tally 10 = .ok (.iload_n 1, 1) := dc_27 (show ((cX12_tally.data.toList.drop 10).take 1).map UInt8.toNat = [27] by decide +kernel)
theorem dX12_tally_11 : decode cX12_tally 11 = .ok (.iaload, 1) := dc_46 (show ((cX12_tally.data.toList.drop 11).take 1).map UInt8.toNat = [46] by decide +kernel)
theorem dX12_tally_12 : decode cX12_tally 12 = .ok (.if_icmp .le 19, 3) := dc_164 (show ((cX12_tally.data.toList.drop 12).take 3).map UInt8.toNat = [164, 0, 19] by decide +kernel) rfl
theorem dX12_tally_31 : decode cX12_tally 31 = .ok (.iconst 0, 1) := dc_3 (show ((cX12_tally.data.toList.drop 31).take 1).map UInt8.toNat = [3] by decide +kernel)
theorem dX12_tally_32 : decode cX12_tally 32 = .ok (.ireturn, 1) := dc_172 (show ((cX12_tally.data.toList.drop 32).take 1).map UInt8.toNat = [172] by decide +kernel)
theorem dX12_tally_15 : decode cX12_tally 15 = .ok (.aload_n 0, 1) := dc_42 (show ((cX12_tally.data.toList.drop 15).take 1).map UInt8.toNat = [42] by decide +kernel)
theorem dX12_tally_16 : decode cX12_tally 16 = .ok (.getfield 38, 3) := dc_180 (show ((cX12_tally.data.toList.drop 16).take 3).map UInt8.toNat = [180, 0, 38] by decide +kernel) rfl
theorem dX12_tally_19 : decode cX12_tally 19 = .ok (.iload_n 1, 1) := dc_27 (show ((cX12_tally.data.toList.drop 19).take 1).map UInt8.toNat = [27] by decide +kernel)
theorem dX12_tally_20 : decode cX12_tally 20 = .ok (.iaload, 1) := dc_46 (show ((cX12_tally.data.toList.drop 20).take 1).map UInt8.toNat = [46] by decide +kernel)
theorem dX12_tally_21 : decode cX12_tally 21 = .ok (.aload_n 0, 1) := dc_42 (show ((cX12_tally.data.toList.drop 21).take 1).map UInt8.toNat = [42] by decide +kernel)
theorem dX12_tally_22 : decode cX12_tally 22 = .ok (.getfield 41, 3) := dc_180 (show ((cX12_tally.data.toList.drop 22).take 3).map UInt8.toNat = [180, 0, 41] by decide +kernel) rfl
theorem dX12_tally_25 : decode cX12_tally 25 = .ok (.iload_n 1, 1) := dc_27 (show ((cX12_tally.data.toList.drop 25).take 1).map UInt8.toNat = [27] by decide +kernel)
theorem dX12_tally_26 : decode cX12_tally 26 = .ok (.iaload, 1) := dc_46 (show ((cX12_tally.data.toList.drop 26).take 1).map UInt8.toNat = [46] by decide +kernel)
theorem dX12_tally_27 : decode cX12_tally 27 = .ok (.isub, 1) := dc_100 (show ((cX12_tally.data.toList.drop 27).take 1).map UInt8.toNat = [100] by decide +kernel)
theorem dX12_tally_28 : decode cX12_tally 28 = .ok (.goto 4, 3) := dc_167 (show ((cX12_tally.data.toList.drop 28).take 3).map UInt8.toNat = [167, 0, 4] by decide +kernel) rfl
def ms_tally (n : Nat) (f : gb_F) (w : Int64) (p1 : Int32) : gb_MR Int32 := gb_ck p1 5 (gb_lt (f 10 (Int32.toNatClampNeg p1)) (fun x_2 => gb_ck p1 5 (gb_lt (f 11 (Int32.toNatClampNeg p1)) (fun x_4 => (if x_2 ≤ x_4 then some (f, w, 0) else gb_ck p1 5 (gb_lt (f 10 (Int32.toNatClampNeg p1)) (fun x_7 => gb_ck p1 5 (gb_lt (f 11 (Int32.toNatClampNeg p1)) (fun x_9 => some (f, w, (x_7 - x_9)))))))))))
set_option maxHeartbeats 8000000 in
set_option maxRecDepth 100000 in
theorem mc_tally (l : Launch) (D : va_G) (cT : Nat → ClassId) (tt : Nat → Nat) (b1 b : Nat) (hb1 : b1 ≤ b) (n : Nat) (f : gb_F) (w : Int64) (p1 : Int32) (fE : gb_F) (wE : Int64) (rE : Int32) (h : ms_tally n f w p1 = some (fE, wE, rE)) : Met l yX12_tally (.code yX12_tally cX12_tally 2 (some FieldType.int) :: gb_wA) ({ frames := 0, cells := 0, slots := 0, locals := 0 }) (gb_Pc D cT tt b1 [.ref (b + 0), .int p1] (fun h => va_P D vwCl (gb_wl b (gb_MW cT b f w)) h)) (gb_Qi (fun r h => r = rE ∧ va_P D vwCl (gb_wl b (gb_MW cT b fE wE)) h) (gb_fr b 22)) 0 0 (gb_fr b 22) := by
  refine Met.ofW (cc := cX12_tally) (maxL := 2) (ret := (some FieldType.int)) (by decide) rfl ?_
  intro p e s m args below meth c s₁ B hml hv
  obtain ⟨rfl, hSt, hP⟩ := hv
  have hx := B.exec
  have hb := B.bytes
  have hr := B.returns
  have hts := atoms_spec (ws := .code yX12_tally cX12_tally 2 (some FieldType.int) :: gb_wA) B.pre
  have hq : ∀ w ∈ gb_wA, w.before _ s = true := fun w h => hts w (List.mem_cons_of_mem _ h)
  have hown : s.vm.findClass RX12 = some m.cls := findClass_of_methodNamed B.named
  have hlocks := B.notSynchronized
  clear B hts
  have hK := hSt.1
  have hS : va_S (gb_fr b 22) s.heap s.heap [] := va_S.rf
  have hl := lv_entry ([.ref (b + 0), .int p1]) (n := 2) (Nat.le_of_ble_eq_true rfl)
  rw [lg_entry_eq]
  generalize (lg_sl ([.ref (b + 0), .int p1]) ++ List.replicate (2 - (lg_sl ([.ref (b + 0), .int p1])).length) Slot.unset).toArray = ls at hl ⊢
  replace hl : lv_has ls 2 [(0, .ref (b + 0)), (1, .int p1)] := hl
  unfold ms_tally at h
  refine lv_aload_n hx hb dX12_tally_0 rfl (lv_at hl 0 rfl) ?_
  refine va_get (ci := 10) (v := (.ref (b + 10))) (C := RX12) (T := TX12) (N := 44) hx hb hq i_X12 hown hK hP 0 (gb_at b rfl) rfl 19 (by decide) (hq _ w_1143) (fun _ h9 => h9) rfl dX12_tally_1 ?_
  refine lv_iload_n hx hb dX12_tally_4 rfl (lv_at hl 1 rfl) ?_
  obtain ⟨z_1, h⟩ := gb_ck_s h
  refine va_iald hx hb hK hP 10 0 (gb_at b rfl) rfl z_1 dX12_tally_5 ?_
  refine lv_topi (fun x_2 ex_2 => ?_)
  replace h := gb_lt_s ex_2 h
  refine lv_aload_n hx hb dX12_tally_6 rfl (lv_at hl 0 rfl) ?_
  refine va_get (ci := 10) (v := (.ref (b + 11))) (C := RX12) (T := TX12) (N := 44) hx hb hq i_X12 hown hK hP 0 (gb_at b rfl) rfl 20 (by decide) (hq _ w_1144) (fun _ h9 => h9) rfl dX12_tally_7 ?_
  refine lv_iload_n hx hb dX12_tally_10 rfl (lv_at hl 1 rfl) ?_
  obtain ⟨z_3, h⟩ := gb_ck_s h
  refine va_iald hx hb hK hP 11 0 (gb_at b rfl) rfl z_3 dX12_tally_11 ?_
  refine lv_topi (fun x_4 ex_4 => ?_)
  replace h := gb_lt_s ex_4 h
  refine lv_icmp_le (tgt := 31) hx hb dX12_tally_12 (by decide) (fun c_5 => ?_) (fun c_5 => ?_)
  · rw [if_pos c_5] at h
    refine lv_iconst (v := 0) hx hb dX12_tally_31 (by decide) ?_
    obtain ⟨e1, e2, e3⟩ := gb_eq3 h
    exact W.iret (v := 0) hx hb hr (fun t ht hW => gb_ri ht ⟨e3, by rw [← e1, ← e2]; exact hP⟩ hS) hS.2.2 dX12_tally_32
  · rw [if_neg c_5] at h
    refine lv_aload_n hx hb dX12_tally_15 rfl (lv_at hl 0 rfl) ?_
    refine va_get (ci := 10) (v := (.ref (b + 10))) (C := RX12) (T := TX12) (N := 44) hx hb hq i_X12 hown hK hP 0 (gb_at b rfl) rfl 19 (by decide) (hq _ w_1143) (fun _ h9 => h9) rfl dX12_tally_16 ?_
    refine lv_iload_n hx hb dX12_tally_19 rfl (lv_at hl 1 rfl) ?_
    obtain ⟨z_6, h⟩ := gb_ck_s h
    refine va_iald hx hb hK hP 10 0 (gb_at b rfl) rfl z_6 dX12_tally_20 ?_
    refine lv_topi (fun x_7 ex_7 => ?_)
    replace h := gb_lt_s ex_7 h
    refine lv_aload_n hx hb dX12_tally_21 rfl (lv_at hl 0 rfl) ?_
    refine va_get (ci := 10) (v := (.ref (b + 11))) (C := RX12) (T := TX12) (N := 44) hx hb hq i_X12 hown hK hP 0 (gb_at b rfl) rfl 20 (by decide) (hq _ w_1144) (fun _ h9 => h9) rfl dX12_tally_22 ?_
    refine lv_iload_n hx hb dX12_tally_25 rfl (lv_at hl 1 rfl) ?_
    obtain ⟨z_8, h⟩ := gb_ck_s h
    refine va_iald hx hb hK hP 11 0 (gb_at b rfl) rfl z_8 dX12_tally_26 ?_
    refine lv_topi (fun x_9 ex_9 => ?_)
    replace h := gb_lt_s ex_9 h
    refine lv_isub hx hb dX12_tally_27 ?_
    refine lv_goto (tgt := 32) hx hb dX12_tally_28 (by decide) ?_
    obtain ⟨e1, e2, e3⟩ := gb_eq3 h
    exact W.iret (v := (x_7 - x_9)) hx hb hr (fun t ht hW => gb_ri ht ⟨e3, by rw [← e1, ← e2]; exact hP⟩ hS) hS.2.2 dX12_tally_32
theorem dX12_padded_0 : decode cX12_padded 0 = .ok (.iload_n 1, 1) := dc_27 (show ((cX12_padded.data.toList.drop 0).take 1).map UInt8.toNat = [27] by decide +kernel)
theorem dX12_padded_1 : decode cX12_padded 1 = .ok (.iload_n 1, 1) := dc_27 (show ((cX12_padded.data.toList.drop 1).take 1).map UInt8.toNat = [27] by decide +kernel)
theorem dX12_padded_2 : decode cX12_padded 2 = .ok (.aload_n 0, 1) := dc_42 (show ((cX12_padded.data.toList.drop 2).take 1).map UInt8.toNat = [42] by decide +kernel)
theorem dX12_padded_3 : decode cX12_padded 3 = .ok (.iload_n 2, 1) := dc_28 (show ((cX12_padded.data.toList.drop 3).take 1).map UInt8.toNat = [28] by decide +kernel)
theorem dX12_padded_4 : decode cX12_padded 4 = .ok (.iconst 2, 1) := dc_5 (show ((cX12_padded.data.toList.drop 4).take 1).map UInt8.toNat = [5] by decide +kernel)
theorem dX12_padded_5 : decode cX12_padded 5 = .ok (.invokevirtual 211, 3) := dc_182 (show ((cX12_padded.data.toList.drop 5).take 3).map UInt8.toNat = [182, 0, 211] by decide +kernel) rfl
theorem dX12_padded_8 : decode cX12_padded 8 = .ok (.imul, 1) := dc_104 (show ((cX12_padded.data.toList.drop 8).take 1).map UInt8.toNat = [104] by decide +kernel)
theorem dX12_padded_9 : decode cX12_padded 9 = .ok (.bipush 10, 2) := dc_16 (show ((cX12_padded.data.toList.drop 9).take 2).map UInt8.toNat = [16, 10] by decide +kernel) rfl
theorem dX12_padded_11 : decode cX12_padded 11 = .ok (.idiv, 1) := dc_108 (show ((cX12_padded.data.toList.drop 11).take 1).map UInt8.toNat = [108] by decide +kernel)
theorem dX12_padded_12 : decode cX12_padded 12 = .ok (.iadd, 1) := dc_96 (show ((cX12_padded.data.toList.drop 12).take 1).map UInt8.toNat = [96] by decide +kernel)
theorem dX12_padded_13 : decode cX12_padded 13 = .ok (.ireturn, 1) := dc_172 (show ((cX12_padded.data.toList.drop 13).take 1).map UInt8.toNat = [172] by decide +kernel)
def ms_padded (n : Nat) (f : gb_F) (w : Int64) (p1 : Int32) (p2 : Int32) : gb_MR Int32 := gb_bd (ms_ofPath n f w p2 2) (fun f_1 wl_2 r_3 => gb_lt ((p1 * r_3) / 10) (fun x_6 => some (f_1, wl_2, (p1 + x_6))))
set_option maxHeartbeats 8000000 in
set_option maxRecDepth 100000 in
theorem mc_padded (l : Launch) (D : va_G) (cT : Nat → ClassId) (tt : Nat → Nat) (b1 b : Nat) (hb1 : b1 ≤ b) (n : Nat) (f : gb_F) (w : Int64) (p1 : Int32) (p2 : Int32) (fE : gb_F) (wE : Int64) (rE : Int32) (h : ms_padded n f w p1 p2 = some (fE, wE, rE)) : Met l yX12_padded (.code yX12_padded cX12_padded 3 (some FieldType.int) :: gb_wA) ({ frames := 2, cells := 0, slots := 0, locals := 43 }) (gb_Pc D cT tt b1 [.ref (b + 0), .int p1, .int p2] (fun h => va_P D vwCl (gb_wl b (gb_MW cT b f w)) h)) (gb_Qi (fun r h => r = rE ∧ va_P D vwCl (gb_wl b (gb_MW cT b fE wE)) h) (gb_fr b 22)) 0 0 (gb_fr b 22) := by
  refine Met.ofW (cc := cX12_padded) (maxL := 3) (ret := (some FieldType.int)) (by decide) rfl ?_
  intro p e s m args below meth c s₁ B hml hv
  obtain ⟨rfl, hSt, hP⟩ := hv
  have hx := B.exec
  have hb := B.bytes
  have hr := B.returns
  have hts := atoms_spec (ws := .code yX12_padded cX12_padded 3 (some FieldType.int) :: gb_wA) B.pre
  have hq : ∀ w ∈ gb_wA, w.before _ s = true := fun w h => hts w (List.mem_cons_of_mem _ h)
  have hown : s.vm.findClass RX12 = some m.cls := findClass_of_methodNamed B.named
  have hlocks := B.notSynchronized
  clear B hts
  have hK := hSt.1
  have hS : va_S (gb_fr b 22) s.heap s.heap [] := va_S.rf
  have hl := lv_entry ([.ref (b + 0), .int p1, .int p2]) (n := 3) (Nat.le_of_ble_eq_true rfl)
  rw [lg_entry_eq]
  generalize (lg_sl ([.ref (b + 0), .int p1, .int p2]) ++ List.replicate (3 - (lg_sl ([.ref (b + 0), .int p1, .int p2])).length) Slot.unset).toArray = ls at hl ⊢
  replace hl : lv_has ls 3 [(0, .ref (b + 0)), (1, .int p1), (2, .int p2)] := hl
  unfold ms_padded at h
  refine lv_iload_n hx hb dX12_padded_0 rfl (lv_at hl 1 rfl) ?_
  refine lv_iload_n hx hb dX12_padded_1 rfl (lv_at hl 1 rfl) ?_
  refine lv_aload_n hx hb dX12_padded_2 rfl (lv_at hl 0 rfl) ?_
  refine lv_iload_n hx hb dX12_padded_3 rfl (lv_at hl 2 rfl) ?_
  refine lv_iconst (v := 2) hx hb dX12_padded_4 (by decide) ?_
  obtain ⟨f_1, wl_2, r_3, z_4, h⟩ := gb_bd_s h
  refine gb_calli (va_runV (C := RX12) (As := [.int p2, .int 2]) (rest := [.int p1, .int p1]) ⟨hx, hb, hml, hown, hq⟩ (mc_ofPath l D cT tt b1 b hb1 n f w p2 2 f_1 wl_2 r_3 z_4) (cwV 2 hq (gb_gV w_1388 w_1390 s_4_5 w_14 w_1391) rfl rfl rfl (by decide +kernel) ⟨Nat.le_of_ble_eq_true rfl, Nat.le_of_ble_eq_true rfl⟩) (gb_preV (r := (RX12, TX12, 44)) (ci := 10) (q0 := 0) hSt hP rfl (gb_at b rfl) hS (fun q h => Nat.le_trans hb1 h.1) hP) rfl rfl hl.1 rfl (lv_room (Nat.le_of_ble_eq_true rfl)) dX12_padded_5 ⟨Nat.le_of_ble_eq_true rfl, Nat.le_of_ble_eq_true rfl⟩) hS (fun _ h => h) (fun _ h => h) (fun q_5 H locs hY hk hS => ?_)
  obtain ⟨hq_5, hP⟩ := hY
  replace hq_5 := hq_5.symm
  subst hq_5
  refine lv_imul hx hb dX12_padded_8 ?_
  refine lv_bipush (v := 10) hx hb dX12_padded_9 (by decide) ?_
  refine lv_idiv hx hb dX12_padded_11 (by decide) ?_
  refine lv_topi (fun x_6 ex_6 => ?_)
  replace h := gb_lt_s ex_6 h
  refine lv_iadd hx hb dX12_padded_12 ?_
  obtain ⟨e1, e2, e3⟩ := gb_eq3 h
  exact W.iret (v := (p1 + x_6)) hx hb hr (fun t ht hW => gb_ri ht ⟨e3, by rw [← e1, ← e2]; exact hP⟩ hS) hS.2.2 dX12_padded_13
theorem dX12_pay_0 : decode cX12_pay 0 = .ok (.aload_n 0, 1) := dc_42 (show ((cX12_pay.data.toList.drop 0).take 1).map UInt8.toNat = [42] by decide +kernel)
theorem dX12_pay_1 : decode cX12_pay 1 = .ok (.iload_n 1, 1) := dc_27 (show ((cX12_pay.data.toList.drop 1).take 1).map UInt8.toNat = [27] by decide +kernel)
theorem dX12_pay_2 : decode cX12_pay 2 = .ok (.iconst 1, 1) := dc_4 (show ((cX12_pay.data.toList.drop 2).take 1).map UInt8.toNat = [4] by decide +kernel)
theorem dX12_pay_3 : decode cX12_pay 3 = .ok (.invokevirtual 211, 3) := dc_182 (show ((cX12_pay.data.toList.drop 3).take 3).map UInt8.toNat = [182, 0, 211] by decide +kernel) rfl
theorem dX12_pay_6 : decode cX12_pay 6 = .ok (.aload_n 0, 1) := dc_42 (show ((cX12_pay.data.toList.drop 6).take 1).map UInt8.toNat = [42] by decide +kernel)
theorem dX12_pay_7 : decode cX12_pay 7 = .ok (.aload_n 0, 1) := dc_42 (show ((cX12_pay.data.toList.drop 7).take 1).map UInt8.toNat = [42] by decide +kernel)
theorem dX12_pay_8 : decode cX12_pay 8 = .ok (.iload_n 1, 1) := dc_27 (show ((cX12_pay.data.toList.drop 8).take 1).map UInt8.toNat = [27] by decide +kernel)
theorem dX12_pay_9 : decode cX12_pay 9 = .ok (.invokevirtual 273, 3) := dc_182 (show ((cX12_pay.data.toList.drop 9).take 3).map UInt8.toNat = [182, 1, 17] by decide +kernel) rfl
theorem w_1479 : (Cond.code ({ cls := "GooseBorderModel", name := "tally", desc := "(I)I" } : MethodName) prog_14_method_58_code (2 : Nat) (Option.some FieldType.int)) ∈ gb_wA := gb_t7 39 rfl rfl
theorem w_1476 : (Cond.methodLink "GooseBorderModel" (273 : Nat) ({ cls := "GooseBorderModel", name := "tally", desc := "(I)I" } : MethodName)) ∈ gb_wA := gb_t7 36 rfl rfl
theorem w_1478 : (Cond.instanceMethod ({ cls := "GooseBorderModel", name := "tally", desc := "(I)I" } : MethodName)) ∈ gb_wA := gb_t7 38 rfl rfl
theorem s_5_6 : Cond.selects "GooseBorderModel" (⟨"GooseBorderModel", "tally", "(I)I"⟩ : MethodName) (⟨"GooseBorderModel", "tally", "(I)I"⟩ : MethodName) ∈ gb_wA := gb_s5 6 rfl rfl
theorem dX12_pay_12 : decode cX12_pay 12 = .ok (.iload_n 1, 1) := dc_27 (show ((cX12_pay.data.toList.drop 12).take 1).map UInt8.toNat = [27] by decide +kernel)
theorem dX12_pay_13 : decode cX12_pay 13 = .ok (.invokevirtual 276, 3) := dc_182 (show ((cX12_pay.data.toList.drop 13).take 3).map UInt8.toNat = [182, 1, 20] by decide +kernel) rfl
theorem w_1483 : (Cond.code ({ cls := "GooseBorderModel", name := "padded", desc := "(II)I" } : MethodName) prog_14_method_59_code (3 : Nat) (Option.some FieldType.int)) ∈ gb_wA := gb_t7 43 rfl rfl
theorem w_1480 : (Cond.methodLink "GooseBorderModel" (276 : Nat) ({ cls := "GooseBorderModel", name := "padded", desc := "(II)I" } : MethodName)) ∈ gb_wA := gb_t7 40 rfl rfl
theorem w_1482 : (Cond.instanceMethod ({ cls := "GooseBorderModel", name := "padded", desc := "(II)I" } : MethodName)) ∈ gb_wA := gb_t7 42 rfl rfl
theorem s_5_7 : Cond.selects "GooseBorderModel" (⟨"GooseBorderModel", "padded", "(II)I"⟩ : MethodName) (⟨"GooseBorderModel", "padded", "(II)I"⟩ : MethodName) ∈ gb_wA := gb_s5 7 rfl rfl
theorem dX12_pay_16 : decode cX12_pay 16 = .ok (.imul, 1) := dc_104 (show ((cX12_pay.data.toList.drop 16).take 1).map UInt8.toNat = [104] by decide +kernel)
theorem dX12_pay_17 : decode cX12_pay 17 = .ok (.ireturn, 1) := dc_172 (show ((cX12_pay.data.toList.drop 17).take 1).map UInt8.toNat = [172] by decide +kernel)
def ms_pay (n : Nat) (f : gb_F) (w : Int64) (p1 : Int32) : gb_MR Int32 := gb_bd (ms_ofPath n f w p1 1) (fun f_1 wl_2 r_3 => gb_bd (ms_tally n f_1 wl_2 p1) (fun f_6 wl_7 r_8 => gb_bd (ms_padded n f_6 wl_7 r_8 p1) (fun f_11 wl_12 r_13 => some (f_11, wl_12, (r_3 * r_13)))))
set_option maxHeartbeats 8000000 in
set_option maxRecDepth 100000 in
theorem mc_pay (l : Launch) (D : va_G) (cT : Nat → ClassId) (tt : Nat → Nat) (b1 b : Nat) (hb1 : b1 ≤ b) (n : Nat) (f : gb_F) (w : Int64) (p1 : Int32) (fE : gb_F) (wE : Int64) (rE : Int32) (h : ms_pay n f w p1 = some (fE, wE, rE)) : Met l yX12_pay (.code yX12_pay cX12_pay 2 (some FieldType.int) :: gb_wA) ({ frames := 3, cells := 0, slots := 0, locals := 65 }) (gb_Pc D cT tt b1 [.ref (b + 0), .int p1] (fun h => va_P D vwCl (gb_wl b (gb_MW cT b f w)) h)) (gb_Qi (fun r h => r = rE ∧ va_P D vwCl (gb_wl b (gb_MW cT b fE wE)) h) (gb_fr b 22)) 0 0 (gb_fr b 22) := by
  refine Met.ofW (cc := cX12_pay) (maxL := 2) (ret := (some FieldType.int)) (by decide) rfl ?_
  intro p e s m args below meth c s₁ B hml hv
  obtain ⟨rfl, hSt, hP⟩ := hv
  have hx := B.exec
  have hb := B.bytes
  have hr := B.returns
  have hts := atoms_spec (ws := .code yX12_pay cX12_pay 2 (some FieldType.int) :: gb_wA) B.pre
  have hq : ∀ w ∈ gb_wA, w.before _ s = true := fun w h => hts w (List.mem_cons_of_mem _ h)
  have hown : s.vm.findClass RX12 = some m.cls := findClass_of_methodNamed B.named
  have hlocks := B.notSynchronized
  clear B hts
  have hK := hSt.1
  have hS : va_S (gb_fr b 22) s.heap s.heap [] := va_S.rf
  have hl := lv_entry ([.ref (b + 0), .int p1]) (n := 2) (Nat.le_of_ble_eq_true rfl)
  rw [lg_entry_eq]
  generalize (lg_sl ([.ref (b + 0), .int p1]) ++ List.replicate (2 - (lg_sl ([.ref (b + 0), .int p1])).length) Slot.unset).toArray = ls at hl ⊢
  replace hl : lv_has ls 2 [(0, .ref (b + 0)), (1, .int p1)] := hl
  unfold ms_pay at h
  refine lv_aload_n hx hb dX12_pay_0 rfl (lv_at hl 0 rfl) ?_
  refine lv_iload_n hx hb dX12_pay_1 rfl (lv_at hl 1 rfl) ?_
  refine lv_iconst (v := 1) hx hb dX12_pay_2 (by decide) ?_
  obtain ⟨f_1, wl_2, r_3, z_4, h⟩ := gb_bd_s h
  refine gb_calli (va_runV (C := RX12) (As := [.int p1, .int 1]) (rest := []) ⟨hx, hb, hml, hown, hq⟩ (mc_ofPath l D cT tt b1 b hb1 n f w p1 1 f_1 wl_2 r_3 z_4) (cwV 2 hq (gb_gV w_1388 w_1390 s_4_5 w_14 w_1391) rfl rfl rfl (by decide +kernel) ⟨Nat.le_of_ble_eq_true rfl, Nat.le_of_ble_eq_true rfl⟩) (gb_preV (r := (RX12, TX12, 44)) (ci := 10) (q0 := 0) hSt hP rfl (gb_at b rfl) hS (fun q h => Nat.le_trans hb1 h.1) hP) rfl rfl hl.1 rfl (lv_room (Nat.le_of_ble_eq_true rfl)) dX12_pay_3 ⟨Nat.le_of_ble_eq_true rfl, Nat.le_of_ble_eq_true rfl⟩) hS (fun _ h => h) (fun _ h => h) (fun q_5 H locs hY hk hS => ?_)
  obtain ⟨hq_5, hP⟩ := hY
  replace hq_5 := hq_5.symm
  subst hq_5
  refine lv_aload_n hx hb dX12_pay_6 rfl (lv_at hl 0 rfl) ?_
  refine lv_aload_n hx hb dX12_pay_7 rfl (lv_at hl 0 rfl) ?_
  refine lv_iload_n hx hb dX12_pay_8 rfl (lv_at hl 1 rfl) ?_
  obtain ⟨f_6, wl_7, r_8, z_9, h⟩ := gb_bd_s h
  refine gb_calli (va_runV (C := RX12) (As := [.int p1]) (rest := [.ref (b + 0), .int r_3]) ⟨hx, hb, hml, hown, hq⟩ (mc_tally l D cT tt b1 b hb1 n f_1 wl_2 p1 f_6 wl_7 r_8 z_9) (cwV 1 hq (gb_gV w_1476 w_1478 s_5_6 w_14 w_1479) rfl rfl rfl (by decide +kernel) ⟨Nat.le_of_ble_eq_true rfl, Nat.le_of_ble_eq_true rfl⟩) (gb_preV (r := (RX12, TX12, 44)) (ci := 10) (q0 := 0) hSt hP rfl (gb_at b rfl) hS (fun q h => Nat.le_trans hb1 h.1) hP) rfl rfl hl.1 rfl (lv_room (Nat.le_of_ble_eq_true rfl)) dX12_pay_9 ⟨Nat.le_of_ble_eq_true rfl, Nat.le_of_ble_eq_true rfl⟩) hS (fun _ h => h) (fun _ h => h) (fun q_10 H locs hY hk hS => ?_)
  obtain ⟨hq_10, hP⟩ := hY
  replace hq_10 := hq_10.symm
  subst hq_10
  refine lv_iload_n hx hb dX12_pay_12 rfl (lv_at hl 1 rfl) ?_
  obtain ⟨f_11, wl_12, r_13, z_14, h⟩ := gb_bd_s h
  refine gb_calli (va_runV (C := RX12) (As := [.int r_8, .int p1]) (rest := [.int r_3]) ⟨hx, hb, hml, hown, hq⟩ (mc_padded l D cT tt b1 b hb1 n f_6 wl_7 r_8 p1 f_11 wl_12 r_13 z_14) (cwV 2 hq (gb_gV w_1480 w_1482 s_5_7 w_14 w_1483) rfl rfl rfl (by decide +kernel) ⟨Nat.le_of_ble_eq_true rfl, Nat.le_of_ble_eq_true rfl⟩) (gb_preV (r := (RX12, TX12, 44)) (ci := 10) (q0 := 0) hSt hP rfl (gb_at b rfl) hS (fun q h => Nat.le_trans hb1 h.1) hP) rfl rfl hl.1 rfl (lv_room (Nat.le_of_ble_eq_true rfl)) dX12_pay_13 ⟨Nat.le_of_ble_eq_true rfl, Nat.le_of_ble_eq_true rfl⟩) hS (fun _ h => h) (fun _ h => h) (fun q_15 H locs hY hk hS => ?_)
  obtain ⟨hq_15, hP⟩ := hY
  replace hq_15 := hq_15.symm
  subst hq_15
  refine lv_imul hx hb dX12_pay_16 ?_
  obtain ⟨e1, e2, e3⟩ := gb_eq3 h
  exact W.iret (v := (r_3 * r_13)) hx hb hr (fun t ht hW => gb_ri ht ⟨e3, by rw [← e1, ← e2]; exact hP⟩ hS) hS.2.2 dX12_pay_17
theorem dX12_allPay_0 : decode cX12_allPay 0 = .ok (.iconst 0, 1) := dc_3 (show ((cX12_allPay.data.toList.drop 0).take 1).map UInt8.toNat = [3] by decide +kernel)
theorem dX12_allPay_1 : decode cX12_allPay 1 = .ok (.istore_n 1, 1) := dc_60 (show ((cX12_allPay.data.toList.drop 1).take 1).map UInt8.toNat = [60] by decide +kernel)
theorem dX12_allPay_2 : decode cX12_allPay 2 = .ok (.iconst 0, 1) := dc_3 (show ((cX12_allPay.data.toList.drop 2).take 1).map UInt8.toNat = [3] by decide +kernel)
theorem dX12_allPay_3 : decode cX12_allPay 3 = .ok (.istore_n 2, 1) := dc_61 (show ((cX12_allPay.data.toList.drop 3).take 1).map UInt8.toNat = [61] by decide +kernel)
theorem dX12_allPay_4 : decode cX12_allPay 4 = .ok (.iload_n 2, 1) := dc_28 (show ((cX12_allPay.data.toList.drop 4).take 1).map UInt8.toNat = [28] by decide +kernel)
theorem dX12_allPay_5 : decode cX12_allPay 5 = .ok (.aload_n 0, 1) := dc_42 (show ((cX12_allPay.data.toList.drop 5).take 1).map UInt8.toNat = [42] by decide +kernel)
theorem dX12_allPay_6 : decode cX12_allPay 6 = .ok (.invokevirtual 199, 3) := dc_182 (show ((cX12_allPay.data.toList.drop 6).take 3).map UInt8.toNat = [182, 0, 199] by decide +kernel) rfl
theorem dX12_allPay_9 : decode cX12_allPay 9 = .ok (.if_icmp .ge 17, 3) := dc_162 (show ((cX12_allPay.data.toList.drop 9).take 3).map UInt8.toNat = [162, 0, 17] by decide +kernel) rfl
theorem dX12_allPay_26 : decode cX12_allPay 26 = .ok (.iload_n 1, 1) := dc_27 (show ((cX12_allPay.data.toList.drop 26).take 1).map UInt8.toNat = [27] by decide +kernel)
theorem dX12_allPay_27 : decode cX12_allPay 27 = .ok (.ireturn, 1) := dc_172 (show ((cX12_allPay.data.toList.drop 27).take 1).map UInt8.toNat = [172] by decide +kernel)
theorem dX12_allPay_12 : decode cX12_allPay 12 = .ok (.iload_n 1, 1) := dc_27 (show ((cX12_allPay.data.toList.drop 12).take 1).map UInt8.toNat = [27] by decide +kernel)
theorem dX12_allPay_13 : decode cX12_allPay 13 = .ok (.aload_n 0, 1) := dc_42 (show ((cX12_allPay.data.toList.drop 13).take 1).map UInt8.toNat = [42] by decide +kernel)
theorem dX12_allPay_14 : decode cX12_allPay 14 = .ok (.iload_n 2, 1) := dc_28 (show ((cX12_allPay.data.toList.drop 14).take 1).map UInt8.toNat = [28] by decide +kernel)
theorem dX12_allPay_15 : decode cX12_allPay 15 = .ok (.invokevirtual 279, 3) := dc_182 (show ((cX12_allPay.data.toList.drop 15).take 3).map UInt8.toNat = [182, 1, 23] by decide +kernel) rfl
theorem w_1487 : (Cond.code ({ cls := "GooseBorderModel", name := "pay", desc := "(I)I" } : MethodName) prog_14_method_60_code (2 : Nat) (Option.some FieldType.int)) ∈ gb_wA := gb_t7 47 rfl rfl
theorem w_1484 : (Cond.methodLink "GooseBorderModel" (279 : Nat) ({ cls := "GooseBorderModel", name := "pay", desc := "(I)I" } : MethodName)) ∈ gb_wA := gb_t7 44 rfl rfl
theorem w_1486 : (Cond.instanceMethod ({ cls := "GooseBorderModel", name := "pay", desc := "(I)I" } : MethodName)) ∈ gb_wA := gb_t7 46 rfl rfl
theorem s_5_8 : Cond.selects "GooseBorderModel" (⟨"GooseBorderModel", "pay", "(I)I"⟩ : MethodName) (⟨"GooseBorderModel", "pay", "(I)I"⟩ : MethodName) ∈ gb_wA := gb_s5 8 rfl rfl
theorem dX12_allPay_18 : decode cX12_allPay 18 = .ok (.iadd, 1) := dc_96 (show ((cX12_allPay.data.toList.drop 18).take 1).map UInt8.toNat = [96] by decide +kernel)
theorem dX12_allPay_19 : decode cX12_allPay 19 = .ok (.istore_n 1, 1) := dc_60 (show ((cX12_allPay.data.toList.drop 19).take 1).map UInt8.toNat = [60] by decide +kernel)
theorem dX12_allPay_20 : decode cX12_allPay 20 = .ok (.iinc 2 1, 3) := dc_132 (show ((cX12_allPay.data.toList.drop 20).take 3).map UInt8.toNat = [132, 2, 1] by decide +kernel) rfl
theorem dX12_allPay_23 : decode cX12_allPay 23 = .ok (.goto (-19), 3) := dc_167 (show ((cX12_allPay.data.toList.drop 23).take 3).map UInt8.toNat = [167, 255, 237] by decide +kernel) rfl
def ms_allPay_4 (n : Nat) : Nat → gb_F → Int64 → Int32 → Int32 → gb_MR Int32
  | 0, _, _, _, _ => none
  | mm + 1, f, w, v1, v2 => gb_bd (ms_paths n f w) (fun f_1 wl_2 r_3 => (if r_3 ≤ v2 then some (f_1, wl_2, v1) else gb_bd (ms_pay n f_1 wl_2 v2) (fun f_7 wl_8 r_9 => gb_lt (v1 + r_9) (fun x_12 => gb_lt (v2 + 1) (fun x_13 => ms_allPay_4 n mm f_7 wl_8 x_12 x_13)))))
def ms_allPay (n : Nat) (f : gb_F) (w : Int64) : gb_MR Int32 := ms_allPay_4 n n f w 0 0
set_option maxHeartbeats 8000000 in
set_option maxRecDepth 100000 in
theorem mc_allPay (l : Launch) (D : va_G) (cT : Nat → ClassId) (tt : Nat → Nat) (b1 b : Nat) (hb1 : b1 ≤ b) (n : Nat) (f : gb_F) (w : Int64) (fE : gb_F) (wE : Int64) (rE : Int32) (h : ms_allPay n f w = some (fE, wE, rE)) : Met l yX12_allPay (.code yX12_allPay cX12_allPay 3 (some FieldType.int) :: gb_wA) ({ frames := 4, cells := 0, slots := 0, locals := 86 }) (gb_Pc D cT tt b1 [.ref (b + 0)] (fun h => va_P D vwCl (gb_wl b (gb_MW cT b f w)) h)) (gb_Qi (fun r h => r = rE ∧ va_P D vwCl (gb_wl b (gb_MW cT b fE wE)) h) (gb_fr b 22)) 0 0 (gb_fr b 22) := by
  refine Met.ofW (cc := cX12_allPay) (maxL := 3) (ret := (some FieldType.int)) (by decide) rfl ?_
  intro p e s m args below meth c s₁ B hml hv
  obtain ⟨rfl, hSt, hP⟩ := hv
  have hx := B.exec
  have hb := B.bytes
  have hr := B.returns
  have hts := atoms_spec (ws := .code yX12_allPay cX12_allPay 3 (some FieldType.int) :: gb_wA) B.pre
  have hq : ∀ w ∈ gb_wA, w.before _ s = true := fun w h => hts w (List.mem_cons_of_mem _ h)
  have hown : s.vm.findClass RX12 = some m.cls := findClass_of_methodNamed B.named
  have hlocks := B.notSynchronized
  clear B hts
  have hK := hSt.1
  have hS : va_S (gb_fr b 22) s.heap s.heap [] := va_S.rf
  have hl := lv_entry ([.ref (b + 0)]) (n := 3) (Nat.le_of_ble_eq_true rfl)
  rw [lg_entry_eq]
  generalize (lg_sl ([.ref (b + 0)]) ++ List.replicate (3 - (lg_sl ([.ref (b + 0)])).length) Slot.unset).toArray = ls at hl ⊢
  replace hl : lv_has ls 3 [(0, .ref (b + 0))] := hl
  have L4 : ∀ (mm : Nat) (f : gb_F) (w : Int64) (v1 : Int32) (v2 : Int32) (H : Heap) (locs : List Loc) (ls : Array Slot), ms_allPay_4 n mm f w v1 v2 = some (fE, wE, rE) → va_P D vwCl (gb_wl b (gb_MW cT b f w)) H → va_S (gb_fr b 22) s.heap H locs → lv_has ls 3 [(0, .ref (b + 0)), (1, .int v1), (2, .int v2)] → W p l e (headSpec (.code yX12_allPay cX12_allPay 3 (some FieldType.int) :: gb_wA) ({ frames := 4, cells := 0, slots := 0, locals := 86 })).room s m ([.ref (b + 0)]).toArray below meth c H locs 0 0 (MQ below (gb_Qi (fun r h => r = rE ∧ va_P D vwCl (gb_wl b (gb_MW cT b fE wE)) h) (gb_fr b 22)) ([.ref (b + 0)]).toArray s 0 0 (gb_fr b 22)) (F0 m 4 ls []) := by
    clear h hP hS hl ls f w
    intro mm
    induction mm with
    | zero =>
      intro f w v1 v2 H locs ls h
      cases h
    | succ mm ih =>
      intro f w v1 v2 H locs ls h hP hS hl
      rw [ms_allPay_4] at h
      refine lv_iload_n hx hb dX12_allPay_4 rfl (lv_at hl 2 rfl) ?_
      refine lv_aload_n hx hb dX12_allPay_5 rfl (lv_at hl 0 rfl) ?_
      obtain ⟨f_1, wl_2, r_3, z_4, h⟩ := gb_bd_s h
      refine gb_calli (va_runV (C := RX12) (As := []) (rest := [.int v2]) ⟨hx, hb, hml, hown, hq⟩ (mc_paths l D cT tt b1 b hb1 n f w f_1 wl_2 r_3 z_4) (cwV 0 hq (gb_gV w_1384 w_1386 s_4_4 w_14 w_1387) rfl rfl rfl (by decide +kernel) ⟨Nat.le_of_ble_eq_true rfl, Nat.le_of_ble_eq_true rfl⟩) (gb_preV (r := (RX12, TX12, 44)) (ci := 10) (q0 := 0) hSt hP rfl (gb_at b rfl) hS (fun q h => Nat.le_trans hb1 h.1) hP) rfl rfl hl.1 rfl (lv_room (Nat.le_of_ble_eq_true rfl)) dX12_allPay_6 ⟨Nat.le_of_ble_eq_true rfl, Nat.le_of_ble_eq_true rfl⟩) hS (fun _ h => h) (fun _ h => h) (fun q_5 H locs hY hk hS => ?_)
      obtain ⟨hq_5, hP⟩ := hY
      replace hq_5 := hq_5.symm
      subst hq_5
      refine lv_icmp_ge (tgt := 26) hx hb dX12_allPay_9 (by decide) (fun c_6 => ?_) (fun c_6 => ?_)
      · rw [if_pos c_6] at h
        refine lv_iload_n hx hb dX12_allPay_26 rfl (lv_at hl 1 rfl) ?_
        obtain ⟨e1, e2, e3⟩ := gb_eq3 h
        exact W.iret (v := v1) hx hb hr (fun t ht hW => gb_ri ht ⟨e3, by rw [← e1, ← e2]; exact hP⟩ hS) hS.2.2 dX12_allPay_27
      · rw [if_neg c_6] at h
        refine lv_iload_n hx hb dX12_allPay_12 rfl (lv_at hl 1 rfl) ?_
        refine lv_aload_n hx hb dX12_allPay_13 rfl (lv_at hl 0 rfl) ?_
        refine lv_iload_n hx hb dX12_allPay_14 rfl (lv_at hl 2 rfl) ?_
        obtain ⟨f_7, wl_8, r_9, z_10, h⟩ := gb_bd_s h
        refine gb_calli (va_runV (C := RX12) (As := [.int v2]) (rest := [.int v1]) ⟨hx, hb, hml, hown, hq⟩ (mc_pay l D cT tt b1 b hb1 n f_1 wl_2 v2 f_7 wl_8 r_9 z_10) (cwV 1 hq (gb_gV w_1484 w_1486 s_5_8 w_14 w_1487) rfl rfl rfl (by decide +kernel) ⟨Nat.le_of_ble_eq_true rfl, Nat.le_of_ble_eq_true rfl⟩) (gb_preV (r := (RX12, TX12, 44)) (ci := 10) (q0 := 0) hSt hP rfl (gb_at b rfl) hS (fun q h => Nat.le_trans hb1 h.1) hP) rfl rfl hl.1 rfl (lv_room (Nat.le_of_ble_eq_true rfl)) dX12_allPay_15 ⟨Nat.le_of_ble_eq_true rfl, Nat.le_of_ble_eq_true rfl⟩) hS (fun _ h => h) (fun _ h => h) (fun q_11 H locs hY hk hS => ?_)
        obtain ⟨hq_11, hP⟩ := hY
        replace hq_11 := hq_11.symm
        subst hq_11
        refine lv_iadd hx hb dX12_allPay_18 ?_
        refine lv_topi (fun x_12 ex_12 => ?_)
        replace h := gb_lt_s ex_12 h
        refine lv_istore_n (lv' := [(1, .int x_12), (0, .ref (b + 0)), (2, .int v2)]) hx hb dX12_allPay_19 rfl hl (by decide) rfl (fun ls hl => ?_)
        obtain ⟨x_13, ex_13⟩ : ∃ q, q = (v2 + 1) := ⟨_, rfl⟩
        replace h := gb_lt_s ex_13 h
        refine lv_iinc (v := x_13) (lv' := [(2, .int x_13), (1, .int x_12), (0, .ref (b + 0))]) hx hb dX12_allPay_20 hl (k := 2) rfl (by rw [ex_13]; rfl) (by decide) rfl (fun ls hl => ?_)
        refine lv_goto (tgt := 4) hx hb dX12_allPay_23 (by decide) ?_
        exact ih _ _ _ _ _ _ _ h hP hS (lv_sub hl [2, 1, 0] rfl)
  unfold ms_allPay at h
  refine lv_iconst (v := 0) hx hb dX12_allPay_0 (by decide) ?_
  refine lv_istore_n (lv' := [(1, .int 0), (0, .ref (b + 0))]) hx hb dX12_allPay_1 rfl hl (by decide) rfl (fun ls hl => ?_)
  refine lv_iconst (v := 0) hx hb dX12_allPay_2 (by decide) ?_
  refine lv_istore_n (lv' := [(2, .int 0), (1, .int 0), (0, .ref (b + 0))]) hx hb dX12_allPay_3 rfl hl (by decide) rfl (fun ls hl => ?_)
  exact L4 n _ _ _ _ _ _ _ h hP hS (lv_sub hl [2, 1, 0] rfl)
theorem dX12_path_0 : decode cX12_path 0 = .ok (.aload_n 0, 1) := dc_42 (show ((cX12_path.data.toList.drop 0).take 1).map UInt8.toNat = [42] by decide +kernel)
theorem dX12_path_1 : decode cX12_path 1 = .ok (.iload_n 1, 1) := dc_27 (show ((cX12_path.data.toList.drop 1).take 1).map UInt8.toNat = [27] by decide +kernel)
theorem dX12_path_2 : decode cX12_path 2 = .ok (.iload_n 2, 1) := dc_28 (show ((cX12_path.data.toList.drop 2).take 1).map UInt8.toNat = [28] by decide +kernel)
theorem dX12_path_3 : decode cX12_path 3 = .ok (.iload_n 3, 1) := dc_29 (show ((cX12_path.data.toList.drop 3).take 1).map UInt8.toNat = [29] by decide +kernel)
theorem dX12_path_4 : decode cX12_path 4 = .ok (.invokevirtual 270, 3) := dc_182 (show ((cX12_path.data.toList.drop 4).take 3).map UInt8.toNat = [182, 1, 14] by decide +kernel) rfl
theorem dX12_path_7 : decode cX12_path 7 = .ok (.ifCond .eq 12, 3) := dc_153 (show ((cX12_path.data.toList.drop 7).take 3).map UInt8.toNat = [153, 0, 12] by decide +kernel) rfl
theorem dX12_path_19 : decode cX12_path 19 = .ok (.bipush (-2), 2) := dc_16 (show ((cX12_path.data.toList.drop 19).take 2).map UInt8.toNat = [16, 254] by decide +kernel) rfl
theorem dX12_path_21 : decode cX12_path 21 = .ok (.ireturn, 1) := dc_172 (show ((cX12_path.data.toList.drop 21).take 1).map UInt8.toNat = [172] by decide +kernel)
theorem dX12_path_10 : decode cX12_path 10 = .ok (.aload_n 0, 1) := dc_42 (show ((cX12_path.data.toList.drop 10).take 1).map UInt8.toNat = [42] by decide +kernel)
theorem dX12_path_11 : decode cX12_path 11 = .ok (.iload 4, 2) := dc_21 (show ((cX12_path.data.toList.drop 11).take 2).map UInt8.toNat = [21, 4] by decide +kernel) rfl
theorem dX12_path_13 : decode cX12_path 13 = .ok (.invokevirtual 208, 3) := dc_182 (show ((cX12_path.data.toList.drop 13).take 3).map UInt8.toNat = [182, 0, 208] by decide +kernel) rfl
theorem dX12_path_16 : decode cX12_path 16 = .ok (.ifCond .ne 6, 3) := dc_154 (show ((cX12_path.data.toList.drop 16).take 3).map UInt8.toNat = [154, 0, 6] by decide +kernel) rfl
theorem dX12_path_22 : decode cX12_path 22 = .ok (.iload 5, 2) := dc_21 (show ((cX12_path.data.toList.drop 22).take 2).map UInt8.toNat = [21, 5] by decide +kernel) rfl
theorem dX12_path_24 : decode cX12_path 24 = .ok (.tableswitch 91 0 5 #[40, 48, 56, 63, 76, 83], 40) := by decide +kernel
theorem dX12_path_64 : decode cX12_path 64 = .ok (.aload_n 0, 1) := dc_42 (show ((cX12_path.data.toList.drop 64).take 1).map UInt8.toNat = [42] by decide +kernel)
theorem dX12_path_65 : decode cX12_path 65 = .ok (.getfield 38, 3) := dc_180 (show ((cX12_path.data.toList.drop 65).take 3).map UInt8.toNat = [180, 0, 38] by decide +kernel) rfl
theorem dX12_path_68 : decode cX12_path 68 = .ok (.iload 4, 2) := dc_21 (show ((cX12_path.data.toList.drop 68).take 2).map UInt8.toNat = [21, 4] by decide +kernel) rfl
theorem dX12_path_70 : decode cX12_path 70 = .ok (.iaload, 1) := dc_46 (show ((cX12_path.data.toList.drop 70).take 1).map UInt8.toNat = [46] by decide +kernel)
theorem dX12_path_71 : decode cX12_path 71 = .ok (.ireturn, 1) := dc_172 (show ((cX12_path.data.toList.drop 71).take 1).map UInt8.toNat = [172] by decide +kernel)
theorem dX12_path_72 : decode cX12_path 72 = .ok (.aload_n 0, 1) := dc_42 (show ((cX12_path.data.toList.drop 72).take 1).map UInt8.toNat = [42] by decide +kernel)
theorem dX12_path_73 : decode cX12_path 73 = .ok (.getfield 41, 3) := dc_180 (show ((cX12_path.data.toList.drop 73).take 3).map UInt8.toNat = [180, 0, 41] by decide +kernel) rfl
theorem dX12_path_76 : decode cX12_path 76 = .ok (.iload 4, 2) := dc_21 (show ((cX12_path.data.toList.drop 76).take 2).map UInt8.toNat = [21, 4] by decide +kernel) rfl
theorem dX12_path_78 : decode cX12_path 78 = .ok (.iaload, 1) := dc_46 (show ((cX12_path.data.toList.drop 78).take 1).map UInt8.toNat = [46] by decide +kernel)
theorem dX12_path_79 : decode cX12_path 79 = .ok (.ireturn, 1) := dc_172 (show ((cX12_path.data.toList.drop 79).take 1).map UInt8.toNat = [172] by decide +kernel)
theorem dX12_path_80 : decode cX12_path 80 = .ok (.aload_n 0, 1) := dc_42 (show ((cX12_path.data.toList.drop 80).take 1).map UInt8.toNat = [42] by decide +kernel)
theorem dX12_path_81 : decode cX12_path 81 = .ok (.iload 4, 2) := dc_21 (show ((cX12_path.data.toList.drop 81).take 2).map UInt8.toNat = [21, 4] by decide +kernel) rfl
theorem dX12_path_83 : decode cX12_path 83 = .ok (.invokevirtual 273, 3) := dc_182 (show ((cX12_path.data.toList.drop 83).take 3).map UInt8.toNat = [182, 1, 17] by decide +kernel) rfl
theorem dX12_path_86 : decode cX12_path 86 = .ok (.ireturn, 1) := dc_172 (show ((cX12_path.data.toList.drop 86).take 1).map UInt8.toNat = [172] by decide +kernel)
theorem dX12_path_87 : decode cX12_path 87 = .ok (.aload_n 0, 1) := dc_42 (show ((cX12_path.data.toList.drop 87).take 1).map UInt8.toNat = [42] by decide +kernel)
theorem dX12_path_88 : decode cX12_path 88 = .ok (.aload_n 0, 1) := dc_42 (show ((cX12_path.data.toList.drop 88).take 1).map UInt8.toNat = [42] by decide +kernel)
theorem dX12_path_89 : decode cX12_path 89 = .ok (.iload 4, 2) := dc_21 (show ((cX12_path.data.toList.drop 89).take 2).map UInt8.toNat = [21, 4] by decide +kernel) rfl
theorem dX12_path_91 : decode cX12_path 91 = .ok (.invokevirtual 273, 3) := dc_182 (show ((cX12_path.data.toList.drop 91).take 3).map UInt8.toNat = [182, 1, 17] by decide +kernel) rfl
theorem dX12_path_94 : decode cX12_path 94 = .ok (.iload 4, 2) := dc_21 (show ((cX12_path.data.toList.drop 94).take 2).map UInt8.toNat = [21, 4] by decide +kernel) rfl
theorem dX12_path_96 : decode cX12_path 96 = .ok (.invokevirtual 276, 3) := dc_182 (show ((cX12_path.data.toList.drop 96).take 3).map UInt8.toNat = [182, 1, 20] by decide +kernel) rfl
theorem dX12_path_99 : decode cX12_path 99 = .ok (.ireturn, 1) := dc_172 (show ((cX12_path.data.toList.drop 99).take 1).map UInt8.toNat = [172] by decide +kernel)
theorem dX12_path_100 : decode cX12_path 100 = .ok (.aload_n 0, 1) := dc_42 (show ((cX12_path.data.toList.drop 100).take 1).map UInt8.toNat = [42] by decide +kernel)
theorem dX12_path_101 : decode cX12_path 101 = .ok (.iload 4, 2) := dc_21 (show ((cX12_path.data.toList.drop 101).take 2).map UInt8.toNat = [21, 4] by decide +kernel) rfl
theorem dX12_path_103 : decode cX12_path 103 = .ok (.invokevirtual 279, 3) := dc_182 (show ((cX12_path.data.toList.drop 103).take 3).map UInt8.toNat = [182, 1, 23] by decide +kernel) rfl
theorem dX12_path_106 : decode cX12_path 106 = .ok (.ireturn, 1) := dc_172 (show ((cX12_path.data.toList.drop 106).take 1).map UInt8.toNat = [172] by decide +kernel)
theorem dX12_path_107 : decode cX12_path 107 = .ok (.aload_n 0, 1) := dc_42 (show ((cX12_path.data.toList.drop 107).take 1).map UInt8.toNat = [42] by decide +kernel)
theorem dX12_path_108 : decode cX12_path 108 = .ok (.getfield 44, 3) := dc_180 (show ((cX12_path.data.toList.drop 108).take 3).map UInt8.toNat = [180, 0, 44] by decide +kernel) rfl
theorem dX12_path_111 : decode cX12_path 111 = .ok (.iload 4, 2) := dc_21 (show ((cX12_path.data.toList.drop 111).take 2).map UInt8.toNat = [21, 4] by decide +kernel) rfl
theorem dX12_path_113 : decode cX12_path 113 = .ok (.iaload, 1) := dc_46 (show ((cX12_path.data.toList.drop 113).take 1).map UInt8.toNat = [46] by decide +kernel)
theorem dX12_path_114 : decode cX12_path 114 = .ok (.ireturn, 1) := dc_172 (show ((cX12_path.data.toList.drop 114).take 1).map UInt8.toNat = [172] by decide +kernel)
theorem dX12_path_115 : decode cX12_path 115 = .ok (.bipush (-2), 2) := dc_16 (show ((cX12_path.data.toList.drop 115).take 2).map UInt8.toNat = [16, 254] by decide +kernel) rfl
theorem dX12_path_117 : decode cX12_path 117 = .ok (.ireturn, 1) := dc_172 (show ((cX12_path.data.toList.drop 117).take 1).map UInt8.toNat = [172] by decide +kernel)
def ms_path (n : Nat) (f : gb_F) (w : Int64) (p1 : Int32) (p2 : Int32) (p3 : Int32) (p4 : Int32) (p5 : Int32) : gb_MR Int32 := gb_bd (ms_isState n f w p1 p2 p3) (fun f_1 wl_2 r_3 => (if r_3 = 0 then some (f_1, wl_2, (-2)) else gb_bd (ms_isPath n f_1 wl_2 p4) (fun f_7 wl_8 r_9 => (if r_9 = 0 then some (f_7, wl_8, (-2)) else (if p5 = (0 : Int32) then gb_ck p4 5 (gb_lt (f_7 10 (Int32.toNatClampNeg p4)) (fun x_15 => some (f_7, wl_8, x_15))) else (if p5 = (1 : Int32) then gb_ck p4 5 (gb_lt (f_7 11 (Int32.toNatClampNeg p4)) (fun x_18 => some (f_7, wl_8, x_18))) else (if p5 = (2 : Int32) then gb_bd (ms_tally n f_7 wl_8 p4) (fun f_20 wl_21 r_22 => some (f_20, wl_21, r_22)) else (if p5 = (3 : Int32) then gb_bd (ms_tally n f_7 wl_8 p4) (fun f_26 wl_27 r_28 => gb_bd (ms_padded n f_26 wl_27 r_28 p4) (fun f_31 wl_32 r_33 => some (f_31, wl_32, r_33))) else (if p5 = (4 : Int32) then gb_bd (ms_pay n f_7 wl_8 p4) (fun f_37 wl_38 r_39 => some (f_37, wl_38, r_39)) else (if p5 = (5 : Int32) then gb_ck p4 5 (gb_lt (f_7 12 (Int32.toNatClampNeg p4)) (fun x_44 => some (f_7, wl_8, x_44))) else some (f_7, wl_8, (-2))))))))))))
set_option maxHeartbeats 8000000 in
set_option maxRecDepth 100000 in
theorem mc_path (l : Launch) (D : va_G) (cT : Nat → ClassId) (tt : Nat → Nat) (b1 b : Nat) (hb1 : b1 ≤ b) (n : Nat) (f : gb_F) (w : Int64) (p1 : Int32) (p2 : Int32) (p3 : Int32) (p4 : Int32) (p5 : Int32) (fE : gb_F) (wE : Int64) (rE : Int32) (h : ms_path n f w p1 p2 p3 p4 p5 = some (fE, wE, rE)) : Met l yX12_path (.code yX12_path cX12_path 6 (some FieldType.int) :: gb_wA) ({ frames := 7, cells := 0, slots := 0, locals := 164 }) (gb_Pc D cT tt b1 [.ref (b + 0), .int p1, .int p2, .int p3, .int p4, .int p5] (fun h => va_P D vwCl (gb_wl b (gb_MW cT b f w)) h)) (gb_Qi (fun r h => r = rE ∧ va_P D vwCl (gb_wl b (gb_MW cT b fE wE)) h) (gb_fr b 22)) 0 0 (gb_fr b 22) := by
  refine Met.ofW (cc := cX12_path) (maxL := 6) (ret := (some FieldType.int)) (by decide) rfl ?_
  intro p e s m args below meth c s₁ B hml hv
  obtain ⟨rfl, hSt, hP⟩ := hv
  have hx := B.exec
  have hb := B.bytes
  have hr := B.returns
  have hts := atoms_spec (ws := .code yX12_path cX12_path 6 (some FieldType.int) :: gb_wA) B.pre
  have hq : ∀ w ∈ gb_wA, w.before _ s = true := fun w h => hts w (List.mem_cons_of_mem _ h)
  have hown : s.vm.findClass RX12 = some m.cls := findClass_of_methodNamed B.named
  have hlocks := B.notSynchronized
  clear B hts
  have hK := hSt.1
  have hS : va_S (gb_fr b 22) s.heap s.heap [] := va_S.rf
  have hl := lv_entry ([.ref (b + 0), .int p1, .int p2, .int p3, .int p4, .int p5]) (n := 6) (Nat.le_of_ble_eq_true rfl)
  rw [lg_entry_eq]
  generalize (lg_sl ([.ref (b + 0), .int p1, .int p2, .int p3, .int p4, .int p5]) ++ List.replicate (6 - (lg_sl ([.ref (b + 0), .int p1, .int p2, .int p3, .int p4, .int p5])).length) Slot.unset).toArray = ls at hl ⊢
  replace hl : lv_has ls 6 [(0, .ref (b + 0)), (1, .int p1), (2, .int p2), (3, .int p3), (4, .int p4), (5, .int p5)] := hl
  unfold ms_path at h
  refine lv_aload_n hx hb dX12_path_0 rfl (lv_at hl 0 rfl) ?_
  refine lv_iload_n hx hb dX12_path_1 rfl (lv_at hl 1 rfl) ?_
  refine lv_iload_n hx hb dX12_path_2 rfl (lv_at hl 2 rfl) ?_
  refine lv_iload_n hx hb dX12_path_3 rfl (lv_at hl 3 rfl) ?_
  obtain ⟨f_1, wl_2, r_3, z_4, h⟩ := gb_bd_s h
  refine gb_calli (va_runV (C := RX12) (As := [.int p1, .int p2, .int p3]) (rest := []) ⟨hx, hb, hml, hown, hq⟩ (mc_isState l D cT tt b1 b hb1 n f w p1 p2 p3 f_1 wl_2 r_3 z_4) (cwV 3 hq (gb_gV w_1468 w_1470 s_5_5 w_14 w_1471) rfl rfl rfl (by decide +kernel) ⟨Nat.le_of_ble_eq_true rfl, Nat.le_of_ble_eq_true rfl⟩) (gb_preV (r := (RX12, TX12, 44)) (ci := 10) (q0 := 0) hSt hP rfl (gb_at b rfl) hS (fun q h => Nat.le_trans hb1 h.1) hP) rfl rfl hl.1 rfl (lv_room (Nat.le_of_ble_eq_true rfl)) dX12_path_4 ⟨Nat.le_of_ble_eq_true rfl, Nat.le_of_ble_eq_true rfl⟩) hS (fun _ h => h) (fun _ h => h) (fun q_5 H locs hY hk hS => ?_)
  obtain ⟨hq_5, hP⟩ := hY
  replace hq_5 := hq_5.symm
  subst hq_5
  refine lv_if_eq (tgt := 19) hx hb dX12_path_7 (by decide) (fun c_6 => ?_) (fun c_6 => ?_)
  · rw [if_pos c_6] at h
    refine lv_bipush (v := (-2)) hx hb dX12_path_19 (by decide) ?_
    obtain ⟨e1, e2, e3⟩ := gb_eq3 h
    exact W.iret (v := (-2)) hx hb hr (fun t ht hW => gb_ri ht ⟨e3, by rw [← e1, ← e2]; exact hP⟩ hS) hS.2.2 dX12_path_21
  · rw [if_neg c_6] at h
    refine lv_aload_n hx hb dX12_path_10 rfl (lv_at hl 0 rfl) ?_
    refine lv_iload hx hb dX12_path_11 (lv_at hl 4 rfl) ?_
    obtain ⟨f_7, wl_8, r_9, z_10, h⟩ := gb_bd_s h
    refine gb_calli (va_runV (C := RX12) (As := [.int p4]) (rest := []) ⟨hx, hb, hml, hown, hq⟩ (mc_isPath l D cT tt b1 b hb1 n f_1 wl_2 p4 f_7 wl_8 r_9 z_10) (cwV 1 hq (gb_gV w_1380 w_1382 s_4_3 w_14 w_1383) rfl rfl rfl (by decide +kernel) ⟨Nat.le_of_ble_eq_true rfl, Nat.le_of_ble_eq_true rfl⟩) (gb_preV (r := (RX12, TX12, 44)) (ci := 10) (q0 := 0) hSt hP rfl (gb_at b rfl) hS (fun q h => Nat.le_trans hb1 h.1) hP) rfl rfl hl.1 rfl (lv_room (Nat.le_of_ble_eq_true rfl)) dX12_path_13 ⟨Nat.le_of_ble_eq_true rfl, Nat.le_of_ble_eq_true rfl⟩) hS (fun _ h => h) (fun _ h => h) (fun q_11 H locs hY hk hS => ?_)
    obtain ⟨hq_11, hP⟩ := hY
    replace hq_11 := hq_11.symm
    subst hq_11
    refine lv_if_ne (tgt := 22) hx hb dX12_path_16 (by decide) (fun c_12 => ?_) (fun c_12 => ?_)
    · rw [if_neg c_12] at h
      refine lv_iload hx hb dX12_path_22 (lv_at hl 5 rfl) ?_
      by_cases c_13 : p5 = (0 : Int32)
      · rw [if_pos c_13] at h
        refine lv_tableIn (off := 40) (tgt := 64) hx hb dX12_path_24 (by rw [c_13]; decide) (by rw [c_13]; decide) (by rw [c_13]; decide) (by decide) ?_
        refine lv_aload_n hx hb dX12_path_64 rfl (lv_at hl 0 rfl) ?_
        refine va_get (ci := 10) (v := (.ref (b + 10))) (C := RX12) (T := TX12) (N := 44) hx hb hq i_X12 hown hK hP 0 (gb_at b rfl) rfl 19 (by decide) (hq _ w_1143) (fun _ h9 => h9) rfl dX12_path_65 ?_
        refine lv_iload hx hb dX12_path_68 (lv_at hl 4 rfl) ?_
        obtain ⟨z_14, h⟩ := gb_ck_s h
        refine va_iald hx hb hK hP 10 0 (gb_at b rfl) rfl z_14 dX12_path_70 ?_
        refine lv_topi (fun x_15 ex_15 => ?_)
        replace h := gb_lt_s ex_15 h
        obtain ⟨e1, e2, e3⟩ := gb_eq3 h
        exact W.iret (v := x_15) hx hb hr (fun t ht hW => gb_ri ht ⟨e3, by rw [← e1, ← e2]; exact hP⟩ hS) hS.2.2 dX12_path_71
      rw [if_neg c_13] at h
      by_cases c_16 : p5 = (1 : Int32)
      · rw [if_pos c_16] at h
        refine lv_tableIn (off := 48) (tgt := 72) hx hb dX12_path_24 (by rw [c_16]; decide) (by rw [c_16]; decide) (by rw [c_16]; decide) (by decide) ?_
        refine lv_aload_n hx hb dX12_path_72 rfl (lv_at hl 0 rfl) ?_
        refine va_get (ci := 10) (v := (.ref (b + 11))) (C := RX12) (T := TX12) (N := 44) hx hb hq i_X12 hown hK hP 0 (gb_at b rfl) rfl 20 (by decide) (hq _ w_1144) (fun _ h9 => h9) rfl dX12_path_73 ?_
        refine lv_iload hx hb dX12_path_76 (lv_at hl 4 rfl) ?_
        obtain ⟨z_17, h⟩ := gb_ck_s h
        refine va_iald hx hb hK hP 11 0 (gb_at b rfl) rfl z_17 dX12_path_78 ?_
        refine lv_topi (fun x_18 ex_18 => ?_)
        replace h := gb_lt_s ex_18 h
        obtain ⟨e1, e2, e3⟩ := gb_eq3 h
        exact W.iret (v := x_18) hx hb hr (fun t ht hW => gb_ri ht ⟨e3, by rw [← e1, ← e2]; exact hP⟩ hS) hS.2.2 dX12_path_79
      rw [if_neg c_16] at h
      by_cases c_19 : p5 = (2 : Int32)
      · rw [if_pos c_19] at h
        refine lv_tableIn (off := 56) (tgt := 80) hx hb dX12_path_24 (by rw [c_19]; decide) (by rw [c_19]; decide) (by rw [c_19]; decide) (by decide) ?_
        refine lv_aload_n hx hb dX12_path_80 rfl (lv_at hl 0 rfl) ?_
        refine lv_iload hx hb dX12_path_81 (lv_at hl 4 rfl) ?_
        obtain ⟨f_20, wl_21, r_22, z_23, h⟩ := gb_bd_s h
        refine gb_calli (va_runV (C := RX12) (As := [.int p4]) (rest := []) ⟨hx, hb, hml, hown, hq⟩ (mc_tally l D cT tt b1 b hb1 n f_7 wl_8 p4 f_20 wl_21 r_22 z_23) (cwV 1 hq (gb_gV w_1476 w_1478 s_5_6 w_14 w_1479) rfl rfl rfl (by decide +kernel) ⟨Nat.le_of_ble_eq_true rfl, Nat.le_of_ble_eq_true rfl⟩) (gb_preV (r := (RX12, TX12, 44)) (ci := 10) (q0 := 0) hSt hP rfl (gb_at b rfl) hS (fun q h => Nat.le_trans hb1 h.1) hP) rfl rfl hl.1 rfl (lv_room (Nat.le_of_ble_eq_true rfl)) dX12_path_83 ⟨Nat.le_of_ble_eq_true rfl, Nat.le_of_ble_eq_true rfl⟩) hS (fun _ h => h) (fun _ h => h) (fun q_24 H locs hY hk hS => ?_)
        obtain ⟨hq_24, hP⟩ := hY
        replace hq_24 := hq_24.symm
        subst hq_24
        obtain ⟨e1, e2, e3⟩ := gb_eq3 h
        exact W.iret (v := r_22) hx hb hr (fun t ht hW => gb_ri ht ⟨e3, by rw [← e1, ← e2]; exact hP⟩ hS) hS.2.2 dX12_path_86
      rw [if_neg c_19] at h
      by_cases c_25 : p5 = (3 : Int32)
      · rw [if_pos c_25] at h
        refine lv_tableIn (off := 63) (tgt := 87) hx hb dX12_path_24 (by rw [c_25]; decide) (by rw [c_25]; decide) (by rw [c_25]; decide) (by decide) ?_
        refine lv_aload_n hx hb dX12_path_87 rfl (lv_at hl 0 rfl) ?_
        refine lv_aload_n hx hb dX12_path_88 rfl (lv_at hl 0 rfl) ?_
        refine lv_iload hx hb dX12_path_89 (lv_at hl 4 rfl) ?_
        obtain ⟨f_26, wl_27, r_28, z_29, h⟩ := gb_bd_s h
        refine gb_calli (va_runV (C := RX12) (As := [.int p4]) (rest := [.ref (b + 0)]) ⟨hx, hb, hml, hown, hq⟩ (mc_tally l D cT tt b1 b hb1 n f_7 wl_8 p4 f_26 wl_27 r_28 z_29) (cwV 1 hq (gb_gV w_1476 w_1478 s_5_6 w_14 w_1479) rfl rfl rfl (by decide +kernel) ⟨Nat.le_of_ble_eq_true rfl, Nat.le_of_ble_eq_true rfl⟩) (gb_preV (r := (RX12, TX12, 44)) (ci := 10) (q0 := 0) hSt hP rfl (gb_at b rfl) hS (fun q h => Nat.le_trans hb1 h.1) hP) rfl rfl hl.1 rfl (lv_room (Nat.le_of_ble_eq_true rfl)) dX12_path_91 ⟨Nat.le_of_ble_eq_true rfl, Nat.le_of_ble_eq_true rfl⟩) hS (fun _ h => h) (fun _ h => h) (fun q_30 H locs hY hk hS => ?_)
        obtain ⟨hq_30, hP⟩ := hY
        replace hq_30 := hq_30.symm
        subst hq_30
        refine lv_iload hx hb dX12_path_94 (lv_at hl 4 rfl) ?_
        obtain ⟨f_31, wl_32, r_33, z_34, h⟩ := gb_bd_s h
        refine gb_calli (va_runV (C := RX12) (As := [.int r_28, .int p4]) (rest := []) ⟨hx, hb, hml, hown, hq⟩ (mc_padded l D cT tt b1 b hb1 n f_26 wl_27 r_28 p4 f_31 wl_32 r_33 z_34) (cwV 2 hq (gb_gV w_1480 w_1482 s_5_7 w_14 w_1483) rfl rfl rfl (by decide +kernel) ⟨Nat.le_of_ble_eq_true rfl, Nat.le_of_ble_eq_true rfl⟩) (gb_preV (r := (RX12, TX12, 44)) (ci := 10) (q0 := 0) hSt hP rfl (gb_at b rfl) hS (fun q h => Nat.le_trans hb1 h.1) hP) rfl rfl hl.1 rfl (lv_room (Nat.le_of_ble_eq_true rfl)) dX12_path_96 ⟨Nat.le_of_ble_eq_true rfl, Nat.le_of_ble_eq_true rfl⟩) hS (fun _ h => h) (fun _ h => h) (fun q_35 H locs hY hk hS => ?_)
        obtain ⟨hq_35, hP⟩ := hY
        replace hq_35 := hq_35.symm
        subst hq_35
        obtain ⟨e1, e2, e3⟩ := gb_eq3 h
        exact W.iret (v := r_33) hx hb hr (fun t ht hW => gb_ri ht ⟨e3, by rw [← e1, ← e2]; exact hP⟩ hS) hS.2.2 dX12_path_99
      rw [if_neg c_25] at h
      by_cases c_36 : p5 = (4 : Int32)
      · rw [if_pos c_36] at h
        refine lv_tableIn (off := 76) (tgt := 100) hx hb dX12_path_24 (by rw [c_36]; decide) (by rw [c_36]; decide) (by rw [c_36]; decide) (by decide) ?_
        refine lv_aload_n hx hb dX12_path_100 rfl (lv_at hl 0 rfl) ?_
        refine lv_iload hx hb dX12_path_101 (lv_at hl 4 rfl) ?_
        obtain ⟨f_37, wl_38, r_39, z_40, h⟩ := gb_bd_s h
        refine gb_calli (va_runV (C := RX12) (As := [.int p4]) (rest := []) ⟨hx, hb, hml, hown, hq⟩ (mc_pay l D cT tt b1 b hb1 n f_7 wl_8 p4 f_37 wl_38 r_39 z_40) (cwV 1 hq (gb_gV w_1484 w_1486 s_5_8 w_14 w_1487) rfl rfl rfl (by decide +kernel) ⟨Nat.le_of_ble_eq_true rfl, Nat.le_of_ble_eq_true rfl⟩) (gb_preV (r := (RX12, TX12, 44)) (ci := 10) (q0 := 0) hSt hP rfl (gb_at b rfl) hS (fun q h => Nat.le_trans hb1 h.1) hP) rfl rfl hl.1 rfl (lv_room (Nat.le_of_ble_eq_true rfl)) dX12_path_103 ⟨Nat.le_of_ble_eq_true rfl, Nat.le_of_ble_eq_true rfl⟩) hS (fun _ h => h) (fun _ h => h) (fun q_41 H locs hY hk hS => ?_)
        obtain ⟨hq_41, hP⟩ := hY
        replace hq_41 := hq_41.symm
        subst hq_41
        obtain ⟨e1, e2, e3⟩ := gb_eq3 h
        exact W.iret (v := r_39) hx hb hr (fun t ht hW => gb_ri ht ⟨e3, by rw [← e1, ← e2]; exact hP⟩ hS) hS.2.2 dX12_path_106
      rw [if_neg c_36] at h
      by_cases c_42 : p5 = (5 : Int32)
      · rw [if_pos c_42] at h
        refine lv_tableIn (off := 83) (tgt := 107) hx hb dX12_path_24 (by rw [c_42]; decide) (by rw [c_42]; decide) (by rw [c_42]; decide) (by decide) ?_
        refine lv_aload_n hx hb dX12_path_107 rfl (lv_at hl 0 rfl) ?_
        refine va_get (ci := 10) (v := (.ref (b + 12))) (C := RX12) (T := TX12) (N := 44) hx hb hq i_X12 hown hK hP 0 (gb_at b rfl) rfl 21 (by decide) (hq _ w_1145) (fun _ h9 => h9) rfl dX12_path_108 ?_
        refine lv_iload hx hb dX12_path_111 (lv_at hl 4 rfl) ?_
        obtain ⟨z_43, h⟩ := gb_ck_s h
        refine va_iald hx hb hK hP 12 0 (gb_at b rfl) rfl z_43 dX12_path_113 ?_
        refine lv_topi (fun x_44 ex_44 => ?_)
        replace h := gb_lt_s ex_44 h
        obtain ⟨e1, e2, e3⟩ := gb_eq3 h
        exact W.iret (v := x_44) hx hb hr (fun t ht hW => gb_ri ht ⟨e3, by rw [← e1, ← e2]; exact hP⟩ hS) hS.2.2 dX12_path_114
      rw [if_neg c_42] at h
      refine lv_tableOut (tgt := 115) hx hb dX12_path_24 (by have := lv_neT c_13 (a := 0) rfl; have := lv_neT c_16 (a := 1) rfl; have := lv_neT c_19 (a := 2) rfl; have := lv_neT c_25 (a := 3) rfl; have := lv_neT c_36 (a := 4) rfl; have := lv_neT c_42 (a := 5) rfl; omega) (by decide) ?_
      refine lv_bipush (v := (-2)) hx hb dX12_path_115 (by decide) ?_
      obtain ⟨e1, e2, e3⟩ := gb_eq3 h
      exact W.iret (v := (-2)) hx hb hr (fun t ht hW => gb_ri ht ⟨e3, by rw [← e1, ← e2]; exact hP⟩ hS) hS.2.2 dX12_path_117
    · rw [if_pos c_12] at h
      refine lv_bipush (v := (-2)) hx hb dX12_path_19 (by decide) ?_
      obtain ⟨e1, e2, e3⟩ := gb_eq3 h
      exact W.iret (v := (-2)) hx hb hr (fun t ht hW => gb_ri ht ⟨e3, by rw [← e1, ← e2]; exact hP⟩ hS) hS.2.2 dX12_path_21
theorem dX12_worn_0 : decode cX12_worn 0 = .ok (.iconst 0, 1) := dc_3 (show ((cX12_worn.data.toList.drop 0).take 1).map UInt8.toNat = [3] by decide +kernel)
theorem dX12_worn_1 : decode cX12_worn 1 = .ok (.istore_n 1, 1) := dc_60 (show ((cX12_worn.data.toList.drop 1).take 1).map UInt8.toNat = [60] by decide +kernel)
theorem dX12_worn_2 : decode cX12_worn 2 = .ok (.iconst 0, 1) := dc_3 (show ((cX12_worn.data.toList.drop 2).take 1).map UInt8.toNat = [3] by decide +kernel)
theorem dX12_worn_3 : decode cX12_worn 3 = .ok (.istore_n 2, 1) := dc_61 (show ((cX12_worn.data.toList.drop 3).take 1).map UInt8.toNat = [61] by decide +kernel)
theorem dX12_worn_4 : decode cX12_worn 4 = .ok (.iload_n 2, 1) := dc_28 (show ((cX12_worn.data.toList.drop 4).take 1).map UInt8.toNat = [28] by decide +kernel)
theorem dX12_worn_5 : decode cX12_worn 5 = .ok (.aload_n 0, 1) := dc_42 (show ((cX12_worn.data.toList.drop 5).take 1).map UInt8.toNat = [42] by decide +kernel)
theorem dX12_worn_6 : decode cX12_worn 6 = .ok (.invokevirtual 202, 3) := dc_182 (show ((cX12_worn.data.toList.drop 6).take 3).map UInt8.toNat = [182, 0, 202] by decide +kernel) rfl
theorem dX12_worn_9 : decode cX12_worn 9 = .ok (.if_icmp .ge 37, 3) := dc_162 (show ((cX12_worn.data.toList.drop 9).take 3).map UInt8.toNat = [162, 0, 37] by decide +kernel) rfl
theorem dX12_worn_46 : decode cX12_worn 46 = .ok (.iload_n 1, 1) := dc_27 (show ((cX12_worn.data.toList.drop 46).take 1).map UInt8.toNat = [27] by decide +kernel)
theorem dX12_worn_47 : decode cX12_worn 47 = .ok (.ireturn, 1) := dc_172 (show ((cX12_worn.data.toList.drop 47).take 1).map UInt8.toNat = [172] by decide +kernel)
theorem dX12_worn_12 : decode cX12_worn 12 = .ok (.iload_n 1, 1) := dc_27 (show ((cX12_worn.data.toList.drop 12).take 1).map UInt8.toNat = [27] by decide +kernel)
theorem dX12_worn_13 : decode cX12_worn 13 = .ok (.aload_n 0, 1) := dc_42 (show ((cX12_worn.data.toList.drop 13).take 1).map UInt8.toNat = [42] by decide +kernel)
theorem dX12_worn_14 : decode cX12_worn 14 = .ok (.getfield 32, 3) := dc_180 (show ((cX12_worn.data.toList.drop 14).take 3).map UInt8.toNat = [180, 0, 32] by decide +kernel) rfl
theorem dX12_worn_17 : decode cX12_worn 17 = .ok (.iload_n 2, 1) := dc_28 (show ((cX12_worn.data.toList.drop 17).take 1).map UInt8.toNat = [28] by decide +kernel)
theorem dX12_worn_18 : decode cX12_worn 18 = .ok (.baload, 1) := dc_51 (show ((cX12_worn.data.toList.drop 18).take 1).map UInt8.toNat = [51] by decide +kernel)
theorem dX12_worn_19 : decode cX12_worn 19 = .ok (.ifCond .eq 18, 3) := dc_153 (show ((cX12_worn.data.toList.drop 19).take 3).map UInt8.toNat = [153, 0, 18] by decide +kernel) rfl
theorem dX12_worn_37 : decode cX12_worn 37 = .ok (.iconst 0, 1) := dc_3 (show ((cX12_worn.data.toList.drop 37).take 1).map UInt8.toNat = [3] by decide +kernel)
theorem dX12_worn_38 : decode cX12_worn 38 = .ok (.ior, 1) := dc_128 (show ((cX12_worn.data.toList.drop 38).take 1).map UInt8.toNat = [128] by decide +kernel)
theorem dX12_worn_39 : decode cX12_worn 39 = .ok (.istore_n 1, 1) := dc_60 (show ((cX12_worn.data.toList.drop 39).take 1).map UInt8.toNat = [60] by decide +kernel)
theorem dX12_worn_40 : decode cX12_worn 40 = .ok (.iinc 2 1, 3) := dc_132 (show ((cX12_worn.data.toList.drop 40).take 3).map UInt8.toNat = [132, 2, 1] by decide +kernel) rfl
theorem dX12_worn_43 : decode cX12_worn 43 = .ok (.goto (-39), 3) := dc_167 (show ((cX12_worn.data.toList.drop 43).take 3).map UInt8.toNat = [167, 255, 217] by decide +kernel) rfl
theorem dX12_worn_22 : decode cX12_worn 22 = .ok (.aload_n 0, 1) := dc_42 (show ((cX12_worn.data.toList.drop 22).take 1).map UInt8.toNat = [42] by decide +kernel)
theorem dX12_worn_23 : decode cX12_worn 23 = .ok (.getfield 23, 3) := dc_180 (show ((cX12_worn.data.toList.drop 23).take 3).map UInt8.toNat = [180, 0, 23] by decide +kernel) rfl
theorem dX12_worn_26 : decode cX12_worn 26 = .ok (.iload_n 2, 1) := dc_28 (show ((cX12_worn.data.toList.drop 26).take 1).map UInt8.toNat = [28] by decide +kernel)
theorem dX12_worn_27 : decode cX12_worn 27 = .ok (.iaload, 1) := dc_46 (show ((cX12_worn.data.toList.drop 27).take 1).map UInt8.toNat = [46] by decide +kernel)
theorem dX12_worn_28 : decode cX12_worn 28 = .ok (.ifCond .ne 9, 3) := dc_154 (show ((cX12_worn.data.toList.drop 28).take 3).map UInt8.toNat = [154, 0, 9] by decide +kernel) rfl
theorem dX12_worn_31 : decode cX12_worn 31 = .ok (.iconst 1, 1) := dc_4 (show ((cX12_worn.data.toList.drop 31).take 1).map UInt8.toNat = [4] by decide +kernel)
theorem dX12_worn_32 : decode cX12_worn 32 = .ok (.iload_n 2, 1) := dc_28 (show ((cX12_worn.data.toList.drop 32).take 1).map UInt8.toNat = [28] by decide +kernel)
theorem dX12_worn_33 : decode cX12_worn 33 = .ok (.ishl, 1) := dc_120 (show ((cX12_worn.data.toList.drop 33).take 1).map UInt8.toNat = [120] by decide +kernel)
theorem dX12_worn_34 : decode cX12_worn 34 = .ok (.goto 4, 3) := dc_167 (show ((cX12_worn.data.toList.drop 34).take 3).map UInt8.toNat = [167, 0, 4] by decide +kernel) rfl
def ms_worn_4 (n : Nat) : Nat → gb_F → Int64 → Int32 → Int32 → gb_MR Int32
  | 0, _, _, _, _ => none
  | mm + 1, f, w, v1, v2 => gb_bd (ms_geese n f w) (fun f_1 wl_2 r_3 => (if r_3 ≤ v2 then some (f_1, wl_2, v1) else gb_ck v2 8 (gb_lt (f_1 8 (Int32.toNatClampNeg v2)) (fun x_8 => (if x_8 = 0 then gb_lt (v1 ||| 0) (fun x_10 => gb_lt (v2 + 1) (fun x_11 => ms_worn_4 n mm f_1 wl_2 x_10 x_11)) else gb_ck v2 8 (gb_lt (f_1 5 (Int32.toNatClampNeg v2)) (fun x_13 => (if x_13 = 0 then gb_lt (v1 ||| (1 <<< (v2 &&& 31))) (fun x_17 => gb_lt (v2 + 1) (fun x_18 => ms_worn_4 n mm f_1 wl_2 x_17 x_18)) else gb_lt (v1 ||| 0) (fun x_15 => gb_lt (v2 + 1) (fun x_16 => ms_worn_4 n mm f_1 wl_2 x_15 x_16))))))))))
def ms_worn (n : Nat) (f : gb_F) (w : Int64) : gb_MR Int32 := ms_worn_4 n n f w 0 0
set_option maxHeartbeats 8000000 in
set_option maxRecDepth 100000 in
theorem mc_worn (l : Launch) (D : va_G) (cT : Nat → ClassId) (tt : Nat → Nat) (b1 b : Nat) (hb1 : b1 ≤ b) (n : Nat) (f : gb_F) (w : Int64) (fE : gb_F) (wE : Int64) (rE : Int32) (h : ms_worn n f w = some (fE, wE, rE)) : Met l yX12_worn (.code yX12_worn cX12_worn 3 (some FieldType.int) :: gb_wA) ({ frames := 2, cells := 0, slots := 0, locals := 41 }) (gb_Pc D cT tt b1 [.ref (b + 0)] (fun h => va_P D vwCl (gb_wl b (gb_MW cT b f w)) h)) (gb_Qi (fun r h => r = rE ∧ va_P D vwCl (gb_wl b (gb_MW cT b fE wE)) h) (gb_fr b 22)) 0 0 (gb_fr b 22) := by
  refine Met.ofW (cc := cX12_worn) (maxL := 3) (ret := (some FieldType.int)) (by decide) rfl ?_
  intro p e s m args below meth c s₁ B hml hv
  obtain ⟨rfl, hSt, hP⟩ := hv
  have hx := B.exec
  have hb := B.bytes
  have hr := B.returns
  have hts := atoms_spec (ws := .code yX12_worn cX12_worn 3 (some FieldType.int) :: gb_wA) B.pre
  have hq : ∀ w ∈ gb_wA, w.before _ s = true := fun w h => hts w (List.mem_cons_of_mem _ h)
  have hown : s.vm.findClass RX12 = some m.cls := findClass_of_methodNamed B.named
  have hlocks := B.notSynchronized
  clear B hts
  have hK := hSt.1
  have hS : va_S (gb_fr b 22) s.heap s.heap [] := va_S.rf
  have hl := lv_entry ([.ref (b + 0)]) (n := 3) (Nat.le_of_ble_eq_true rfl)
  rw [lg_entry_eq]
  generalize (lg_sl ([.ref (b + 0)]) ++ List.replicate (3 - (lg_sl ([.ref (b + 0)])).length) Slot.unset).toArray = ls at hl ⊢
  replace hl : lv_has ls 3 [(0, .ref (b + 0))] := hl
  have L4 : ∀ (mm : Nat) (f : gb_F) (w : Int64) (v1 : Int32) (v2 : Int32) (H : Heap) (locs : List Loc) (ls : Array Slot), ms_worn_4 n mm f w v1 v2 = some (fE, wE, rE) → va_P D vwCl (gb_wl b (gb_MW cT b f w)) H → va_S (gb_fr b 22) s.heap H locs → lv_has ls 3 [(0, .ref (b + 0)), (1, .int v1), (2, .int v2)] → W p l e (headSpec (.code yX12_worn cX12_worn 3 (some FieldType.int) :: gb_wA) ({ frames := 2, cells := 0, slots := 0, locals := 41 })).room s m ([.ref (b + 0)]).toArray below meth c H locs 0 0 (MQ below (gb_Qi (fun r h => r = rE ∧ va_P D vwCl (gb_wl b (gb_MW cT b fE wE)) h) (gb_fr b 22)) ([.ref (b + 0)]).toArray s 0 0 (gb_fr b 22)) (F0 m 4 ls []) := by
    clear h hP hS hl ls f w
    intro mm
    induction mm with
    | zero =>
      intro f w v1 v2 H locs ls h
      cases h
    | succ mm ih =>
      intro f w v1 v2 H locs ls h hP hS hl
      rw [ms_worn_4] at h
      refine lv_iload_n hx hb dX12_worn_4 rfl (lv_at hl 2 rfl) ?_
      refine lv_aload_n hx hb dX12_worn_5 rfl (lv_at hl 0 rfl) ?_
      obtain ⟨f_1, wl_2, r_3, z_4, h⟩ := gb_bd_s h
      refine gb_calli (va_runV (C := RX12) (As := []) (rest := [.int v2]) ⟨hx, hb, hml, hown, hq⟩ (mc_geese l D cT tt b1 b hb1 n f w f_1 wl_2 r_3 z_4) (cwV 0 hq (gb_gV w_1396 w_1398 s_4_7 w_14 w_1399) rfl rfl rfl (by decide +kernel) ⟨Nat.le_of_ble_eq_true rfl, Nat.le_of_ble_eq_true rfl⟩) (gb_preV (r := (RX12, TX12, 44)) (ci := 10) (q0 := 0) hSt hP rfl (gb_at b rfl) hS (fun q h => Nat.le_trans hb1 h.1) hP) rfl rfl hl.1 rfl (lv_room (Nat.le_of_ble_eq_true rfl)) dX12_worn_6 ⟨Nat.le_of_ble_eq_true rfl, Nat.le_of_ble_eq_true rfl⟩) hS (fun _ h => h) (fun _ h => h) (fun q_5 H locs hY hk hS => ?_)
      obtain ⟨hq_5, hP⟩ := hY
      replace hq_5 := hq_5.symm
      subst hq_5
      refine lv_icmp_ge (tgt := 46) hx hb dX12_worn_9 (by decide) (fun c_6 => ?_) (fun c_6 => ?_)
      · rw [if_pos c_6] at h
        refine lv_iload_n hx hb dX12_worn_46 rfl (lv_at hl 1 rfl) ?_
        obtain ⟨e1, e2, e3⟩ := gb_eq3 h
        exact W.iret (v := v1) hx hb hr (fun t ht hW => gb_ri ht ⟨e3, by rw [← e1, ← e2]; exact hP⟩ hS) hS.2.2 dX12_worn_47
      · rw [if_neg c_6] at h
        refine lv_iload_n hx hb dX12_worn_12 rfl (lv_at hl 1 rfl) ?_
        refine lv_aload_n hx hb dX12_worn_13 rfl (lv_at hl 0 rfl) ?_
        refine va_get (ci := 10) (v := (.ref (b + 8))) (C := RX12) (T := TX12) (N := 44) hx hb hq i_X12 hown hK hP 0 (gb_at b rfl) rfl 17 (by decide) (hq _ w_1141) (fun _ h9 => h9) rfl dX12_worn_14 ?_
        refine lv_iload_n hx hb dX12_worn_17 rfl (lv_at hl 2 rfl) ?_
        obtain ⟨z_7, h⟩ := gb_ck_s h
        refine va_zald hx hb hK hP 8 2 (gb_at b rfl) rfl z_7 dX12_worn_18 ?_
        refine lv_topi (fun x_8 ex_8 => ?_)
        replace h := gb_lt_s ex_8 h
        refine lv_if_eq (tgt := 37) hx hb dX12_worn_19 (by decide) (fun c_9 => ?_) (fun c_9 => ?_)
        · rw [if_pos c_9] at h
          refine lv_iconst (v := 0) hx hb dX12_worn_37 (by decide) ?_
          refine lv_ior hx hb dX12_worn_38 ?_
          refine lv_topi (fun x_10 ex_10 => ?_)
          replace h := gb_lt_s ex_10 h
          refine lv_istore_n (lv' := [(1, .int x_10), (0, .ref (b + 0)), (2, .int v2)]) hx hb dX12_worn_39 rfl hl (by decide) rfl (fun ls hl => ?_)
          obtain ⟨x_11, ex_11⟩ : ∃ q, q = (v2 + 1) := ⟨_, rfl⟩
          replace h := gb_lt_s ex_11 h
          refine lv_iinc (v := x_11) (lv' := [(2, .int x_11), (1, .int x_10), (0, .ref (b + 0))]) hx hb dX12_worn_40 hl (k := 2) rfl (by rw [ex_11]; rfl) (by decide) rfl (fun ls hl => ?_)
          refine lv_goto (tgt := 4) hx hb dX12_worn_43 (by decide) ?_
          exact ih _ _ _ _ _ _ _ h hP hS (lv_sub hl [2, 1, 0] rfl)
        · rw [if_neg c_9] at h
          refine lv_aload_n hx hb dX12_worn_22 rfl (lv_at hl 0 rfl) ?_
          refine va_get (ci := 10) (v := (.ref (b + 5))) (C := RX12) (T := TX12) (N := 44) hx hb hq i_X12 hown hK hP 0 (gb_at b rfl) rfl 14 (by decide) (hq _ w_1138) (fun _ h9 => h9) rfl dX12_worn_23 ?_
          refine lv_iload_n hx hb dX12_worn_26 rfl (lv_at hl 2 rfl) ?_
          obtain ⟨z_12, h⟩ := gb_ck_s h
          refine va_iald hx hb hK hP 5 0 (gb_at b rfl) rfl z_12 dX12_worn_27 ?_
          refine lv_topi (fun x_13 ex_13 => ?_)
          replace h := gb_lt_s ex_13 h
          refine lv_if_ne (tgt := 37) hx hb dX12_worn_28 (by decide) (fun c_14 => ?_) (fun c_14 => ?_)
          · rw [if_neg c_14] at h
            refine lv_iconst (v := 0) hx hb dX12_worn_37 (by decide) ?_
            refine lv_ior hx hb dX12_worn_38 ?_
            refine lv_topi (fun x_15 ex_15 => ?_)
            replace h := gb_lt_s ex_15 h
            refine lv_istore_n (lv' := [(1, .int x_15), (0, .ref (b + 0)), (2, .int v2)]) hx hb dX12_worn_39 rfl hl (by decide) rfl (fun ls hl => ?_)
            obtain ⟨x_16, ex_16⟩ : ∃ q, q = (v2 + 1) := ⟨_, rfl⟩
            replace h := gb_lt_s ex_16 h
            refine lv_iinc (v := x_16) (lv' := [(2, .int x_16), (1, .int x_15), (0, .ref (b + 0))]) hx hb dX12_worn_40 hl (k := 2) rfl (by rw [ex_16]; rfl) (by decide) rfl (fun ls hl => ?_)
            refine lv_goto (tgt := 4) hx hb dX12_worn_43 (by decide) ?_
            exact ih _ _ _ _ _ _ _ h hP hS (lv_sub hl [2, 1, 0] rfl)
          · rw [if_pos c_14] at h
            refine lv_iconst (v := 1) hx hb dX12_worn_31 (by decide) ?_
            refine lv_iload_n hx hb dX12_worn_32 rfl (lv_at hl 2 rfl) ?_
            refine lv_ishl hx hb dX12_worn_33 ?_
            refine lv_goto (tgt := 38) hx hb dX12_worn_34 (by decide) ?_
            refine lv_ior hx hb dX12_worn_38 ?_
            refine lv_topi (fun x_17 ex_17 => ?_)
            replace h := gb_lt_s ex_17 h
            refine lv_istore_n (lv' := [(1, .int x_17), (0, .ref (b + 0)), (2, .int v2)]) hx hb dX12_worn_39 rfl hl (by decide) rfl (fun ls hl => ?_)
            obtain ⟨x_18, ex_18⟩ : ∃ q, q = (v2 + 1) := ⟨_, rfl⟩
            replace h := gb_lt_s ex_18 h
            refine lv_iinc (v := x_18) (lv' := [(2, .int x_18), (1, .int x_17), (0, .ref (b + 0))]) hx hb dX12_worn_40 hl (k := 2) rfl (by rw [ex_18]; rfl) (by decide) rfl (fun ls hl => ?_)
            refine lv_goto (tgt := 4) hx hb dX12_worn_43 (by decide) ?_
            exact ih _ _ _ _ _ _ _ h hP hS (lv_sub hl [2, 1, 0] rfl)
  unfold ms_worn at h
  refine lv_iconst (v := 0) hx hb dX12_worn_0 (by decide) ?_
  refine lv_istore_n (lv' := [(1, .int 0), (0, .ref (b + 0))]) hx hb dX12_worn_1 rfl hl (by decide) rfl (fun ls hl => ?_)
  refine lv_iconst (v := 0) hx hb dX12_worn_2 (by decide) ?_
  refine lv_istore_n (lv' := [(2, .int 0), (1, .int 0), (0, .ref (b + 0))]) hx hb dX12_worn_3 rfl hl (by decide) rfl (fun ls hl => ?_)
  exact L4 n _ _ _ _ _ _ _ h hP hS (lv_sub hl [2, 1, 0] rfl)
theorem dX12_state_0 : decode cX12_state 0 = .ok (.aload_n 0, 1) := dc_42 (show ((cX12_state.data.toList.drop 0).take 1).map UInt8.toNat = [42] by decide +kernel)
theorem dX12_state_1 : decode cX12_state 1 = .ok (.iload_n 1, 1) := dc_27 (show ((cX12_state.data.toList.drop 1).take 1).map UInt8.toNat = [27] by decide +kernel)
theorem dX12_state_2 : decode cX12_state 2 = .ok (.iload_n 2, 1) := dc_28 (show ((cX12_state.data.toList.drop 2).take 1).map UInt8.toNat = [28] by decide +kernel)
theorem dX12_state_3 : decode cX12_state 3 = .ok (.iload_n 3, 1) := dc_29 (show ((cX12_state.data.toList.drop 3).take 1).map UInt8.toNat = [29] by decide +kernel)
theorem dX12_state_4 : decode cX12_state 4 = .ok (.invokevirtual 270, 3) := dc_182 (show ((cX12_state.data.toList.drop 4).take 3).map UInt8.toNat = [182, 1, 14] by decide +kernel) rfl
theorem dX12_state_7 : decode cX12_state 7 = .ok (.ifCond .ne 6, 3) := dc_154 (show ((cX12_state.data.toList.drop 7).take 3).map UInt8.toNat = [154, 0, 6] by decide +kernel) rfl
theorem dX12_state_13 : decode cX12_state 13 = .ok (.iload 4, 2) := dc_21 (show ((cX12_state.data.toList.drop 13).take 2).map UInt8.toNat = [21, 4] by decide +kernel) rfl
theorem dX12_state_15 : decode cX12_state 15 = .ok (.bipush 6, 2) := dc_16 (show ((cX12_state.data.toList.drop 15).take 2).map UInt8.toNat = [16, 6] by decide +kernel) rfl
theorem dX12_state_17 : decode cX12_state 17 = .ok (.if_icmp .ne 8, 3) := dc_160 (show ((cX12_state.data.toList.drop 17).take 3).map UInt8.toNat = [160, 0, 8] by decide +kernel) rfl
theorem dX12_state_25 : decode cX12_state 25 = .ok (.iload 4, 2) := dc_21 (show ((cX12_state.data.toList.drop 25).take 2).map UInt8.toNat = [21, 4] by decide +kernel) rfl
theorem dX12_state_27 : decode cX12_state 27 = .ok (.bipush 7, 2) := dc_16 (show ((cX12_state.data.toList.drop 27).take 2).map UInt8.toNat = [16, 7] by decide +kernel) rfl
theorem dX12_state_29 : decode cX12_state 29 = .ok (.if_icmp .ne 8, 3) := dc_160 (show ((cX12_state.data.toList.drop 29).take 3).map UInt8.toNat = [160, 0, 8] by decide +kernel) rfl
theorem dX12_state_37 : decode cX12_state 37 = .ok (.iload 4, 2) := dc_21 (show ((cX12_state.data.toList.drop 37).take 2).map UInt8.toNat = [21, 4] by decide +kernel) rfl
theorem dX12_state_39 : decode cX12_state 39 = .ok (.bipush 8, 2) := dc_16 (show ((cX12_state.data.toList.drop 39).take 2).map UInt8.toNat = [16, 8] by decide +kernel) rfl
theorem dX12_state_41 : decode cX12_state 41 = .ok (.if_icmp .ne 16, 3) := dc_160 (show ((cX12_state.data.toList.drop 41).take 3).map UInt8.toNat = [160, 0, 16] by decide +kernel) rfl
theorem dX12_state_57 : decode cX12_state 57 = .ok (.iload 4, 2) := dc_21 (show ((cX12_state.data.toList.drop 57).take 2).map UInt8.toNat = [21, 4] by decide +kernel) rfl
theorem dX12_state_59 : decode cX12_state 59 = .ok (.iconst 0, 1) := dc_3 (show ((cX12_state.data.toList.drop 59).take 1).map UInt8.toNat = [3] by decide +kernel)
theorem dX12_state_60 : decode cX12_state 60 = .ok (.iconst 5, 1) := dc_8 (show ((cX12_state.data.toList.drop 60).take 1).map UInt8.toNat = [8] by decide +kernel)
theorem dX12_state_61 : decode cX12_state 61 = .ok (.invokestatic 129, 3) := dc_184 (show ((cX12_state.data.toList.drop 61).take 3).map UInt8.toNat = [184, 0, 129] by decide +kernel) rfl
theorem dX12_state_64 : decode cX12_state 64 = .ok (.ifCond .ne 6, 3) := dc_154 (show ((cX12_state.data.toList.drop 64).take 3).map UInt8.toNat = [154, 0, 6] by decide +kernel) rfl
theorem dX12_state_70 : decode cX12_state 70 = .ok (.iconst 0, 1) := dc_3 (show ((cX12_state.data.toList.drop 70).take 1).map UInt8.toNat = [3] by decide +kernel)
theorem dX12_state_71 : decode cX12_state 71 = .ok (.istore 5, 2) := dc_54 (show ((cX12_state.data.toList.drop 71).take 2).map UInt8.toNat = [54, 5] by decide +kernel) rfl
theorem dX12_state_73 : decode cX12_state 73 = .ok (.iconst 0, 1) := dc_3 (show ((cX12_state.data.toList.drop 73).take 1).map UInt8.toNat = [3] by decide +kernel)
theorem dX12_state_74 : decode cX12_state 74 = .ok (.istore 6, 2) := dc_54 (show ((cX12_state.data.toList.drop 74).take 2).map UInt8.toNat = [54, 6] by decide +kernel) rfl
theorem dX12_state_76 : decode cX12_state 76 = .ok (.iconst 0, 1) := dc_3 (show ((cX12_state.data.toList.drop 76).take 1).map UInt8.toNat = [3] by decide +kernel)
theorem dX12_state_77 : decode cX12_state 77 = .ok (.istore 7, 2) := dc_54 (show ((cX12_state.data.toList.drop 77).take 2).map UInt8.toNat = [54, 7] by decide +kernel) rfl
theorem dX12_state_79 : decode cX12_state 79 = .ok (.iload 7, 2) := dc_21 (show ((cX12_state.data.toList.drop 79).take 2).map UInt8.toNat = [21, 7] by decide +kernel) rfl
theorem dX12_state_81 : decode cX12_state 81 = .ok (.aload_n 0, 1) := dc_42 (show ((cX12_state.data.toList.drop 81).take 1).map UInt8.toNat = [42] by decide +kernel)
theorem dX12_state_82 : decode cX12_state 82 = .ok (.invokevirtual 202, 3) := dc_182 (show ((cX12_state.data.toList.drop 82).take 3).map UInt8.toNat = [182, 0, 202] by decide +kernel) rfl
theorem dX12_state_85 : decode cX12_state 85 = .ok (.if_icmp .ge 66, 3) := dc_162 (show ((cX12_state.data.toList.drop 85).take 3).map UInt8.toNat = [162, 0, 66] by decide +kernel) rfl
theorem dX12_state_151 : decode cX12_state 151 = .ok (.iload 4, 2) := dc_21 (show ((cX12_state.data.toList.drop 151).take 2).map UInt8.toNat = [21, 4] by decide +kernel) rfl
theorem dX12_state_153 : decode cX12_state 153 = .ok (.iconst 3, 1) := dc_6 (show ((cX12_state.data.toList.drop 153).take 1).map UInt8.toNat = [6] by decide +kernel)
theorem dX12_state_154 : decode cX12_state 154 = .ok (.if_icmp .ge 8, 3) := dc_162 (show ((cX12_state.data.toList.drop 154).take 3).map UInt8.toNat = [162, 0, 8] by decide +kernel) rfl
theorem dX12_state_162 : decode cX12_state 162 = .ok (.iload 6, 2) := dc_21 (show ((cX12_state.data.toList.drop 162).take 2).map UInt8.toNat = [21, 6] by decide +kernel) rfl
theorem dX12_state_164 : decode cX12_state 164 = .ok (.ireturn, 1) := dc_172 (show ((cX12_state.data.toList.drop 164).take 1).map UInt8.toNat = [172] by decide +kernel)
theorem dX12_state_157 : decode cX12_state 157 = .ok (.iload 5, 2) := dc_21 (show ((cX12_state.data.toList.drop 157).take 2).map UInt8.toNat = [21, 5] by decide +kernel) rfl
theorem dX12_state_159 : decode cX12_state 159 = .ok (.goto 5, 3) := dc_167 (show ((cX12_state.data.toList.drop 159).take 3).map UInt8.toNat = [167, 0, 5] by decide +kernel) rfl
theorem dX12_state_88 : decode cX12_state 88 = .ok (.iload 5, 2) := dc_21 (show ((cX12_state.data.toList.drop 88).take 2).map UInt8.toNat = [21, 5] by decide +kernel) rfl
theorem dX12_state_90 : decode cX12_state 90 = .ok (.aload_n 0, 1) := dc_42 (show ((cX12_state.data.toList.drop 90).take 1).map UInt8.toNat = [42] by decide +kernel)
theorem dX12_state_91 : decode cX12_state 91 = .ok (.getfield 20, 3) := dc_180 (show ((cX12_state.data.toList.drop 91).take 3).map UInt8.toNat = [180, 0, 20] by decide +kernel) rfl
theorem dX12_state_94 : decode cX12_state 94 = .ok (.iload 7, 2) := dc_21 (show ((cX12_state.data.toList.drop 94).take 2).map UInt8.toNat = [21, 7] by decide +kernel) rfl
theorem dX12_state_96 : decode cX12_state 96 = .ok (.iaload, 1) := dc_46 (show ((cX12_state.data.toList.drop 96).take 1).map UInt8.toNat = [46] by decide +kernel)
theorem dX12_state_97 : decode cX12_state 97 = .ok (.iload 4, 2) := dc_21 (show ((cX12_state.data.toList.drop 97).take 2).map UInt8.toNat = [21, 4] by decide +kernel) rfl
theorem dX12_state_99 : decode cX12_state 99 = .ok (.iconst 3, 1) := dc_6 (show ((cX12_state.data.toList.drop 99).take 1).map UInt8.toNat = [6] by decide +kernel)
theorem dX12_state_100 : decode cX12_state 100 = .ok (.irem, 1) := dc_112 (show ((cX12_state.data.toList.drop 100).take 1).map UInt8.toNat = [112] by decide +kernel)
theorem dX12_state_101 : decode cX12_state 101 = .ok (.if_icmp .ne 10, 3) := dc_160 (show ((cX12_state.data.toList.drop 101).take 3).map UInt8.toNat = [160, 0, 10] by decide +kernel) rfl
theorem dX12_state_111 : decode cX12_state 111 = .ok (.iconst 0, 1) := dc_3 (show ((cX12_state.data.toList.drop 111).take 1).map UInt8.toNat = [3] by decide +kernel)
theorem dX12_state_112 : decode cX12_state 112 = .ok (.ior, 1) := dc_128 (show ((cX12_state.data.toList.drop 112).take 1).map UInt8.toNat = [128] by decide +kernel)
theorem dX12_state_113 : decode cX12_state 113 = .ok (.istore 5, 2) := dc_54 (show ((cX12_state.data.toList.drop 113).take 2).map UInt8.toNat = [54, 5] by decide +kernel) rfl
theorem dX12_state_115 : decode cX12_state 115 = .ok (.iload 6, 2) := dc_21 (show ((cX12_state.data.toList.drop 115).take 2).map UInt8.toNat = [21, 6] by decide +kernel) rfl
theorem dX12_state_117 : decode cX12_state 117 = .ok (.aload_n 0, 1) := dc_42 (show ((cX12_state.data.toList.drop 117).take 1).map UInt8.toNat = [42] by decide +kernel)
theorem dX12_state_118 : decode cX12_state 118 = .ok (.getfield 20, 3) := dc_180 (show ((cX12_state.data.toList.drop 118).take 3).map UInt8.toNat = [180, 0, 20] by decide +kernel) rfl
theorem dX12_state_121 : decode cX12_state 121 = .ok (.iload 7, 2) := dc_21 (show ((cX12_state.data.toList.drop 121).take 2).map UInt8.toNat = [21, 7] by decide +kernel) rfl
theorem dX12_state_123 : decode cX12_state 123 = .ok (.iaload, 1) := dc_46 (show ((cX12_state.data.toList.drop 123).take 1).map UInt8.toNat = [46] by decide +kernel)
theorem dX12_state_124 : decode cX12_state 124 = .ok (.iload 4, 2) := dc_21 (show ((cX12_state.data.toList.drop 124).take 2).map UInt8.toNat = [21, 4] by decide +kernel) rfl
theorem dX12_state_126 : decode cX12_state 126 = .ok (.iconst 3, 1) := dc_6 (show ((cX12_state.data.toList.drop 126).take 1).map UInt8.toNat = [6] by decide +kernel)
theorem dX12_state_127 : decode cX12_state 127 = .ok (.irem, 1) := dc_112 (show ((cX12_state.data.toList.drop 127).take 1).map UInt8.toNat = [112] by decide +kernel)
theorem dX12_state_128 : decode cX12_state 128 = .ok (.if_icmp .ne 13, 3) := dc_160 (show ((cX12_state.data.toList.drop 128).take 3).map UInt8.toNat = [160, 0, 13] by decide +kernel) rfl
theorem dX12_state_141 : decode cX12_state 141 = .ok (.iconst 0, 1) := dc_3 (show ((cX12_state.data.toList.drop 141).take 1).map UInt8.toNat = [3] by decide +kernel)
theorem dX12_state_142 : decode cX12_state 142 = .ok (.iadd, 1) := dc_96 (show ((cX12_state.data.toList.drop 142).take 1).map UInt8.toNat = [96] by decide +kernel)
theorem dX12_state_143 : decode cX12_state 143 = .ok (.istore 6, 2) := dc_54 (show ((cX12_state.data.toList.drop 143).take 2).map UInt8.toNat = [54, 6] by decide +kernel) rfl
theorem dX12_state_145 : decode cX12_state 145 = .ok (.iinc 7 1, 3) := dc_132 (show ((cX12_state.data.toList.drop 145).take 3).map UInt8.toNat = [132, 7, 1] by decide +kernel) rfl
theorem dX12_state_148 : decode cX12_state 148 = .ok (.goto (-69), 3) := dc_167 (show ((cX12_state.data.toList.drop 148).take 3).map UInt8.toNat = [167, 255, 187] by decide +kernel) rfl
theorem dX12_state_131 : decode cX12_state 131 = .ok (.aload_n 0, 1) := dc_42 (show ((cX12_state.data.toList.drop 131).take 1).map UInt8.toNat = [42] by decide +kernel)
theorem dX12_state_132 : decode cX12_state 132 = .ok (.iload 7, 2) := dc_21 (show ((cX12_state.data.toList.drop 132).take 2).map UInt8.toNat = [21, 7] by decide +kernel) rfl
theorem dX12_state_134 : decode cX12_state 134 = .ok (.iconst 4, 1) := dc_7 (show ((cX12_state.data.toList.drop 134).take 1).map UInt8.toNat = [7] by decide +kernel)
theorem dX12_state_135 : decode cX12_state 135 = .ok (.invokevirtual 217, 3) := dc_182 (show ((cX12_state.data.toList.drop 135).take 3).map UInt8.toNat = [182, 0, 217] by decide +kernel) rfl
theorem dX12_state_138 : decode cX12_state 138 = .ok (.goto 4, 3) := dc_167 (show ((cX12_state.data.toList.drop 138).take 3).map UInt8.toNat = [167, 0, 4] by decide +kernel) rfl
theorem dX12_state_104 : decode cX12_state 104 = .ok (.iconst 1, 1) := dc_4 (show ((cX12_state.data.toList.drop 104).take 1).map UInt8.toNat = [4] by decide +kernel)
theorem dX12_state_105 : decode cX12_state 105 = .ok (.iload 7, 2) := dc_21 (show ((cX12_state.data.toList.drop 105).take 2).map UInt8.toNat = [21, 7] by decide +kernel) rfl
theorem dX12_state_107 : decode cX12_state 107 = .ok (.ishl, 1) := dc_120 (show ((cX12_state.data.toList.drop 107).take 1).map UInt8.toNat = [120] by decide +kernel)
theorem dX12_state_108 : decode cX12_state 108 = .ok (.goto 4, 3) := dc_167 (show ((cX12_state.data.toList.drop 108).take 3).map UInt8.toNat = [167, 0, 4] by decide +kernel) rfl
theorem dX12_state_67 : decode cX12_state 67 = .ok (.bipush (-2), 2) := dc_16 (show ((cX12_state.data.toList.drop 67).take 2).map UInt8.toNat = [16, 254] by decide +kernel) rfl
theorem dX12_state_69 : decode cX12_state 69 = .ok (.ireturn, 1) := dc_172 (show ((cX12_state.data.toList.drop 69).take 1).map UInt8.toNat = [172] by decide +kernel)
theorem dX12_state_44 : decode cX12_state 44 = .ok (.aload_n 0, 1) := dc_42 (show ((cX12_state.data.toList.drop 44).take 1).map UInt8.toNat = [42] by decide +kernel)
theorem dX12_state_45 : decode cX12_state 45 = .ok (.getfield 233, 3) := dc_180 (show ((cX12_state.data.toList.drop 45).take 3).map UInt8.toNat = [180, 0, 233] by decide +kernel) rfl
theorem dX12_state_48 : decode cX12_state 48 = .ok (.ifCond .eq 7, 3) := dc_153 (show ((cX12_state.data.toList.drop 48).take 3).map UInt8.toNat = [153, 0, 7] by decide +kernel) rfl
theorem dX12_state_55 : decode cX12_state 55 = .ok (.iconst 0, 1) := dc_3 (show ((cX12_state.data.toList.drop 55).take 1).map UInt8.toNat = [3] by decide +kernel)
theorem dX12_state_56 : decode cX12_state 56 = .ok (.ireturn, 1) := dc_172 (show ((cX12_state.data.toList.drop 56).take 1).map UInt8.toNat = [172] by decide +kernel)
theorem dX12_state_51 : decode cX12_state 51 = .ok (.iconst 1, 1) := dc_4 (show ((cX12_state.data.toList.drop 51).take 1).map UInt8.toNat = [4] by decide +kernel)
theorem dX12_state_52 : decode cX12_state 52 = .ok (.goto 4, 3) := dc_167 (show ((cX12_state.data.toList.drop 52).take 3).map UInt8.toNat = [167, 0, 4] by decide +kernel) rfl
theorem dX12_state_32 : decode cX12_state 32 = .ok (.aload_n 0, 1) := dc_42 (show ((cX12_state.data.toList.drop 32).take 1).map UInt8.toNat = [42] by decide +kernel)
theorem dX12_state_33 : decode cX12_state 33 = .ok (.invokevirtual 285, 3) := dc_182 (show ((cX12_state.data.toList.drop 33).take 3).map UInt8.toNat = [182, 1, 29] by decide +kernel) rfl
theorem w_1499 : (Cond.code ({ cls := "GooseBorderModel", name := "allPay", desc := "()I" } : MethodName) prog_14_method_61_code (3 : Nat) (Option.some FieldType.int)) ∈ gb_wA := gb_t7 59 rfl rfl
theorem w_1496 : (Cond.methodLink "GooseBorderModel" (285 : Nat) ({ cls := "GooseBorderModel", name := "allPay", desc := "()I" } : MethodName)) ∈ gb_wA := gb_t7 56 rfl rfl
theorem w_1498 : (Cond.instanceMethod ({ cls := "GooseBorderModel", name := "allPay", desc := "()I" } : MethodName)) ∈ gb_wA := gb_t7 58 rfl rfl
theorem s_5_10 : Cond.selects "GooseBorderModel" (⟨"GooseBorderModel", "allPay", "()I"⟩ : MethodName) (⟨"GooseBorderModel", "allPay", "()I"⟩ : MethodName) ∈ gb_wA := gb_s5 10 rfl rfl
theorem dX12_state_36 : decode cX12_state 36 = .ok (.ireturn, 1) := dc_172 (show ((cX12_state.data.toList.drop 36).take 1).map UInt8.toNat = [172] by decide +kernel)
theorem dX12_state_20 : decode cX12_state 20 = .ok (.aload_n 0, 1) := dc_42 (show ((cX12_state.data.toList.drop 20).take 1).map UInt8.toNat = [42] by decide +kernel)
theorem dX12_state_21 : decode cX12_state 21 = .ok (.invokevirtual 282, 3) := dc_182 (show ((cX12_state.data.toList.drop 21).take 3).map UInt8.toNat = [182, 1, 26] by decide +kernel) rfl
theorem w_1495 : (Cond.code ({ cls := "GooseBorderModel", name := "worn", desc := "()I" } : MethodName) prog_14_method_63_code (3 : Nat) (Option.some FieldType.int)) ∈ gb_wA := gb_t7 55 rfl rfl
theorem w_1492 : (Cond.methodLink "GooseBorderModel" (282 : Nat) ({ cls := "GooseBorderModel", name := "worn", desc := "()I" } : MethodName)) ∈ gb_wA := gb_t7 52 rfl rfl
theorem w_1494 : (Cond.instanceMethod ({ cls := "GooseBorderModel", name := "worn", desc := "()I" } : MethodName)) ∈ gb_wA := gb_t7 54 rfl rfl
theorem s_5_9 : Cond.selects "GooseBorderModel" (⟨"GooseBorderModel", "worn", "()I"⟩ : MethodName) (⟨"GooseBorderModel", "worn", "()I"⟩ : MethodName) ∈ gb_wA := gb_s5 9 rfl rfl
theorem dX12_state_24 : decode cX12_state 24 = .ok (.ireturn, 1) := dc_172 (show ((cX12_state.data.toList.drop 24).take 1).map UInt8.toNat = [172] by decide +kernel)
theorem dX12_state_10 : decode cX12_state 10 = .ok (.bipush (-2), 2) := dc_16 (show ((cX12_state.data.toList.drop 10).take 2).map UInt8.toNat = [16, 254] by decide +kernel) rfl
theorem dX12_state_12 : decode cX12_state 12 = .ok (.ireturn, 1) := dc_172 (show ((cX12_state.data.toList.drop 12).take 1).map UInt8.toNat = [172] by decide +kernel)
def ms_state_112 (n : Nat) (k79 : gb_F → Int64 → Int32 → Int32 → Int32 → Int32 → gb_MR Int32) (f : gb_F) (w : Int64) (v4 : Int32) (v6 : Int32) (v7 : Int32) (t0 : Int32) (t1 : Int32) : gb_MR Int32 := gb_lt (t1 ||| t0) (fun x_27 => gb_ck v7 8 (gb_lt (f 4 (Int32.toNatClampNeg v7)) (fun x_29 => gb_lt (v4 - v4 / 3 * 3) (fun x_30 => (if x_29 = x_30 then gb_bd (ms_ofGoose n f w v7 4) (fun f_34 wl_35 r_36 => gb_lt (v6 + r_36) (fun x_39 => gb_lt (v7 + 1) (fun x_40 => k79 f_34 wl_35 v4 x_27 x_39 x_40))) else gb_lt (v6 + 0) (fun x_32 => gb_lt (v7 + 1) (fun x_33 => k79 f w v4 x_27 x_32 x_33)))))))
def ms_state_79 (n : Nat) : Nat → gb_F → Int64 → Int32 → Int32 → Int32 → Int32 → gb_MR Int32
  | 0, _, _, _, _, _, _ => none
  | mm + 1, f, w, v4, v5, v6, v7 => gb_bd (ms_geese n f w) (fun f_16 wl_17 r_18 => (if r_18 ≤ v7 then (if (3 : Int32) ≤ v4 then some (f_16, wl_17, v6) else some (f_16, wl_17, v5)) else gb_ck v7 8 (gb_lt (f_16 4 (Int32.toNatClampNeg v7)) (fun x_24 => gb_lt (v4 - v4 / 3 * 3) (fun x_25 => (if x_24 = x_25 then ms_state_112 n (fun f w v4 v5 v6 v7 => ms_state_79 n mm f w v4 v5 v6 v7) f_16 wl_17 v4 v6 v7 (1 <<< (v7 &&& 31)) v5 else ms_state_112 n (fun f w v4 v5 v6 v7 => ms_state_79 n mm f w v4 v5 v6 v7) f_16 wl_17 v4 v6 v7 0 v5))))))
def ms_state (n : Nat) (f : gb_F) (w : Int64) (p1 : Int32) (p2 : Int32) (p3 : Int32) (p4 : Int32) : gb_MR Int32 := gb_bd (ms_isState n f w p1 p2 p3) (fun f_1 wl_2 r_3 => (if r_3 = 0 then some (f_1, wl_2, (-2)) else (if p4 = 6 then gb_bd (ms_worn n f_1 wl_2) (fun f_47 wl_48 r_49 => some (f_47, wl_48, r_49)) else (if p4 = 7 then gb_bd (ms_allPay n f_1 wl_2) (fun f_42 wl_43 r_44 => some (f_42, wl_43, r_44)) else (if p4 = 8 then (if (f_1 0 22) = 0 then some (f_1, wl_2, 0) else some (f_1, wl_2, 1)) else gb_bd (ms_isIn n f_1 wl_2 p4 0 5) (fun f_10 wl_11 r_12 => (if r_12 = 0 then some (f_10, wl_11, (-2)) else ms_state_79 n n f_10 wl_11 p4 0 0 0)))))))
set_option maxHeartbeats 8000000 in
set_option maxRecDepth 100000 in
theorem mc_state (l : Launch) (D : va_G) (cT : Nat → ClassId) (tt : Nat → Nat) (b1 b : Nat) (hb1 : b1 ≤ b) (n : Nat) (f : gb_F) (w : Int64) (p1 : Int32) (p2 : Int32) (p3 : Int32) (p4 : Int32) (fE : gb_F) (wE : Int64) (rE : Int32) (h : ms_state n f w p1 p2 p3 p4 = some (fE, wE, rE)) : Met l yX12_state (.code yX12_state cX12_state 8 (some FieldType.int) :: gb_wA) ({ frames := 7, cells := 0, slots := 0, locals := 164 }) (gb_Pc D cT tt b1 [.ref (b + 0), .int p1, .int p2, .int p3, .int p4] (fun h => va_P D vwCl (gb_wl b (gb_MW cT b f w)) h)) (gb_Qi (fun r h => r = rE ∧ va_P D vwCl (gb_wl b (gb_MW cT b fE wE)) h) (gb_fr b 22)) 0 0 (gb_fr b 22) := by
  refine Met.ofW (cc := cX12_state) (maxL := 8) (ret := (some FieldType.int)) (by decide) rfl ?_
  intro p e s m args below meth c s₁ B hml hv
  obtain ⟨rfl, hSt, hP⟩ := hv
  have hx := B.exec
  have hb := B.bytes
  have hr := B.returns
  have hts := atoms_spec (ws := .code yX12_state cX12_state 8 (some FieldType.int) :: gb_wA) B.pre
  have hq : ∀ w ∈ gb_wA, w.before _ s = true := fun w h => hts w (List.mem_cons_of_mem _ h)
  have hown : s.vm.findClass RX12 = some m.cls := findClass_of_methodNamed B.named
  have hlocks := B.notSynchronized
  clear B hts
  have hK := hSt.1
  have hS : va_S (gb_fr b 22) s.heap s.heap [] := va_S.rf
  have hl := lv_entry ([.ref (b + 0), .int p1, .int p2, .int p3, .int p4]) (n := 8) (Nat.le_of_ble_eq_true rfl)
  rw [lg_entry_eq]
  generalize (lg_sl ([.ref (b + 0), .int p1, .int p2, .int p3, .int p4]) ++ List.replicate (8 - (lg_sl ([.ref (b + 0), .int p1, .int p2, .int p3, .int p4])).length) Slot.unset).toArray = ls at hl ⊢
  replace hl : lv_has ls 8 [(0, .ref (b + 0)), (1, .int p1), (2, .int p2), (3, .int p3), (4, .int p4)] := hl
  have L112 : ∀ (k79 : gb_F → Int64 → Int32 → Int32 → Int32 → Int32 → gb_MR Int32) (hk79 : ∀ (f : gb_F) (w : Int64) (v4 : Int32) (v5 : Int32) (v6 : Int32) (v7 : Int32) (H : Heap) (locs : List Loc) (ls : Array Slot), k79 f w v4 v5 v6 v7 = some (fE, wE, rE) → va_P D vwCl (gb_wl b (gb_MW cT b f w)) H → va_S (gb_fr b 22) s.heap H locs → lv_has ls 8 [(0, .ref (b + 0)), (4, .int v4), (5, .int v5), (6, .int v6), (7, .int v7)] → W p l e (headSpec (.code yX12_state cX12_state 8 (some FieldType.int) :: gb_wA) ({ frames := 7, cells := 0, slots := 0, locals := 164 })).room s m ([.ref (b + 0), .int p1, .int p2, .int p3, .int p4]).toArray below meth c H locs 0 0 (MQ below (gb_Qi (fun r h => r = rE ∧ va_P D vwCl (gb_wl b (gb_MW cT b fE wE)) h) (gb_fr b 22)) ([.ref (b + 0), .int p1, .int p2, .int p3, .int p4]).toArray s 0 0 (gb_fr b 22)) (F0 m 79 ls [])) (f : gb_F) (w : Int64) (v4 : Int32) (v6 : Int32) (v7 : Int32) (t0 : Int32) (t1 : Int32) (H : Heap) (locs : List Loc) (ls : Array Slot), ms_state_112 n k79 f w v4 v6 v7 t0 t1 = some (fE, wE, rE) → va_P D vwCl (gb_wl b (gb_MW cT b f w)) H → va_S (gb_fr b 22) s.heap H locs → lv_has ls 8 [(0, .ref (b + 0)), (4, .int v4), (6, .int v6), (7, .int v7)] → W p l e (headSpec (.code yX12_state cX12_state 8 (some FieldType.int) :: gb_wA) ({ frames := 7, cells := 0, slots := 0, locals := 164 })).room s m ([.ref (b + 0), .int p1, .int p2, .int p3, .int p4]).toArray below meth c H locs 0 0 (MQ below (gb_Qi (fun r h => r = rE ∧ va_P D vwCl (gb_wl b (gb_MW cT b fE wE)) h) (gb_fr b 22)) ([.ref (b + 0), .int p1, .int p2, .int p3, .int p4]).toArray s 0 0 (gb_fr b 22)) (F0 m 112 ls [.int t0, .int t1]) := by
    clear h hP hS hl ls f w
    intro k79 hk79 f w v4 v6 v7 t0 t1 H locs ls h hP hS hl
    unfold ms_state_112 at h
    refine lv_ior hx hb dX12_state_112 ?_
    refine lv_topi (fun x_27 ex_27 => ?_)
    replace h := gb_lt_s ex_27 h
    refine lv_istore (lv' := [(5, .int x_27), (0, .ref (b + 0)), (4, .int v4), (6, .int v6), (7, .int v7)]) hx hb dX12_state_113 hl (by decide) rfl (fun ls hl => ?_)
    refine lv_iload hx hb dX12_state_115 (lv_at hl 3 rfl) ?_
    refine lv_aload_n hx hb dX12_state_117 rfl (lv_at hl 1 rfl) ?_
    refine va_get (ci := 10) (v := (.ref (b + 4))) (C := RX12) (T := TX12) (N := 44) hx hb hq i_X12 hown hK hP 0 (gb_at b rfl) rfl 13 (by decide) (hq _ w_1137) (fun _ h9 => h9) rfl dX12_state_118 ?_
    refine lv_iload hx hb dX12_state_121 (lv_at hl 4 rfl) ?_
    obtain ⟨z_28, h⟩ := gb_ck_s h
    refine va_iald hx hb hK hP 4 0 (gb_at b rfl) rfl z_28 dX12_state_123 ?_
    refine lv_topi (fun x_29 ex_29 => ?_)
    replace h := gb_lt_s ex_29 h
    refine lv_iload hx hb dX12_state_124 (lv_at hl 2 rfl) ?_
    refine lv_iconst (v := 3) hx hb dX12_state_126 (by decide) ?_
    refine lv_irem hx hb dX12_state_127 (by decide) ?_
    refine lv_topi (fun x_30 ex_30 => ?_)
    replace h := gb_lt_s ex_30 h
    refine lv_icmp_ne (tgt := 141) hx hb dX12_state_128 (by decide) (fun c_31 => ?_) (fun c_31 => ?_)
    · rw [if_neg c_31] at h
      refine lv_iconst (v := 0) hx hb dX12_state_141 (by decide) ?_
      refine lv_iadd hx hb dX12_state_142 ?_
      refine lv_topi (fun x_32 ex_32 => ?_)
      replace h := gb_lt_s ex_32 h
      refine lv_istore (lv' := [(6, .int x_32), (5, .int x_27), (0, .ref (b + 0)), (4, .int v4), (7, .int v7)]) hx hb dX12_state_143 hl (by decide) rfl (fun ls hl => ?_)
      obtain ⟨x_33, ex_33⟩ : ∃ q, q = (v7 + 1) := ⟨_, rfl⟩
      replace h := gb_lt_s ex_33 h
      refine lv_iinc (v := x_33) (lv' := [(7, .int x_33), (6, .int x_32), (5, .int x_27), (0, .ref (b + 0)), (4, .int v4)]) hx hb dX12_state_145 hl (k := 4) rfl (by rw [ex_33]; rfl) (by decide) rfl (fun ls hl => ?_)
      refine lv_goto (tgt := 79) hx hb dX12_state_148 (by decide) ?_
      exact hk79 _ _ _ _ _ _ _ _ _ h hP hS (lv_sub hl [3, 4, 2, 1, 0] rfl)
    · rw [if_pos c_31] at h
      refine lv_aload_n hx hb dX12_state_131 rfl (lv_at hl 1 rfl) ?_
      refine lv_iload hx hb dX12_state_132 (lv_at hl 4 rfl) ?_
      refine lv_iconst (v := 4) hx hb dX12_state_134 (by decide) ?_
      obtain ⟨f_34, wl_35, r_36, z_37, h⟩ := gb_bd_s h
      refine gb_calli (va_runV (C := RX12) (As := [.int v7, .int 4]) (rest := [.int v6]) ⟨hx, hb, hml, hown, hq⟩ (mc_ofGoose l D cT tt b1 b hb1 n f w v7 4 f_34 wl_35 r_36 z_37) (cwV 2 hq (gb_gV w_1400 w_1402 s_4_8 w_14 w_1403) rfl rfl rfl (by decide +kernel) ⟨Nat.le_of_ble_eq_true rfl, Nat.le_of_ble_eq_true rfl⟩) (gb_preV (r := (RX12, TX12, 44)) (ci := 10) (q0 := 0) hSt hP rfl (gb_at b rfl) hS (fun q h => Nat.le_trans hb1 h.1) hP) rfl rfl hl.1 rfl (lv_room (Nat.le_of_ble_eq_true rfl)) dX12_state_135 ⟨Nat.le_of_ble_eq_true rfl, Nat.le_of_ble_eq_true rfl⟩) hS (fun _ h => h) (fun _ h => h) (fun q_38 H locs hY hk hS => ?_)
      obtain ⟨hq_38, hP⟩ := hY
      replace hq_38 := hq_38.symm
      subst hq_38
      refine lv_goto (tgt := 142) hx hb dX12_state_138 (by decide) ?_
      refine lv_iadd hx hb dX12_state_142 ?_
      refine lv_topi (fun x_39 ex_39 => ?_)
      replace h := gb_lt_s ex_39 h
      refine lv_istore (lv' := [(6, .int x_39), (5, .int x_27), (0, .ref (b + 0)), (4, .int v4), (7, .int v7)]) hx hb dX12_state_143 hl (by decide) rfl (fun ls hl => ?_)
      obtain ⟨x_40, ex_40⟩ : ∃ q, q = (v7 + 1) := ⟨_, rfl⟩
      replace h := gb_lt_s ex_40 h
      refine lv_iinc (v := x_40) (lv' := [(7, .int x_40), (6, .int x_39), (5, .int x_27), (0, .ref (b + 0)), (4, .int v4)]) hx hb dX12_state_145 hl (k := 4) rfl (by rw [ex_40]; rfl) (by decide) rfl (fun ls hl => ?_)
      refine lv_goto (tgt := 79) hx hb dX12_state_148 (by decide) ?_
      exact hk79 _ _ _ _ _ _ _ _ _ h hP hS (lv_sub hl [3, 4, 2, 1, 0] rfl)
  have L79 : ∀ (mm : Nat) (f : gb_F) (w : Int64) (v4 : Int32) (v5 : Int32) (v6 : Int32) (v7 : Int32) (H : Heap) (locs : List Loc) (ls : Array Slot), ms_state_79 n mm f w v4 v5 v6 v7 = some (fE, wE, rE) → va_P D vwCl (gb_wl b (gb_MW cT b f w)) H → va_S (gb_fr b 22) s.heap H locs → lv_has ls 8 [(0, .ref (b + 0)), (4, .int v4), (5, .int v5), (6, .int v6), (7, .int v7)] → W p l e (headSpec (.code yX12_state cX12_state 8 (some FieldType.int) :: gb_wA) ({ frames := 7, cells := 0, slots := 0, locals := 164 })).room s m ([.ref (b + 0), .int p1, .int p2, .int p3, .int p4]).toArray below meth c H locs 0 0 (MQ below (gb_Qi (fun r h => r = rE ∧ va_P D vwCl (gb_wl b (gb_MW cT b fE wE)) h) (gb_fr b 22)) ([.ref (b + 0), .int p1, .int p2, .int p3, .int p4]).toArray s 0 0 (gb_fr b 22)) (F0 m 79 ls []) := by
    clear h hP hS hl ls f w
    intro mm
    induction mm with
    | zero =>
      intro f w v4 v5 v6 v7 H locs ls h
      cases h
    | succ mm ih =>
      intro f w v4 v5 v6 v7 H locs ls h hP hS hl
      rw [ms_state_79] at h
      refine lv_iload hx hb dX12_state_79 (lv_at hl 4 rfl) ?_
      refine lv_aload_n hx hb dX12_state_81 rfl (lv_at hl 0 rfl) ?_
      obtain ⟨f_16, wl_17, r_18, z_19, h⟩ := gb_bd_s h
      refine gb_calli (va_runV (C := RX12) (As := []) (rest := [.int v7]) ⟨hx, hb, hml, hown, hq⟩ (mc_geese l D cT tt b1 b hb1 n f w f_16 wl_17 r_18 z_19) (cwV 0 hq (gb_gV w_1396 w_1398 s_4_7 w_14 w_1399) rfl rfl rfl (by decide +kernel) ⟨Nat.le_of_ble_eq_true rfl, Nat.le_of_ble_eq_true rfl⟩) (gb_preV (r := (RX12, TX12, 44)) (ci := 10) (q0 := 0) hSt hP rfl (gb_at b rfl) hS (fun q h => Nat.le_trans hb1 h.1) hP) rfl rfl hl.1 rfl (lv_room (Nat.le_of_ble_eq_true rfl)) dX12_state_82 ⟨Nat.le_of_ble_eq_true rfl, Nat.le_of_ble_eq_true rfl⟩) hS (fun _ h => h) (fun _ h => h) (fun q_20 H locs hY hk hS => ?_)
      obtain ⟨hq_20, hP⟩ := hY
      replace hq_20 := hq_20.symm
      subst hq_20
      refine lv_icmp_ge (tgt := 151) hx hb dX12_state_85 (by decide) (fun c_21 => ?_) (fun c_21 => ?_)
      · rw [if_pos c_21] at h
        refine lv_iload hx hb dX12_state_151 (lv_at hl 1 rfl) ?_
        refine lv_iconst (v := 3) hx hb dX12_state_153 (by decide) ?_
        refine lv_icmp_ge (tgt := 162) hx hb dX12_state_154 (by decide) (fun c_22 => ?_) (fun c_22 => ?_)
        · rw [if_pos c_22] at h
          refine lv_iload hx hb dX12_state_162 (lv_at hl 3 rfl) ?_
          obtain ⟨e1, e2, e3⟩ := gb_eq3 h
          exact W.iret (v := v6) hx hb hr (fun t ht hW => gb_ri ht ⟨e3, by rw [← e1, ← e2]; exact hP⟩ hS) hS.2.2 dX12_state_164
        · rw [if_neg c_22] at h
          refine lv_iload hx hb dX12_state_157 (lv_at hl 2 rfl) ?_
          refine lv_goto (tgt := 164) hx hb dX12_state_159 (by decide) ?_
          obtain ⟨e1, e2, e3⟩ := gb_eq3 h
          exact W.iret (v := v5) hx hb hr (fun t ht hW => gb_ri ht ⟨e3, by rw [← e1, ← e2]; exact hP⟩ hS) hS.2.2 dX12_state_164
      · rw [if_neg c_21] at h
        refine lv_iload hx hb dX12_state_88 (lv_at hl 2 rfl) ?_
        refine lv_aload_n hx hb dX12_state_90 rfl (lv_at hl 0 rfl) ?_
        refine va_get (ci := 10) (v := (.ref (b + 4))) (C := RX12) (T := TX12) (N := 44) hx hb hq i_X12 hown hK hP 0 (gb_at b rfl) rfl 13 (by decide) (hq _ w_1137) (fun _ h9 => h9) rfl dX12_state_91 ?_
        refine lv_iload hx hb dX12_state_94 (lv_at hl 4 rfl) ?_
        obtain ⟨z_23, h⟩ := gb_ck_s h
        refine va_iald hx hb hK hP 4 0 (gb_at b rfl) rfl z_23 dX12_state_96 ?_
        refine lv_topi (fun x_24 ex_24 => ?_)
        replace h := gb_lt_s ex_24 h
        refine lv_iload hx hb dX12_state_97 (lv_at hl 1 rfl) ?_
        refine lv_iconst (v := 3) hx hb dX12_state_99 (by decide) ?_
        refine lv_irem hx hb dX12_state_100 (by decide) ?_
        refine lv_topi (fun x_25 ex_25 => ?_)
        replace h := gb_lt_s ex_25 h
        refine lv_icmp_ne (tgt := 111) hx hb dX12_state_101 (by decide) (fun c_26 => ?_) (fun c_26 => ?_)
        · rw [if_neg c_26] at h
          refine lv_iconst (v := 0) hx hb dX12_state_111 (by decide) ?_
          exact L112 _ ih _ _ _ _ _ _ _ _ _ _ h hP hS (lv_sub hl [0, 1, 3, 4] rfl)
        · rw [if_pos c_26] at h
          refine lv_iconst (v := 1) hx hb dX12_state_104 (by decide) ?_
          refine lv_iload hx hb dX12_state_105 (lv_at hl 4 rfl) ?_
          refine lv_ishl hx hb dX12_state_107 ?_
          refine lv_goto (tgt := 112) hx hb dX12_state_108 (by decide) ?_
          exact L112 _ ih _ _ _ _ _ _ _ _ _ _ h hP hS (lv_sub hl [0, 1, 3, 4] rfl)
  unfold ms_state at h
  refine lv_aload_n hx hb dX12_state_0 rfl (lv_at hl 0 rfl) ?_
  refine lv_iload_n hx hb dX12_state_1 rfl (lv_at hl 1 rfl) ?_
  refine lv_iload_n hx hb dX12_state_2 rfl (lv_at hl 2 rfl) ?_
  refine lv_iload_n hx hb dX12_state_3 rfl (lv_at hl 3 rfl) ?_
  obtain ⟨f_1, wl_2, r_3, z_4, h⟩ := gb_bd_s h
  refine gb_calli (va_runV (C := RX12) (As := [.int p1, .int p2, .int p3]) (rest := []) ⟨hx, hb, hml, hown, hq⟩ (mc_isState l D cT tt b1 b hb1 n f w p1 p2 p3 f_1 wl_2 r_3 z_4) (cwV 3 hq (gb_gV w_1468 w_1470 s_5_5 w_14 w_1471) rfl rfl rfl (by decide +kernel) ⟨Nat.le_of_ble_eq_true rfl, Nat.le_of_ble_eq_true rfl⟩) (gb_preV (r := (RX12, TX12, 44)) (ci := 10) (q0 := 0) hSt hP rfl (gb_at b rfl) hS (fun q h => Nat.le_trans hb1 h.1) hP) rfl rfl hl.1 rfl (lv_room (Nat.le_of_ble_eq_true rfl)) dX12_state_4 ⟨Nat.le_of_ble_eq_true rfl, Nat.le_of_ble_eq_true rfl⟩) hS (fun _ h => h) (fun _ h => h) (fun q_5 H locs hY hk hS => ?_)
  obtain ⟨hq_5, hP⟩ := hY
  replace hq_5 := hq_5.symm
  subst hq_5
  refine lv_if_ne (tgt := 13) hx hb dX12_state_7 (by decide) (fun c_6 => ?_) (fun c_6 => ?_)
  · rw [if_neg c_6] at h
    refine lv_iload hx hb dX12_state_13 (lv_at hl 4 rfl) ?_
    refine lv_bipush (v := 6) hx hb dX12_state_15 (by decide) ?_
    refine lv_icmp_ne (tgt := 25) hx hb dX12_state_17 (by decide) (fun c_7 => ?_) (fun c_7 => ?_)
    · rw [if_neg c_7] at h
      refine lv_iload hx hb dX12_state_25 (lv_at hl 4 rfl) ?_
      refine lv_bipush (v := 7) hx hb dX12_state_27 (by decide) ?_
      refine lv_icmp_ne (tgt := 37) hx hb dX12_state_29 (by decide) (fun c_8 => ?_) (fun c_8 => ?_)
      · rw [if_neg c_8] at h
        refine lv_iload hx hb dX12_state_37 (lv_at hl 4 rfl) ?_
        refine lv_bipush (v := 8) hx hb dX12_state_39 (by decide) ?_
        refine lv_icmp_ne (tgt := 57) hx hb dX12_state_41 (by decide) (fun c_9 => ?_) (fun c_9 => ?_)
        · rw [if_neg c_9] at h
          refine lv_iload hx hb dX12_state_57 (lv_at hl 4 rfl) ?_
          refine lv_iconst (v := 0) hx hb dX12_state_59 (by decide) ?_
          refine lv_iconst (v := 5) hx hb dX12_state_60 (by decide) ?_
          obtain ⟨f_10, wl_11, r_12, z_13, h⟩ := gb_bd_s h
          refine gb_calli (va_runS (As := [.int p4, .int 0, .int 5]) (rest := []) ⟨hx, hb, hml, hown, hq⟩ (mc_isIn l D cT tt b1 b hb1 n f_1 wl_2 p4 0 5 f_10 wl_11 r_12 z_13) (va_cwS 3 hq (gb_gS w_1269 w_1270 w_14 w_1271) rfl rfl rfl (by decide +kernel) ⟨Nat.le_of_ble_eq_true rfl, Nat.le_of_ble_eq_true rfl⟩) (gb_preS hSt hS (fun q h => Nat.le_trans hb1 h.1) hP) rfl rfl hl.1 rfl (lv_room (Nat.le_of_ble_eq_true rfl)) dX12_state_61 ⟨Nat.le_of_ble_eq_true rfl, Nat.le_of_ble_eq_true rfl⟩) hS (fun _ h => h) (fun _ h => h) (fun q_14 H locs hY hk hS => ?_)
          obtain ⟨hq_14, hP⟩ := hY
          replace hq_14 := hq_14.symm
          subst hq_14
          refine lv_if_ne (tgt := 70) hx hb dX12_state_64 (by decide) (fun c_15 => ?_) (fun c_15 => ?_)
          · rw [if_neg c_15] at h
            refine lv_iconst (v := 0) hx hb dX12_state_70 (by decide) ?_
            refine lv_istore (lv' := [(5, .int 0), (0, .ref (b + 0)), (1, .int p1), (2, .int p2), (3, .int p3), (4, .int p4)]) hx hb dX12_state_71 hl (by decide) rfl (fun ls hl => ?_)
            refine lv_iconst (v := 0) hx hb dX12_state_73 (by decide) ?_
            refine lv_istore (lv' := [(6, .int 0), (5, .int 0), (0, .ref (b + 0)), (1, .int p1), (2, .int p2), (3, .int p3), (4, .int p4)]) hx hb dX12_state_74 hl (by decide) rfl (fun ls hl => ?_)
            refine lv_iconst (v := 0) hx hb dX12_state_76 (by decide) ?_
            refine lv_istore (lv' := [(7, .int 0), (6, .int 0), (5, .int 0), (0, .ref (b + 0)), (1, .int p1), (2, .int p2), (3, .int p3), (4, .int p4)]) hx hb dX12_state_77 hl (by decide) rfl (fun ls hl => ?_)
            exact L79 n _ _ _ _ _ _ _ _ _ h hP hS (lv_sub hl [3, 7, 2, 1, 0] rfl)
          · rw [if_pos c_15] at h
            refine lv_bipush (v := (-2)) hx hb dX12_state_67 (by decide) ?_
            obtain ⟨e1, e2, e3⟩ := gb_eq3 h
            exact W.iret (v := (-2)) hx hb hr (fun t ht hW => gb_ri ht ⟨e3, by rw [← e1, ← e2]; exact hP⟩ hS) hS.2.2 dX12_state_69
        · rw [if_pos c_9] at h
          refine lv_aload_n hx hb dX12_state_44 rfl (lv_at hl 0 rfl) ?_
          refine va_get (ci := 10) (v := (.int (f_1 0 22))) (C := RX12) (T := TX12) (N := 44) hx hb hq i_X12 hown hK hP 0 (gb_at b rfl) rfl 22 (by decide) (hq _ w_1146) (fun _ h9 => h9) rfl dX12_state_45 ?_
          refine lv_if_eq (tgt := 55) hx hb dX12_state_48 (by decide) (fun c_41 => ?_) (fun c_41 => ?_)
          · rw [if_pos c_41] at h
            refine lv_iconst (v := 0) hx hb dX12_state_55 (by decide) ?_
            obtain ⟨e1, e2, e3⟩ := gb_eq3 h
            exact W.iret (v := 0) hx hb hr (fun t ht hW => gb_ri ht ⟨e3, by rw [← e1, ← e2]; exact hP⟩ hS) hS.2.2 dX12_state_56
          · rw [if_neg c_41] at h
            refine lv_iconst (v := 1) hx hb dX12_state_51 (by decide) ?_
            refine lv_goto (tgt := 56) hx hb dX12_state_52 (by decide) ?_
            obtain ⟨e1, e2, e3⟩ := gb_eq3 h
            exact W.iret (v := 1) hx hb hr (fun t ht hW => gb_ri ht ⟨e3, by rw [← e1, ← e2]; exact hP⟩ hS) hS.2.2 dX12_state_56
      · rw [if_pos c_8] at h
        refine lv_aload_n hx hb dX12_state_32 rfl (lv_at hl 0 rfl) ?_
        obtain ⟨f_42, wl_43, r_44, z_45, h⟩ := gb_bd_s h
        refine gb_calli (va_runV (C := RX12) (As := []) (rest := []) ⟨hx, hb, hml, hown, hq⟩ (mc_allPay l D cT tt b1 b hb1 n f_1 wl_2 f_42 wl_43 r_44 z_45) (cwV 0 hq (gb_gV w_1496 w_1498 s_5_10 w_14 w_1499) rfl rfl rfl (by decide +kernel) ⟨Nat.le_of_ble_eq_true rfl, Nat.le_of_ble_eq_true rfl⟩) (gb_preV (r := (RX12, TX12, 44)) (ci := 10) (q0 := 0) hSt hP rfl (gb_at b rfl) hS (fun q h => Nat.le_trans hb1 h.1) hP) rfl rfl hl.1 rfl (lv_room (Nat.le_of_ble_eq_true rfl)) dX12_state_33 ⟨Nat.le_of_ble_eq_true rfl, Nat.le_of_ble_eq_true rfl⟩) hS (fun _ h => h) (fun _ h => h) (fun q_46 H locs hY hk hS => ?_)
        obtain ⟨hq_46, hP⟩ := hY
        replace hq_46 := hq_46.symm
        subst hq_46
        obtain ⟨e1, e2, e3⟩ := gb_eq3 h
        exact W.iret (v := r_44) hx hb hr (fun t ht hW => gb_ri ht ⟨e3, by rw [← e1, ← e2]; exact hP⟩ hS) hS.2.2 dX12_state_36
    · rw [if_pos c_7] at h
      refine lv_aload_n hx hb dX12_state_20 rfl (lv_at hl 0 rfl) ?_
      obtain ⟨f_47, wl_48, r_49, z_50, h⟩ := gb_bd_s h
      refine gb_calli (va_runV (C := RX12) (As := []) (rest := []) ⟨hx, hb, hml, hown, hq⟩ (mc_worn l D cT tt b1 b hb1 n f_1 wl_2 f_47 wl_48 r_49 z_50) (cwV 0 hq (gb_gV w_1492 w_1494 s_5_9 w_14 w_1495) rfl rfl rfl (by decide +kernel) ⟨Nat.le_of_ble_eq_true rfl, Nat.le_of_ble_eq_true rfl⟩) (gb_preV (r := (RX12, TX12, 44)) (ci := 10) (q0 := 0) hSt hP rfl (gb_at b rfl) hS (fun q h => Nat.le_trans hb1 h.1) hP) rfl rfl hl.1 rfl (lv_room (Nat.le_of_ble_eq_true rfl)) dX12_state_21 ⟨Nat.le_of_ble_eq_true rfl, Nat.le_of_ble_eq_true rfl⟩) hS (fun _ h => h) (fun _ h => h) (fun q_51 H locs hY hk hS => ?_)
      obtain ⟨hq_51, hP⟩ := hY
      replace hq_51 := hq_51.symm
      subst hq_51
      obtain ⟨e1, e2, e3⟩ := gb_eq3 h
      exact W.iret (v := r_49) hx hb hr (fun t ht hW => gb_ri ht ⟨e3, by rw [← e1, ← e2]; exact hP⟩ hS) hS.2.2 dX12_state_24
  · rw [if_pos c_6] at h
    refine lv_bipush (v := (-2)) hx hb dX12_state_10 (by decide) ?_
    obtain ⟨e1, e2, e3⟩ := gb_eq3 h
    exact W.iret (v := (-2)) hx hb hr (fun t ht hW => gb_ri ht ⟨e3, by rw [← e1, ← e2]; exact hP⟩ hS) hS.2.2 dX12_state_12
theorem dX12_termOf_0 : decode cX12_termOf 0 = .ok (.aload_n 0, 1) := dc_42 (show ((cX12_termOf.data.toList.drop 0).take 1).map UInt8.toNat = [42] by decide +kernel)
theorem dX12_termOf_1 : decode cX12_termOf 1 = .ok (.getfield 7, 3) := dc_180 (show ((cX12_termOf.data.toList.drop 1).take 3).map UInt8.toNat = [180, 0, 7] by decide +kernel) rfl
theorem dX12_termOf_4 : decode cX12_termOf 4 = .ok (.aload_n 0, 1) := dc_42 (show ((cX12_termOf.data.toList.drop 4).take 1).map UInt8.toNat = [42] by decide +kernel)
theorem dX12_termOf_5 : decode cX12_termOf 5 = .ok (.getfield 288, 3) := dc_180 (show ((cX12_termOf.data.toList.drop 5).take 3).map UInt8.toNat = [180, 1, 32] by decide +kernel) rfl
theorem w_1149 : (Cond.fieldLink "GooseBorderModel" (288 : Nat) "GooseBorderModel" "l0" "I") ∈ gb_wA := gb_t5 189 rfl rfl
theorem dX12_termOf_8 : decode cX12_termOf 8 = .ok (.iconst 1, 1) := dc_4 (show ((cX12_termOf.data.toList.drop 8).take 1).map UInt8.toNat = [4] by decide +kernel)
theorem dX12_termOf_9 : decode cX12_termOf 9 = .ok (.iadd, 1) := dc_96 (show ((cX12_termOf.data.toList.drop 9).take 1).map UInt8.toNat = [96] by decide +kernel)
theorem dX12_termOf_10 : decode cX12_termOf 10 = .ok (.iconst 3, 1) := dc_6 (show ((cX12_termOf.data.toList.drop 10).take 1).map UInt8.toNat = [6] by decide +kernel)
theorem dX12_termOf_11 : decode cX12_termOf 11 = .ok (.iload_n 1, 1) := dc_27 (show ((cX12_termOf.data.toList.drop 11).take 1).map UInt8.toNat = [27] by decide +kernel)
theorem dX12_termOf_12 : decode cX12_termOf 12 = .ok (.imul, 1) := dc_104 (show ((cX12_termOf.data.toList.drop 12).take 1).map UInt8.toNat = [104] by decide +kernel)
theorem dX12_termOf_13 : decode cX12_termOf 13 = .ok (.iadd, 1) := dc_96 (show ((cX12_termOf.data.toList.drop 13).take 1).map UInt8.toNat = [96] by decide +kernel)
theorem dX12_termOf_14 : decode cX12_termOf 14 = .ok (.iload_n 2, 1) := dc_28 (show ((cX12_termOf.data.toList.drop 14).take 1).map UInt8.toNat = [28] by decide +kernel)
theorem dX12_termOf_15 : decode cX12_termOf 15 = .ok (.iadd, 1) := dc_96 (show ((cX12_termOf.data.toList.drop 15).take 1).map UInt8.toNat = [96] by decide +kernel)
theorem dX12_termOf_16 : decode cX12_termOf 16 = .ok (.iaload, 1) := dc_46 (show ((cX12_termOf.data.toList.drop 16).take 1).map UInt8.toNat = [46] by decide +kernel)
theorem dX12_termOf_17 : decode cX12_termOf 17 = .ok (.ireturn, 1) := dc_172 (show ((cX12_termOf.data.toList.drop 17).take 1).map UInt8.toNat = [172] by decide +kernel)
def ms_termOf (n : Nat) (f : gb_F) (w : Int64) (p1 : Int32) (p2 : Int32) : gb_MR Int32 := gb_ck ((((f 0 25) + 1) + (3 * p1)) + p2) 3968 (gb_lt (f 1 (Int32.toNatClampNeg ((((f 0 25) + 1) + (3 * p1)) + p2))) (fun x_2 => some (f, w, x_2)))
set_option maxHeartbeats 8000000 in
set_option maxRecDepth 100000 in
theorem mc_termOf (l : Launch) (D : va_G) (cT : Nat → ClassId) (tt : Nat → Nat) (b1 b : Nat) (hb1 : b1 ≤ b) (n : Nat) (f : gb_F) (w : Int64) (p1 : Int32) (p2 : Int32) (fE : gb_F) (wE : Int64) (rE : Int32) (h : ms_termOf n f w p1 p2 = some (fE, wE, rE)) : Met l yX12_termOf (.code yX12_termOf cX12_termOf 3 (some FieldType.int) :: gb_wA) ({ frames := 0, cells := 0, slots := 0, locals := 0 }) (gb_Pc D cT tt b1 [.ref (b + 0), .int p1, .int p2] (fun h => va_P D vwCl (gb_wl b (gb_MW cT b f w)) h)) (gb_Qi (fun r h => r = rE ∧ va_P D vwCl (gb_wl b (gb_MW cT b fE wE)) h) (gb_fr b 22)) 0 0 (gb_fr b 22) := by
  refine Met.ofW (cc := cX12_termOf) (maxL := 3) (ret := (some FieldType.int)) (by decide) rfl ?_
  intro p e s m args below meth c s₁ B hml hv
  obtain ⟨rfl, hSt, hP⟩ := hv
  have hx := B.exec
  have hb := B.bytes
  have hr := B.returns
  have hts := atoms_spec (ws := .code yX12_termOf cX12_termOf 3 (some FieldType.int) :: gb_wA) B.pre
  have hq : ∀ w ∈ gb_wA, w.before _ s = true := fun w h => hts w (List.mem_cons_of_mem _ h)
  have hown : s.vm.findClass RX12 = some m.cls := findClass_of_methodNamed B.named
  have hlocks := B.notSynchronized
  clear B hts
  have hK := hSt.1
  have hS : va_S (gb_fr b 22) s.heap s.heap [] := va_S.rf
  have hl := lv_entry ([.ref (b + 0), .int p1, .int p2]) (n := 3) (Nat.le_of_ble_eq_true rfl)
  rw [lg_entry_eq]
  generalize (lg_sl ([.ref (b + 0), .int p1, .int p2]) ++ List.replicate (3 - (lg_sl ([.ref (b + 0), .int p1, .int p2])).length) Slot.unset).toArray = ls at hl ⊢
  replace hl : lv_has ls 3 [(0, .ref (b + 0)), (1, .int p1), (2, .int p2)] := hl
  unfold ms_termOf at h
  refine lv_aload_n hx hb dX12_termOf_0 rfl (lv_at hl 0 rfl) ?_
  refine va_get (ci := 10) (v := (.ref (b + 1))) (C := RX12) (T := TX12) (N := 44) hx hb hq i_X12 hown hK hP 0 (gb_at b rfl) rfl 0 (by decide) (hq _ w_1124) (fun _ h9 => h9) rfl dX12_termOf_1 ?_
  refine lv_aload_n hx hb dX12_termOf_4 rfl (lv_at hl 0 rfl) ?_
  refine va_get (ci := 10) (v := (.int (f 0 25))) (C := RX12) (T := TX12) (N := 44) hx hb hq i_X12 hown hK hP 0 (gb_at b rfl) rfl 25 (by decide) (hq _ w_1149) (fun _ h9 => h9) rfl dX12_termOf_5 ?_
  refine lv_iconst (v := 1) hx hb dX12_termOf_8 (by decide) ?_
  refine lv_iadd hx hb dX12_termOf_9 ?_
  refine lv_iconst (v := 3) hx hb dX12_termOf_10 (by decide) ?_
  refine lv_iload_n hx hb dX12_termOf_11 rfl (lv_at hl 1 rfl) ?_
  refine lv_imul hx hb dX12_termOf_12 ?_
  refine lv_iadd hx hb dX12_termOf_13 ?_
  refine lv_iload_n hx hb dX12_termOf_14 rfl (lv_at hl 2 rfl) ?_
  refine lv_iadd hx hb dX12_termOf_15 ?_
  obtain ⟨z_1, h⟩ := gb_ck_s h
  refine va_iald hx hb hK hP 1 0 (gb_at b rfl) rfl z_1 dX12_termOf_16 ?_
  refine lv_topi (fun x_2 ex_2 => ?_)
  replace h := gb_lt_s ex_2 h
  obtain ⟨e1, e2, e3⟩ := gb_eq3 h
  exact W.iret (v := x_2) hx hb hr (fun t ht hW => gb_ri ht ⟨e3, by rw [← e1, ← e2]; exact hP⟩ hS) hS.2.2 dX12_termOf_17
theorem dX12_term_0 : decode cX12_term 0 = .ok (.aload_n 0, 1) := dc_42 (show ((cX12_term.data.toList.drop 0).take 1).map UInt8.toNat = [42] by decide +kernel)
theorem dX12_term_1 : decode cX12_term 1 = .ok (.iconst 2, 1) := dc_5 (show ((cX12_term.data.toList.drop 1).take 1).map UInt8.toNat = [5] by decide +kernel)
theorem dX12_term_2 : decode cX12_term 2 = .ok (.iload_n 1, 1) := dc_27 (show ((cX12_term.data.toList.drop 2).take 1).map UInt8.toNat = [27] by decide +kernel)
theorem dX12_term_3 : decode cX12_term 3 = .ok (.invokevirtual 171, 3) := dc_182 (show ((cX12_term.data.toList.drop 3).take 3).map UInt8.toNat = [182, 0, 171] by decide +kernel) rfl
theorem dX12_term_6 : decode cX12_term 6 = .ok (.ifCond .ne 6, 3) := dc_154 (show ((cX12_term.data.toList.drop 6).take 3).map UInt8.toNat = [154, 0, 6] by decide +kernel) rfl
theorem dX12_term_12 : decode cX12_term 12 = .ok (.aload_n 0, 1) := dc_42 (show ((cX12_term.data.toList.drop 12).take 1).map UInt8.toNat = [42] by decide +kernel)
theorem dX12_term_13 : decode cX12_term 13 = .ok (.iconst 2, 1) := dc_5 (show ((cX12_term.data.toList.drop 13).take 1).map UInt8.toNat = [5] by decide +kernel)
theorem dX12_term_14 : decode cX12_term 14 = .ok (.iload_n 1, 1) := dc_27 (show ((cX12_term.data.toList.drop 14).take 1).map UInt8.toNat = [27] by decide +kernel)
theorem dX12_term_15 : decode cX12_term 15 = .ok (.invokestatic 190, 3) := dc_184 (show ((cX12_term.data.toList.drop 15).take 3).map UInt8.toNat = [184, 0, 190] by decide +kernel) rfl
theorem dX12_term_18 : decode cX12_term 18 = .ok (.putfield 288, 3) := dc_181 (show ((cX12_term.data.toList.drop 18).take 3).map UInt8.toNat = [181, 1, 32] by decide +kernel) rfl
theorem dX12_term_21 : decode cX12_term 21 = .ok (.iload_n 2, 1) := dc_28 (show ((cX12_term.data.toList.drop 21).take 1).map UInt8.toNat = [28] by decide +kernel)
theorem dX12_term_22 : decode cX12_term 22 = .ok (.iconst (-1), 1) := dc_2 (show ((cX12_term.data.toList.drop 22).take 1).map UInt8.toNat = [2] by decide +kernel)
theorem dX12_term_23 : decode cX12_term 23 = .ok (.if_icmp .ne 22, 3) := dc_160 (show ((cX12_term.data.toList.drop 23).take 3).map UInt8.toNat = [160, 0, 22] by decide +kernel) rfl
theorem dX12_term_45 : decode cX12_term 45 = .ok (.iload_n 2, 1) := dc_28 (show ((cX12_term.data.toList.drop 45).take 1).map UInt8.toNat = [28] by decide +kernel)
theorem dX12_term_46 : decode cX12_term 46 = .ok (.iconst 0, 1) := dc_3 (show ((cX12_term.data.toList.drop 46).take 1).map UInt8.toNat = [3] by decide +kernel)
theorem dX12_term_47 : decode cX12_term 47 = .ok (.aload_n 0, 1) := dc_42 (show ((cX12_term.data.toList.drop 47).take 1).map UInt8.toNat = [42] by decide +kernel)
theorem dX12_term_48 : decode cX12_term 48 = .ok (.getfield 7, 3) := dc_180 (show ((cX12_term.data.toList.drop 48).take 3).map UInt8.toNat = [180, 0, 7] by decide +kernel) rfl
theorem dX12_term_51 : decode cX12_term 51 = .ok (.aload_n 0, 1) := dc_42 (show ((cX12_term.data.toList.drop 51).take 1).map UInt8.toNat = [42] by decide +kernel)
theorem dX12_term_52 : decode cX12_term 52 = .ok (.getfield 288, 3) := dc_180 (show ((cX12_term.data.toList.drop 52).take 3).map UInt8.toNat = [180, 1, 32] by decide +kernel) rfl
theorem dX12_term_55 : decode cX12_term 55 = .ok (.iaload, 1) := dc_46 (show ((cX12_term.data.toList.drop 55).take 1).map UInt8.toNat = [46] by decide +kernel)
theorem dX12_term_56 : decode cX12_term 56 = .ok (.iconst 1, 1) := dc_4 (show ((cX12_term.data.toList.drop 56).take 1).map UInt8.toNat = [4] by decide +kernel)
theorem dX12_term_57 : decode cX12_term 57 = .ok (.isub, 1) := dc_100 (show ((cX12_term.data.toList.drop 57).take 1).map UInt8.toNat = [100] by decide +kernel)
theorem dX12_term_58 : decode cX12_term 58 = .ok (.invokestatic 129, 3) := dc_184 (show ((cX12_term.data.toList.drop 58).take 3).map UInt8.toNat = [184, 0, 129] by decide +kernel) rfl
theorem dX12_term_61 : decode cX12_term 61 = .ok (.ifCond .eq 21, 3) := dc_153 (show ((cX12_term.data.toList.drop 61).take 3).map UInt8.toNat = [153, 0, 21] by decide +kernel) rfl
theorem dX12_term_82 : decode cX12_term 82 = .ok (.bipush (-2), 2) := dc_16 (show ((cX12_term.data.toList.drop 82).take 2).map UInt8.toNat = [16, 254] by decide +kernel) rfl
theorem dX12_term_84 : decode cX12_term 84 = .ok (.ireturn, 1) := dc_172 (show ((cX12_term.data.toList.drop 84).take 1).map UInt8.toNat = [172] by decide +kernel)
theorem dX12_term_64 : decode cX12_term 64 = .ok (.iload_n 3, 1) := dc_29 (show ((cX12_term.data.toList.drop 64).take 1).map UInt8.toNat = [29] by decide +kernel)
theorem dX12_term_65 : decode cX12_term 65 = .ok (.iconst 0, 1) := dc_3 (show ((cX12_term.data.toList.drop 65).take 1).map UInt8.toNat = [3] by decide +kernel)
theorem dX12_term_66 : decode cX12_term 66 = .ok (.iconst 2, 1) := dc_5 (show ((cX12_term.data.toList.drop 66).take 1).map UInt8.toNat = [5] by decide +kernel)
theorem dX12_term_67 : decode cX12_term 67 = .ok (.invokestatic 129, 3) := dc_184 (show ((cX12_term.data.toList.drop 67).take 3).map UInt8.toNat = [184, 0, 129] by decide +kernel) rfl
theorem dX12_term_70 : decode cX12_term 70 = .ok (.ifCond .eq 12, 3) := dc_153 (show ((cX12_term.data.toList.drop 70).take 3).map UInt8.toNat = [153, 0, 12] by decide +kernel) rfl
theorem dX12_term_73 : decode cX12_term 73 = .ok (.aload_n 0, 1) := dc_42 (show ((cX12_term.data.toList.drop 73).take 1).map UInt8.toNat = [42] by decide +kernel)
theorem dX12_term_74 : decode cX12_term 74 = .ok (.iload_n 2, 1) := dc_28 (show ((cX12_term.data.toList.drop 74).take 1).map UInt8.toNat = [28] by decide +kernel)
theorem dX12_term_75 : decode cX12_term 75 = .ok (.iload_n 3, 1) := dc_29 (show ((cX12_term.data.toList.drop 75).take 1).map UInt8.toNat = [29] by decide +kernel)
theorem dX12_term_76 : decode cX12_term 76 = .ok (.invokevirtual 291, 3) := dc_182 (show ((cX12_term.data.toList.drop 76).take 3).map UInt8.toNat = [182, 1, 35] by decide +kernel) rfl
theorem w_1507 : (Cond.code ({ cls := "GooseBorderModel", name := "termOf", desc := "(II)I" } : MethodName) prog_14_method_65_code (3 : Nat) (Option.some FieldType.int)) ∈ gb_wA := gb_t7 67 rfl rfl
theorem w_1504 : (Cond.methodLink "GooseBorderModel" (291 : Nat) ({ cls := "GooseBorderModel", name := "termOf", desc := "(II)I" } : MethodName)) ∈ gb_wA := gb_t7 64 rfl rfl
theorem w_1506 : (Cond.instanceMethod ({ cls := "GooseBorderModel", name := "termOf", desc := "(II)I" } : MethodName)) ∈ gb_wA := gb_t7 66 rfl rfl
theorem s_5_11 : Cond.selects "GooseBorderModel" (⟨"GooseBorderModel", "termOf", "(II)I"⟩ : MethodName) (⟨"GooseBorderModel", "termOf", "(II)I"⟩ : MethodName) ∈ gb_wA := gb_s5 11 rfl rfl
theorem dX12_term_79 : decode cX12_term 79 = .ok (.goto 5, 3) := dc_167 (show ((cX12_term.data.toList.drop 79).take 3).map UInt8.toNat = [167, 0, 5] by decide +kernel) rfl
theorem dX12_term_26 : decode cX12_term 26 = .ok (.iload_n 3, 1) := dc_29 (show ((cX12_term.data.toList.drop 26).take 1).map UInt8.toNat = [29] by decide +kernel)
theorem dX12_term_27 : decode cX12_term 27 = .ok (.ifCond .ne 15, 3) := dc_154 (show ((cX12_term.data.toList.drop 27).take 3).map UInt8.toNat = [154, 0, 15] by decide +kernel) rfl
theorem dX12_term_42 : decode cX12_term 42 = .ok (.bipush (-2), 2) := dc_16 (show ((cX12_term.data.toList.drop 42).take 2).map UInt8.toNat = [16, 254] by decide +kernel) rfl
theorem dX12_term_44 : decode cX12_term 44 = .ok (.ireturn, 1) := dc_172 (show ((cX12_term.data.toList.drop 44).take 1).map UInt8.toNat = [172] by decide +kernel)
theorem dX12_term_30 : decode cX12_term 30 = .ok (.aload_n 0, 1) := dc_42 (show ((cX12_term.data.toList.drop 30).take 1).map UInt8.toNat = [42] by decide +kernel)
theorem dX12_term_31 : decode cX12_term 31 = .ok (.getfield 7, 3) := dc_180 (show ((cX12_term.data.toList.drop 31).take 3).map UInt8.toNat = [180, 0, 7] by decide +kernel) rfl
theorem dX12_term_34 : decode cX12_term 34 = .ok (.aload_n 0, 1) := dc_42 (show ((cX12_term.data.toList.drop 34).take 1).map UInt8.toNat = [42] by decide +kernel)
theorem dX12_term_35 : decode cX12_term 35 = .ok (.getfield 288, 3) := dc_180 (show ((cX12_term.data.toList.drop 35).take 3).map UInt8.toNat = [180, 1, 32] by decide +kernel) rfl
theorem dX12_term_38 : decode cX12_term 38 = .ok (.iaload, 1) := dc_46 (show ((cX12_term.data.toList.drop 38).take 1).map UInt8.toNat = [46] by decide +kernel)
theorem dX12_term_39 : decode cX12_term 39 = .ok (.goto 5, 3) := dc_167 (show ((cX12_term.data.toList.drop 39).take 3).map UInt8.toNat = [167, 0, 5] by decide +kernel) rfl
theorem dX12_term_9 : decode cX12_term 9 = .ok (.bipush (-2), 2) := dc_16 (show ((cX12_term.data.toList.drop 9).take 2).map UInt8.toNat = [16, 254] by decide +kernel) rfl
theorem dX12_term_11 : decode cX12_term 11 = .ok (.ireturn, 1) := dc_172 (show ((cX12_term.data.toList.drop 11).take 1).map UInt8.toNat = [172] by decide +kernel)
def ms_term (n : Nat) (f : gb_F) (w : Int64) (p1 : Int32) (p2 : Int32) (p3 : Int32) : gb_MR Int32 := gb_bd (ms_isOf n f w 2 p1) (fun f_1 wl_2 r_3 => (if r_3 = 0 then some (f_1, wl_2, (-2)) else gb_bd (ms_placeOf n f_1 wl_2 2 p1) (fun f_7 wl_8 r_9 => gb_lt (gb_u f_7 0 (upd (f_7 0) 25 r_9)) (fun f_12 => (if p2 = (-1) then (if p3 = 0 then gb_ck (f_12 0 25) 3968 (gb_lt (f_12 1 (Int32.toNatClampNeg (f_12 0 25))) (fun x_35 => some (f_12, wl_8, x_35))) else some (f_12, wl_8, (-2))) else gb_ck (f_12 0 25) 3968 (gb_lt (f_12 1 (Int32.toNatClampNeg (f_12 0 25))) (fun x_15 => gb_bd (ms_isIn n f_12 wl_8 p2 0 (x_15 - 1)) (fun f_16 wl_17 r_18 => (if r_18 = 0 then some (f_16, wl_17, (-2)) else gb_bd (ms_isIn n f_16 wl_17 p3 0 2) (fun f_22 wl_23 r_24 => (if r_24 = 0 then some (f_22, wl_23, (-2)) else gb_bd (ms_termOf n f_22 wl_23 p2 p3) (fun f_28 wl_29 r_30 => some (f_28, wl_29, r_30)))))))))))))
set_option maxHeartbeats 8000000 in
set_option maxRecDepth 100000 in
theorem mc_term (l : Launch) (D : va_G) (cT : Nat → ClassId) (tt : Nat → Nat) (b1 b : Nat) (hb1 : b1 ≤ b) (n : Nat) (f : gb_F) (w : Int64) (p1 : Int32) (p2 : Int32) (p3 : Int32) (fE : gb_F) (wE : Int64) (rE : Int32) (h : ms_term n f w p1 p2 p3 = some (fE, wE, rE)) : Met l yX12_term (.code yX12_term cX12_term 4 (some FieldType.int) :: gb_wA) ({ frames := 2, cells := 0, slots := 0, locals := 44 }) (gb_Pc D cT tt b1 [.ref (b + 0), .int p1, .int p2, .int p3] (fun h => va_P D vwCl (gb_wl b (gb_MW cT b f w)) h)) (gb_Qi (fun r h => r = rE ∧ va_P D vwCl (gb_wl b (gb_MW cT b fE wE)) h) (gb_fr b 22)) 0 0 (gb_fr b 22) := by
  refine Met.ofW (cc := cX12_term) (maxL := 4) (ret := (some FieldType.int)) (by decide) rfl ?_
  intro p e s m args below meth c s₁ B hml hv
  obtain ⟨rfl, hSt, hP⟩ := hv
  have hx := B.exec
  have hb := B.bytes
  have hr := B.returns
  have hts := atoms_spec (ws := .code yX12_term cX12_term 4 (some FieldType.int) :: gb_wA) B.pre
  have hq : ∀ w ∈ gb_wA, w.before _ s = true := fun w h => hts w (List.mem_cons_of_mem _ h)
  have hown : s.vm.findClass RX12 = some m.cls := findClass_of_methodNamed B.named
  have hlocks := B.notSynchronized
  clear B hts
  have hK := hSt.1
  have hS : va_S (gb_fr b 22) s.heap s.heap [] := va_S.rf
  have hl := lv_entry ([.ref (b + 0), .int p1, .int p2, .int p3]) (n := 4) (Nat.le_of_ble_eq_true rfl)
  rw [lg_entry_eq]
  generalize (lg_sl ([.ref (b + 0), .int p1, .int p2, .int p3]) ++ List.replicate (4 - (lg_sl ([.ref (b + 0), .int p1, .int p2, .int p3])).length) Slot.unset).toArray = ls at hl ⊢
  replace hl : lv_has ls 4 [(0, .ref (b + 0)), (1, .int p1), (2, .int p2), (3, .int p3)] := hl
  unfold ms_term at h
  refine lv_aload_n hx hb dX12_term_0 rfl (lv_at hl 0 rfl) ?_
  refine lv_iconst (v := 2) hx hb dX12_term_1 (by decide) ?_
  refine lv_iload_n hx hb dX12_term_2 rfl (lv_at hl 1 rfl) ?_
  obtain ⟨f_1, wl_2, r_3, z_4, h⟩ := gb_bd_s h
  refine gb_calli (va_runV (C := RX12) (As := [.int 2, .int p1]) (rest := []) ⟨hx, hb, hml, hown, hq⟩ (mc_isOf l D cT tt b1 b hb1 n f w 2 p1 f_1 wl_2 r_3 z_4) (cwV 2 hq (gb_gV w_1272 w_1274 s_3_0 w_14 w_1275) rfl rfl rfl (by decide +kernel) ⟨Nat.le_of_ble_eq_true rfl, Nat.le_of_ble_eq_true rfl⟩) (gb_preV (r := (RX12, TX12, 44)) (ci := 10) (q0 := 0) hSt hP rfl (gb_at b rfl) hS (fun q h => Nat.le_trans hb1 h.1) hP) rfl rfl hl.1 rfl (lv_room (Nat.le_of_ble_eq_true rfl)) dX12_term_3 ⟨Nat.le_of_ble_eq_true rfl, Nat.le_of_ble_eq_true rfl⟩) hS (fun _ h => h) (fun _ h => h) (fun q_5 H locs hY hk hS => ?_)
  obtain ⟨hq_5, hP⟩ := hY
  replace hq_5 := hq_5.symm
  subst hq_5
  refine lv_if_ne (tgt := 12) hx hb dX12_term_6 (by decide) (fun c_6 => ?_) (fun c_6 => ?_)
  · rw [if_neg c_6] at h
    refine lv_aload_n hx hb dX12_term_12 rfl (lv_at hl 0 rfl) ?_
    refine lv_iconst (v := 2) hx hb dX12_term_13 (by decide) ?_
    refine lv_iload_n hx hb dX12_term_14 rfl (lv_at hl 1 rfl) ?_
    obtain ⟨f_7, wl_8, r_9, z_10, h⟩ := gb_bd_s h
    refine gb_calli (va_runS (As := [.int 2, .int p1]) (rest := [.ref (b + 0)]) ⟨hx, hb, hml, hown, hq⟩ (mc_placeOf l D cT tt b1 b hb1 n f_1 wl_2 2 p1 f_7 wl_8 r_9 z_10) (va_cwS 2 hq (gb_gS w_1361 w_1362 w_14 w_1363) rfl rfl rfl (by decide +kernel) ⟨Nat.le_of_ble_eq_true rfl, Nat.le_of_ble_eq_true rfl⟩) (gb_preS hSt hS (fun q h => Nat.le_trans hb1 h.1) hP) rfl rfl hl.1 rfl (lv_room (Nat.le_of_ble_eq_true rfl)) dX12_term_15 ⟨Nat.le_of_ble_eq_true rfl, Nat.le_of_ble_eq_true rfl⟩) hS (fun _ h => h) (fun _ h => h) (fun q_11 H locs hY hk hS => ?_)
    obtain ⟨hq_11, hP⟩ := hY
    replace hq_11 := hq_11.symm
    subst hq_11
    refine gb_put (ci := 10) (v := (.int r_9)) (ty := .int) (C := RX12) (T := TX12) (N := 44) hx hb hq i_X12 tyX12 tyX12_ok nmX12 hown hK hP (fun k h => ⟨Nat.le_add_right b k, Nat.add_lt_add_left h b⟩) hS rfl 0 rfl rfl 25 (by decide) (hq _ w_1149) (fun _ h9 => h9) rfl (by decide +kernel) rfl rfl (Nat.le_of_ble_eq_true rfl) dX12_term_18 (fun H locs hP hz_ hS => ?_)
    obtain ⟨f_12, ef_12⟩ : ∃ q, q = (gb_u f_7 0 (upd (f_7 0) 25 r_9)) := ⟨_, rfl⟩
    replace hP : va_P D vwCl (gb_wl b (gb_MW cT b f_12 wl_8)) H := by rw [ef_12]; exact hP
    replace h := gb_lt_s ef_12 h
    refine lv_iload_n hx hb dX12_term_21 rfl (lv_at hl 2 rfl) ?_
    refine lv_iconst (v := (-1)) hx hb dX12_term_22 (by decide) ?_
    refine lv_icmp_ne (tgt := 45) hx hb dX12_term_23 (by decide) (fun c_13 => ?_) (fun c_13 => ?_)
    · rw [if_neg c_13] at h
      refine lv_iload_n hx hb dX12_term_45 rfl (lv_at hl 2 rfl) ?_
      refine lv_iconst (v := 0) hx hb dX12_term_46 (by decide) ?_
      refine lv_aload_n hx hb dX12_term_47 rfl (lv_at hl 0 rfl) ?_
      refine va_get (ci := 10) (v := (.ref (b + 1))) (C := RX12) (T := TX12) (N := 44) hx hb hq i_X12 hown hK hP 0 (gb_at b rfl) rfl 0 (by decide) (hq _ w_1124) (fun _ h9 => h9) rfl dX12_term_48 ?_
      refine lv_aload_n hx hb dX12_term_51 rfl (lv_at hl 0 rfl) ?_
      refine va_get (ci := 10) (v := (.int (f_12 0 25))) (C := RX12) (T := TX12) (N := 44) hx hb hq i_X12 hown hK hP 0 (gb_at b rfl) rfl 25 (by decide) (hq _ w_1149) (fun _ h9 => h9) rfl dX12_term_52 ?_
      obtain ⟨z_14, h⟩ := gb_ck_s h
      refine va_iald hx hb hK hP 1 0 (gb_at b rfl) rfl z_14 dX12_term_55 ?_
      refine lv_topi (fun x_15 ex_15 => ?_)
      replace h := gb_lt_s ex_15 h
      refine lv_iconst (v := 1) hx hb dX12_term_56 (by decide) ?_
      refine lv_isub hx hb dX12_term_57 ?_
      obtain ⟨f_16, wl_17, r_18, z_19, h⟩ := gb_bd_s h
      refine gb_calli (va_runS (As := [.int p2, .int 0, .int (x_15 - 1)]) (rest := []) ⟨hx, hb, hml, hown, hq⟩ (mc_isIn l D cT tt b1 b hb1 n f_12 wl_8 p2 0 (x_15 - 1) f_16 wl_17 r_18 z_19) (va_cwS 3 hq (gb_gS w_1269 w_1270 w_14 w_1271) rfl rfl rfl (by decide +kernel) ⟨Nat.le_of_ble_eq_true rfl, Nat.le_of_ble_eq_true rfl⟩) (gb_preS hSt hS (fun q h => Nat.le_trans hb1 h.1) hP) rfl rfl hl.1 rfl (lv_room (Nat.le_of_ble_eq_true rfl)) dX12_term_58 ⟨Nat.le_of_ble_eq_true rfl, Nat.le_of_ble_eq_true rfl⟩) hS (fun _ h => h) (fun _ h => h) (fun q_20 H locs hY hk hS => ?_)
      obtain ⟨hq_20, hP⟩ := hY
      replace hq_20 := hq_20.symm
      subst hq_20
      refine lv_if_eq (tgt := 82) hx hb dX12_term_61 (by decide) (fun c_21 => ?_) (fun c_21 => ?_)
      · rw [if_pos c_21] at h
        refine lv_bipush (v := (-2)) hx hb dX12_term_82 (by decide) ?_
        obtain ⟨e1, e2, e3⟩ := gb_eq3 h
        exact W.iret (v := (-2)) hx hb hr (fun t ht hW => gb_ri ht ⟨e3, by rw [← e1, ← e2]; exact hP⟩ hS) hS.2.2 dX12_term_84
      · rw [if_neg c_21] at h
        refine lv_iload_n hx hb dX12_term_64 rfl (lv_at hl 3 rfl) ?_
        refine lv_iconst (v := 0) hx hb dX12_term_65 (by decide) ?_
        refine lv_iconst (v := 2) hx hb dX12_term_66 (by decide) ?_
        obtain ⟨f_22, wl_23, r_24, z_25, h⟩ := gb_bd_s h
        refine gb_calli (va_runS (As := [.int p3, .int 0, .int 2]) (rest := []) ⟨hx, hb, hml, hown, hq⟩ (mc_isIn l D cT tt b1 b hb1 n f_16 wl_17 p3 0 2 f_22 wl_23 r_24 z_25) (va_cwS 3 hq (gb_gS w_1269 w_1270 w_14 w_1271) rfl rfl rfl (by decide +kernel) ⟨Nat.le_of_ble_eq_true rfl, Nat.le_of_ble_eq_true rfl⟩) (gb_preS hSt hS (fun q h => Nat.le_trans hb1 h.1) hP) rfl rfl hl.1 rfl (lv_room (Nat.le_of_ble_eq_true rfl)) dX12_term_67 ⟨Nat.le_of_ble_eq_true rfl, Nat.le_of_ble_eq_true rfl⟩) hS (fun _ h => h) (fun _ h => h) (fun q_26 H locs hY hk hS => ?_)
        obtain ⟨hq_26, hP⟩ := hY
        replace hq_26 := hq_26.symm
        subst hq_26
        refine lv_if_eq (tgt := 82) hx hb dX12_term_70 (by decide) (fun c_27 => ?_) (fun c_27 => ?_)
        · rw [if_pos c_27] at h
          refine lv_bipush (v := (-2)) hx hb dX12_term_82 (by decide) ?_
          obtain ⟨e1, e2, e3⟩ := gb_eq3 h
          exact W.iret (v := (-2)) hx hb hr (fun t ht hW => gb_ri ht ⟨e3, by rw [← e1, ← e2]; exact hP⟩ hS) hS.2.2 dX12_term_84
        · rw [if_neg c_27] at h
          refine lv_aload_n hx hb dX12_term_73 rfl (lv_at hl 0 rfl) ?_
          refine lv_iload_n hx hb dX12_term_74 rfl (lv_at hl 2 rfl) ?_
          refine lv_iload_n hx hb dX12_term_75 rfl (lv_at hl 3 rfl) ?_
          obtain ⟨f_28, wl_29, r_30, z_31, h⟩ := gb_bd_s h
          refine gb_calli (va_runV (C := RX12) (As := [.int p2, .int p3]) (rest := []) ⟨hx, hb, hml, hown, hq⟩ (mc_termOf l D cT tt b1 b hb1 n f_22 wl_23 p2 p3 f_28 wl_29 r_30 z_31) (cwV 2 hq (gb_gV w_1504 w_1506 s_5_11 w_14 w_1507) rfl rfl rfl (by decide +kernel) ⟨Nat.le_of_ble_eq_true rfl, Nat.le_of_ble_eq_true rfl⟩) (gb_preV (r := (RX12, TX12, 44)) (ci := 10) (q0 := 0) hSt hP rfl (gb_at b rfl) hS (fun q h => Nat.le_trans hb1 h.1) hP) rfl rfl hl.1 rfl (lv_room (Nat.le_of_ble_eq_true rfl)) dX12_term_76 ⟨Nat.le_of_ble_eq_true rfl, Nat.le_of_ble_eq_true rfl⟩) hS (fun _ h => h) (fun _ h => h) (fun q_32 H locs hY hk hS => ?_)
          obtain ⟨hq_32, hP⟩ := hY
          replace hq_32 := hq_32.symm
          subst hq_32
          refine lv_goto (tgt := 84) hx hb dX12_term_79 (by decide) ?_
          obtain ⟨e1, e2, e3⟩ := gb_eq3 h
          exact W.iret (v := r_30) hx hb hr (fun t ht hW => gb_ri ht ⟨e3, by rw [← e1, ← e2]; exact hP⟩ hS) hS.2.2 dX12_term_84
    · rw [if_pos c_13] at h
      refine lv_iload_n hx hb dX12_term_26 rfl (lv_at hl 3 rfl) ?_
      refine lv_if_ne (tgt := 42) hx hb dX12_term_27 (by decide) (fun c_33 => ?_) (fun c_33 => ?_)
      · rw [if_neg c_33] at h
        refine lv_bipush (v := (-2)) hx hb dX12_term_42 (by decide) ?_
        obtain ⟨e1, e2, e3⟩ := gb_eq3 h
        exact W.iret (v := (-2)) hx hb hr (fun t ht hW => gb_ri ht ⟨e3, by rw [← e1, ← e2]; exact hP⟩ hS) hS.2.2 dX12_term_44
      · rw [if_pos c_33] at h
        refine lv_aload_n hx hb dX12_term_30 rfl (lv_at hl 0 rfl) ?_
        refine va_get (ci := 10) (v := (.ref (b + 1))) (C := RX12) (T := TX12) (N := 44) hx hb hq i_X12 hown hK hP 0 (gb_at b rfl) rfl 0 (by decide) (hq _ w_1124) (fun _ h9 => h9) rfl dX12_term_31 ?_
        refine lv_aload_n hx hb dX12_term_34 rfl (lv_at hl 0 rfl) ?_
        refine va_get (ci := 10) (v := (.int (f_12 0 25))) (C := RX12) (T := TX12) (N := 44) hx hb hq i_X12 hown hK hP 0 (gb_at b rfl) rfl 25 (by decide) (hq _ w_1149) (fun _ h9 => h9) rfl dX12_term_35 ?_
        obtain ⟨z_34, h⟩ := gb_ck_s h
        refine va_iald hx hb hK hP 1 0 (gb_at b rfl) rfl z_34 dX12_term_38 ?_
        refine lv_topi (fun x_35 ex_35 => ?_)
        replace h := gb_lt_s ex_35 h
        refine lv_goto (tgt := 44) hx hb dX12_term_39 (by decide) ?_
        obtain ⟨e1, e2, e3⟩ := gb_eq3 h
        exact W.iret (v := x_35) hx hb hr (fun t ht hW => gb_ri ht ⟨e3, by rw [← e1, ← e2]; exact hP⟩ hS) hS.2.2 dX12_term_44
  · rw [if_pos c_6] at h
    refine lv_bipush (v := (-2)) hx hb dX12_term_9 (by decide) ?_
    obtain ⟨e1, e2, e3⟩ := gb_eq3 h
    exact W.iret (v := (-2)) hx hb hr (fun t ht hW => gb_ri ht ⟨e3, by rw [← e1, ← e2]; exact hP⟩ hS) hS.2.2 dX12_term_11
theorem dX12_paysBy_0 : decode cX12_paysBy 0 = .ok (.iconst 0, 1) := dc_3 (show ((cX12_paysBy.data.toList.drop 0).take 1).map UInt8.toNat = [3] by decide +kernel)
theorem dX12_paysBy_1 : decode cX12_paysBy 1 = .ok (.istore_n 2, 1) := dc_61 (show ((cX12_paysBy.data.toList.drop 1).take 1).map UInt8.toNat = [61] by decide +kernel)
theorem dX12_paysBy_2 : decode cX12_paysBy 2 = .ok (.iconst 0, 1) := dc_3 (show ((cX12_paysBy.data.toList.drop 2).take 1).map UInt8.toNat = [3] by decide +kernel)
theorem dX12_paysBy_3 : decode cX12_paysBy 3 = .ok (.istore_n 3, 1) := dc_62 (show ((cX12_paysBy.data.toList.drop 3).take 1).map UInt8.toNat = [62] by decide +kernel)
theorem dX12_paysBy_4 : decode cX12_paysBy 4 = .ok (.iload_n 3, 1) := dc_29 (show ((cX12_paysBy.data.toList.drop 4).take 1).map UInt8.toNat = [29] by decide +kernel)
theorem dX12_paysBy_5 : decode cX12_paysBy 5 = .ok (.aload_n 0, 1) := dc_42 (show ((cX12_paysBy.data.toList.drop 5).take 1).map UInt8.toNat = [42] by decide +kernel)
theorem dX12_paysBy_6 : decode cX12_paysBy 6 = .ok (.getfield 7, 3) := dc_180 (show ((cX12_paysBy.data.toList.drop 6).take 3).map UInt8.toNat = [180, 0, 7] by decide +kernel) rfl
theorem dX12_paysBy_9 : decode cX12_paysBy 9 = .ok (.aload_n 0, 1) := dc_42 (show ((cX12_paysBy.data.toList.drop 9).take 1).map UInt8.toNat = [42] by decide +kernel)
theorem dX12_paysBy_10 : decode cX12_paysBy 10 = .ok (.getfield 288, 3) := dc_180 (show ((cX12_paysBy.data.toList.drop 10).take 3).map UInt8.toNat = [180, 1, 32] by decide +kernel) rfl
theorem dX12_paysBy_13 : decode cX12_paysBy 13 = .ok (.iaload, 1) := dc_46 (show ((cX12_paysBy.data.toList.drop 13).take 1).map UInt8.toNat = [46] by decide +kernel)
theorem dX12_paysBy_14 : decode cX12_paysBy 14 = .ok (.if_icmp .ge 138, 3) := dc_162 (show ((cX12_paysBy.data.toList.drop 14).take 3).map UInt8.toNat = [162, 0, 138] by decide +kernel) rfl
theorem dX12_paysBy_152 : decode cX12_paysBy 152 = .ok (.iload_n 2, 1) := dc_28 (show ((cX12_paysBy.data.toList.drop 152).take 1).map UInt8.toNat = [28] by decide +kernel)
theorem dX12_paysBy_153 : decode cX12_paysBy 153 = .ok (.ireturn, 1) := dc_172 (show ((cX12_paysBy.data.toList.drop 153).take 1).map UInt8.toNat = [172] by decide +kernel)
theorem dX12_paysBy_17 : decode cX12_paysBy 17 = .ok (.aload_n 0, 1) := dc_42 (show ((cX12_paysBy.data.toList.drop 17).take 1).map UInt8.toNat = [42] by decide +kernel)
theorem dX12_paysBy_18 : decode cX12_paysBy 18 = .ok (.iload_n 3, 1) := dc_29 (show ((cX12_paysBy.data.toList.drop 18).take 1).map UInt8.toNat = [29] by decide +kernel)
theorem dX12_paysBy_19 : decode cX12_paysBy 19 = .ok (.iconst 1, 1) := dc_4 (show ((cX12_paysBy.data.toList.drop 19).take 1).map UInt8.toNat = [4] by decide +kernel)
theorem dX12_paysBy_20 : decode cX12_paysBy 20 = .ok (.invokevirtual 291, 3) := dc_182 (show ((cX12_paysBy.data.toList.drop 20).take 3).map UInt8.toNat = [182, 1, 35] by decide +kernel) rfl
theorem dX12_paysBy_23 : decode cX12_paysBy 23 = .ok (.istore 4, 2) := dc_54 (show ((cX12_paysBy.data.toList.drop 23).take 2).map UInt8.toNat = [54, 4] by decide +kernel) rfl
theorem dX12_paysBy_25 : decode cX12_paysBy 25 = .ok (.aload_n 0, 1) := dc_42 (show ((cX12_paysBy.data.toList.drop 25).take 1).map UInt8.toNat = [42] by decide +kernel)
theorem dX12_paysBy_26 : decode cX12_paysBy 26 = .ok (.iload_n 3, 1) := dc_29 (show ((cX12_paysBy.data.toList.drop 26).take 1).map UInt8.toNat = [29] by decide +kernel)
theorem dX12_paysBy_27 : decode cX12_paysBy 27 = .ok (.iconst 2, 1) := dc_5 (show ((cX12_paysBy.data.toList.drop 27).take 1).map UInt8.toNat = [5] by decide +kernel)
theorem dX12_paysBy_28 : decode cX12_paysBy 28 = .ok (.invokevirtual 291, 3) := dc_182 (show ((cX12_paysBy.data.toList.drop 28).take 3).map UInt8.toNat = [182, 1, 35] by decide +kernel) rfl
theorem dX12_paysBy_31 : decode cX12_paysBy 31 = .ok (.istore 5, 2) := dc_54 (show ((cX12_paysBy.data.toList.drop 31).take 2).map UInt8.toNat = [54, 5] by decide +kernel) rfl
theorem dX12_paysBy_33 : decode cX12_paysBy 33 = .ok (.aload_n 0, 1) := dc_42 (show ((cX12_paysBy.data.toList.drop 33).take 1).map UInt8.toNat = [42] by decide +kernel)
theorem dX12_paysBy_34 : decode cX12_paysBy 34 = .ok (.iload_n 3, 1) := dc_29 (show ((cX12_paysBy.data.toList.drop 34).take 1).map UInt8.toNat = [29] by decide +kernel)
theorem dX12_paysBy_35 : decode cX12_paysBy 35 = .ok (.iconst 0, 1) := dc_3 (show ((cX12_paysBy.data.toList.drop 35).take 1).map UInt8.toNat = [3] by decide +kernel)
theorem dX12_paysBy_36 : decode cX12_paysBy 36 = .ok (.invokevirtual 291, 3) := dc_182 (show ((cX12_paysBy.data.toList.drop 36).take 3).map UInt8.toNat = [182, 1, 35] by decide +kernel) rfl
theorem dX12_paysBy_39 : decode cX12_paysBy 39 = .ok (.tableswitch 94 0 3 #[29, 39, 57, 75], 29) := by decide +kernel
theorem dX12_paysBy_68 : decode cX12_paysBy 68 = .ok (.iload_n 2, 1) := dc_28 (show ((cX12_paysBy.data.toList.drop 68).take 1).map UInt8.toNat = [28] by decide +kernel)
theorem dX12_paysBy_69 : decode cX12_paysBy 69 = .ok (.iload 4, 2) := dc_21 (show ((cX12_paysBy.data.toList.drop 69).take 2).map UInt8.toNat = [21, 4] by decide +kernel) rfl
theorem dX12_paysBy_71 : decode cX12_paysBy 71 = .ok (.iload_n 1, 1) := dc_27 (show ((cX12_paysBy.data.toList.drop 71).take 1).map UInt8.toNat = [27] by decide +kernel)
theorem dX12_paysBy_72 : decode cX12_paysBy 72 = .ok (.imul, 1) := dc_104 (show ((cX12_paysBy.data.toList.drop 72).take 1).map UInt8.toNat = [104] by decide +kernel)
theorem dX12_paysBy_73 : decode cX12_paysBy 73 = .ok (.iadd, 1) := dc_96 (show ((cX12_paysBy.data.toList.drop 73).take 1).map UInt8.toNat = [96] by decide +kernel)
theorem dX12_paysBy_74 : decode cX12_paysBy 74 = .ok (.istore_n 2, 1) := dc_61 (show ((cX12_paysBy.data.toList.drop 74).take 1).map UInt8.toNat = [61] by decide +kernel)
theorem dX12_paysBy_75 : decode cX12_paysBy 75 = .ok (.goto 71, 3) := dc_167 (show ((cX12_paysBy.data.toList.drop 75).take 3).map UInt8.toNat = [167, 0, 71] by decide +kernel) rfl
theorem dX12_paysBy_146 : decode cX12_paysBy 146 = .ok (.iinc 3 1, 3) := dc_132 (show ((cX12_paysBy.data.toList.drop 146).take 3).map UInt8.toNat = [132, 3, 1] by decide +kernel) rfl
theorem dX12_paysBy_149 : decode cX12_paysBy 149 = .ok (.goto (-145), 3) := dc_167 (show ((cX12_paysBy.data.toList.drop 149).take 3).map UInt8.toNat = [167, 255, 111] by decide +kernel) rfl
theorem dX12_paysBy_78 : decode cX12_paysBy 78 = .ok (.iload_n 2, 1) := dc_28 (show ((cX12_paysBy.data.toList.drop 78).take 1).map UInt8.toNat = [28] by decide +kernel)
theorem dX12_paysBy_79 : decode cX12_paysBy 79 = .ok (.iload_n 1, 1) := dc_27 (show ((cX12_paysBy.data.toList.drop 79).take 1).map UInt8.toNat = [27] by decide +kernel)
theorem dX12_paysBy_80 : decode cX12_paysBy 80 = .ok (.iload 4, 2) := dc_21 (show ((cX12_paysBy.data.toList.drop 80).take 2).map UInt8.toNat = [21, 4] by decide +kernel) rfl
theorem dX12_paysBy_82 : decode cX12_paysBy 82 = .ok (.if_icmp .le 8, 3) := dc_164 (show ((cX12_paysBy.data.toList.drop 82).take 3).map UInt8.toNat = [164, 0, 8] by decide +kernel) rfl
theorem dX12_paysBy_90 : decode cX12_paysBy 90 = .ok (.iconst 0, 1) := dc_3 (show ((cX12_paysBy.data.toList.drop 90).take 1).map UInt8.toNat = [3] by decide +kernel)
theorem dX12_paysBy_91 : decode cX12_paysBy 91 = .ok (.iadd, 1) := dc_96 (show ((cX12_paysBy.data.toList.drop 91).take 1).map UInt8.toNat = [96] by decide +kernel)
theorem dX12_paysBy_92 : decode cX12_paysBy 92 = .ok (.istore_n 2, 1) := dc_61 (show ((cX12_paysBy.data.toList.drop 92).take 1).map UInt8.toNat = [61] by decide +kernel)
theorem dX12_paysBy_93 : decode cX12_paysBy 93 = .ok (.goto 53, 3) := dc_167 (show ((cX12_paysBy.data.toList.drop 93).take 3).map UInt8.toNat = [167, 0, 53] by decide +kernel) rfl
theorem dX12_paysBy_85 : decode cX12_paysBy 85 = .ok (.iload 5, 2) := dc_21 (show ((cX12_paysBy.data.toList.drop 85).take 2).map UInt8.toNat = [21, 5] by decide +kernel) rfl
theorem dX12_paysBy_87 : decode cX12_paysBy 87 = .ok (.goto 4, 3) := dc_167 (show ((cX12_paysBy.data.toList.drop 87).take 3).map UInt8.toNat = [167, 0, 4] by decide +kernel) rfl
theorem dX12_paysBy_96 : decode cX12_paysBy 96 = .ok (.iload_n 2, 1) := dc_28 (show ((cX12_paysBy.data.toList.drop 96).take 1).map UInt8.toNat = [28] by decide +kernel)
theorem dX12_paysBy_97 : decode cX12_paysBy 97 = .ok (.iload_n 1, 1) := dc_27 (show ((cX12_paysBy.data.toList.drop 97).take 1).map UInt8.toNat = [27] by decide +kernel)
theorem dX12_paysBy_98 : decode cX12_paysBy 98 = .ok (.iload 4, 2) := dc_21 (show ((cX12_paysBy.data.toList.drop 98).take 2).map UInt8.toNat = [21, 4] by decide +kernel) rfl
theorem dX12_paysBy_100 : decode cX12_paysBy 100 = .ok (.if_icmp .ge 8, 3) := dc_162 (show ((cX12_paysBy.data.toList.drop 100).take 3).map UInt8.toNat = [162, 0, 8] by decide +kernel) rfl
theorem dX12_paysBy_108 : decode cX12_paysBy 108 = .ok (.iconst 0, 1) := dc_3 (show ((cX12_paysBy.data.toList.drop 108).take 1).map UInt8.toNat = [3] by decide +kernel)
theorem dX12_paysBy_109 : decode cX12_paysBy 109 = .ok (.iadd, 1) := dc_96 (show ((cX12_paysBy.data.toList.drop 109).take 1).map UInt8.toNat = [96] by decide +kernel)
theorem dX12_paysBy_110 : decode cX12_paysBy 110 = .ok (.istore_n 2, 1) := dc_61 (show ((cX12_paysBy.data.toList.drop 110).take 1).map UInt8.toNat = [61] by decide +kernel)
theorem dX12_paysBy_111 : decode cX12_paysBy 111 = .ok (.goto 35, 3) := dc_167 (show ((cX12_paysBy.data.toList.drop 111).take 3).map UInt8.toNat = [167, 0, 35] by decide +kernel) rfl
theorem dX12_paysBy_103 : decode cX12_paysBy 103 = .ok (.iload 5, 2) := dc_21 (show ((cX12_paysBy.data.toList.drop 103).take 2).map UInt8.toNat = [21, 5] by decide +kernel) rfl
theorem dX12_paysBy_105 : decode cX12_paysBy 105 = .ok (.goto 4, 3) := dc_167 (show ((cX12_paysBy.data.toList.drop 105).take 3).map UInt8.toNat = [167, 0, 4] by decide +kernel) rfl
theorem dX12_paysBy_114 : decode cX12_paysBy 114 = .ok (.iload_n 2, 1) := dc_28 (show ((cX12_paysBy.data.toList.drop 114).take 1).map UInt8.toNat = [28] by decide +kernel)
theorem dX12_paysBy_115 : decode cX12_paysBy 115 = .ok (.iload_n 1, 1) := dc_27 (show ((cX12_paysBy.data.toList.drop 115).take 1).map UInt8.toNat = [27] by decide +kernel)
theorem dX12_paysBy_116 : decode cX12_paysBy 116 = .ok (.iconst 2, 1) := dc_5 (show ((cX12_paysBy.data.toList.drop 116).take 1).map UInt8.toNat = [5] by decide +kernel)
theorem dX12_paysBy_117 : decode cX12_paysBy 117 = .ok (.irem, 1) := dc_112 (show ((cX12_paysBy.data.toList.drop 117).take 1).map UInt8.toNat = [112] by decide +kernel)
theorem dX12_paysBy_118 : decode cX12_paysBy 118 = .ok (.iconst 1, 1) := dc_4 (show ((cX12_paysBy.data.toList.drop 118).take 1).map UInt8.toNat = [4] by decide +kernel)
theorem dX12_paysBy_119 : decode cX12_paysBy 119 = .ok (.if_icmp .ne 8, 3) := dc_160 (show ((cX12_paysBy.data.toList.drop 119).take 3).map UInt8.toNat = [160, 0, 8] by decide +kernel) rfl
theorem dX12_paysBy_127 : decode cX12_paysBy 127 = .ok (.iconst 0, 1) := dc_3 (show ((cX12_paysBy.data.toList.drop 127).take 1).map UInt8.toNat = [3] by decide +kernel)
theorem dX12_paysBy_128 : decode cX12_paysBy 128 = .ok (.iadd, 1) := dc_96 (show ((cX12_paysBy.data.toList.drop 128).take 1).map UInt8.toNat = [96] by decide +kernel)
theorem dX12_paysBy_129 : decode cX12_paysBy 129 = .ok (.istore_n 2, 1) := dc_61 (show ((cX12_paysBy.data.toList.drop 129).take 1).map UInt8.toNat = [61] by decide +kernel)
theorem dX12_paysBy_130 : decode cX12_paysBy 130 = .ok (.goto 16, 3) := dc_167 (show ((cX12_paysBy.data.toList.drop 130).take 3).map UInt8.toNat = [167, 0, 16] by decide +kernel) rfl
theorem dX12_paysBy_122 : decode cX12_paysBy 122 = .ok (.iload 4, 2) := dc_21 (show ((cX12_paysBy.data.toList.drop 122).take 2).map UInt8.toNat = [21, 4] by decide +kernel) rfl
theorem dX12_paysBy_124 : decode cX12_paysBy 124 = .ok (.goto 4, 3) := dc_167 (show ((cX12_paysBy.data.toList.drop 124).take 3).map UInt8.toNat = [167, 0, 4] by decide +kernel) rfl
theorem dX12_paysBy_133 : decode cX12_paysBy 133 = .ok (.iload_n 2, 1) := dc_28 (show ((cX12_paysBy.data.toList.drop 133).take 1).map UInt8.toNat = [28] by decide +kernel)
theorem dX12_paysBy_134 : decode cX12_paysBy 134 = .ok (.iload 4, 2) := dc_21 (show ((cX12_paysBy.data.toList.drop 134).take 2).map UInt8.toNat = [21, 4] by decide +kernel) rfl
theorem dX12_paysBy_136 : decode cX12_paysBy 136 = .ok (.if_icmp .le 8, 3) := dc_164 (show ((cX12_paysBy.data.toList.drop 136).take 3).map UInt8.toNat = [164, 0, 8] by decide +kernel) rfl
theorem dX12_paysBy_144 : decode cX12_paysBy 144 = .ok (.iload_n 2, 1) := dc_28 (show ((cX12_paysBy.data.toList.drop 144).take 1).map UInt8.toNat = [28] by decide +kernel)
theorem dX12_paysBy_145 : decode cX12_paysBy 145 = .ok (.istore_n 2, 1) := dc_61 (show ((cX12_paysBy.data.toList.drop 145).take 1).map UInt8.toNat = [61] by decide +kernel)
theorem dX12_paysBy_139 : decode cX12_paysBy 139 = .ok (.iload 4, 2) := dc_21 (show ((cX12_paysBy.data.toList.drop 139).take 2).map UInt8.toNat = [21, 4] by decide +kernel) rfl
theorem dX12_paysBy_141 : decode cX12_paysBy 141 = .ok (.goto 4, 3) := dc_167 (show ((cX12_paysBy.data.toList.drop 141).take 3).map UInt8.toNat = [167, 0, 4] by decide +kernel) rfl
def ms_paysBy_4 (n : Nat) : Nat → gb_F → Int64 → Int32 → Int32 → Int32 → gb_MR Int32
  | 0, _, _, _, _, _ => none
  | mm + 1, f, w, v1, v2, v3 => gb_ck (f 0 25) 3968 (gb_lt (f 1 (Int32.toNatClampNeg (f 0 25))) (fun x_2 => (if x_2 ≤ v3 then some (f, w, v2) else gb_bd (ms_termOf n f w v3 1) (fun f_4 wl_5 r_6 => gb_bd (ms_termOf n f_4 wl_5 v3 2) (fun f_9 wl_10 r_11 => gb_bd (ms_termOf n f_9 wl_10 v3 0) (fun f_14 wl_15 r_16 => (if r_16 = (0 : Int32) then gb_lt (v2 + (r_6 * v1)) (fun x_20 => gb_lt (v3 + 1) (fun x_21 => ms_paysBy_4 n mm f_14 wl_15 v1 x_20 x_21)) else (if r_16 = (1 : Int32) then (if v1 ≤ r_6 then gb_lt (v2 + 0) (fun x_24 => gb_lt (v3 + 1) (fun x_25 => ms_paysBy_4 n mm f_14 wl_15 v1 x_24 x_25)) else gb_lt (v2 + r_11) (fun x_26 => gb_lt (v3 + 1) (fun x_27 => ms_paysBy_4 n mm f_14 wl_15 v1 x_26 x_27))) else (if r_16 = (2 : Int32) then (if r_6 ≤ v1 then gb_lt (v2 + 0) (fun x_30 => gb_lt (v3 + 1) (fun x_31 => ms_paysBy_4 n mm f_14 wl_15 v1 x_30 x_31)) else gb_lt (v2 + r_11) (fun x_32 => gb_lt (v3 + 1) (fun x_33 => ms_paysBy_4 n mm f_14 wl_15 v1 x_32 x_33))) else (if r_16 = (3 : Int32) then gb_lt (v1 - v1 / 2 * 2) (fun x_35 => (if x_35 = 1 then gb_lt (v2 + r_6) (fun x_39 => gb_lt (v3 + 1) (fun x_40 => ms_paysBy_4 n mm f_14 wl_15 v1 x_39 x_40)) else gb_lt (v2 + 0) (fun x_37 => gb_lt (v3 + 1) (fun x_38 => ms_paysBy_4 n mm f_14 wl_15 v1 x_37 x_38)))) else (if v2 ≤ r_6 then gb_lt (v3 + 1) (fun x_42 => ms_paysBy_4 n mm f_14 wl_15 v1 v2 x_42) else gb_lt (v3 + 1) (fun x_43 => ms_paysBy_4 n mm f_14 wl_15 v1 r_6 x_43))))))))))))
def ms_paysBy (n : Nat) (f : gb_F) (w : Int64) (p1 : Int32) : gb_MR Int32 := ms_paysBy_4 n n f w p1 0 0
set_option maxHeartbeats 8000000 in
set_option maxRecDepth 100000 in
theorem mc_paysBy (l : Launch) (D : va_G) (cT : Nat → ClassId) (tt : Nat → Nat) (b1 b : Nat) (hb1 : b1 ≤ b) (n : Nat) (f : gb_F) (w : Int64) (p1 : Int32) (fE : gb_F) (wE : Int64) (rE : Int32) (h : ms_paysBy n f w p1 = some (fE, wE, rE)) : Met l yX12_paysBy (.code yX12_paysBy cX12_paysBy 6 (some FieldType.int) :: gb_wA) ({ frames := 1, cells := 0, slots := 0, locals := 22 }) (gb_Pc D cT tt b1 [.ref (b + 0), .int p1] (fun h => va_P D vwCl (gb_wl b (gb_MW cT b f w)) h)) (gb_Qi (fun r h => r = rE ∧ va_P D vwCl (gb_wl b (gb_MW cT b fE wE)) h) (gb_fr b 22)) 0 0 (gb_fr b 22) := by
  refine Met.ofW (cc := cX12_paysBy) (maxL := 6) (ret := (some FieldType.int)) (by decide) rfl ?_
  intro p e s m args below meth c s₁ B hml hv
  obtain ⟨rfl, hSt, hP⟩ := hv
  have hx := B.exec
  have hb := B.bytes
  have hr := B.returns
  have hts := atoms_spec (ws := .code yX12_paysBy cX12_paysBy 6 (some FieldType.int) :: gb_wA) B.pre
  have hq : ∀ w ∈ gb_wA, w.before _ s = true := fun w h => hts w (List.mem_cons_of_mem _ h)
  have hown : s.vm.findClass RX12 = some m.cls := findClass_of_methodNamed B.named
  have hlocks := B.notSynchronized
  clear B hts
  have hK := hSt.1
  have hS : va_S (gb_fr b 22) s.heap s.heap [] := va_S.rf
  have hl := lv_entry ([.ref (b + 0), .int p1]) (n := 6) (Nat.le_of_ble_eq_true rfl)
  rw [lg_entry_eq]
  generalize (lg_sl ([.ref (b + 0), .int p1]) ++ List.replicate (6 - (lg_sl ([.ref (b + 0), .int p1])).length) Slot.unset).toArray = ls at hl ⊢
  replace hl : lv_has ls 6 [(0, .ref (b + 0)), (1, .int p1)] := hl
  have L4 : ∀ (mm : Nat) (f : gb_F) (w : Int64) (v1 : Int32) (v2 : Int32) (v3 : Int32) (H : Heap) (locs : List Loc) (ls : Array Slot), ms_paysBy_4 n mm f w v1 v2 v3 = some (fE, wE, rE) → va_P D vwCl (gb_wl b (gb_MW cT b f w)) H → va_S (gb_fr b 22) s.heap H locs → lv_has ls 6 [(0, .ref (b + 0)), (1, .int v1), (2, .int v2), (3, .int v3)] → W p l e (headSpec (.code yX12_paysBy cX12_paysBy 6 (some FieldType.int) :: gb_wA) ({ frames := 1, cells := 0, slots := 0, locals := 22 })).room s m ([.ref (b + 0), .int p1]).toArray below meth c H locs 0 0 (MQ below (gb_Qi (fun r h => r = rE ∧ va_P D vwCl (gb_wl b (gb_MW cT b fE wE)) h) (gb_fr b 22)) ([.ref (b + 0), .int p1]).toArray s 0 0 (gb_fr b 22)) (F0 m 4 ls []) := by
    clear h hP hS hl ls f w
    intro mm
    induction mm with
    | zero =>
      intro f w v1 v2 v3 H locs ls h
      cases h
    | succ mm ih =>
      intro f w v1 v2 v3 H locs ls h hP hS hl
      rw [ms_paysBy_4] at h
      refine lv_iload_n hx hb dX12_paysBy_4 rfl (lv_at hl 3 rfl) ?_
      refine lv_aload_n hx hb dX12_paysBy_5 rfl (lv_at hl 0 rfl) ?_
      refine va_get (ci := 10) (v := (.ref (b + 1))) (C := RX12) (T := TX12) (N := 44) hx hb hq i_X12 hown hK hP 0 (gb_at b rfl) rfl 0 (by decide) (hq _ w_1124) (fun _ h9 => h9) rfl dX12_paysBy_6 ?_
      refine lv_aload_n hx hb dX12_paysBy_9 rfl (lv_at hl 0 rfl) ?_
      refine va_get (ci := 10) (v := (.int (f 0 25))) (C := RX12) (T := TX12) (N := 44) hx hb hq i_X12 hown hK hP 0 (gb_at b rfl) rfl 25 (by decide) (hq _ w_1149) (fun _ h9 => h9) rfl dX12_paysBy_10 ?_
      obtain ⟨z_1, h⟩ := gb_ck_s h
      refine va_iald hx hb hK hP 1 0 (gb_at b rfl) rfl z_1 dX12_paysBy_13 ?_
      refine lv_topi (fun x_2 ex_2 => ?_)
      replace h := gb_lt_s ex_2 h
      refine lv_icmp_ge (tgt := 152) hx hb dX12_paysBy_14 (by decide) (fun c_3 => ?_) (fun c_3 => ?_)
      · rw [if_pos c_3] at h
        refine lv_iload_n hx hb dX12_paysBy_152 rfl (lv_at hl 2 rfl) ?_
        obtain ⟨e1, e2, e3⟩ := gb_eq3 h
        exact W.iret (v := v2) hx hb hr (fun t ht hW => gb_ri ht ⟨e3, by rw [← e1, ← e2]; exact hP⟩ hS) hS.2.2 dX12_paysBy_153
      · rw [if_neg c_3] at h
        refine lv_aload_n hx hb dX12_paysBy_17 rfl (lv_at hl 0 rfl) ?_
        refine lv_iload_n hx hb dX12_paysBy_18 rfl (lv_at hl 3 rfl) ?_
        refine lv_iconst (v := 1) hx hb dX12_paysBy_19 (by decide) ?_
        obtain ⟨f_4, wl_5, r_6, z_7, h⟩ := gb_bd_s h
        refine gb_calli (va_runV (C := RX12) (As := [.int v3, .int 1]) (rest := []) ⟨hx, hb, hml, hown, hq⟩ (mc_termOf l D cT tt b1 b hb1 n f w v3 1 f_4 wl_5 r_6 z_7) (cwV 2 hq (gb_gV w_1504 w_1506 s_5_11 w_14 w_1507) rfl rfl rfl (by decide +kernel) ⟨Nat.le_of_ble_eq_true rfl, Nat.le_of_ble_eq_true rfl⟩) (gb_preV (r := (RX12, TX12, 44)) (ci := 10) (q0 := 0) hSt hP rfl (gb_at b rfl) hS (fun q h => Nat.le_trans hb1 h.1) hP) rfl rfl hl.1 rfl (lv_room (Nat.le_of_ble_eq_true rfl)) dX12_paysBy_20 ⟨Nat.le_of_ble_eq_true rfl, Nat.le_of_ble_eq_true rfl⟩) hS (fun _ h => h) (fun _ h => h) (fun q_8 H locs hY hk hS => ?_)
        obtain ⟨hq_8, hP⟩ := hY
        replace hq_8 := hq_8.symm
        subst hq_8
        refine lv_istore (lv' := [(4, .int r_6), (0, .ref (b + 0)), (1, .int v1), (2, .int v2), (3, .int v3)]) hx hb dX12_paysBy_23 hl (by decide) rfl (fun ls hl => ?_)
        refine lv_aload_n hx hb dX12_paysBy_25 rfl (lv_at hl 1 rfl) ?_
        refine lv_iload_n hx hb dX12_paysBy_26 rfl (lv_at hl 4 rfl) ?_
        refine lv_iconst (v := 2) hx hb dX12_paysBy_27 (by decide) ?_
        obtain ⟨f_9, wl_10, r_11, z_12, h⟩ := gb_bd_s h
        refine gb_calli (va_runV (C := RX12) (As := [.int v3, .int 2]) (rest := []) ⟨hx, hb, hml, hown, hq⟩ (mc_termOf l D cT tt b1 b hb1 n f_4 wl_5 v3 2 f_9 wl_10 r_11 z_12) (cwV 2 hq (gb_gV w_1504 w_1506 s_5_11 w_14 w_1507) rfl rfl rfl (by decide +kernel) ⟨Nat.le_of_ble_eq_true rfl, Nat.le_of_ble_eq_true rfl⟩) (gb_preV (r := (RX12, TX12, 44)) (ci := 10) (q0 := 0) hSt hP rfl (gb_at b rfl) hS (fun q h => Nat.le_trans hb1 h.1) hP) rfl rfl hl.1 rfl (lv_room (Nat.le_of_ble_eq_true rfl)) dX12_paysBy_28 ⟨Nat.le_of_ble_eq_true rfl, Nat.le_of_ble_eq_true rfl⟩) hS (fun _ h => h) (fun _ h => h) (fun q_13 H locs hY hk hS => ?_)
        obtain ⟨hq_13, hP⟩ := hY
        replace hq_13 := hq_13.symm
        subst hq_13
        refine lv_istore (lv' := [(5, .int r_11), (4, .int r_6), (0, .ref (b + 0)), (1, .int v1), (2, .int v2), (3, .int v3)]) hx hb dX12_paysBy_31 hl (by decide) rfl (fun ls hl => ?_)
        refine lv_aload_n hx hb dX12_paysBy_33 rfl (lv_at hl 2 rfl) ?_
        refine lv_iload_n hx hb dX12_paysBy_34 rfl (lv_at hl 5 rfl) ?_
        refine lv_iconst (v := 0) hx hb dX12_paysBy_35 (by decide) ?_
        obtain ⟨f_14, wl_15, r_16, z_17, h⟩ := gb_bd_s h
        refine gb_calli (va_runV (C := RX12) (As := [.int v3, .int 0]) (rest := []) ⟨hx, hb, hml, hown, hq⟩ (mc_termOf l D cT tt b1 b hb1 n f_9 wl_10 v3 0 f_14 wl_15 r_16 z_17) (cwV 2 hq (gb_gV w_1504 w_1506 s_5_11 w_14 w_1507) rfl rfl rfl (by decide +kernel) ⟨Nat.le_of_ble_eq_true rfl, Nat.le_of_ble_eq_true rfl⟩) (gb_preV (r := (RX12, TX12, 44)) (ci := 10) (q0 := 0) hSt hP rfl (gb_at b rfl) hS (fun q h => Nat.le_trans hb1 h.1) hP) rfl rfl hl.1 rfl (lv_room (Nat.le_of_ble_eq_true rfl)) dX12_paysBy_36 ⟨Nat.le_of_ble_eq_true rfl, Nat.le_of_ble_eq_true rfl⟩) hS (fun _ h => h) (fun _ h => h) (fun q_18 H locs hY hk hS => ?_)
        obtain ⟨hq_18, hP⟩ := hY
        replace hq_18 := hq_18.symm
        subst hq_18
        by_cases c_19 : r_16 = (0 : Int32)
        · rw [if_pos c_19] at h
          refine lv_tableIn (off := 29) (tgt := 68) hx hb dX12_paysBy_39 (by rw [c_19]; decide) (by rw [c_19]; decide) (by rw [c_19]; decide) (by decide) ?_
          refine lv_iload_n hx hb dX12_paysBy_68 rfl (lv_at hl 4 rfl) ?_
          refine lv_iload hx hb dX12_paysBy_69 (lv_at hl 1 rfl) ?_
          refine lv_iload_n hx hb dX12_paysBy_71 rfl (lv_at hl 3 rfl) ?_
          refine lv_imul hx hb dX12_paysBy_72 ?_
          refine lv_iadd hx hb dX12_paysBy_73 ?_
          refine lv_topi (fun x_20 ex_20 => ?_)
          replace h := gb_lt_s ex_20 h
          refine lv_istore_n (lv' := [(2, .int x_20), (5, .int r_11), (4, .int r_6), (0, .ref (b + 0)), (1, .int v1), (3, .int v3)]) hx hb dX12_paysBy_74 rfl hl (by decide) rfl (fun ls hl => ?_)
          refine lv_goto (tgt := 146) hx hb dX12_paysBy_75 (by decide) ?_
          obtain ⟨x_21, ex_21⟩ : ∃ q, q = (v3 + 1) := ⟨_, rfl⟩
          replace h := gb_lt_s ex_21 h
          refine lv_iinc (v := x_21) (lv' := [(3, .int x_21), (2, .int x_20), (5, .int r_11), (4, .int r_6), (0, .ref (b + 0)), (1, .int v1)]) hx hb dX12_paysBy_146 hl (k := 5) rfl (by rw [ex_21]; rfl) (by decide) rfl (fun ls hl => ?_)
          refine lv_goto (tgt := 4) hx hb dX12_paysBy_149 (by decide) ?_
          exact ih _ _ _ _ _ _ _ _ h hP hS (lv_sub hl [4, 5, 1, 0] rfl)
        rw [if_neg c_19] at h
        by_cases c_22 : r_16 = (1 : Int32)
        · rw [if_pos c_22] at h
          refine lv_tableIn (off := 39) (tgt := 78) hx hb dX12_paysBy_39 (by rw [c_22]; decide) (by rw [c_22]; decide) (by rw [c_22]; decide) (by decide) ?_
          refine lv_iload_n hx hb dX12_paysBy_78 rfl (lv_at hl 4 rfl) ?_
          refine lv_iload_n hx hb dX12_paysBy_79 rfl (lv_at hl 3 rfl) ?_
          refine lv_iload hx hb dX12_paysBy_80 (lv_at hl 1 rfl) ?_
          refine lv_icmp_le (tgt := 90) hx hb dX12_paysBy_82 (by decide) (fun c_23 => ?_) (fun c_23 => ?_)
          · rw [if_pos c_23] at h
            refine lv_iconst (v := 0) hx hb dX12_paysBy_90 (by decide) ?_
            refine lv_iadd hx hb dX12_paysBy_91 ?_
            refine lv_topi (fun x_24 ex_24 => ?_)
            replace h := gb_lt_s ex_24 h
            refine lv_istore_n (lv' := [(2, .int x_24), (5, .int r_11), (4, .int r_6), (0, .ref (b + 0)), (1, .int v1), (3, .int v3)]) hx hb dX12_paysBy_92 rfl hl (by decide) rfl (fun ls hl => ?_)
            refine lv_goto (tgt := 146) hx hb dX12_paysBy_93 (by decide) ?_
            obtain ⟨x_25, ex_25⟩ : ∃ q, q = (v3 + 1) := ⟨_, rfl⟩
            replace h := gb_lt_s ex_25 h
            refine lv_iinc (v := x_25) (lv' := [(3, .int x_25), (2, .int x_24), (5, .int r_11), (4, .int r_6), (0, .ref (b + 0)), (1, .int v1)]) hx hb dX12_paysBy_146 hl (k := 5) rfl (by rw [ex_25]; rfl) (by decide) rfl (fun ls hl => ?_)
            refine lv_goto (tgt := 4) hx hb dX12_paysBy_149 (by decide) ?_
            exact ih _ _ _ _ _ _ _ _ h hP hS (lv_sub hl [4, 5, 1, 0] rfl)
          · rw [if_neg c_23] at h
            refine lv_iload hx hb dX12_paysBy_85 (lv_at hl 0 rfl) ?_
            refine lv_goto (tgt := 91) hx hb dX12_paysBy_87 (by decide) ?_
            refine lv_iadd hx hb dX12_paysBy_91 ?_
            refine lv_topi (fun x_26 ex_26 => ?_)
            replace h := gb_lt_s ex_26 h
            refine lv_istore_n (lv' := [(2, .int x_26), (5, .int r_11), (4, .int r_6), (0, .ref (b + 0)), (1, .int v1), (3, .int v3)]) hx hb dX12_paysBy_92 rfl hl (by decide) rfl (fun ls hl => ?_)
            refine lv_goto (tgt := 146) hx hb dX12_paysBy_93 (by decide) ?_
            obtain ⟨x_27, ex_27⟩ : ∃ q, q = (v3 + 1) := ⟨_, rfl⟩
            replace h := gb_lt_s ex_27 h
            refine lv_iinc (v := x_27) (lv' := [(3, .int x_27), (2, .int x_26), (5, .int r_11), (4, .int r_6), (0, .ref (b + 0)), (1, .int v1)]) hx hb dX12_paysBy_146 hl (k := 5) rfl (by rw [ex_27]; rfl) (by decide) rfl (fun ls hl => ?_)
            refine lv_goto (tgt := 4) hx hb dX12_paysBy_149 (by decide) ?_
            exact ih _ _ _ _ _ _ _ _ h hP hS (lv_sub hl [4, 5, 1, 0] rfl)
        rw [if_neg c_22] at h
        by_cases c_28 : r_16 = (2 : Int32)
        · rw [if_pos c_28] at h
          refine lv_tableIn (off := 57) (tgt := 96) hx hb dX12_paysBy_39 (by rw [c_28]; decide) (by rw [c_28]; decide) (by rw [c_28]; decide) (by decide) ?_
          refine lv_iload_n hx hb dX12_paysBy_96 rfl (lv_at hl 4 rfl) ?_
          refine lv_iload_n hx hb dX12_paysBy_97 rfl (lv_at hl 3 rfl) ?_
          refine lv_iload hx hb dX12_paysBy_98 (lv_at hl 1 rfl) ?_
          refine lv_icmp_ge (tgt := 108) hx hb dX12_paysBy_100 (by decide) (fun c_29 => ?_) (fun c_29 => ?_)
          · rw [if_pos c_29] at h
            refine lv_iconst (v := 0) hx hb dX12_paysBy_108 (by decide) ?_
            refine lv_iadd hx hb dX12_paysBy_109 ?_
            refine lv_topi (fun x_30 ex_30 => ?_)
            replace h := gb_lt_s ex_30 h
            refine lv_istore_n (lv' := [(2, .int x_30), (5, .int r_11), (4, .int r_6), (0, .ref (b + 0)), (1, .int v1), (3, .int v3)]) hx hb dX12_paysBy_110 rfl hl (by decide) rfl (fun ls hl => ?_)
            refine lv_goto (tgt := 146) hx hb dX12_paysBy_111 (by decide) ?_
            obtain ⟨x_31, ex_31⟩ : ∃ q, q = (v3 + 1) := ⟨_, rfl⟩
            replace h := gb_lt_s ex_31 h
            refine lv_iinc (v := x_31) (lv' := [(3, .int x_31), (2, .int x_30), (5, .int r_11), (4, .int r_6), (0, .ref (b + 0)), (1, .int v1)]) hx hb dX12_paysBy_146 hl (k := 5) rfl (by rw [ex_31]; rfl) (by decide) rfl (fun ls hl => ?_)
            refine lv_goto (tgt := 4) hx hb dX12_paysBy_149 (by decide) ?_
            exact ih _ _ _ _ _ _ _ _ h hP hS (lv_sub hl [4, 5, 1, 0] rfl)
          · rw [if_neg c_29] at h
            refine lv_iload hx hb dX12_paysBy_103 (lv_at hl 0 rfl) ?_
            refine lv_goto (tgt := 109) hx hb dX12_paysBy_105 (by decide) ?_
            refine lv_iadd hx hb dX12_paysBy_109 ?_
            refine lv_topi (fun x_32 ex_32 => ?_)
            replace h := gb_lt_s ex_32 h
            refine lv_istore_n (lv' := [(2, .int x_32), (5, .int r_11), (4, .int r_6), (0, .ref (b + 0)), (1, .int v1), (3, .int v3)]) hx hb dX12_paysBy_110 rfl hl (by decide) rfl (fun ls hl => ?_)
            refine lv_goto (tgt := 146) hx hb dX12_paysBy_111 (by decide) ?_
            obtain ⟨x_33, ex_33⟩ : ∃ q, q = (v3 + 1) := ⟨_, rfl⟩
            replace h := gb_lt_s ex_33 h
            refine lv_iinc (v := x_33) (lv' := [(3, .int x_33), (2, .int x_32), (5, .int r_11), (4, .int r_6), (0, .ref (b + 0)), (1, .int v1)]) hx hb dX12_paysBy_146 hl (k := 5) rfl (by rw [ex_33]; rfl) (by decide) rfl (fun ls hl => ?_)
            refine lv_goto (tgt := 4) hx hb dX12_paysBy_149 (by decide) ?_
            exact ih _ _ _ _ _ _ _ _ h hP hS (lv_sub hl [4, 5, 1, 0] rfl)
        rw [if_neg c_28] at h
        by_cases c_34 : r_16 = (3 : Int32)
        · rw [if_pos c_34] at h
          refine lv_tableIn (off := 75) (tgt := 114) hx hb dX12_paysBy_39 (by rw [c_34]; decide) (by rw [c_34]; decide) (by rw [c_34]; decide) (by decide) ?_
          refine lv_iload_n hx hb dX12_paysBy_114 rfl (lv_at hl 4 rfl) ?_
          refine lv_iload_n hx hb dX12_paysBy_115 rfl (lv_at hl 3 rfl) ?_
          refine lv_iconst (v := 2) hx hb dX12_paysBy_116 (by decide) ?_
          refine lv_irem hx hb dX12_paysBy_117 (by decide) ?_
          refine lv_topi (fun x_35 ex_35 => ?_)
          replace h := gb_lt_s ex_35 h
          refine lv_iconst (v := 1) hx hb dX12_paysBy_118 (by decide) ?_
          refine lv_icmp_ne (tgt := 127) hx hb dX12_paysBy_119 (by decide) (fun c_36 => ?_) (fun c_36 => ?_)
          · rw [if_neg c_36] at h
            refine lv_iconst (v := 0) hx hb dX12_paysBy_127 (by decide) ?_
            refine lv_iadd hx hb dX12_paysBy_128 ?_
            refine lv_topi (fun x_37 ex_37 => ?_)
            replace h := gb_lt_s ex_37 h
            refine lv_istore_n (lv' := [(2, .int x_37), (5, .int r_11), (4, .int r_6), (0, .ref (b + 0)), (1, .int v1), (3, .int v3)]) hx hb dX12_paysBy_129 rfl hl (by decide) rfl (fun ls hl => ?_)
            refine lv_goto (tgt := 146) hx hb dX12_paysBy_130 (by decide) ?_
            obtain ⟨x_38, ex_38⟩ : ∃ q, q = (v3 + 1) := ⟨_, rfl⟩
            replace h := gb_lt_s ex_38 h
            refine lv_iinc (v := x_38) (lv' := [(3, .int x_38), (2, .int x_37), (5, .int r_11), (4, .int r_6), (0, .ref (b + 0)), (1, .int v1)]) hx hb dX12_paysBy_146 hl (k := 5) rfl (by rw [ex_38]; rfl) (by decide) rfl (fun ls hl => ?_)
            refine lv_goto (tgt := 4) hx hb dX12_paysBy_149 (by decide) ?_
            exact ih _ _ _ _ _ _ _ _ h hP hS (lv_sub hl [4, 5, 1, 0] rfl)
          · rw [if_pos c_36] at h
            refine lv_iload hx hb dX12_paysBy_122 (lv_at hl 1 rfl) ?_
            refine lv_goto (tgt := 128) hx hb dX12_paysBy_124 (by decide) ?_
            refine lv_iadd hx hb dX12_paysBy_128 ?_
            refine lv_topi (fun x_39 ex_39 => ?_)
            replace h := gb_lt_s ex_39 h
            refine lv_istore_n (lv' := [(2, .int x_39), (5, .int r_11), (4, .int r_6), (0, .ref (b + 0)), (1, .int v1), (3, .int v3)]) hx hb dX12_paysBy_129 rfl hl (by decide) rfl (fun ls hl => ?_)
            refine lv_goto (tgt := 146) hx hb dX12_paysBy_130 (by decide) ?_
            obtain ⟨x_40, ex_40⟩ : ∃ q, q = (v3 + 1) := ⟨_, rfl⟩
            replace h := gb_lt_s ex_40 h
            refine lv_iinc (v := x_40) (lv' := [(3, .int x_40), (2, .int x_39), (5, .int r_11), (4, .int r_6), (0, .ref (b + 0)), (1, .int v1)]) hx hb dX12_paysBy_146 hl (k := 5) rfl (by rw [ex_40]; rfl) (by decide) rfl (fun ls hl => ?_)
            refine lv_goto (tgt := 4) hx hb dX12_paysBy_149 (by decide) ?_
            exact ih _ _ _ _ _ _ _ _ h hP hS (lv_sub hl [4, 5, 1, 0] rfl)
        rw [if_neg c_34] at h
        refine lv_tableOut (tgt := 133) hx hb dX12_paysBy_39 (by have := lv_neT c_19 (a := 0) rfl; have := lv_neT c_22 (a := 1) rfl; have := lv_neT c_28 (a := 2) rfl; have := lv_neT c_34 (a := 3) rfl; omega) (by decide) ?_
        refine lv_iload_n hx hb dX12_paysBy_133 rfl (lv_at hl 4 rfl) ?_
        refine lv_iload hx hb dX12_paysBy_134 (lv_at hl 1 rfl) ?_
        refine lv_icmp_le (tgt := 144) hx hb dX12_paysBy_136 (by decide) (fun c_41 => ?_) (fun c_41 => ?_)
        · rw [if_pos c_41] at h
          refine lv_iload_n hx hb dX12_paysBy_144 rfl (lv_at hl 4 rfl) ?_
          refine lv_istore_n (lv' := [(2, .int v2), (5, .int r_11), (4, .int r_6), (0, .ref (b + 0)), (1, .int v1), (3, .int v3)]) hx hb dX12_paysBy_145 rfl hl (by decide) rfl (fun ls hl => ?_)
          obtain ⟨x_42, ex_42⟩ : ∃ q, q = (v3 + 1) := ⟨_, rfl⟩
          replace h := gb_lt_s ex_42 h
          refine lv_iinc (v := x_42) (lv' := [(3, .int x_42), (2, .int v2), (5, .int r_11), (4, .int r_6), (0, .ref (b + 0)), (1, .int v1)]) hx hb dX12_paysBy_146 hl (k := 5) rfl (by rw [ex_42]; rfl) (by decide) rfl (fun ls hl => ?_)
          refine lv_goto (tgt := 4) hx hb dX12_paysBy_149 (by decide) ?_
          exact ih _ _ _ _ _ _ _ _ h hP hS (lv_sub hl [4, 5, 1, 0] rfl)
        · rw [if_neg c_41] at h
          refine lv_iload hx hb dX12_paysBy_139 (lv_at hl 1 rfl) ?_
          refine lv_goto (tgt := 145) hx hb dX12_paysBy_141 (by decide) ?_
          refine lv_istore_n (lv' := [(2, .int r_6), (5, .int r_11), (4, .int r_6), (0, .ref (b + 0)), (1, .int v1), (3, .int v3)]) hx hb dX12_paysBy_145 rfl hl (by decide) rfl (fun ls hl => ?_)
          obtain ⟨x_43, ex_43⟩ : ∃ q, q = (v3 + 1) := ⟨_, rfl⟩
          replace h := gb_lt_s ex_43 h
          refine lv_iinc (v := x_43) (lv' := [(3, .int x_43), (2, .int r_6), (5, .int r_11), (4, .int r_6), (0, .ref (b + 0)), (1, .int v1)]) hx hb dX12_paysBy_146 hl (k := 5) rfl (by rw [ex_43]; rfl) (by decide) rfl (fun ls hl => ?_)
          refine lv_goto (tgt := 4) hx hb dX12_paysBy_149 (by decide) ?_
          exact ih _ _ _ _ _ _ _ _ h hP hS (lv_sub hl [4, 5, 1, 0] rfl)
  unfold ms_paysBy at h
  refine lv_iconst (v := 0) hx hb dX12_paysBy_0 (by decide) ?_
  refine lv_istore_n (lv' := [(2, .int 0), (0, .ref (b + 0)), (1, .int p1)]) hx hb dX12_paysBy_1 rfl hl (by decide) rfl (fun ls hl => ?_)
  refine lv_iconst (v := 0) hx hb dX12_paysBy_2 (by decide) ?_
  refine lv_istore_n (lv' := [(3, .int 0), (2, .int 0), (0, .ref (b + 0)), (1, .int p1)]) hx hb dX12_paysBy_3 rfl hl (by decide) rfl (fun ls hl => ?_)
  exact L4 n _ _ _ _ _ _ _ _ h hP hS (lv_sub hl [2, 3, 1, 0] rfl)
theorem dX12_pays_0 : decode cX12_pays 0 = .ok (.aload_n 0, 1) := dc_42 (show ((cX12_pays.data.toList.drop 0).take 1).map UInt8.toNat = [42] by decide +kernel)
theorem dX12_pays_1 : decode cX12_pays 1 = .ok (.iconst 2, 1) := dc_5 (show ((cX12_pays.data.toList.drop 1).take 1).map UInt8.toNat = [5] by decide +kernel)
theorem dX12_pays_2 : decode cX12_pays 2 = .ok (.iload_n 1, 1) := dc_27 (show ((cX12_pays.data.toList.drop 2).take 1).map UInt8.toNat = [27] by decide +kernel)
theorem dX12_pays_3 : decode cX12_pays 3 = .ok (.invokevirtual 171, 3) := dc_182 (show ((cX12_pays.data.toList.drop 3).take 3).map UInt8.toNat = [182, 0, 171] by decide +kernel) rfl
theorem dX12_pays_6 : decode cX12_pays 6 = .ok (.ifCond .eq 14, 3) := dc_153 (show ((cX12_pays.data.toList.drop 6).take 3).map UInt8.toNat = [153, 0, 14] by decide +kernel) rfl
theorem dX12_pays_20 : decode cX12_pays 20 = .ok (.iconst (-1), 1) := dc_2 (show ((cX12_pays.data.toList.drop 20).take 1).map UInt8.toNat = [2] by decide +kernel)
theorem dX12_pays_21 : decode cX12_pays 21 = .ok (.ireturn, 1) := dc_172 (show ((cX12_pays.data.toList.drop 21).take 1).map UInt8.toNat = [172] by decide +kernel)
theorem dX12_pays_9 : decode cX12_pays 9 = .ok (.iload_n 2, 1) := dc_28 (show ((cX12_pays.data.toList.drop 9).take 1).map UInt8.toNat = [28] by decide +kernel)
theorem dX12_pays_10 : decode cX12_pays 10 = .ok (.iconst 0, 1) := dc_3 (show ((cX12_pays.data.toList.drop 10).take 1).map UInt8.toNat = [3] by decide +kernel)
theorem dX12_pays_11 : decode cX12_pays 11 = .ok (.sipush 9999, 3) := dc_17 (show ((cX12_pays.data.toList.drop 11).take 3).map UInt8.toNat = [17, 39, 15] by decide +kernel) rfl
theorem dX12_pays_14 : decode cX12_pays 14 = .ok (.invokestatic 129, 3) := dc_184 (show ((cX12_pays.data.toList.drop 14).take 3).map UInt8.toNat = [184, 0, 129] by decide +kernel) rfl
theorem dX12_pays_17 : decode cX12_pays 17 = .ok (.ifCond .ne 5, 3) := dc_154 (show ((cX12_pays.data.toList.drop 17).take 3).map UInt8.toNat = [154, 0, 5] by decide +kernel) rfl
theorem dX12_pays_22 : decode cX12_pays 22 = .ok (.aload_n 0, 1) := dc_42 (show ((cX12_pays.data.toList.drop 22).take 1).map UInt8.toNat = [42] by decide +kernel)
theorem dX12_pays_23 : decode cX12_pays 23 = .ok (.iconst 2, 1) := dc_5 (show ((cX12_pays.data.toList.drop 23).take 1).map UInt8.toNat = [5] by decide +kernel)
theorem dX12_pays_24 : decode cX12_pays 24 = .ok (.iload_n 1, 1) := dc_27 (show ((cX12_pays.data.toList.drop 24).take 1).map UInt8.toNat = [27] by decide +kernel)
theorem dX12_pays_25 : decode cX12_pays 25 = .ok (.invokestatic 190, 3) := dc_184 (show ((cX12_pays.data.toList.drop 25).take 3).map UInt8.toNat = [184, 0, 190] by decide +kernel) rfl
theorem dX12_pays_28 : decode cX12_pays 28 = .ok (.putfield 288, 3) := dc_181 (show ((cX12_pays.data.toList.drop 28).take 3).map UInt8.toNat = [181, 1, 32] by decide +kernel) rfl
theorem dX12_pays_31 : decode cX12_pays 31 = .ok (.aload_n 0, 1) := dc_42 (show ((cX12_pays.data.toList.drop 31).take 1).map UInt8.toNat = [42] by decide +kernel)
theorem dX12_pays_32 : decode cX12_pays 32 = .ok (.iload_n 2, 1) := dc_28 (show ((cX12_pays.data.toList.drop 32).take 1).map UInt8.toNat = [28] by decide +kernel)
theorem dX12_pays_33 : decode cX12_pays 33 = .ok (.invokevirtual 294, 3) := dc_182 (show ((cX12_pays.data.toList.drop 33).take 3).map UInt8.toNat = [182, 1, 38] by decide +kernel) rfl
theorem w_1515 : (Cond.code ({ cls := "GooseBorderModel", name := "paysBy", desc := "(I)I" } : MethodName) prog_14_method_67_code (6 : Nat) (Option.some FieldType.int)) ∈ gb_wA := gb_t7 75 rfl rfl
theorem w_1512 : (Cond.methodLink "GooseBorderModel" (294 : Nat) ({ cls := "GooseBorderModel", name := "paysBy", desc := "(I)I" } : MethodName)) ∈ gb_wA := gb_t7 72 rfl rfl
theorem w_1514 : (Cond.instanceMethod ({ cls := "GooseBorderModel", name := "paysBy", desc := "(I)I" } : MethodName)) ∈ gb_wA := gb_t7 74 rfl rfl
theorem s_5_12 : Cond.selects "GooseBorderModel" (⟨"GooseBorderModel", "paysBy", "(I)I"⟩ : MethodName) (⟨"GooseBorderModel", "paysBy", "(I)I"⟩ : MethodName) ∈ gb_wA := gb_s5 12 rfl rfl
theorem dX12_pays_36 : decode cX12_pays 36 = .ok (.ireturn, 1) := dc_172 (show ((cX12_pays.data.toList.drop 36).take 1).map UInt8.toNat = [172] by decide +kernel)
def ms_pays (n : Nat) (f : gb_F) (w : Int64) (p1 : Int32) (p2 : Int32) : gb_MR Int32 := gb_bd (ms_isOf n f w 2 p1) (fun f_1 wl_2 r_3 => (if r_3 = 0 then some (f_1, wl_2, (-1)) else gb_bd (ms_isIn n f_1 wl_2 p2 0 9999) (fun f_7 wl_8 r_9 => (if r_9 = 0 then some (f_7, wl_8, (-1)) else gb_bd (ms_placeOf n f_7 wl_8 2 p1) (fun f_13 wl_14 r_15 => gb_lt (gb_u f_13 0 (upd (f_13 0) 25 r_15)) (fun f_18 => gb_bd (ms_paysBy n f_18 wl_14 p2) (fun f_19 wl_20 r_21 => some (f_19, wl_20, r_21))))))))
set_option maxHeartbeats 8000000 in
set_option maxRecDepth 100000 in
theorem mc_pays (l : Launch) (D : va_G) (cT : Nat → ClassId) (tt : Nat → Nat) (b1 b : Nat) (hb1 : b1 ≤ b) (n : Nat) (f : gb_F) (w : Int64) (p1 : Int32) (p2 : Int32) (fE : gb_F) (wE : Int64) (rE : Int32) (h : ms_pays n f w p1 p2 = some (fE, wE, rE)) : Met l yX12_pays (.code yX12_pays cX12_pays 3 (some FieldType.int) :: gb_wA) ({ frames := 2, cells := 0, slots := 0, locals := 47 }) (gb_Pc D cT tt b1 [.ref (b + 0), .int p1, .int p2] (fun h => va_P D vwCl (gb_wl b (gb_MW cT b f w)) h)) (gb_Qi (fun r h => r = rE ∧ va_P D vwCl (gb_wl b (gb_MW cT b fE wE)) h) (gb_fr b 22)) 0 0 (gb_fr b 22) := by
  refine Met.ofW (cc := cX12_pays) (maxL := 3) (ret := (some FieldType.int)) (by decide) rfl ?_
  intro p e s m args below meth c s₁ B hml hv
  obtain ⟨rfl, hSt, hP⟩ := hv
  have hx := B.exec
  have hb := B.bytes
  have hr := B.returns
  have hts := atoms_spec (ws := .code yX12_pays cX12_pays 3 (some FieldType.int) :: gb_wA) B.pre
  have hq : ∀ w ∈ gb_wA, w.before _ s = true := fun w h => hts w (List.mem_cons_of_mem _ h)
  have hown : s.vm.findClass RX12 = some m.cls := findClass_of_methodNamed B.named
  have hlocks := B.notSynchronized
  clear B hts
  have hK := hSt.1
  have hS : va_S (gb_fr b 22) s.heap s.heap [] := va_S.rf
  have hl := lv_entry ([.ref (b + 0), .int p1, .int p2]) (n := 3) (Nat.le_of_ble_eq_true rfl)
  rw [lg_entry_eq]
  generalize (lg_sl ([.ref (b + 0), .int p1, .int p2]) ++ List.replicate (3 - (lg_sl ([.ref (b + 0), .int p1, .int p2])).length) Slot.unset).toArray = ls at hl ⊢
  replace hl : lv_has ls 3 [(0, .ref (b + 0)), (1, .int p1), (2, .int p2)] := hl
  unfold ms_pays at h
  refine lv_aload_n hx hb dX12_pays_0 rfl (lv_at hl 0 rfl) ?_
  refine lv_iconst (v := 2) hx hb dX12_pays_1 (by decide) ?_
  refine lv_iload_n hx hb dX12_pays_2 rfl (lv_at hl 1 rfl) ?_
  obtain ⟨f_1, wl_2, r_3, z_4, h⟩ := gb_bd_s h
  refine gb_calli (va_runV (C := RX12) (As := [.int 2, .int p1]) (rest := []) ⟨hx, hb, hml, hown, hq⟩ (mc_isOf l D cT tt b1 b hb1 n f w 2 p1 f_1 wl_2 r_3 z_4) (cwV 2 hq (gb_gV w_1272 w_1274 s_3_0 w_14 w_1275) rfl rfl rfl (by decide +kernel) ⟨Nat.le_of_ble_eq_true rfl, Nat.le_of_ble_eq_true rfl⟩) (gb_preV (r := (RX12, TX12, 44)) (ci := 10) (q0 := 0) hSt hP rfl (gb_at b rfl) hS (fun q h => Nat.le_trans hb1 h.1) hP) rfl rfl hl.1 rfl (lv_room (Nat.le_of_ble_eq_true rfl)) dX12_pays_3 ⟨Nat.le_of_ble_eq_true rfl, Nat.le_of_ble_eq_true rfl⟩) hS (fun _ h => h) (fun _ h => h) (fun q_5 H locs hY hk hS => ?_)
  obtain ⟨hq_5, hP⟩ := hY
  replace hq_5 := hq_5.symm
  subst hq_5
  refine lv_if_eq (tgt := 20) hx hb dX12_pays_6 (by decide) (fun c_6 => ?_) (fun c_6 => ?_)
  · rw [if_pos c_6] at h
    refine lv_iconst (v := (-1)) hx hb dX12_pays_20 (by decide) ?_
    obtain ⟨e1, e2, e3⟩ := gb_eq3 h
    exact W.iret (v := (-1)) hx hb hr (fun t ht hW => gb_ri ht ⟨e3, by rw [← e1, ← e2]; exact hP⟩ hS) hS.2.2 dX12_pays_21
  · rw [if_neg c_6] at h
    refine lv_iload_n hx hb dX12_pays_9 rfl (lv_at hl 2 rfl) ?_
    refine lv_iconst (v := 0) hx hb dX12_pays_10 (by decide) ?_
    refine lv_sipush (v := 9999) hx hb dX12_pays_11 (by decide) ?_
    obtain ⟨f_7, wl_8, r_9, z_10, h⟩ := gb_bd_s h
    refine gb_calli (va_runS (As := [.int p2, .int 0, .int 9999]) (rest := []) ⟨hx, hb, hml, hown, hq⟩ (mc_isIn l D cT tt b1 b hb1 n f_1 wl_2 p2 0 9999 f_7 wl_8 r_9 z_10) (va_cwS 3 hq (gb_gS w_1269 w_1270 w_14 w_1271) rfl rfl rfl (by decide +kernel) ⟨Nat.le_of_ble_eq_true rfl, Nat.le_of_ble_eq_true rfl⟩) (gb_preS hSt hS (fun q h => Nat.le_trans hb1 h.1) hP) rfl rfl hl.1 rfl (lv_room (Nat.le_of_ble_eq_true rfl)) dX12_pays_14 ⟨Nat.le_of_ble_eq_true rfl, Nat.le_of_ble_eq_true rfl⟩) hS (fun _ h => h) (fun _ h => h) (fun q_11 H locs hY hk hS => ?_)
    obtain ⟨hq_11, hP⟩ := hY
    replace hq_11 := hq_11.symm
    subst hq_11
    refine lv_if_ne (tgt := 22) hx hb dX12_pays_17 (by decide) (fun c_12 => ?_) (fun c_12 => ?_)
    · rw [if_neg c_12] at h
      refine lv_aload_n hx hb dX12_pays_22 rfl (lv_at hl 0 rfl) ?_
      refine lv_iconst (v := 2) hx hb dX12_pays_23 (by decide) ?_
      refine lv_iload_n hx hb dX12_pays_24 rfl (lv_at hl 1 rfl) ?_
      obtain ⟨f_13, wl_14, r_15, z_16, h⟩ := gb_bd_s h
      refine gb_calli (va_runS (As := [.int 2, .int p1]) (rest := [.ref (b + 0)]) ⟨hx, hb, hml, hown, hq⟩ (mc_placeOf l D cT tt b1 b hb1 n f_7 wl_8 2 p1 f_13 wl_14 r_15 z_16) (va_cwS 2 hq (gb_gS w_1361 w_1362 w_14 w_1363) rfl rfl rfl (by decide +kernel) ⟨Nat.le_of_ble_eq_true rfl, Nat.le_of_ble_eq_true rfl⟩) (gb_preS hSt hS (fun q h => Nat.le_trans hb1 h.1) hP) rfl rfl hl.1 rfl (lv_room (Nat.le_of_ble_eq_true rfl)) dX12_pays_25 ⟨Nat.le_of_ble_eq_true rfl, Nat.le_of_ble_eq_true rfl⟩) hS (fun _ h => h) (fun _ h => h) (fun q_17 H locs hY hk hS => ?_)
      obtain ⟨hq_17, hP⟩ := hY
      replace hq_17 := hq_17.symm
      subst hq_17
      refine gb_put (ci := 10) (v := (.int r_15)) (ty := .int) (C := RX12) (T := TX12) (N := 44) hx hb hq i_X12 tyX12 tyX12_ok nmX12 hown hK hP (fun k h => ⟨Nat.le_add_right b k, Nat.add_lt_add_left h b⟩) hS rfl 0 rfl rfl 25 (by decide) (hq _ w_1149) (fun _ h9 => h9) rfl (by decide +kernel) rfl rfl (Nat.le_of_ble_eq_true rfl) dX12_pays_28 (fun H locs hP hz_ hS => ?_)
      obtain ⟨f_18, ef_18⟩ : ∃ q, q = (gb_u f_13 0 (upd (f_13 0) 25 r_15)) := ⟨_, rfl⟩
      replace hP : va_P D vwCl (gb_wl b (gb_MW cT b f_18 wl_14)) H := by rw [ef_18]; exact hP
      replace h := gb_lt_s ef_18 h
      refine lv_aload_n hx hb dX12_pays_31 rfl (lv_at hl 0 rfl) ?_
      refine lv_iload_n hx hb dX12_pays_32 rfl (lv_at hl 2 rfl) ?_
      obtain ⟨f_19, wl_20, r_21, z_22, h⟩ := gb_bd_s h
      refine gb_calli (va_runV (C := RX12) (As := [.int p2]) (rest := []) ⟨hx, hb, hml, hown, hq⟩ (mc_paysBy l D cT tt b1 b hb1 n f_18 wl_14 p2 f_19 wl_20 r_21 z_22) (cwV 1 hq (gb_gV w_1512 w_1514 s_5_12 w_14 w_1515) rfl rfl rfl (by decide +kernel) ⟨Nat.le_of_ble_eq_true rfl, Nat.le_of_ble_eq_true rfl⟩) (gb_preV (r := (RX12, TX12, 44)) (ci := 10) (q0 := 0) hSt hP rfl (gb_at b rfl) hS (fun q h => Nat.le_trans hb1 h.1) hP) rfl rfl hl.1 rfl (lv_room (Nat.le_of_ble_eq_true rfl)) dX12_pays_33 ⟨Nat.le_of_ble_eq_true rfl, Nat.le_of_ble_eq_true rfl⟩) hS (fun _ h => h) (fun _ h => h) (fun q_23 H locs hY hk hS => ?_)
      obtain ⟨hq_23, hP⟩ := hY
      replace hq_23 := hq_23.symm
      subst hq_23
      obtain ⟨e1, e2, e3⟩ := gb_eq3 h
      exact W.iret (v := r_21) hx hb hr (fun t ht hW => gb_ri ht ⟨e3, by rw [← e1, ← e2]; exact hP⟩ hS) hS.2.2 dX12_pays_36
    · rw [if_pos c_12] at h
      refine lv_iconst (v := (-1)) hx hb dX12_pays_20 (by decide) ?_
      obtain ⟨e1, e2, e3⟩ := gb_eq3 h
      exact W.iret (v := (-1)) hx hb hr (fun t ht hW => gb_ri ht ⟨e3, by rw [← e1, ← e2]; exact hP⟩ hS) hS.2.2 dX12_pays_21
theorem dX12_measures_0 : decode cX12_measures 0 = .ok (.iconst 0, 1) := dc_3 (show ((cX12_measures.data.toList.drop 0).take 1).map UInt8.toNat = [3] by decide +kernel)
theorem dX12_measures_1 : decode cX12_measures 1 = .ok (.istore_n 1, 1) := dc_60 (show ((cX12_measures.data.toList.drop 1).take 1).map UInt8.toNat = [60] by decide +kernel)
theorem dX12_measures_2 : decode cX12_measures 2 = .ok (.iload_n 1, 1) := dc_27 (show ((cX12_measures.data.toList.drop 2).take 1).map UInt8.toNat = [27] by decide +kernel)
theorem dX12_measures_3 : decode cX12_measures 3 = .ok (.aload_n 0, 1) := dc_42 (show ((cX12_measures.data.toList.drop 3).take 1).map UInt8.toNat = [42] by decide +kernel)
theorem dX12_measures_4 : decode cX12_measures 4 = .ok (.invokevirtual 202, 3) := dc_182 (show ((cX12_measures.data.toList.drop 4).take 3).map UInt8.toNat = [182, 0, 202] by decide +kernel) rfl
theorem dX12_measures_7 : decode cX12_measures 7 = .ok (.if_icmp .ge 41, 3) := dc_162 (show ((cX12_measures.data.toList.drop 7).take 3).map UInt8.toNat = [162, 0, 41] by decide +kernel) rfl
theorem dX12_measures_48 : decode cX12_measures 48 = .ok (.return_, 1) := dc_177 (show ((cX12_measures.data.toList.drop 48).take 1).map UInt8.toNat = [177] by decide +kernel)
theorem dX12_measures_10 : decode cX12_measures 10 = .ok (.iconst 0, 1) := dc_3 (show ((cX12_measures.data.toList.drop 10).take 1).map UInt8.toNat = [3] by decide +kernel)
theorem dX12_measures_11 : decode cX12_measures 11 = .ok (.istore_n 2, 1) := dc_61 (show ((cX12_measures.data.toList.drop 11).take 1).map UInt8.toNat = [61] by decide +kernel)
theorem dX12_measures_12 : decode cX12_measures 12 = .ok (.iload_n 2, 1) := dc_28 (show ((cX12_measures.data.toList.drop 12).take 1).map UInt8.toNat = [28] by decide +kernel)
theorem dX12_measures_13 : decode cX12_measures 13 = .ok (.aload_n 0, 1) := dc_42 (show ((cX12_measures.data.toList.drop 13).take 1).map UInt8.toNat = [42] by decide +kernel)
theorem dX12_measures_14 : decode cX12_measures 14 = .ok (.invokevirtual 199, 3) := dc_182 (show ((cX12_measures.data.toList.drop 14).take 3).map UInt8.toNat = [182, 0, 199] by decide +kernel) rfl
theorem dX12_measures_17 : decode cX12_measures 17 = .ok (.if_icmp .ge 25, 3) := dc_162 (show ((cX12_measures.data.toList.drop 17).take 3).map UInt8.toNat = [162, 0, 25] by decide +kernel) rfl
theorem dX12_measures_42 : decode cX12_measures 42 = .ok (.iinc 1 1, 3) := dc_132 (show ((cX12_measures.data.toList.drop 42).take 3).map UInt8.toNat = [132, 1, 1] by decide +kernel) rfl
theorem dX12_measures_45 : decode cX12_measures 45 = .ok (.goto (-43), 3) := dc_167 (show ((cX12_measures.data.toList.drop 45).take 3).map UInt8.toNat = [167, 255, 213] by decide +kernel) rfl
theorem dX12_measures_20 : decode cX12_measures 20 = .ok (.aload_n 0, 1) := dc_42 (show ((cX12_measures.data.toList.drop 20).take 1).map UInt8.toNat = [42] by decide +kernel)
theorem dX12_measures_21 : decode cX12_measures 21 = .ok (.getfield 47, 3) := dc_180 (show ((cX12_measures.data.toList.drop 21).take 3).map UInt8.toNat = [180, 0, 47] by decide +kernel) rfl
theorem dX12_measures_24 : decode cX12_measures 24 = .ok (.iconst 5, 1) := dc_8 (show ((cX12_measures.data.toList.drop 24).take 1).map UInt8.toNat = [8] by decide +kernel)
theorem dX12_measures_25 : decode cX12_measures 25 = .ok (.iload_n 1, 1) := dc_27 (show ((cX12_measures.data.toList.drop 25).take 1).map UInt8.toNat = [27] by decide +kernel)
theorem dX12_measures_26 : decode cX12_measures 26 = .ok (.imul, 1) := dc_104 (show ((cX12_measures.data.toList.drop 26).take 1).map UInt8.toNat = [104] by decide +kernel)
theorem dX12_measures_27 : decode cX12_measures 27 = .ok (.iload_n 2, 1) := dc_28 (show ((cX12_measures.data.toList.drop 27).take 1).map UInt8.toNat = [28] by decide +kernel)
theorem dX12_measures_28 : decode cX12_measures 28 = .ok (.iadd, 1) := dc_96 (show ((cX12_measures.data.toList.drop 28).take 1).map UInt8.toNat = [96] by decide +kernel)
theorem dX12_measures_29 : decode cX12_measures 29 = .ok (.aload_n 0, 1) := dc_42 (show ((cX12_measures.data.toList.drop 29).take 1).map UInt8.toNat = [42] by decide +kernel)
theorem dX12_measures_30 : decode cX12_measures 30 = .ok (.iload_n 1, 1) := dc_27 (show ((cX12_measures.data.toList.drop 30).take 1).map UInt8.toNat = [27] by decide +kernel)
theorem dX12_measures_31 : decode cX12_measures 31 = .ok (.iload_n 2, 1) := dc_28 (show ((cX12_measures.data.toList.drop 31).take 1).map UInt8.toNat = [28] by decide +kernel)
theorem dX12_measures_32 : decode cX12_measures 32 = .ok (.invokevirtual 297, 3) := dc_182 (show ((cX12_measures.data.toList.drop 32).take 3).map UInt8.toNat = [182, 1, 41] by decide +kernel) rfl
theorem w_1535 : (Cond.code ({ cls := "GooseBorderModel", name := "firstMarks", desc := "(II)I" } : MethodName) prog_14_method_41_code (3 : Nat) (Option.some FieldType.int)) ∈ gb_wA := gb_t7 95 rfl rfl
theorem w_1532 : (Cond.methodLink "GooseBorderModel" (297 : Nat) ({ cls := "GooseBorderModel", name := "firstMarks", desc := "(II)I" } : MethodName)) ∈ gb_wA := gb_t7 92 rfl rfl
theorem w_1534 : (Cond.instanceMethod ({ cls := "GooseBorderModel", name := "firstMarks", desc := "(II)I" } : MethodName)) ∈ gb_wA := gb_t7 94 rfl rfl
theorem s_6_0 : Cond.selects "GooseBorderModel" (⟨"GooseBorderModel", "firstMarks", "(II)I"⟩ : MethodName) (⟨"GooseBorderModel", "firstMarks", "(II)I"⟩ : MethodName) ∈ gb_wA := gb_s6 0 rfl rfl
theorem dX12_measures_35 : decode cX12_measures 35 = .ok (.iastore, 1) := dc_79 (show ((cX12_measures.data.toList.drop 35).take 1).map UInt8.toNat = [79] by decide +kernel)
theorem dX12_measures_36 : decode cX12_measures 36 = .ok (.iinc 2 1, 3) := dc_132 (show ((cX12_measures.data.toList.drop 36).take 3).map UInt8.toNat = [132, 2, 1] by decide +kernel) rfl
theorem dX12_measures_39 : decode cX12_measures 39 = .ok (.goto (-27), 3) := dc_167 (show ((cX12_measures.data.toList.drop 39).take 3).map UInt8.toNat = [167, 255, 229] by decide +kernel) rfl
def ms_measures_12 (n : Nat) (k2 : gb_F → Int64 → Int32 → gb_MR Unit) : Nat → gb_F → Int64 → Int32 → Int32 → gb_MR Unit
  | 0, _, _, _, _ => none
  | mm + 1, f, w, v1, v2 => gb_bd (ms_paths n f w) (fun f_7 wl_8 r_9 => (if r_9 ≤ v2 then gb_lt (v1 + 1) (fun x_13 => k2 f_7 wl_8 x_13) else gb_bd (ms_firstMarks n f_7 wl_8 v1 v2) (fun f_14 wl_15 r_16 => gb_ck ((5 * v1) + v2) 40 (gb_lt (gb_u f_14 13 (upd (f_14 13) (Int32.toNatClampNeg ((5 * v1) + v2)) r_16)) (fun f_20 => gb_lt (v2 + 1) (fun x_21 => ms_measures_12 n k2 mm f_20 wl_15 v1 x_21))))))
def ms_measures_2 (n : Nat) : Nat → gb_F → Int64 → Int32 → gb_MR Unit
  | 0, _, _, _ => none
  | mm + 1, f, w, v1 => gb_bd (ms_geese n f w) (fun f_1 wl_2 r_3 => (if r_3 ≤ v1 then some (f_1, wl_2, ()) else ms_measures_12 n (fun f w v1 => ms_measures_2 n mm f w v1) n f_1 wl_2 v1 0))
def ms_measures (n : Nat) (f : gb_F) (w : Int64) : gb_MR Unit := ms_measures_2 n n f w 0
set_option maxHeartbeats 8000000 in
set_option maxRecDepth 100000 in
theorem mc_measures (l : Launch) (D : va_G) (cT : Nat → ClassId) (tt : Nat → Nat) (b1 b : Nat) (hb1 : b1 ≤ b) (n : Nat) (f : gb_F) (w : Int64) (fE : gb_F) (wE : Int64) (rE : Unit) (h : ms_measures n f w = some (fE, wE, rE)) : Met l yX12_measures (.code yX12_measures cX12_measures 3 none :: gb_wA) ({ frames := 4, cells := 0, slots := 0, locals := 92 }) (gb_Pc D cT tt b1 [.ref (b + 0)] (fun h => va_P D vwCl (gb_wl b (gb_MW cT b f w)) h)) (gb_Qv (fun h => va_P D vwCl (gb_wl b (gb_MW cT b fE wE)) h) (gb_fr b 22)) 0 0 (gb_fr b 22) := by
  refine Met.ofW (cc := cX12_measures) (maxL := 3) (ret := none) (by decide) rfl ?_
  intro p e s m args below meth c s₁ B hml hv
  obtain ⟨rfl, hSt, hP⟩ := hv
  have hx := B.exec
  have hb := B.bytes
  have hr := B.returns
  have hts := atoms_spec (ws := .code yX12_measures cX12_measures 3 none :: gb_wA) B.pre
  have hq : ∀ w ∈ gb_wA, w.before _ s = true := fun w h => hts w (List.mem_cons_of_mem _ h)
  have hown : s.vm.findClass RX12 = some m.cls := findClass_of_methodNamed B.named
  have hlocks := B.notSynchronized
  clear B hts
  have hK := hSt.1
  have hS : va_S (gb_fr b 22) s.heap s.heap [] := va_S.rf
  have hl := lv_entry ([.ref (b + 0)]) (n := 3) (Nat.le_of_ble_eq_true rfl)
  rw [lg_entry_eq]
  generalize (lg_sl ([.ref (b + 0)]) ++ List.replicate (3 - (lg_sl ([.ref (b + 0)])).length) Slot.unset).toArray = ls at hl ⊢
  replace hl : lv_has ls 3 [(0, .ref (b + 0))] := hl
  have L12 : ∀ (k2 : gb_F → Int64 → Int32 → gb_MR Unit) (hk2 : ∀ (f : gb_F) (w : Int64) (v1 : Int32) (H : Heap) (locs : List Loc) (ls : Array Slot), k2 f w v1 = some (fE, wE, rE) → va_P D vwCl (gb_wl b (gb_MW cT b f w)) H → va_S (gb_fr b 22) s.heap H locs → lv_has ls 3 [(0, .ref (b + 0)), (1, .int v1)] → W p l e (headSpec (.code yX12_measures cX12_measures 3 none :: gb_wA) ({ frames := 4, cells := 0, slots := 0, locals := 92 })).room s m ([.ref (b + 0)]).toArray below meth c H locs 0 0 (MQ below (gb_Qv (fun h => va_P D vwCl (gb_wl b (gb_MW cT b fE wE)) h) (gb_fr b 22)) ([.ref (b + 0)]).toArray s 0 0 (gb_fr b 22)) (F0 m 2 ls [])) (mm : Nat) (f : gb_F) (w : Int64) (v1 : Int32) (v2 : Int32) (H : Heap) (locs : List Loc) (ls : Array Slot), ms_measures_12 n k2 mm f w v1 v2 = some (fE, wE, rE) → va_P D vwCl (gb_wl b (gb_MW cT b f w)) H → va_S (gb_fr b 22) s.heap H locs → lv_has ls 3 [(0, .ref (b + 0)), (1, .int v1), (2, .int v2)] → W p l e (headSpec (.code yX12_measures cX12_measures 3 none :: gb_wA) ({ frames := 4, cells := 0, slots := 0, locals := 92 })).room s m ([.ref (b + 0)]).toArray below meth c H locs 0 0 (MQ below (gb_Qv (fun h => va_P D vwCl (gb_wl b (gb_MW cT b fE wE)) h) (gb_fr b 22)) ([.ref (b + 0)]).toArray s 0 0 (gb_fr b 22)) (F0 m 12 ls []) := by
    clear h hP hS hl ls f w
    intro k2 hk2 mm
    induction mm with
    | zero =>
      intro f w v1 v2 H locs ls h
      cases h
    | succ mm ih =>
      intro f w v1 v2 H locs ls h hP hS hl
      rw [ms_measures_12] at h
      refine lv_iload_n hx hb dX12_measures_12 rfl (lv_at hl 2 rfl) ?_
      refine lv_aload_n hx hb dX12_measures_13 rfl (lv_at hl 0 rfl) ?_
      obtain ⟨f_7, wl_8, r_9, z_10, h⟩ := gb_bd_s h
      refine gb_calli (va_runV (C := RX12) (As := []) (rest := [.int v2]) ⟨hx, hb, hml, hown, hq⟩ (mc_paths l D cT tt b1 b hb1 n f w f_7 wl_8 r_9 z_10) (cwV 0 hq (gb_gV w_1384 w_1386 s_4_4 w_14 w_1387) rfl rfl rfl (by decide +kernel) ⟨Nat.le_of_ble_eq_true rfl, Nat.le_of_ble_eq_true rfl⟩) (gb_preV (r := (RX12, TX12, 44)) (ci := 10) (q0 := 0) hSt hP rfl (gb_at b rfl) hS (fun q h => Nat.le_trans hb1 h.1) hP) rfl rfl hl.1 rfl (lv_room (Nat.le_of_ble_eq_true rfl)) dX12_measures_14 ⟨Nat.le_of_ble_eq_true rfl, Nat.le_of_ble_eq_true rfl⟩) hS (fun _ h => h) (fun _ h => h) (fun q_11 H locs hY hk hS => ?_)
      obtain ⟨hq_11, hP⟩ := hY
      replace hq_11 := hq_11.symm
      subst hq_11
      refine lv_icmp_ge (tgt := 42) hx hb dX12_measures_17 (by decide) (fun c_12 => ?_) (fun c_12 => ?_)
      · rw [if_pos c_12] at h
        obtain ⟨x_13, ex_13⟩ : ∃ q, q = (v1 + 1) := ⟨_, rfl⟩
        replace h := gb_lt_s ex_13 h
        refine lv_iinc (v := x_13) (lv' := [(1, .int x_13), (0, .ref (b + 0)), (2, .int v2)]) hx hb dX12_measures_42 hl (k := 1) rfl (by rw [ex_13]; rfl) (by decide) rfl (fun ls hl => ?_)
        refine lv_goto (tgt := 2) hx hb dX12_measures_45 (by decide) ?_
        exact hk2 _ _ _ _ _ _ h hP hS (lv_sub hl [1, 0] rfl)
      · rw [if_neg c_12] at h
        refine lv_aload_n hx hb dX12_measures_20 rfl (lv_at hl 0 rfl) ?_
        refine va_get (ci := 10) (v := (.ref (b + 13))) (C := RX12) (T := TX12) (N := 44) hx hb hq i_X12 hown hK hP 0 (gb_at b rfl) rfl 26 (by decide) (hq _ w_1150) (fun _ h9 => h9) rfl dX12_measures_21 ?_
        refine lv_iconst (v := 5) hx hb dX12_measures_24 (by decide) ?_
        refine lv_iload_n hx hb dX12_measures_25 rfl (lv_at hl 1 rfl) ?_
        refine lv_imul hx hb dX12_measures_26 ?_
        refine lv_iload_n hx hb dX12_measures_27 rfl (lv_at hl 2 rfl) ?_
        refine lv_iadd hx hb dX12_measures_28 ?_
        refine lv_aload_n hx hb dX12_measures_29 rfl (lv_at hl 0 rfl) ?_
        refine lv_iload_n hx hb dX12_measures_30 rfl (lv_at hl 1 rfl) ?_
        refine lv_iload_n hx hb dX12_measures_31 rfl (lv_at hl 2 rfl) ?_
        obtain ⟨f_14, wl_15, r_16, z_17, h⟩ := gb_bd_s h
        refine gb_calli (va_runV (C := RX12) (As := [.int v1, .int v2]) (rest := [.int ((5 * v1) + v2), .ref (b + 13)]) ⟨hx, hb, hml, hown, hq⟩ (mc_firstMarks l D cT tt b1 b hb1 n f_7 wl_8 v1 v2 f_14 wl_15 r_16 z_17) (cwV 2 hq (gb_gV w_1532 w_1534 s_6_0 w_14 w_1535) rfl rfl rfl (by decide +kernel) ⟨Nat.le_of_ble_eq_true rfl, Nat.le_of_ble_eq_true rfl⟩) (gb_preV (r := (RX12, TX12, 44)) (ci := 10) (q0 := 0) hSt hP rfl (gb_at b rfl) hS (fun q h => Nat.le_trans hb1 h.1) hP) rfl rfl hl.1 rfl (lv_room (Nat.le_of_ble_eq_true rfl)) dX12_measures_32 ⟨Nat.le_of_ble_eq_true rfl, Nat.le_of_ble_eq_true rfl⟩) hS (fun _ h => h) (fun _ h => h) (fun q_18 H locs hY hk hS => ?_)
        obtain ⟨hq_18, hP⟩ := hY
        replace hq_18 := hq_18.symm
        subst hq_18
        obtain ⟨z_19, h⟩ := gb_ck_s h
        refine gb_iast (x := r_16) hx hb hK hP (fun k h => ⟨Nat.le_add_right b k, Nat.add_lt_add_left h b⟩) hS rfl 13 0 rfl rfl z_19 dX12_measures_35 (fun H locs hP hz_ hS => ?_)
        obtain ⟨f_20, ef_20⟩ : ∃ q, q = (gb_u f_14 13 (upd (f_14 13) (Int32.toNatClampNeg ((5 * v1) + v2)) r_16)) := ⟨_, rfl⟩
        replace hP : va_P D vwCl (gb_wl b (gb_MW cT b f_20 wl_15)) H := by rw [ef_20]; exact hP
        replace h := gb_lt_s ef_20 h
        obtain ⟨x_21, ex_21⟩ : ∃ q, q = (v2 + 1) := ⟨_, rfl⟩
        replace h := gb_lt_s ex_21 h
        refine lv_iinc (v := x_21) (lv' := [(2, .int x_21), (0, .ref (b + 0)), (1, .int v1)]) hx hb dX12_measures_36 hl (k := 2) rfl (by rw [ex_21]; rfl) (by decide) rfl (fun ls hl => ?_)
        refine lv_goto (tgt := 12) hx hb dX12_measures_39 (by decide) ?_
        exact ih _ _ _ _ _ _ _ h hP hS (lv_sub hl [1, 2, 0] rfl)
  have L2 : ∀ (mm : Nat) (f : gb_F) (w : Int64) (v1 : Int32) (H : Heap) (locs : List Loc) (ls : Array Slot), ms_measures_2 n mm f w v1 = some (fE, wE, rE) → va_P D vwCl (gb_wl b (gb_MW cT b f w)) H → va_S (gb_fr b 22) s.heap H locs → lv_has ls 3 [(0, .ref (b + 0)), (1, .int v1)] → W p l e (headSpec (.code yX12_measures cX12_measures 3 none :: gb_wA) ({ frames := 4, cells := 0, slots := 0, locals := 92 })).room s m ([.ref (b + 0)]).toArray below meth c H locs 0 0 (MQ below (gb_Qv (fun h => va_P D vwCl (gb_wl b (gb_MW cT b fE wE)) h) (gb_fr b 22)) ([.ref (b + 0)]).toArray s 0 0 (gb_fr b 22)) (F0 m 2 ls []) := by
    clear h hP hS hl ls f w
    intro mm
    induction mm with
    | zero =>
      intro f w v1 H locs ls h
      cases h
    | succ mm ih =>
      intro f w v1 H locs ls h hP hS hl
      rw [ms_measures_2] at h
      refine lv_iload_n hx hb dX12_measures_2 rfl (lv_at hl 1 rfl) ?_
      refine lv_aload_n hx hb dX12_measures_3 rfl (lv_at hl 0 rfl) ?_
      obtain ⟨f_1, wl_2, r_3, z_4, h⟩ := gb_bd_s h
      refine gb_calli (va_runV (C := RX12) (As := []) (rest := [.int v1]) ⟨hx, hb, hml, hown, hq⟩ (mc_geese l D cT tt b1 b hb1 n f w f_1 wl_2 r_3 z_4) (cwV 0 hq (gb_gV w_1396 w_1398 s_4_7 w_14 w_1399) rfl rfl rfl (by decide +kernel) ⟨Nat.le_of_ble_eq_true rfl, Nat.le_of_ble_eq_true rfl⟩) (gb_preV (r := (RX12, TX12, 44)) (ci := 10) (q0 := 0) hSt hP rfl (gb_at b rfl) hS (fun q h => Nat.le_trans hb1 h.1) hP) rfl rfl hl.1 rfl (lv_room (Nat.le_of_ble_eq_true rfl)) dX12_measures_4 ⟨Nat.le_of_ble_eq_true rfl, Nat.le_of_ble_eq_true rfl⟩) hS (fun _ h => h) (fun _ h => h) (fun q_5 H locs hY hk hS => ?_)
      obtain ⟨hq_5, hP⟩ := hY
      replace hq_5 := hq_5.symm
      subst hq_5
      refine lv_icmp_ge (tgt := 48) hx hb dX12_measures_7 (by decide) (fun c_6 => ?_) (fun c_6 => ?_)
      · rw [if_pos c_6] at h
        obtain ⟨e1, e2, -⟩ := gb_eq3 h
        exact W.vret hx hb hr (fun t ht hW => gb_rv ht (by rw [← e1, ← e2]; exact hP) hS) hS.2.2 dX12_measures_48
      · rw [if_neg c_6] at h
        refine lv_iconst (v := 0) hx hb dX12_measures_10 (by decide) ?_
        refine lv_istore_n (lv' := [(2, .int 0), (0, .ref (b + 0)), (1, .int v1)]) hx hb dX12_measures_11 rfl hl (by decide) rfl (fun ls hl => ?_)
        exact L12 _ ih n _ _ _ _ _ _ _ h hP hS (lv_sub hl [1, 2, 0] rfl)
  unfold ms_measures at h
  refine lv_iconst (v := 0) hx hb dX12_measures_0 (by decide) ?_
  refine lv_istore_n (lv' := [(1, .int 0), (0, .ref (b + 0))]) hx hb dX12_measures_1 rfl hl (by decide) rfl (fun ls hl => ?_)
  exact L2 n _ _ _ _ _ _ h hP hS (lv_sub hl [1, 0] rfl)
theorem dX12_codes_0 : decode cX12_codes 0 = .ok (.iconst 1, 1) := dc_4 (show ((cX12_codes.data.toList.drop 0).take 1).map UInt8.toNat = [4] by decide +kernel)
theorem dX12_codes_1 : decode cX12_codes 1 = .ok (.istore_n 1, 1) := dc_60 (show ((cX12_codes.data.toList.drop 1).take 1).map UInt8.toNat = [60] by decide +kernel)
theorem dX12_codes_2 : decode cX12_codes 2 = .ok (.iconst 0, 1) := dc_3 (show ((cX12_codes.data.toList.drop 2).take 1).map UInt8.toNat = [3] by decide +kernel)
theorem dX12_codes_3 : decode cX12_codes 3 = .ok (.istore_n 2, 1) := dc_61 (show ((cX12_codes.data.toList.drop 3).take 1).map UInt8.toNat = [61] by decide +kernel)
theorem dX12_codes_4 : decode cX12_codes 4 = .ok (.iload_n 2, 1) := dc_28 (show ((cX12_codes.data.toList.drop 4).take 1).map UInt8.toNat = [28] by decide +kernel)
theorem dX12_codes_5 : decode cX12_codes 5 = .ok (.aload_n 0, 1) := dc_42 (show ((cX12_codes.data.toList.drop 5).take 1).map UInt8.toNat = [42] by decide +kernel)
theorem dX12_codes_6 : decode cX12_codes 6 = .ok (.invokevirtual 202, 3) := dc_182 (show ((cX12_codes.data.toList.drop 6).take 3).map UInt8.toNat = [182, 0, 202] by decide +kernel) rfl
theorem dX12_codes_9 : decode cX12_codes 9 = .ok (.if_icmp .ge 16, 3) := dc_162 (show ((cX12_codes.data.toList.drop 9).take 3).map UInt8.toNat = [162, 0, 16] by decide +kernel) rfl
theorem dX12_codes_25 : decode cX12_codes 25 = .ok (.iload_n 1, 1) := dc_27 (show ((cX12_codes.data.toList.drop 25).take 1).map UInt8.toNat = [27] by decide +kernel)
theorem dX12_codes_26 : decode cX12_codes 26 = .ok (.ireturn, 1) := dc_172 (show ((cX12_codes.data.toList.drop 26).take 1).map UInt8.toNat = [172] by decide +kernel)
theorem dX12_codes_12 : decode cX12_codes 12 = .ok (.iload_n 1, 1) := dc_27 (show ((cX12_codes.data.toList.drop 12).take 1).map UInt8.toNat = [27] by decide +kernel)
theorem dX12_codes_13 : decode cX12_codes 13 = .ok (.aload_n 0, 1) := dc_42 (show ((cX12_codes.data.toList.drop 13).take 1).map UInt8.toNat = [42] by decide +kernel)
theorem dX12_codes_14 : decode cX12_codes 14 = .ok (.invokevirtual 199, 3) := dc_182 (show ((cX12_codes.data.toList.drop 14).take 3).map UInt8.toNat = [182, 0, 199] by decide +kernel) rfl
theorem dX12_codes_17 : decode cX12_codes 17 = .ok (.imul, 1) := dc_104 (show ((cX12_codes.data.toList.drop 17).take 1).map UInt8.toNat = [104] by decide +kernel)
theorem dX12_codes_18 : decode cX12_codes 18 = .ok (.istore_n 1, 1) := dc_60 (show ((cX12_codes.data.toList.drop 18).take 1).map UInt8.toNat = [60] by decide +kernel)
theorem dX12_codes_19 : decode cX12_codes 19 = .ok (.iinc 2 1, 3) := dc_132 (show ((cX12_codes.data.toList.drop 19).take 3).map UInt8.toNat = [132, 2, 1] by decide +kernel) rfl
theorem dX12_codes_22 : decode cX12_codes 22 = .ok (.goto (-18), 3) := dc_167 (show ((cX12_codes.data.toList.drop 22).take 3).map UInt8.toNat = [167, 255, 238] by decide +kernel) rfl
def ms_codes_4 (n : Nat) : Nat → gb_F → Int64 → Int32 → Int32 → gb_MR Int32
  | 0, _, _, _, _ => none
  | mm + 1, f, w, v1, v2 => gb_bd (ms_geese n f w) (fun f_1 wl_2 r_3 => (if r_3 ≤ v2 then some (f_1, wl_2, v1) else gb_bd (ms_paths n f_1 wl_2) (fun f_7 wl_8 r_9 => gb_lt (v1 * r_9) (fun x_12 => gb_lt (v2 + 1) (fun x_13 => ms_codes_4 n mm f_7 wl_8 x_12 x_13)))))
def ms_codes (n : Nat) (f : gb_F) (w : Int64) : gb_MR Int32 := ms_codes_4 n n f w 1 0
set_option maxHeartbeats 8000000 in
set_option maxRecDepth 100000 in
theorem mc_codes (l : Launch) (D : va_G) (cT : Nat → ClassId) (tt : Nat → Nat) (b1 b : Nat) (hb1 : b1 ≤ b) (n : Nat) (f : gb_F) (w : Int64) (fE : gb_F) (wE : Int64) (rE : Int32) (h : ms_codes n f w = some (fE, wE, rE)) : Met l yX12_codes (.code yX12_codes cX12_codes 3 (some FieldType.int) :: gb_wA) ({ frames := 2, cells := 0, slots := 0, locals := 41 }) (gb_Pc D cT tt b1 [.ref (b + 0)] (fun h => va_P D vwCl (gb_wl b (gb_MW cT b f w)) h)) (gb_Qi (fun r h => r = rE ∧ va_P D vwCl (gb_wl b (gb_MW cT b fE wE)) h) (gb_fr b 22)) 0 0 (gb_fr b 22) := by
  refine Met.ofW (cc := cX12_codes) (maxL := 3) (ret := (some FieldType.int)) (by decide) rfl ?_
  intro p e s m args below meth c s₁ B hml hv
  obtain ⟨rfl, hSt, hP⟩ := hv
  have hx := B.exec
  have hb := B.bytes
  have hr := B.returns
  have hts := atoms_spec (ws := .code yX12_codes cX12_codes 3 (some FieldType.int) :: gb_wA) B.pre
  have hq : ∀ w ∈ gb_wA, w.before _ s = true := fun w h => hts w (List.mem_cons_of_mem _ h)
  have hown : s.vm.findClass RX12 = some m.cls := findClass_of_methodNamed B.named
  have hlocks := B.notSynchronized
  clear B hts
  have hK := hSt.1
  have hS : va_S (gb_fr b 22) s.heap s.heap [] := va_S.rf
  have hl := lv_entry ([.ref (b + 0)]) (n := 3) (Nat.le_of_ble_eq_true rfl)
  rw [lg_entry_eq]
  generalize (lg_sl ([.ref (b + 0)]) ++ List.replicate (3 - (lg_sl ([.ref (b + 0)])).length) Slot.unset).toArray = ls at hl ⊢
  replace hl : lv_has ls 3 [(0, .ref (b + 0))] := hl
  have L4 : ∀ (mm : Nat) (f : gb_F) (w : Int64) (v1 : Int32) (v2 : Int32) (H : Heap) (locs : List Loc) (ls : Array Slot), ms_codes_4 n mm f w v1 v2 = some (fE, wE, rE) → va_P D vwCl (gb_wl b (gb_MW cT b f w)) H → va_S (gb_fr b 22) s.heap H locs → lv_has ls 3 [(0, .ref (b + 0)), (1, .int v1), (2, .int v2)] → W p l e (headSpec (.code yX12_codes cX12_codes 3 (some FieldType.int) :: gb_wA) ({ frames := 2, cells := 0, slots := 0, locals := 41 })).room s m ([.ref (b + 0)]).toArray below meth c H locs 0 0 (MQ below (gb_Qi (fun r h => r = rE ∧ va_P D vwCl (gb_wl b (gb_MW cT b fE wE)) h) (gb_fr b 22)) ([.ref (b + 0)]).toArray s 0 0 (gb_fr b 22)) (F0 m 4 ls []) := by
    clear h hP hS hl ls f w
    intro mm
    induction mm with
    | zero =>
      intro f w v1 v2 H locs ls h
      cases h
    | succ mm ih =>
      intro f w v1 v2 H locs ls h hP hS hl
      rw [ms_codes_4] at h
      refine lv_iload_n hx hb dX12_codes_4 rfl (lv_at hl 2 rfl) ?_
      refine lv_aload_n hx hb dX12_codes_5 rfl (lv_at hl 0 rfl) ?_
      obtain ⟨f_1, wl_2, r_3, z_4, h⟩ := gb_bd_s h
      refine gb_calli (va_runV (C := RX12) (As := []) (rest := [.int v2]) ⟨hx, hb, hml, hown, hq⟩ (mc_geese l D cT tt b1 b hb1 n f w f_1 wl_2 r_3 z_4) (cwV 0 hq (gb_gV w_1396 w_1398 s_4_7 w_14 w_1399) rfl rfl rfl (by decide +kernel) ⟨Nat.le_of_ble_eq_true rfl, Nat.le_of_ble_eq_true rfl⟩) (gb_preV (r := (RX12, TX12, 44)) (ci := 10) (q0 := 0) hSt hP rfl (gb_at b rfl) hS (fun q h => Nat.le_trans hb1 h.1) hP) rfl rfl hl.1 rfl (lv_room (Nat.le_of_ble_eq_true rfl)) dX12_codes_6 ⟨Nat.le_of_ble_eq_true rfl, Nat.le_of_ble_eq_true rfl⟩) hS (fun _ h => h) (fun _ h => h) (fun q_5 H locs hY hk hS => ?_)
      obtain ⟨hq_5, hP⟩ := hY
      replace hq_5 := hq_5.symm
      subst hq_5
      refine lv_icmp_ge (tgt := 25) hx hb dX12_codes_9 (by decide) (fun c_6 => ?_) (fun c_6 => ?_)
      · rw [if_pos c_6] at h
        refine lv_iload_n hx hb dX12_codes_25 rfl (lv_at hl 1 rfl) ?_
        obtain ⟨e1, e2, e3⟩ := gb_eq3 h
        exact W.iret (v := v1) hx hb hr (fun t ht hW => gb_ri ht ⟨e3, by rw [← e1, ← e2]; exact hP⟩ hS) hS.2.2 dX12_codes_26
      · rw [if_neg c_6] at h
        refine lv_iload_n hx hb dX12_codes_12 rfl (lv_at hl 1 rfl) ?_
        refine lv_aload_n hx hb dX12_codes_13 rfl (lv_at hl 0 rfl) ?_
        obtain ⟨f_7, wl_8, r_9, z_10, h⟩ := gb_bd_s h
        refine gb_calli (va_runV (C := RX12) (As := []) (rest := [.int v1]) ⟨hx, hb, hml, hown, hq⟩ (mc_paths l D cT tt b1 b hb1 n f_1 wl_2 f_7 wl_8 r_9 z_10) (cwV 0 hq (gb_gV w_1384 w_1386 s_4_4 w_14 w_1387) rfl rfl rfl (by decide +kernel) ⟨Nat.le_of_ble_eq_true rfl, Nat.le_of_ble_eq_true rfl⟩) (gb_preV (r := (RX12, TX12, 44)) (ci := 10) (q0 := 0) hSt hP rfl (gb_at b rfl) hS (fun q h => Nat.le_trans hb1 h.1) hP) rfl rfl hl.1 rfl (lv_room (Nat.le_of_ble_eq_true rfl)) dX12_codes_14 ⟨Nat.le_of_ble_eq_true rfl, Nat.le_of_ble_eq_true rfl⟩) hS (fun _ h => h) (fun _ h => h) (fun q_11 H locs hY hk hS => ?_)
        obtain ⟨hq_11, hP⟩ := hY
        replace hq_11 := hq_11.symm
        subst hq_11
        refine lv_imul hx hb dX12_codes_17 ?_
        refine lv_topi (fun x_12 ex_12 => ?_)
        replace h := gb_lt_s ex_12 h
        refine lv_istore_n (lv' := [(1, .int x_12), (0, .ref (b + 0)), (2, .int v2)]) hx hb dX12_codes_18 rfl hl (by decide) rfl (fun ls hl => ?_)
        obtain ⟨x_13, ex_13⟩ : ∃ q, q = (v2 + 1) := ⟨_, rfl⟩
        replace h := gb_lt_s ex_13 h
        refine lv_iinc (v := x_13) (lv' := [(2, .int x_13), (1, .int x_12), (0, .ref (b + 0))]) hx hb dX12_codes_19 hl (k := 2) rfl (by rw [ex_13]; rfl) (by decide) rfl (fun ls hl => ?_)
        refine lv_goto (tgt := 4) hx hb dX12_codes_22 (by decide) ?_
        exact ih _ _ _ _ _ _ _ h hP hS (lv_sub hl [2, 1, 0] rfl)
  unfold ms_codes at h
  refine lv_iconst (v := 1) hx hb dX12_codes_0 (by decide) ?_
  refine lv_istore_n (lv' := [(1, .int 1), (0, .ref (b + 0))]) hx hb dX12_codes_1 rfl hl (by decide) rfl (fun ls hl => ?_)
  refine lv_iconst (v := 0) hx hb dX12_codes_2 (by decide) ?_
  refine lv_istore_n (lv' := [(2, .int 0), (1, .int 1), (0, .ref (b + 0))]) hx hb dX12_codes_3 rfl hl (by decide) rfl (fun ls hl => ?_)
  exact L4 n _ _ _ _ _ _ _ h hP hS (lv_sub hl [2, 1, 0] rfl)
theorem dX12_sums_0 : decode cX12_sums 0 = .ok (.iconst 0, 1) := dc_3 (show ((cX12_sums.data.toList.drop 0).take 1).map UInt8.toNat = [3] by decide +kernel)
theorem dX12_sums_1 : decode cX12_sums 1 = .ok (.istore_n 2, 1) := dc_61 (show ((cX12_sums.data.toList.drop 1).take 1).map UInt8.toNat = [61] by decide +kernel)
theorem dX12_sums_2 : decode cX12_sums 2 = .ok (.iload_n 2, 1) := dc_28 (show ((cX12_sums.data.toList.drop 2).take 1).map UInt8.toNat = [28] by decide +kernel)
theorem dX12_sums_3 : decode cX12_sums 3 = .ok (.iconst 5, 1) := dc_8 (show ((cX12_sums.data.toList.drop 3).take 1).map UInt8.toNat = [8] by decide +kernel)
theorem dX12_sums_4 : decode cX12_sums 4 = .ok (.if_icmp .ge 16, 3) := dc_162 (show ((cX12_sums.data.toList.drop 4).take 3).map UInt8.toNat = [162, 0, 16] by decide +kernel) rfl
theorem dX12_sums_20 : decode cX12_sums 20 = .ok (.iload_n 1, 1) := dc_27 (show ((cX12_sums.data.toList.drop 20).take 1).map UInt8.toNat = [27] by decide +kernel)
theorem dX12_sums_21 : decode cX12_sums 21 = .ok (.istore_n 2, 1) := dc_61 (show ((cX12_sums.data.toList.drop 21).take 1).map UInt8.toNat = [61] by decide +kernel)
theorem dX12_sums_22 : decode cX12_sums 22 = .ok (.aload_n 0, 1) := dc_42 (show ((cX12_sums.data.toList.drop 22).take 1).map UInt8.toNat = [42] by decide +kernel)
theorem dX12_sums_23 : decode cX12_sums 23 = .ok (.invokevirtual 202, 3) := dc_182 (show ((cX12_sums.data.toList.drop 23).take 3).map UInt8.toNat = [182, 0, 202] by decide +kernel) rfl
theorem dX12_sums_26 : decode cX12_sums 26 = .ok (.iconst 1, 1) := dc_4 (show ((cX12_sums.data.toList.drop 26).take 1).map UInt8.toNat = [4] by decide +kernel)
theorem dX12_sums_27 : decode cX12_sums 27 = .ok (.isub, 1) := dc_100 (show ((cX12_sums.data.toList.drop 27).take 1).map UInt8.toNat = [100] by decide +kernel)
theorem dX12_sums_28 : decode cX12_sums 28 = .ok (.istore_n 3, 1) := dc_62 (show ((cX12_sums.data.toList.drop 28).take 1).map UInt8.toNat = [62] by decide +kernel)
theorem dX12_sums_29 : decode cX12_sums 29 = .ok (.iload_n 3, 1) := dc_29 (show ((cX12_sums.data.toList.drop 29).take 1).map UInt8.toNat = [29] by decide +kernel)
theorem dX12_sums_30 : decode cX12_sums 30 = .ok (.ifCond .lt 45, 3) := dc_155 (show ((cX12_sums.data.toList.drop 30).take 3).map UInt8.toNat = [155, 0, 45] by decide +kernel) rfl
theorem dX12_sums_75 : decode cX12_sums 75 = .ok (.return_, 1) := dc_177 (show ((cX12_sums.data.toList.drop 75).take 1).map UInt8.toNat = [177] by decide +kernel)
theorem dX12_sums_33 : decode cX12_sums 33 = .ok (.aload_n 0, 1) := dc_42 (show ((cX12_sums.data.toList.drop 33).take 1).map UInt8.toNat = [42] by decide +kernel)
theorem dX12_sums_34 : decode cX12_sums 34 = .ok (.getfield 50, 3) := dc_180 (show ((cX12_sums.data.toList.drop 34).take 3).map UInt8.toNat = [180, 0, 50] by decide +kernel) rfl
theorem dX12_sums_37 : decode cX12_sums 37 = .ok (.iload_n 2, 1) := dc_28 (show ((cX12_sums.data.toList.drop 37).take 1).map UInt8.toNat = [28] by decide +kernel)
theorem dX12_sums_38 : decode cX12_sums 38 = .ok (.aload_n 0, 1) := dc_42 (show ((cX12_sums.data.toList.drop 38).take 1).map UInt8.toNat = [42] by decide +kernel)
theorem dX12_sums_39 : decode cX12_sums 39 = .ok (.invokevirtual 199, 3) := dc_182 (show ((cX12_sums.data.toList.drop 39).take 3).map UInt8.toNat = [182, 0, 199] by decide +kernel) rfl
theorem dX12_sums_42 : decode cX12_sums 42 = .ok (.irem, 1) := dc_112 (show ((cX12_sums.data.toList.drop 42).take 1).map UInt8.toNat = [112] by decide +kernel)
theorem dX12_sums_43 : decode cX12_sums 43 = .ok (.dup2, 1) := dc_92 (show ((cX12_sums.data.toList.drop 43).take 1).map UInt8.toNat = [92] by decide +kernel)
theorem dX12_sums_44 : decode cX12_sums 44 = .ok (.iaload, 1) := dc_46 (show ((cX12_sums.data.toList.drop 44).take 1).map UInt8.toNat = [46] by decide +kernel)
theorem dX12_sums_45 : decode cX12_sums 45 = .ok (.aload_n 0, 1) := dc_42 (show ((cX12_sums.data.toList.drop 45).take 1).map UInt8.toNat = [42] by decide +kernel)
theorem dX12_sums_46 : decode cX12_sums 46 = .ok (.getfield 47, 3) := dc_180 (show ((cX12_sums.data.toList.drop 46).take 3).map UInt8.toNat = [180, 0, 47] by decide +kernel) rfl
theorem dX12_sums_49 : decode cX12_sums 49 = .ok (.iconst 5, 1) := dc_8 (show ((cX12_sums.data.toList.drop 49).take 1).map UInt8.toNat = [8] by decide +kernel)
theorem dX12_sums_50 : decode cX12_sums 50 = .ok (.iload_n 3, 1) := dc_29 (show ((cX12_sums.data.toList.drop 50).take 1).map UInt8.toNat = [29] by decide +kernel)
theorem dX12_sums_51 : decode cX12_sums 51 = .ok (.imul, 1) := dc_104 (show ((cX12_sums.data.toList.drop 51).take 1).map UInt8.toNat = [104] by decide +kernel)
theorem dX12_sums_52 : decode cX12_sums 52 = .ok (.iload_n 2, 1) := dc_28 (show ((cX12_sums.data.toList.drop 52).take 1).map UInt8.toNat = [28] by decide +kernel)
theorem dX12_sums_53 : decode cX12_sums 53 = .ok (.aload_n 0, 1) := dc_42 (show ((cX12_sums.data.toList.drop 53).take 1).map UInt8.toNat = [42] by decide +kernel)
theorem dX12_sums_54 : decode cX12_sums 54 = .ok (.invokevirtual 199, 3) := dc_182 (show ((cX12_sums.data.toList.drop 54).take 3).map UInt8.toNat = [182, 0, 199] by decide +kernel) rfl
theorem dX12_sums_57 : decode cX12_sums 57 = .ok (.irem, 1) := dc_112 (show ((cX12_sums.data.toList.drop 57).take 1).map UInt8.toNat = [112] by decide +kernel)
theorem dX12_sums_58 : decode cX12_sums 58 = .ok (.iadd, 1) := dc_96 (show ((cX12_sums.data.toList.drop 58).take 1).map UInt8.toNat = [96] by decide +kernel)
theorem dX12_sums_59 : decode cX12_sums 59 = .ok (.iaload, 1) := dc_46 (show ((cX12_sums.data.toList.drop 59).take 1).map UInt8.toNat = [46] by decide +kernel)
theorem dX12_sums_60 : decode cX12_sums 60 = .ok (.iadd, 1) := dc_96 (show ((cX12_sums.data.toList.drop 60).take 1).map UInt8.toNat = [96] by decide +kernel)
theorem dX12_sums_61 : decode cX12_sums 61 = .ok (.iastore, 1) := dc_79 (show ((cX12_sums.data.toList.drop 61).take 1).map UInt8.toNat = [79] by decide +kernel)
theorem dX12_sums_62 : decode cX12_sums 62 = .ok (.iload_n 2, 1) := dc_28 (show ((cX12_sums.data.toList.drop 62).take 1).map UInt8.toNat = [28] by decide +kernel)
theorem dX12_sums_63 : decode cX12_sums 63 = .ok (.aload_n 0, 1) := dc_42 (show ((cX12_sums.data.toList.drop 63).take 1).map UInt8.toNat = [42] by decide +kernel)
theorem dX12_sums_64 : decode cX12_sums 64 = .ok (.invokevirtual 199, 3) := dc_182 (show ((cX12_sums.data.toList.drop 64).take 3).map UInt8.toNat = [182, 0, 199] by decide +kernel) rfl
theorem dX12_sums_67 : decode cX12_sums 67 = .ok (.idiv, 1) := dc_108 (show ((cX12_sums.data.toList.drop 67).take 1).map UInt8.toNat = [108] by decide +kernel)
theorem dX12_sums_68 : decode cX12_sums 68 = .ok (.istore_n 2, 1) := dc_61 (show ((cX12_sums.data.toList.drop 68).take 1).map UInt8.toNat = [61] by decide +kernel)
theorem dX12_sums_69 : decode cX12_sums 69 = .ok (.iinc 3 (-1), 3) := dc_132 (show ((cX12_sums.data.toList.drop 69).take 3).map UInt8.toNat = [132, 3, 255] by decide +kernel) rfl
theorem dX12_sums_72 : decode cX12_sums 72 = .ok (.goto (-43), 3) := dc_167 (show ((cX12_sums.data.toList.drop 72).take 3).map UInt8.toNat = [167, 255, 213] by decide +kernel) rfl
theorem dX12_sums_7 : decode cX12_sums 7 = .ok (.aload_n 0, 1) := dc_42 (show ((cX12_sums.data.toList.drop 7).take 1).map UInt8.toNat = [42] by decide +kernel)
theorem dX12_sums_8 : decode cX12_sums 8 = .ok (.getfield 50, 3) := dc_180 (show ((cX12_sums.data.toList.drop 8).take 3).map UInt8.toNat = [180, 0, 50] by decide +kernel) rfl
theorem dX12_sums_11 : decode cX12_sums 11 = .ok (.iload_n 2, 1) := dc_28 (show ((cX12_sums.data.toList.drop 11).take 1).map UInt8.toNat = [28] by decide +kernel)
theorem dX12_sums_12 : decode cX12_sums 12 = .ok (.iconst 0, 1) := dc_3 (show ((cX12_sums.data.toList.drop 12).take 1).map UInt8.toNat = [3] by decide +kernel)
theorem dX12_sums_13 : decode cX12_sums 13 = .ok (.iastore, 1) := dc_79 (show ((cX12_sums.data.toList.drop 13).take 1).map UInt8.toNat = [79] by decide +kernel)
theorem dX12_sums_14 : decode cX12_sums 14 = .ok (.iinc 2 1, 3) := dc_132 (show ((cX12_sums.data.toList.drop 14).take 3).map UInt8.toNat = [132, 2, 1] by decide +kernel) rfl
theorem dX12_sums_17 : decode cX12_sums 17 = .ok (.goto (-15), 3) := dc_167 (show ((cX12_sums.data.toList.drop 17).take 3).map UInt8.toNat = [167, 255, 241] by decide +kernel) rfl
def ms_sums_29 (n : Nat) : Nat → gb_F → Int64 → Int32 → Int32 → gb_MR Unit
  | 0, _, _, _, _ => none
  | mm + 1, f, w, v2, v3 => (if v3 < 0 then some (f, w, ()) else gb_bd (ms_paths n f w) (fun f_9 wl_10 r_11 => gb_nz r_11 (gb_lt (v2 - v2 / r_11 * r_11) (fun x_15 => gb_ck x_15 5 (gb_lt (f_9 14 (Int32.toNatClampNeg x_15)) (fun x_17 => gb_bd (ms_paths n f_9 wl_10) (fun f_18 wl_19 r_20 => gb_nz r_20 (gb_lt (v2 - v2 / r_20 * r_20) (fun x_24 => gb_ck ((5 * v3) + x_24) 40 (gb_lt (f_18 13 (Int32.toNatClampNeg ((5 * v3) + x_24))) (fun x_26 => gb_ck x_15 5 (gb_lt (gb_u f_18 14 (upd (f_18 14) (Int32.toNatClampNeg x_15) (x_17 + x_26))) (fun f_28 => gb_bd (ms_paths n f_28 wl_19) (fun f_29 wl_30 r_31 => gb_nz r_31 (gb_lt (v2 / r_31) (fun x_35 => gb_lt (v3 + (-1)) (fun x_36 => ms_sums_29 n mm f_29 wl_30 x_35 x_36)))))))))))))))))
def ms_sums_2 (n : Nat) : Nat → gb_F → Int64 → Int32 → Int32 → gb_MR Unit
  | 0, _, _, _, _ => none
  | mm + 1, f, w, v1, v2 => (if (5 : Int32) ≤ v2 then gb_bd (ms_geese n f w) (fun f_2 wl_3 r_4 => gb_lt (r_4 - 1) (fun x_7 => ms_sums_29 n n f_2 wl_3 v1 x_7)) else gb_ck v2 5 (gb_lt (gb_u f 14 (upd (f 14) (Int32.toNatClampNeg v2) 0)) (fun f_38 => gb_lt (v2 + 1) (fun x_39 => ms_sums_2 n mm f_38 w v1 x_39))))
def ms_sums (n : Nat) (f : gb_F) (w : Int64) (p1 : Int32) : gb_MR Unit := ms_sums_2 n n f w p1 0
set_option maxHeartbeats 8000000 in
set_option maxRecDepth 100000 in
theorem mc_sums (l : Launch) (D : va_G) (cT : Nat → ClassId) (tt : Nat → Nat) (b1 b : Nat) (hb1 : b1 ≤ b) (n : Nat) (f : gb_F) (w : Int64) (p1 : Int32) (fE : gb_F) (wE : Int64) (rE : Unit) (h : ms_sums n f w p1 = some (fE, wE, rE)) : Met l yX12_sums (.code yX12_sums cX12_sums 4 none :: gb_wA) ({ frames := 2, cells := 0, slots := 0, locals := 41 }) (gb_Pc D cT tt b1 [.ref (b + 0), .int p1] (fun h => va_P D vwCl (gb_wl b (gb_MW cT b f w)) h)) (gb_Qv (fun h => va_P D vwCl (gb_wl b (gb_MW cT b fE wE)) h) (gb_fr b 22)) 0 0 (gb_fr b 22) := by
  refine Met.ofW (cc := cX12_sums) (maxL := 4) (ret := none) (by decide) rfl ?_
  intro p e s m args below meth c s₁ B hml hv
  obtain ⟨rfl, hSt, hP⟩ := hv
  have hx := B.exec
  have hb := B.bytes
  have hr := B.returns
  have hts := atoms_spec (ws := .code yX12_sums cX12_sums 4 none :: gb_wA) B.pre
  have hq : ∀ w ∈ gb_wA, w.before _ s = true := fun w h => hts w (List.mem_cons_of_mem _ h)
  have hown : s.vm.findClass RX12 = some m.cls := findClass_of_methodNamed B.named
  have hlocks := B.notSynchronized
  clear B hts
  have hK := hSt.1
  have hS : va_S (gb_fr b 22) s.heap s.heap [] := va_S.rf
  have hl := lv_entry ([.ref (b + 0), .int p1]) (n := 4) (Nat.le_of_ble_eq_true rfl)
  rw [lg_entry_eq]
  generalize (lg_sl ([.ref (b + 0), .int p1]) ++ List.replicate (4 - (lg_sl ([.ref (b + 0), .int p1])).length) Slot.unset).toArray = ls at hl ⊢
  replace hl : lv_has ls 4 [(0, .ref (b + 0)), (1, .int p1)] := hl
  have L29 : ∀ (mm : Nat) (f : gb_F) (w : Int64) (v2 : Int32) (v3 : Int32) (H : Heap) (locs : List Loc) (ls : Array Slot), ms_sums_29 n mm f w v2 v3 = some (fE, wE, rE) → va_P D vwCl (gb_wl b (gb_MW cT b f w)) H → va_S (gb_fr b 22) s.heap H locs → lv_has ls 4 [(0, .ref (b + 0)), (2, .int v2), (3, .int v3)] → W p l e (headSpec (.code yX12_sums cX12_sums 4 none :: gb_wA) ({ frames := 2, cells := 0, slots := 0, locals := 41 })).room s m ([.ref (b + 0), .int p1]).toArray below meth c H locs 0 0 (MQ below (gb_Qv (fun h => va_P D vwCl (gb_wl b (gb_MW cT b fE wE)) h) (gb_fr b 22)) ([.ref (b + 0), .int p1]).toArray s 0 0 (gb_fr b 22)) (F0 m 29 ls []) := by
    clear h hP hS hl ls f w
    intro mm
    induction mm with
    | zero =>
      intro f w v2 v3 H locs ls h
      cases h
    | succ mm ih =>
      intro f w v2 v3 H locs ls h hP hS hl
      rw [ms_sums_29] at h
      refine lv_iload_n hx hb dX12_sums_29 rfl (lv_at hl 2 rfl) ?_
      refine lv_if_lt (tgt := 75) hx hb dX12_sums_30 (by decide) (fun c_8 => ?_) (fun c_8 => ?_)
      · rw [if_pos c_8] at h
        obtain ⟨e1, e2, -⟩ := gb_eq3 h
        exact W.vret hx hb hr (fun t ht hW => gb_rv ht (by rw [← e1, ← e2]; exact hP) hS) hS.2.2 dX12_sums_75
      · rw [if_neg c_8] at h
        refine lv_aload_n hx hb dX12_sums_33 rfl (lv_at hl 0 rfl) ?_
        refine va_get (ci := 10) (v := (.ref (b + 14))) (C := RX12) (T := TX12) (N := 44) hx hb hq i_X12 hown hK hP 0 (gb_at b rfl) rfl 27 (by decide) (hq _ w_1151) (fun _ h9 => h9) rfl dX12_sums_34 ?_
        refine lv_iload_n hx hb dX12_sums_37 rfl (lv_at hl 1 rfl) ?_
        refine lv_aload_n hx hb dX12_sums_38 rfl (lv_at hl 0 rfl) ?_
        obtain ⟨f_9, wl_10, r_11, z_12, h⟩ := gb_bd_s h
        refine gb_calli (va_runV (C := RX12) (As := []) (rest := [.int v2, .ref (b + 14)]) ⟨hx, hb, hml, hown, hq⟩ (mc_paths l D cT tt b1 b hb1 n f w f_9 wl_10 r_11 z_12) (cwV 0 hq (gb_gV w_1384 w_1386 s_4_4 w_14 w_1387) rfl rfl rfl (by decide +kernel) ⟨Nat.le_of_ble_eq_true rfl, Nat.le_of_ble_eq_true rfl⟩) (gb_preV (r := (RX12, TX12, 44)) (ci := 10) (q0 := 0) hSt hP rfl (gb_at b rfl) hS (fun q h => Nat.le_trans hb1 h.1) hP) rfl rfl hl.1 rfl (lv_room (Nat.le_of_ble_eq_true rfl)) dX12_sums_39 ⟨Nat.le_of_ble_eq_true rfl, Nat.le_of_ble_eq_true rfl⟩) hS (fun _ h => h) (fun _ h => h) (fun q_13 H locs hY hk hS => ?_)
        obtain ⟨hq_13, hP⟩ := hY
        replace hq_13 := hq_13.symm
        subst hq_13
        obtain ⟨z_14, h⟩ := gb_nz_s h
        refine lv_irem hx hb dX12_sums_42 z_14 ?_
        refine lv_topi (fun x_15 ex_15 => ?_)
        replace h := gb_lt_s ex_15 h
        refine lv_dup2_11 hx hb dX12_sums_43 rfl rfl ?_
        obtain ⟨z_16, h⟩ := gb_ck_s h
        refine va_iald hx hb hK hP 14 0 (gb_at b rfl) rfl z_16 dX12_sums_44 ?_
        refine lv_topi (fun x_17 ex_17 => ?_)
        replace h := gb_lt_s ex_17 h
        refine lv_aload_n hx hb dX12_sums_45 rfl (lv_at hl 0 rfl) ?_
        refine va_get (ci := 10) (v := (.ref (b + 13))) (C := RX12) (T := TX12) (N := 44) hx hb hq i_X12 hown hK hP 0 (gb_at b rfl) rfl 26 (by decide) (hq _ w_1150) (fun _ h9 => h9) rfl dX12_sums_46 ?_
        refine lv_iconst (v := 5) hx hb dX12_sums_49 (by decide) ?_
        refine lv_iload_n hx hb dX12_sums_50 rfl (lv_at hl 2 rfl) ?_
        refine lv_imul hx hb dX12_sums_51 ?_
        refine lv_iload_n hx hb dX12_sums_52 rfl (lv_at hl 1 rfl) ?_
        refine lv_aload_n hx hb dX12_sums_53 rfl (lv_at hl 0 rfl) ?_
        obtain ⟨f_18, wl_19, r_20, z_21, h⟩ := gb_bd_s h
        refine gb_calli (va_runV (C := RX12) (As := []) (rest := [.int v2, .int (5 * v3), .ref (b + 13), .int x_17, .int x_15, .ref (b + 14)]) ⟨hx, hb, hml, hown, hq⟩ (mc_paths l D cT tt b1 b hb1 n f_9 wl_10 f_18 wl_19 r_20 z_21) (cwV 0 hq (gb_gV w_1384 w_1386 s_4_4 w_14 w_1387) rfl rfl rfl (by decide +kernel) ⟨Nat.le_of_ble_eq_true rfl, Nat.le_of_ble_eq_true rfl⟩) (gb_preV (r := (RX12, TX12, 44)) (ci := 10) (q0 := 0) hSt hP rfl (gb_at b rfl) hS (fun q h => Nat.le_trans hb1 h.1) hP) rfl rfl hl.1 rfl (lv_room (Nat.le_of_ble_eq_true rfl)) dX12_sums_54 ⟨Nat.le_of_ble_eq_true rfl, Nat.le_of_ble_eq_true rfl⟩) hS (fun _ h => h) (fun _ h => h) (fun q_22 H locs hY hk hS => ?_)
        obtain ⟨hq_22, hP⟩ := hY
        replace hq_22 := hq_22.symm
        subst hq_22
        obtain ⟨z_23, h⟩ := gb_nz_s h
        refine lv_irem hx hb dX12_sums_57 z_23 ?_
        refine lv_topi (fun x_24 ex_24 => ?_)
        replace h := gb_lt_s ex_24 h
        refine lv_iadd hx hb dX12_sums_58 ?_
        obtain ⟨z_25, h⟩ := gb_ck_s h
        refine va_iald hx hb hK hP 13 0 (gb_at b rfl) rfl z_25 dX12_sums_59 ?_
        refine lv_topi (fun x_26 ex_26 => ?_)
        replace h := gb_lt_s ex_26 h
        refine lv_iadd hx hb dX12_sums_60 ?_
        obtain ⟨z_27, h⟩ := gb_ck_s h
        refine gb_iast (x := (x_17 + x_26)) hx hb hK hP (fun k h => ⟨Nat.le_add_right b k, Nat.add_lt_add_left h b⟩) hS rfl 14 0 rfl rfl z_27 dX12_sums_61 (fun H locs hP hz_ hS => ?_)
        obtain ⟨f_28, ef_28⟩ : ∃ q, q = (gb_u f_18 14 (upd (f_18 14) (Int32.toNatClampNeg x_15) (x_17 + x_26))) := ⟨_, rfl⟩
        replace hP : va_P D vwCl (gb_wl b (gb_MW cT b f_28 wl_19)) H := by rw [ef_28]; exact hP
        replace h := gb_lt_s ef_28 h
        refine lv_iload_n hx hb dX12_sums_62 rfl (lv_at hl 1 rfl) ?_
        refine lv_aload_n hx hb dX12_sums_63 rfl (lv_at hl 0 rfl) ?_
        obtain ⟨f_29, wl_30, r_31, z_32, h⟩ := gb_bd_s h
        refine gb_calli (va_runV (C := RX12) (As := []) (rest := [.int v2]) ⟨hx, hb, hml, hown, hq⟩ (mc_paths l D cT tt b1 b hb1 n f_28 wl_19 f_29 wl_30 r_31 z_32) (cwV 0 hq (gb_gV w_1384 w_1386 s_4_4 w_14 w_1387) rfl rfl rfl (by decide +kernel) ⟨Nat.le_of_ble_eq_true rfl, Nat.le_of_ble_eq_true rfl⟩) (gb_preV (r := (RX12, TX12, 44)) (ci := 10) (q0 := 0) hSt hP rfl (gb_at b rfl) hS (fun q h => Nat.le_trans hb1 h.1) hP) rfl rfl hl.1 rfl (lv_room (Nat.le_of_ble_eq_true rfl)) dX12_sums_64 ⟨Nat.le_of_ble_eq_true rfl, Nat.le_of_ble_eq_true rfl⟩) hS (fun _ h => h) (fun _ h => h) (fun q_33 H locs hY hk hS => ?_)
        obtain ⟨hq_33, hP⟩ := hY
        replace hq_33 := hq_33.symm
        subst hq_33
        obtain ⟨z_34, h⟩ := gb_nz_s h
        refine lv_idiv hx hb dX12_sums_67 z_34 ?_
        refine lv_topi (fun x_35 ex_35 => ?_)
        replace h := gb_lt_s ex_35 h
        refine lv_istore_n (lv' := [(2, .int x_35), (0, .ref (b + 0)), (3, .int v3)]) hx hb dX12_sums_68 rfl hl (by decide) rfl (fun ls hl => ?_)
        obtain ⟨x_36, ex_36⟩ : ∃ q, q = (v3 + (-1)) := ⟨_, rfl⟩
        replace h := gb_lt_s ex_36 h
        refine lv_iinc (v := x_36) (lv' := [(3, .int x_36), (2, .int x_35), (0, .ref (b + 0))]) hx hb dX12_sums_69 hl (k := 2) rfl (by rw [ex_36]; rfl) (by decide) rfl (fun ls hl => ?_)
        refine lv_goto (tgt := 29) hx hb dX12_sums_72 (by decide) ?_
        exact ih _ _ _ _ _ _ _ h hP hS (lv_sub hl [2, 1, 0] rfl)
  have L2 : ∀ (mm : Nat) (f : gb_F) (w : Int64) (v1 : Int32) (v2 : Int32) (H : Heap) (locs : List Loc) (ls : Array Slot), ms_sums_2 n mm f w v1 v2 = some (fE, wE, rE) → va_P D vwCl (gb_wl b (gb_MW cT b f w)) H → va_S (gb_fr b 22) s.heap H locs → lv_has ls 4 [(0, .ref (b + 0)), (1, .int v1), (2, .int v2)] → W p l e (headSpec (.code yX12_sums cX12_sums 4 none :: gb_wA) ({ frames := 2, cells := 0, slots := 0, locals := 41 })).room s m ([.ref (b + 0), .int p1]).toArray below meth c H locs 0 0 (MQ below (gb_Qv (fun h => va_P D vwCl (gb_wl b (gb_MW cT b fE wE)) h) (gb_fr b 22)) ([.ref (b + 0), .int p1]).toArray s 0 0 (gb_fr b 22)) (F0 m 2 ls []) := by
    clear h hP hS hl ls f w
    intro mm
    induction mm with
    | zero =>
      intro f w v1 v2 H locs ls h
      cases h
    | succ mm ih =>
      intro f w v1 v2 H locs ls h hP hS hl
      rw [ms_sums_2] at h
      refine lv_iload_n hx hb dX12_sums_2 rfl (lv_at hl 2 rfl) ?_
      refine lv_iconst (v := 5) hx hb dX12_sums_3 (by decide) ?_
      refine lv_icmp_ge (tgt := 20) hx hb dX12_sums_4 (by decide) (fun c_1 => ?_) (fun c_1 => ?_)
      · rw [if_pos c_1] at h
        refine lv_iload_n hx hb dX12_sums_20 rfl (lv_at hl 1 rfl) ?_
        refine lv_istore_n (lv' := [(2, .int v1), (0, .ref (b + 0)), (1, .int v1)]) hx hb dX12_sums_21 rfl hl (by decide) rfl (fun ls hl => ?_)
        refine lv_aload_n hx hb dX12_sums_22 rfl (lv_at hl 1 rfl) ?_
        obtain ⟨f_2, wl_3, r_4, z_5, h⟩ := gb_bd_s h
        refine gb_calli (va_runV (C := RX12) (As := []) (rest := []) ⟨hx, hb, hml, hown, hq⟩ (mc_geese l D cT tt b1 b hb1 n f w f_2 wl_3 r_4 z_5) (cwV 0 hq (gb_gV w_1396 w_1398 s_4_7 w_14 w_1399) rfl rfl rfl (by decide +kernel) ⟨Nat.le_of_ble_eq_true rfl, Nat.le_of_ble_eq_true rfl⟩) (gb_preV (r := (RX12, TX12, 44)) (ci := 10) (q0 := 0) hSt hP rfl (gb_at b rfl) hS (fun q h => Nat.le_trans hb1 h.1) hP) rfl rfl hl.1 rfl (lv_room (Nat.le_of_ble_eq_true rfl)) dX12_sums_23 ⟨Nat.le_of_ble_eq_true rfl, Nat.le_of_ble_eq_true rfl⟩) hS (fun _ h => h) (fun _ h => h) (fun q_6 H locs hY hk hS => ?_)
        obtain ⟨hq_6, hP⟩ := hY
        replace hq_6 := hq_6.symm
        subst hq_6
        refine lv_iconst (v := 1) hx hb dX12_sums_26 (by decide) ?_
        refine lv_isub hx hb dX12_sums_27 ?_
        refine lv_topi (fun x_7 ex_7 => ?_)
        replace h := gb_lt_s ex_7 h
        refine lv_istore_n (lv' := [(3, .int x_7), (2, .int v1), (0, .ref (b + 0)), (1, .int v1)]) hx hb dX12_sums_28 rfl hl (by decide) rfl (fun ls hl => ?_)
        exact L29 n _ _ _ _ _ _ _ h hP hS (lv_sub hl [2, 1, 0] rfl)
      · rw [if_neg c_1] at h
        refine lv_aload_n hx hb dX12_sums_7 rfl (lv_at hl 0 rfl) ?_
        refine va_get (ci := 10) (v := (.ref (b + 14))) (C := RX12) (T := TX12) (N := 44) hx hb hq i_X12 hown hK hP 0 (gb_at b rfl) rfl 27 (by decide) (hq _ w_1151) (fun _ h9 => h9) rfl dX12_sums_8 ?_
        refine lv_iload_n hx hb dX12_sums_11 rfl (lv_at hl 2 rfl) ?_
        refine lv_iconst (v := 0) hx hb dX12_sums_12 (by decide) ?_
        obtain ⟨z_37, h⟩ := gb_ck_s h
        refine gb_iast (x := 0) hx hb hK hP (fun k h => ⟨Nat.le_add_right b k, Nat.add_lt_add_left h b⟩) hS rfl 14 0 rfl rfl z_37 dX12_sums_13 (fun H locs hP hz_ hS => ?_)
        obtain ⟨f_38, ef_38⟩ : ∃ q, q = (gb_u f 14 (upd (f 14) (Int32.toNatClampNeg v2) 0)) := ⟨_, rfl⟩
        replace hP : va_P D vwCl (gb_wl b (gb_MW cT b f_38 w)) H := by rw [ef_38]; exact hP
        replace h := gb_lt_s ef_38 h
        obtain ⟨x_39, ex_39⟩ : ∃ q, q = (v2 + 1) := ⟨_, rfl⟩
        replace h := gb_lt_s ex_39 h
        refine lv_iinc (v := x_39) (lv' := [(2, .int x_39), (0, .ref (b + 0)), (1, .int v1)]) hx hb dX12_sums_14 hl (k := 2) rfl (by rw [ex_39]; rfl) (by decide) rfl (fun ls hl => ?_)
        refine lv_goto (tgt := 2) hx hb dX12_sums_17 (by decide) ?_
        exact ih _ _ _ _ _ _ _ h hP hS (lv_sub hl [1, 2, 0] rfl)
  unfold ms_sums at h
  refine lv_iconst (v := 0) hx hb dX12_sums_0 (by decide) ?_
  refine lv_istore_n (lv' := [(2, .int 0), (0, .ref (b + 0)), (1, .int p1)]) hx hb dX12_sums_1 rfl hl (by decide) rfl (fun ls hl => ?_)
  exact L2 n _ _ _ _ _ _ _ h hP hS (lv_sub hl [1, 2, 0] rfl)
theorem dX12_payOf_0 : decode cX12_payOf 0 = .ok (.aload_n 0, 1) := dc_42 (show ((cX12_payOf.data.toList.drop 0).take 1).map UInt8.toNat = [42] by decide +kernel)
theorem dX12_payOf_1 : decode cX12_payOf 1 = .ok (.iload_n 1, 1) := dc_27 (show ((cX12_payOf.data.toList.drop 1).take 1).map UInt8.toNat = [27] by decide +kernel)
theorem dX12_payOf_2 : decode cX12_payOf 2 = .ok (.iconst 1, 1) := dc_4 (show ((cX12_payOf.data.toList.drop 2).take 1).map UInt8.toNat = [4] by decide +kernel)
theorem dX12_payOf_3 : decode cX12_payOf 3 = .ok (.invokevirtual 211, 3) := dc_182 (show ((cX12_payOf.data.toList.drop 3).take 3).map UInt8.toNat = [182, 0, 211] by decide +kernel) rfl
theorem dX12_payOf_6 : decode cX12_payOf 6 = .ok (.aload_n 0, 1) := dc_42 (show ((cX12_payOf.data.toList.drop 6).take 1).map UInt8.toNat = [42] by decide +kernel)
theorem dX12_payOf_7 : decode cX12_payOf 7 = .ok (.aload_n 0, 1) := dc_42 (show ((cX12_payOf.data.toList.drop 7).take 1).map UInt8.toNat = [42] by decide +kernel)
theorem dX12_payOf_8 : decode cX12_payOf 8 = .ok (.getfield 50, 3) := dc_180 (show ((cX12_payOf.data.toList.drop 8).take 3).map UInt8.toNat = [180, 0, 50] by decide +kernel) rfl
theorem dX12_payOf_11 : decode cX12_payOf 11 = .ok (.iload_n 1, 1) := dc_27 (show ((cX12_payOf.data.toList.drop 11).take 1).map UInt8.toNat = [27] by decide +kernel)
theorem dX12_payOf_12 : decode cX12_payOf 12 = .ok (.iaload, 1) := dc_46 (show ((cX12_payOf.data.toList.drop 12).take 1).map UInt8.toNat = [46] by decide +kernel)
theorem dX12_payOf_13 : decode cX12_payOf 13 = .ok (.iload_n 1, 1) := dc_27 (show ((cX12_payOf.data.toList.drop 13).take 1).map UInt8.toNat = [27] by decide +kernel)
theorem dX12_payOf_14 : decode cX12_payOf 14 = .ok (.invokevirtual 276, 3) := dc_182 (show ((cX12_payOf.data.toList.drop 14).take 3).map UInt8.toNat = [182, 1, 20] by decide +kernel) rfl
theorem dX12_payOf_17 : decode cX12_payOf 17 = .ok (.imul, 1) := dc_104 (show ((cX12_payOf.data.toList.drop 17).take 1).map UInt8.toNat = [104] by decide +kernel)
theorem dX12_payOf_18 : decode cX12_payOf 18 = .ok (.ireturn, 1) := dc_172 (show ((cX12_payOf.data.toList.drop 18).take 1).map UInt8.toNat = [172] by decide +kernel)
def ms_payOf (n : Nat) (f : gb_F) (w : Int64) (p1 : Int32) : gb_MR Int32 := gb_bd (ms_ofPath n f w p1 1) (fun f_1 wl_2 r_3 => gb_ck p1 5 (gb_lt (f_1 14 (Int32.toNatClampNeg p1)) (fun x_7 => gb_bd (ms_padded n f_1 wl_2 x_7 p1) (fun f_8 wl_9 r_10 => some (f_8, wl_9, (r_3 * r_10))))))
set_option maxHeartbeats 8000000 in
set_option maxRecDepth 100000 in
theorem mc_payOf (l : Launch) (D : va_G) (cT : Nat → ClassId) (tt : Nat → Nat) (b1 b : Nat) (hb1 : b1 ≤ b) (n : Nat) (f : gb_F) (w : Int64) (p1 : Int32) (fE : gb_F) (wE : Int64) (rE : Int32) (h : ms_payOf n f w p1 = some (fE, wE, rE)) : Met l yX12_payOf (.code yX12_payOf cX12_payOf 2 (some FieldType.int) :: gb_wA) ({ frames := 3, cells := 0, slots := 0, locals := 65 }) (gb_Pc D cT tt b1 [.ref (b + 0), .int p1] (fun h => va_P D vwCl (gb_wl b (gb_MW cT b f w)) h)) (gb_Qi (fun r h => r = rE ∧ va_P D vwCl (gb_wl b (gb_MW cT b fE wE)) h) (gb_fr b 22)) 0 0 (gb_fr b 22) := by
  refine Met.ofW (cc := cX12_payOf) (maxL := 2) (ret := (some FieldType.int)) (by decide) rfl ?_
  intro p e s m args below meth c s₁ B hml hv
  obtain ⟨rfl, hSt, hP⟩ := hv
  have hx := B.exec
  have hb := B.bytes
  have hr := B.returns
  have hts := atoms_spec (ws := .code yX12_payOf cX12_payOf 2 (some FieldType.int) :: gb_wA) B.pre
  have hq : ∀ w ∈ gb_wA, w.before _ s = true := fun w h => hts w (List.mem_cons_of_mem _ h)
  have hown : s.vm.findClass RX12 = some m.cls := findClass_of_methodNamed B.named
  have hlocks := B.notSynchronized
  clear B hts
  have hK := hSt.1
  have hS : va_S (gb_fr b 22) s.heap s.heap [] := va_S.rf
  have hl := lv_entry ([.ref (b + 0), .int p1]) (n := 2) (Nat.le_of_ble_eq_true rfl)
  rw [lg_entry_eq]
  generalize (lg_sl ([.ref (b + 0), .int p1]) ++ List.replicate (2 - (lg_sl ([.ref (b + 0), .int p1])).length) Slot.unset).toArray = ls at hl ⊢
  replace hl : lv_has ls 2 [(0, .ref (b + 0)), (1, .int p1)] := hl
  unfold ms_payOf at h
  refine lv_aload_n hx hb dX12_payOf_0 rfl (lv_at hl 0 rfl) ?_
  refine lv_iload_n hx hb dX12_payOf_1 rfl (lv_at hl 1 rfl) ?_
  refine lv_iconst (v := 1) hx hb dX12_payOf_2 (by decide) ?_
  obtain ⟨f_1, wl_2, r_3, z_4, h⟩ := gb_bd_s h
  refine gb_calli (va_runV (C := RX12) (As := [.int p1, .int 1]) (rest := []) ⟨hx, hb, hml, hown, hq⟩ (mc_ofPath l D cT tt b1 b hb1 n f w p1 1 f_1 wl_2 r_3 z_4) (cwV 2 hq (gb_gV w_1388 w_1390 s_4_5 w_14 w_1391) rfl rfl rfl (by decide +kernel) ⟨Nat.le_of_ble_eq_true rfl, Nat.le_of_ble_eq_true rfl⟩) (gb_preV (r := (RX12, TX12, 44)) (ci := 10) (q0 := 0) hSt hP rfl (gb_at b rfl) hS (fun q h => Nat.le_trans hb1 h.1) hP) rfl rfl hl.1 rfl (lv_room (Nat.le_of_ble_eq_true rfl)) dX12_payOf_3 ⟨Nat.le_of_ble_eq_true rfl, Nat.le_of_ble_eq_true rfl⟩) hS (fun _ h => h) (fun _ h => h) (fun q_5 H locs hY hk hS => ?_)
  obtain ⟨hq_5, hP⟩ := hY
  replace hq_5 := hq_5.symm
  subst hq_5
  refine lv_aload_n hx hb dX12_payOf_6 rfl (lv_at hl 0 rfl) ?_
  refine lv_aload_n hx hb dX12_payOf_7 rfl (lv_at hl 0 rfl) ?_
  refine va_get (ci := 10) (v := (.ref (b + 14))) (C := RX12) (T := TX12) (N := 44) hx hb hq i_X12 hown hK hP 0 (gb_at b rfl) rfl 27 (by decide) (hq _ w_1151) (fun _ h9 => h9) rfl dX12_payOf_8 ?_
  refine lv_iload_n hx hb dX12_payOf_11 rfl (lv_at hl 1 rfl) ?_
  obtain ⟨z_6, h⟩ := gb_ck_s h
  refine va_iald hx hb hK hP 14 0 (gb_at b rfl) rfl z_6 dX12_payOf_12 ?_
  refine lv_topi (fun x_7 ex_7 => ?_)
  replace h := gb_lt_s ex_7 h
  refine lv_iload_n hx hb dX12_payOf_13 rfl (lv_at hl 1 rfl) ?_
  obtain ⟨f_8, wl_9, r_10, z_11, h⟩ := gb_bd_s h
  refine gb_calli (va_runV (C := RX12) (As := [.int x_7, .int p1]) (rest := [.int r_3]) ⟨hx, hb, hml, hown, hq⟩ (mc_padded l D cT tt b1 b hb1 n f_1 wl_2 x_7 p1 f_8 wl_9 r_10 z_11) (cwV 2 hq (gb_gV w_1480 w_1482 s_5_7 w_14 w_1483) rfl rfl rfl (by decide +kernel) ⟨Nat.le_of_ble_eq_true rfl, Nat.le_of_ble_eq_true rfl⟩) (gb_preV (r := (RX12, TX12, 44)) (ci := 10) (q0 := 0) hSt hP rfl (gb_at b rfl) hS (fun q h => Nat.le_trans hb1 h.1) hP) rfl rfl hl.1 rfl (lv_room (Nat.le_of_ble_eq_true rfl)) dX12_payOf_14 ⟨Nat.le_of_ble_eq_true rfl, Nat.le_of_ble_eq_true rfl⟩) hS (fun _ h => h) (fun _ h => h) (fun q_12 H locs hY hk hS => ?_)
  obtain ⟨hq_12, hP⟩ := hY
  replace hq_12 := hq_12.symm
  subst hq_12
  refine lv_imul hx hb dX12_payOf_17 ?_
  obtain ⟨e1, e2, e3⟩ := gb_eq3 h
  exact W.iret (v := (r_3 * r_10)) hx hb hr (fun t ht hW => gb_ri ht ⟨e3, by rw [← e1, ← e2]; exact hP⟩ hS) hS.2.2 dX12_payOf_18
theorem dX12_worthOf_0 : decode cX12_worthOf 0 = .ok (.aload_n 0, 1) := dc_42 (show ((cX12_worthOf.data.toList.drop 0).take 1).map UInt8.toNat = [42] by decide +kernel)
theorem dX12_worthOf_1 : decode cX12_worthOf 1 = .ok (.iload_n 1, 1) := dc_27 (show ((cX12_worthOf.data.toList.drop 1).take 1).map UInt8.toNat = [27] by decide +kernel)
theorem dX12_worthOf_2 : decode cX12_worthOf 2 = .ok (.invokevirtual 300, 3) := dc_182 (show ((cX12_worthOf.data.toList.drop 2).take 3).map UInt8.toNat = [182, 1, 44] by decide +kernel) rfl
theorem w_1547 : (Cond.code ({ cls := "GooseBorderModel", name := "sums", desc := "(I)V" } : MethodName) prog_14_method_71_code (4 : Nat) (Option.none : Option FieldType)) ∈ gb_wA := gb_t7 107 rfl rfl
theorem w_1544 : (Cond.methodLink "GooseBorderModel" (300 : Nat) ({ cls := "GooseBorderModel", name := "sums", desc := "(I)V" } : MethodName)) ∈ gb_wA := gb_t7 104 rfl rfl
theorem w_1546 : (Cond.instanceMethod ({ cls := "GooseBorderModel", name := "sums", desc := "(I)V" } : MethodName)) ∈ gb_wA := gb_t7 106 rfl rfl
theorem s_6_3 : Cond.selects "GooseBorderModel" (⟨"GooseBorderModel", "sums", "(I)V"⟩ : MethodName) (⟨"GooseBorderModel", "sums", "(I)V"⟩ : MethodName) ∈ gb_wA := gb_s6 3 rfl rfl
theorem dX12_worthOf_5 : decode cX12_worthOf 5 = .ok (.aload_n 0, 1) := dc_42 (show ((cX12_worthOf.data.toList.drop 5).take 1).map UInt8.toNat = [42] by decide +kernel)
theorem dX12_worthOf_6 : decode cX12_worthOf 6 = .ok (.iconst 0, 1) := dc_3 (show ((cX12_worthOf.data.toList.drop 6).take 1).map UInt8.toNat = [3] by decide +kernel)
theorem dX12_worthOf_7 : decode cX12_worthOf 7 = .ok (.invokevirtual 303, 3) := dc_182 (show ((cX12_worthOf.data.toList.drop 7).take 3).map UInt8.toNat = [182, 1, 47] by decide +kernel) rfl
theorem w_1551 : (Cond.code ({ cls := "GooseBorderModel", name := "payOf", desc := "(I)I" } : MethodName) prog_14_method_72_code (2 : Nat) (Option.some FieldType.int)) ∈ gb_wA := gb_t7 111 rfl rfl
theorem w_1548 : (Cond.methodLink "GooseBorderModel" (303 : Nat) ({ cls := "GooseBorderModel", name := "payOf", desc := "(I)I" } : MethodName)) ∈ gb_wA := gb_t7 108 rfl rfl
theorem w_1550 : (Cond.instanceMethod ({ cls := "GooseBorderModel", name := "payOf", desc := "(I)I" } : MethodName)) ∈ gb_wA := gb_t7 110 rfl rfl
theorem s_6_4 : Cond.selects "GooseBorderModel" (⟨"GooseBorderModel", "payOf", "(I)I"⟩ : MethodName) (⟨"GooseBorderModel", "payOf", "(I)I"⟩ : MethodName) ∈ gb_wA := gb_s6 4 rfl rfl
theorem dX12_worthOf_10 : decode cX12_worthOf 10 = .ok (.istore_n 3, 1) := dc_62 (show ((cX12_worthOf.data.toList.drop 10).take 1).map UInt8.toNat = [62] by decide +kernel)
theorem dX12_worthOf_11 : decode cX12_worthOf 11 = .ok (.aload_n 0, 1) := dc_42 (show ((cX12_worthOf.data.toList.drop 11).take 1).map UInt8.toNat = [42] by decide +kernel)
theorem dX12_worthOf_12 : decode cX12_worthOf 12 = .ok (.iconst 0, 1) := dc_3 (show ((cX12_worthOf.data.toList.drop 12).take 1).map UInt8.toNat = [3] by decide +kernel)
theorem dX12_worthOf_13 : decode cX12_worthOf 13 = .ok (.invokevirtual 303, 3) := dc_182 (show ((cX12_worthOf.data.toList.drop 13).take 3).map UInt8.toNat = [182, 1, 47] by decide +kernel) rfl
theorem dX12_worthOf_16 : decode cX12_worthOf 16 = .ok (.istore 4, 2) := dc_54 (show ((cX12_worthOf.data.toList.drop 16).take 2).map UInt8.toNat = [54, 4] by decide +kernel) rfl
theorem dX12_worthOf_18 : decode cX12_worthOf 18 = .ok (.iconst 0, 1) := dc_3 (show ((cX12_worthOf.data.toList.drop 18).take 1).map UInt8.toNat = [3] by decide +kernel)
theorem dX12_worthOf_19 : decode cX12_worthOf 19 = .ok (.istore 5, 2) := dc_54 (show ((cX12_worthOf.data.toList.drop 19).take 2).map UInt8.toNat = [54, 5] by decide +kernel) rfl
theorem dX12_worthOf_21 : decode cX12_worthOf 21 = .ok (.iconst 0, 1) := dc_3 (show ((cX12_worthOf.data.toList.drop 21).take 1).map UInt8.toNat = [3] by decide +kernel)
theorem dX12_worthOf_22 : decode cX12_worthOf 22 = .ok (.istore 6, 2) := dc_54 (show ((cX12_worthOf.data.toList.drop 22).take 2).map UInt8.toNat = [54, 6] by decide +kernel) rfl
theorem dX12_worthOf_24 : decode cX12_worthOf 24 = .ok (.iload 6, 2) := dc_21 (show ((cX12_worthOf.data.toList.drop 24).take 2).map UInt8.toNat = [21, 6] by decide +kernel) rfl
theorem dX12_worthOf_26 : decode cX12_worthOf 26 = .ok (.aload_n 0, 1) := dc_42 (show ((cX12_worthOf.data.toList.drop 26).take 1).map UInt8.toNat = [42] by decide +kernel)
theorem dX12_worthOf_27 : decode cX12_worthOf 27 = .ok (.invokevirtual 199, 3) := dc_182 (show ((cX12_worthOf.data.toList.drop 27).take 3).map UInt8.toNat = [182, 0, 199] by decide +kernel) rfl
theorem dX12_worthOf_30 : decode cX12_worthOf 30 = .ok (.if_icmp .ge 80, 3) := dc_162 (show ((cX12_worthOf.data.toList.drop 30).take 3).map UInt8.toNat = [162, 0, 80] by decide +kernel) rfl
theorem dX12_worthOf_110 : decode cX12_worthOf 110 = .ok (.iload_n 2, 1) := dc_28 (show ((cX12_worthOf.data.toList.drop 110).take 1).map UInt8.toNat = [28] by decide +kernel)
theorem dX12_worthOf_111 : decode cX12_worthOf 111 = .ok (.ifCond .eq 8, 3) := dc_153 (show ((cX12_worthOf.data.toList.drop 111).take 3).map UInt8.toNat = [153, 0, 8] by decide +kernel) rfl
theorem dX12_worthOf_119 : decode cX12_worthOf 119 = .ok (.iload 4, 2) := dc_21 (show ((cX12_worthOf.data.toList.drop 119).take 2).map UInt8.toNat = [21, 4] by decide +kernel) rfl
theorem dX12_worthOf_121 : decode cX12_worthOf 121 = .ok (.iload_n 3, 1) := dc_29 (show ((cX12_worthOf.data.toList.drop 121).take 1).map UInt8.toNat = [29] by decide +kernel)
theorem dX12_worthOf_122 : decode cX12_worthOf 122 = .ok (.isub, 1) := dc_100 (show ((cX12_worthOf.data.toList.drop 122).take 1).map UInt8.toNat = [100] by decide +kernel)
theorem dX12_worthOf_123 : decode cX12_worthOf 123 = .ok (.ireturn, 1) := dc_172 (show ((cX12_worthOf.data.toList.drop 123).take 1).map UInt8.toNat = [172] by decide +kernel)
theorem dX12_worthOf_114 : decode cX12_worthOf 114 = .ok (.iload 5, 2) := dc_21 (show ((cX12_worthOf.data.toList.drop 114).take 2).map UInt8.toNat = [21, 5] by decide +kernel) rfl
theorem dX12_worthOf_116 : decode cX12_worthOf 116 = .ok (.goto 7, 3) := dc_167 (show ((cX12_worthOf.data.toList.drop 116).take 3).map UInt8.toNat = [167, 0, 7] by decide +kernel) rfl
theorem dX12_worthOf_33 : decode cX12_worthOf 33 = .ok (.aload_n 0, 1) := dc_42 (show ((cX12_worthOf.data.toList.drop 33).take 1).map UInt8.toNat = [42] by decide +kernel)
theorem dX12_worthOf_34 : decode cX12_worthOf 34 = .ok (.iload 6, 2) := dc_21 (show ((cX12_worthOf.data.toList.drop 34).take 2).map UInt8.toNat = [21, 6] by decide +kernel) rfl
theorem dX12_worthOf_36 : decode cX12_worthOf 36 = .ok (.invokevirtual 303, 3) := dc_182 (show ((cX12_worthOf.data.toList.drop 36).take 3).map UInt8.toNat = [182, 1, 47] by decide +kernel) rfl
theorem dX12_worthOf_39 : decode cX12_worthOf 39 = .ok (.iload_n 3, 1) := dc_29 (show ((cX12_worthOf.data.toList.drop 39).take 1).map UInt8.toNat = [29] by decide +kernel)
theorem dX12_worthOf_40 : decode cX12_worthOf 40 = .ok (.if_icmp .ge 12, 3) := dc_162 (show ((cX12_worthOf.data.toList.drop 40).take 3).map UInt8.toNat = [162, 0, 12] by decide +kernel) rfl
theorem dX12_worthOf_52 : decode cX12_worthOf 52 = .ok (.iload_n 3, 1) := dc_29 (show ((cX12_worthOf.data.toList.drop 52).take 1).map UInt8.toNat = [29] by decide +kernel)
theorem dX12_worthOf_53 : decode cX12_worthOf 53 = .ok (.istore_n 3, 1) := dc_62 (show ((cX12_worthOf.data.toList.drop 53).take 1).map UInt8.toNat = [62] by decide +kernel)
theorem dX12_worthOf_54 : decode cX12_worthOf 54 = .ok (.aload_n 0, 1) := dc_42 (show ((cX12_worthOf.data.toList.drop 54).take 1).map UInt8.toNat = [42] by decide +kernel)
theorem dX12_worthOf_55 : decode cX12_worthOf 55 = .ok (.iload 6, 2) := dc_21 (show ((cX12_worthOf.data.toList.drop 55).take 2).map UInt8.toNat = [21, 6] by decide +kernel) rfl
theorem dX12_worthOf_57 : decode cX12_worthOf 57 = .ok (.invokevirtual 303, 3) := dc_182 (show ((cX12_worthOf.data.toList.drop 57).take 3).map UInt8.toNat = [182, 1, 47] by decide +kernel) rfl
theorem dX12_worthOf_60 : decode cX12_worthOf 60 = .ok (.iload 4, 2) := dc_21 (show ((cX12_worthOf.data.toList.drop 60).take 2).map UInt8.toNat = [21, 4] by decide +kernel) rfl
theorem dX12_worthOf_62 : decode cX12_worthOf 62 = .ok (.if_icmp .le 12, 3) := dc_164 (show ((cX12_worthOf.data.toList.drop 62).take 3).map UInt8.toNat = [164, 0, 12] by decide +kernel) rfl
theorem dX12_worthOf_74 : decode cX12_worthOf 74 = .ok (.iload 4, 2) := dc_21 (show ((cX12_worthOf.data.toList.drop 74).take 2).map UInt8.toNat = [21, 4] by decide +kernel) rfl
theorem dX12_worthOf_76 : decode cX12_worthOf 76 = .ok (.istore 4, 2) := dc_54 (show ((cX12_worthOf.data.toList.drop 76).take 2).map UInt8.toNat = [54, 4] by decide +kernel) rfl
theorem dX12_worthOf_78 : decode cX12_worthOf 78 = .ok (.iload_n 2, 1) := dc_28 (show ((cX12_worthOf.data.toList.drop 78).take 1).map UInt8.toNat = [28] by decide +kernel)
theorem dX12_worthOf_79 : decode cX12_worthOf 79 = .ok (.ifCond .eq 25, 3) := dc_153 (show ((cX12_worthOf.data.toList.drop 79).take 3).map UInt8.toNat = [153, 0, 25] by decide +kernel) rfl
theorem dX12_worthOf_104 : decode cX12_worthOf 104 = .ok (.iinc 6 1, 3) := dc_132 (show ((cX12_worthOf.data.toList.drop 104).take 3).map UInt8.toNat = [132, 6, 1] by decide +kernel) rfl
theorem dX12_worthOf_107 : decode cX12_worthOf 107 = .ok (.goto (-83), 3) := dc_167 (show ((cX12_worthOf.data.toList.drop 107).take 3).map UInt8.toNat = [167, 255, 173] by decide +kernel) rfl
theorem dX12_worthOf_82 : decode cX12_worthOf 82 = .ok (.iload 5, 2) := dc_21 (show ((cX12_worthOf.data.toList.drop 82).take 2).map UInt8.toNat = [21, 5] by decide +kernel) rfl
theorem dX12_worthOf_84 : decode cX12_worthOf 84 = .ok (.aload_n 0, 1) := dc_42 (show ((cX12_worthOf.data.toList.drop 84).take 1).map UInt8.toNat = [42] by decide +kernel)
theorem dX12_worthOf_85 : decode cX12_worthOf 85 = .ok (.aload_n 0, 1) := dc_42 (show ((cX12_worthOf.data.toList.drop 85).take 1).map UInt8.toNat = [42] by decide +kernel)
theorem dX12_worthOf_86 : decode cX12_worthOf 86 = .ok (.aload_n 0, 1) := dc_42 (show ((cX12_worthOf.data.toList.drop 86).take 1).map UInt8.toNat = [42] by decide +kernel)
theorem dX12_worthOf_87 : decode cX12_worthOf 87 = .ok (.getfield 50, 3) := dc_180 (show ((cX12_worthOf.data.toList.drop 87).take 3).map UInt8.toNat = [180, 0, 50] by decide +kernel) rfl
theorem dX12_worthOf_90 : decode cX12_worthOf 90 = .ok (.iload 6, 2) := dc_21 (show ((cX12_worthOf.data.toList.drop 90).take 2).map UInt8.toNat = [21, 6] by decide +kernel) rfl
theorem dX12_worthOf_92 : decode cX12_worthOf 92 = .ok (.iaload, 1) := dc_46 (show ((cX12_worthOf.data.toList.drop 92).take 1).map UInt8.toNat = [46] by decide +kernel)
theorem dX12_worthOf_93 : decode cX12_worthOf 93 = .ok (.iload 6, 2) := dc_21 (show ((cX12_worthOf.data.toList.drop 93).take 2).map UInt8.toNat = [21, 6] by decide +kernel) rfl
theorem dX12_worthOf_95 : decode cX12_worthOf 95 = .ok (.invokevirtual 276, 3) := dc_182 (show ((cX12_worthOf.data.toList.drop 95).take 3).map UInt8.toNat = [182, 1, 20] by decide +kernel) rfl
theorem dX12_worthOf_98 : decode cX12_worthOf 98 = .ok (.invokevirtual 294, 3) := dc_182 (show ((cX12_worthOf.data.toList.drop 98).take 3).map UInt8.toNat = [182, 1, 38] by decide +kernel) rfl
theorem dX12_worthOf_101 : decode cX12_worthOf 101 = .ok (.iadd, 1) := dc_96 (show ((cX12_worthOf.data.toList.drop 101).take 1).map UInt8.toNat = [96] by decide +kernel)
theorem dX12_worthOf_102 : decode cX12_worthOf 102 = .ok (.istore 5, 2) := dc_54 (show ((cX12_worthOf.data.toList.drop 102).take 2).map UInt8.toNat = [54, 5] by decide +kernel) rfl
theorem dX12_worthOf_65 : decode cX12_worthOf 65 = .ok (.aload_n 0, 1) := dc_42 (show ((cX12_worthOf.data.toList.drop 65).take 1).map UInt8.toNat = [42] by decide +kernel)
theorem dX12_worthOf_66 : decode cX12_worthOf 66 = .ok (.iload 6, 2) := dc_21 (show ((cX12_worthOf.data.toList.drop 66).take 2).map UInt8.toNat = [21, 6] by decide +kernel) rfl
theorem dX12_worthOf_68 : decode cX12_worthOf 68 = .ok (.invokevirtual 303, 3) := dc_182 (show ((cX12_worthOf.data.toList.drop 68).take 3).map UInt8.toNat = [182, 1, 47] by decide +kernel) rfl
theorem dX12_worthOf_71 : decode cX12_worthOf 71 = .ok (.goto 5, 3) := dc_167 (show ((cX12_worthOf.data.toList.drop 71).take 3).map UInt8.toNat = [167, 0, 5] by decide +kernel) rfl
theorem dX12_worthOf_43 : decode cX12_worthOf 43 = .ok (.aload_n 0, 1) := dc_42 (show ((cX12_worthOf.data.toList.drop 43).take 1).map UInt8.toNat = [42] by decide +kernel)
theorem dX12_worthOf_44 : decode cX12_worthOf 44 = .ok (.iload 6, 2) := dc_21 (show ((cX12_worthOf.data.toList.drop 44).take 2).map UInt8.toNat = [21, 6] by decide +kernel) rfl
theorem dX12_worthOf_46 : decode cX12_worthOf 46 = .ok (.invokevirtual 303, 3) := dc_182 (show ((cX12_worthOf.data.toList.drop 46).take 3).map UInt8.toNat = [182, 1, 47] by decide +kernel) rfl
theorem dX12_worthOf_49 : decode cX12_worthOf 49 = .ok (.goto 4, 3) := dc_167 (show ((cX12_worthOf.data.toList.drop 49).take 3).map UInt8.toNat = [167, 0, 4] by decide +kernel) rfl
def ms_worthOf_76 (n : Nat) (k24 : gb_F → Int64 → Int32 → Int32 → Int32 → Int32 → Int32 → gb_MR Int32) (f : gb_F) (w : Int64) (v2 : Int32) (v3 : Int32) (v5 : Int32) (v6 : Int32) (t0 : Int32) : gb_MR Int32 := (if v2 = 0 then gb_lt (v6 + 1) (fun x_36 => k24 f w v2 v3 t0 v5 x_36) else gb_ck v6 5 (gb_lt (f 14 (Int32.toNatClampNeg v6)) (fun x_38 => gb_bd (ms_padded n f w x_38 v6) (fun f_39 wl_40 r_41 => gb_bd (ms_paysBy n f_39 wl_40 r_41) (fun f_44 wl_45 r_46 => gb_lt (v5 + r_46) (fun x_49 => gb_lt (v6 + 1) (fun x_50 => k24 f_44 wl_45 v2 v3 t0 x_49 x_50)))))))
def ms_worthOf_53 (n : Nat) (k24 : gb_F → Int64 → Int32 → Int32 → Int32 → Int32 → Int32 → gb_MR Int32) (f : gb_F) (w : Int64) (v2 : Int32) (v4 : Int32) (v5 : Int32) (v6 : Int32) (t0 : Int32) : gb_MR Int32 := gb_bd (ms_payOf n f w v6) (fun f_29 wl_30 r_31 => (if r_31 ≤ v4 then ms_worthOf_76 n k24 f_29 wl_30 v2 t0 v5 v6 v4 else gb_bd (ms_payOf n f_29 wl_30 v6) (fun f_51 wl_52 r_53 => ms_worthOf_76 n k24 f_51 wl_52 v2 t0 v5 v6 r_53)))
def ms_worthOf_24 (n : Nat) : Nat → gb_F → Int64 → Int32 → Int32 → Int32 → Int32 → Int32 → gb_MR Int32
  | 0, _, _, _, _, _, _, _ => none
  | mm + 1, f, w, v2, v3, v4, v5, v6 => gb_bd (ms_paths n f w) (fun f_16 wl_17 r_18 => (if r_18 ≤ v6 then (if v2 = 0 then some (f_16, wl_17, (v4 - v3)) else some (f_16, wl_17, v5)) else gb_bd (ms_payOf n f_16 wl_17 v6) (fun f_23 wl_24 r_25 => (if v3 ≤ r_25 then ms_worthOf_53 n (fun f w v2 v3 v4 v5 v6 => ms_worthOf_24 n mm f w v2 v3 v4 v5 v6) f_23 wl_24 v2 v4 v5 v6 v3 else gb_bd (ms_payOf n f_23 wl_24 v6) (fun f_56 wl_57 r_58 => ms_worthOf_53 n (fun f w v2 v3 v4 v5 v6 => ms_worthOf_24 n mm f w v2 v3 v4 v5 v6) f_56 wl_57 v2 v4 v5 v6 r_58)))))
def ms_worthOf (n : Nat) (f : gb_F) (w : Int64) (p1 : Int32) (p2 : Int32) : gb_MR Int32 := gb_bd (ms_sums n f w p1) (fun f_1 wl_2 _ => gb_bd (ms_payOf n f_1 wl_2 0) (fun f_6 wl_7 r_8 => gb_bd (ms_payOf n f_6 wl_7 0) (fun f_11 wl_12 r_13 => ms_worthOf_24 n n f_11 wl_12 p2 r_8 r_13 0 0)))
set_option maxHeartbeats 8000000 in
set_option maxRecDepth 100000 in
theorem mc_worthOf (l : Launch) (D : va_G) (cT : Nat → ClassId) (tt : Nat → Nat) (b1 b : Nat) (hb1 : b1 ≤ b) (n : Nat) (f : gb_F) (w : Int64) (p1 : Int32) (p2 : Int32) (fE : gb_F) (wE : Int64) (rE : Int32) (h : ms_worthOf n f w p1 p2 = some (fE, wE, rE)) : Met l yX12_worthOf (.code yX12_worthOf cX12_worthOf 7 (some FieldType.int) :: gb_wA) ({ frames := 4, cells := 0, slots := 0, locals := 86 }) (gb_Pc D cT tt b1 [.ref (b + 0), .int p1, .int p2] (fun h => va_P D vwCl (gb_wl b (gb_MW cT b f w)) h)) (gb_Qi (fun r h => r = rE ∧ va_P D vwCl (gb_wl b (gb_MW cT b fE wE)) h) (gb_fr b 22)) 0 0 (gb_fr b 22) := by
  refine Met.ofW (cc := cX12_worthOf) (maxL := 7) (ret := (some FieldType.int)) (by decide) rfl ?_
  intro p e s m args below meth c s₁ B hml hv
  obtain ⟨rfl, hSt, hP⟩ := hv
  have hx := B.exec
  have hb := B.bytes
  have hr := B.returns
  have hts := atoms_spec (ws := .code yX12_worthOf cX12_worthOf 7 (some FieldType.int) :: gb_wA) B.pre
  have hq : ∀ w ∈ gb_wA, w.before _ s = true := fun w h => hts w (List.mem_cons_of_mem _ h)
  have hown : s.vm.findClass RX12 = some m.cls := findClass_of_methodNamed B.named
  have hlocks := B.notSynchronized
  clear B hts
  have hK := hSt.1
  have hS : va_S (gb_fr b 22) s.heap s.heap [] := va_S.rf
  have hl := lv_entry ([.ref (b + 0), .int p1, .int p2]) (n := 7) (Nat.le_of_ble_eq_true rfl)
  rw [lg_entry_eq]
  generalize (lg_sl ([.ref (b + 0), .int p1, .int p2]) ++ List.replicate (7 - (lg_sl ([.ref (b + 0), .int p1, .int p2])).length) Slot.unset).toArray = ls at hl ⊢
  replace hl : lv_has ls 7 [(0, .ref (b + 0)), (1, .int p1), (2, .int p2)] := hl
  have L76 : ∀ (k24 : gb_F → Int64 → Int32 → Int32 → Int32 → Int32 → Int32 → gb_MR Int32) (hk24 : ∀ (f : gb_F) (w : Int64) (v2 : Int32) (v3 : Int32) (v4 : Int32) (v5 : Int32) (v6 : Int32) (H : Heap) (locs : List Loc) (ls : Array Slot), k24 f w v2 v3 v4 v5 v6 = some (fE, wE, rE) → va_P D vwCl (gb_wl b (gb_MW cT b f w)) H → va_S (gb_fr b 22) s.heap H locs → lv_has ls 7 [(0, .ref (b + 0)), (2, .int v2), (3, .int v3), (4, .int v4), (5, .int v5), (6, .int v6)] → W p l e (headSpec (.code yX12_worthOf cX12_worthOf 7 (some FieldType.int) :: gb_wA) ({ frames := 4, cells := 0, slots := 0, locals := 86 })).room s m ([.ref (b + 0), .int p1, .int p2]).toArray below meth c H locs 0 0 (MQ below (gb_Qi (fun r h => r = rE ∧ va_P D vwCl (gb_wl b (gb_MW cT b fE wE)) h) (gb_fr b 22)) ([.ref (b + 0), .int p1, .int p2]).toArray s 0 0 (gb_fr b 22)) (F0 m 24 ls [])) (f : gb_F) (w : Int64) (v2 : Int32) (v3 : Int32) (v5 : Int32) (v6 : Int32) (t0 : Int32) (H : Heap) (locs : List Loc) (ls : Array Slot), ms_worthOf_76 n k24 f w v2 v3 v5 v6 t0 = some (fE, wE, rE) → va_P D vwCl (gb_wl b (gb_MW cT b f w)) H → va_S (gb_fr b 22) s.heap H locs → lv_has ls 7 [(0, .ref (b + 0)), (2, .int v2), (3, .int v3), (5, .int v5), (6, .int v6)] → W p l e (headSpec (.code yX12_worthOf cX12_worthOf 7 (some FieldType.int) :: gb_wA) ({ frames := 4, cells := 0, slots := 0, locals := 86 })).room s m ([.ref (b + 0), .int p1, .int p2]).toArray below meth c H locs 0 0 (MQ below (gb_Qi (fun r h => r = rE ∧ va_P D vwCl (gb_wl b (gb_MW cT b fE wE)) h) (gb_fr b 22)) ([.ref (b + 0), .int p1, .int p2]).toArray s 0 0 (gb_fr b 22)) (F0 m 76 ls [.int t0]) := by
    clear h hP hS hl ls f w
    intro k24 hk24 f w v2 v3 v5 v6 t0 H locs ls h hP hS hl
    unfold ms_worthOf_76 at h
    refine lv_istore (lv' := [(4, .int t0), (0, .ref (b + 0)), (2, .int v2), (3, .int v3), (5, .int v5), (6, .int v6)]) hx hb dX12_worthOf_76 hl (by decide) rfl (fun ls hl => ?_)
    refine lv_iload_n hx hb dX12_worthOf_78 rfl (lv_at hl 2 rfl) ?_
    refine lv_if_eq (tgt := 104) hx hb dX12_worthOf_79 (by decide) (fun c_35 => ?_) (fun c_35 => ?_)
    · rw [if_pos c_35] at h
      obtain ⟨x_36, ex_36⟩ : ∃ q, q = (v6 + 1) := ⟨_, rfl⟩
      replace h := gb_lt_s ex_36 h
      refine lv_iinc (v := x_36) (lv' := [(6, .int x_36), (4, .int t0), (0, .ref (b + 0)), (2, .int v2), (3, .int v3), (5, .int v5)]) hx hb dX12_worthOf_104 hl (k := 5) rfl (by rw [ex_36]; rfl) (by decide) rfl (fun ls hl => ?_)
      refine lv_goto (tgt := 24) hx hb dX12_worthOf_107 (by decide) ?_
      exact hk24 _ _ _ _ _ _ _ _ _ _ h hP hS (lv_sub hl [2, 3, 4, 1, 5, 0] rfl)
    · rw [if_neg c_35] at h
      refine lv_iload hx hb dX12_worthOf_82 (lv_at hl 4 rfl) ?_
      refine lv_aload_n hx hb dX12_worthOf_84 rfl (lv_at hl 1 rfl) ?_
      refine lv_aload_n hx hb dX12_worthOf_85 rfl (lv_at hl 1 rfl) ?_
      refine lv_aload_n hx hb dX12_worthOf_86 rfl (lv_at hl 1 rfl) ?_
      refine va_get (ci := 10) (v := (.ref (b + 14))) (C := RX12) (T := TX12) (N := 44) hx hb hq i_X12 hown hK hP 0 (gb_at b rfl) rfl 27 (by decide) (hq _ w_1151) (fun _ h9 => h9) rfl dX12_worthOf_87 ?_
      refine lv_iload hx hb dX12_worthOf_90 (lv_at hl 5 rfl) ?_
      obtain ⟨z_37, h⟩ := gb_ck_s h
      refine va_iald hx hb hK hP 14 0 (gb_at b rfl) rfl z_37 dX12_worthOf_92 ?_
      refine lv_topi (fun x_38 ex_38 => ?_)
      replace h := gb_lt_s ex_38 h
      refine lv_iload hx hb dX12_worthOf_93 (lv_at hl 5 rfl) ?_
      obtain ⟨f_39, wl_40, r_41, z_42, h⟩ := gb_bd_s h
      refine gb_calli (va_runV (C := RX12) (As := [.int x_38, .int v6]) (rest := [.ref (b + 0), .int v5]) ⟨hx, hb, hml, hown, hq⟩ (mc_padded l D cT tt b1 b hb1 n f w x_38 v6 f_39 wl_40 r_41 z_42) (cwV 2 hq (gb_gV w_1480 w_1482 s_5_7 w_14 w_1483) rfl rfl rfl (by decide +kernel) ⟨Nat.le_of_ble_eq_true rfl, Nat.le_of_ble_eq_true rfl⟩) (gb_preV (r := (RX12, TX12, 44)) (ci := 10) (q0 := 0) hSt hP rfl (gb_at b rfl) hS (fun q h => Nat.le_trans hb1 h.1) hP) rfl rfl hl.1 rfl (lv_room (Nat.le_of_ble_eq_true rfl)) dX12_worthOf_95 ⟨Nat.le_of_ble_eq_true rfl, Nat.le_of_ble_eq_true rfl⟩) hS (fun _ h => h) (fun _ h => h) (fun q_43 H locs hY hk hS => ?_)
      obtain ⟨hq_43, hP⟩ := hY
      replace hq_43 := hq_43.symm
      subst hq_43
      obtain ⟨f_44, wl_45, r_46, z_47, h⟩ := gb_bd_s h
      refine gb_calli (va_runV (C := RX12) (As := [.int r_41]) (rest := [.int v5]) ⟨hx, hb, hml, hown, hq⟩ (mc_paysBy l D cT tt b1 b hb1 n f_39 wl_40 r_41 f_44 wl_45 r_46 z_47) (cwV 1 hq (gb_gV w_1512 w_1514 s_5_12 w_14 w_1515) rfl rfl rfl (by decide +kernel) ⟨Nat.le_of_ble_eq_true rfl, Nat.le_of_ble_eq_true rfl⟩) (gb_preV (r := (RX12, TX12, 44)) (ci := 10) (q0 := 0) hSt hP rfl (gb_at b rfl) hS (fun q h => Nat.le_trans hb1 h.1) hP) rfl rfl hl.1 rfl (lv_room (Nat.le_of_ble_eq_true rfl)) dX12_worthOf_98 ⟨Nat.le_of_ble_eq_true rfl, Nat.le_of_ble_eq_true rfl⟩) hS (fun _ h => h) (fun _ h => h) (fun q_48 H locs hY hk hS => ?_)
      obtain ⟨hq_48, hP⟩ := hY
      replace hq_48 := hq_48.symm
      subst hq_48
      refine lv_iadd hx hb dX12_worthOf_101 ?_
      refine lv_topi (fun x_49 ex_49 => ?_)
      replace h := gb_lt_s ex_49 h
      refine lv_istore (lv' := [(5, .int x_49), (4, .int t0), (0, .ref (b + 0)), (2, .int v2), (3, .int v3), (6, .int v6)]) hx hb dX12_worthOf_102 hl (by decide) rfl (fun ls hl => ?_)
      obtain ⟨x_50, ex_50⟩ : ∃ q, q = (v6 + 1) := ⟨_, rfl⟩
      replace h := gb_lt_s ex_50 h
      refine lv_iinc (v := x_50) (lv' := [(6, .int x_50), (5, .int x_49), (4, .int t0), (0, .ref (b + 0)), (2, .int v2), (3, .int v3)]) hx hb dX12_worthOf_104 hl (k := 5) rfl (by rw [ex_50]; rfl) (by decide) rfl (fun ls hl => ?_)
      refine lv_goto (tgt := 24) hx hb dX12_worthOf_107 (by decide) ?_
      exact hk24 _ _ _ _ _ _ _ _ _ _ h hP hS (lv_sub hl [3, 4, 5, 2, 1, 0] rfl)
  have L53 : ∀ (k24 : gb_F → Int64 → Int32 → Int32 → Int32 → Int32 → Int32 → gb_MR Int32) (hk24 : ∀ (f : gb_F) (w : Int64) (v2 : Int32) (v3 : Int32) (v4 : Int32) (v5 : Int32) (v6 : Int32) (H : Heap) (locs : List Loc) (ls : Array Slot), k24 f w v2 v3 v4 v5 v6 = some (fE, wE, rE) → va_P D vwCl (gb_wl b (gb_MW cT b f w)) H → va_S (gb_fr b 22) s.heap H locs → lv_has ls 7 [(0, .ref (b + 0)), (2, .int v2), (3, .int v3), (4, .int v4), (5, .int v5), (6, .int v6)] → W p l e (headSpec (.code yX12_worthOf cX12_worthOf 7 (some FieldType.int) :: gb_wA) ({ frames := 4, cells := 0, slots := 0, locals := 86 })).room s m ([.ref (b + 0), .int p1, .int p2]).toArray below meth c H locs 0 0 (MQ below (gb_Qi (fun r h => r = rE ∧ va_P D vwCl (gb_wl b (gb_MW cT b fE wE)) h) (gb_fr b 22)) ([.ref (b + 0), .int p1, .int p2]).toArray s 0 0 (gb_fr b 22)) (F0 m 24 ls [])) (f : gb_F) (w : Int64) (v2 : Int32) (v4 : Int32) (v5 : Int32) (v6 : Int32) (t0 : Int32) (H : Heap) (locs : List Loc) (ls : Array Slot), ms_worthOf_53 n k24 f w v2 v4 v5 v6 t0 = some (fE, wE, rE) → va_P D vwCl (gb_wl b (gb_MW cT b f w)) H → va_S (gb_fr b 22) s.heap H locs → lv_has ls 7 [(0, .ref (b + 0)), (2, .int v2), (4, .int v4), (5, .int v5), (6, .int v6)] → W p l e (headSpec (.code yX12_worthOf cX12_worthOf 7 (some FieldType.int) :: gb_wA) ({ frames := 4, cells := 0, slots := 0, locals := 86 })).room s m ([.ref (b + 0), .int p1, .int p2]).toArray below meth c H locs 0 0 (MQ below (gb_Qi (fun r h => r = rE ∧ va_P D vwCl (gb_wl b (gb_MW cT b fE wE)) h) (gb_fr b 22)) ([.ref (b + 0), .int p1, .int p2]).toArray s 0 0 (gb_fr b 22)) (F0 m 53 ls [.int t0]) := by
    clear h hP hS hl ls f w
    intro k24 hk24 f w v2 v4 v5 v6 t0 H locs ls h hP hS hl
    unfold ms_worthOf_53 at h
    refine lv_istore_n (lv' := [(3, .int t0), (0, .ref (b + 0)), (2, .int v2), (4, .int v4), (5, .int v5), (6, .int v6)]) hx hb dX12_worthOf_53 rfl hl (by decide) rfl (fun ls hl => ?_)
    refine lv_aload_n hx hb dX12_worthOf_54 rfl (lv_at hl 1 rfl) ?_
    refine lv_iload hx hb dX12_worthOf_55 (lv_at hl 5 rfl) ?_
    obtain ⟨f_29, wl_30, r_31, z_32, h⟩ := gb_bd_s h
    refine gb_calli (va_runV (C := RX12) (As := [.int v6]) (rest := []) ⟨hx, hb, hml, hown, hq⟩ (mc_payOf l D cT tt b1 b hb1 n f w v6 f_29 wl_30 r_31 z_32) (cwV 1 hq (gb_gV w_1548 w_1550 s_6_4 w_14 w_1551) rfl rfl rfl (by decide +kernel) ⟨Nat.le_of_ble_eq_true rfl, Nat.le_of_ble_eq_true rfl⟩) (gb_preV (r := (RX12, TX12, 44)) (ci := 10) (q0 := 0) hSt hP rfl (gb_at b rfl) hS (fun q h => Nat.le_trans hb1 h.1) hP) rfl rfl hl.1 rfl (lv_room (Nat.le_of_ble_eq_true rfl)) dX12_worthOf_57 ⟨Nat.le_of_ble_eq_true rfl, Nat.le_of_ble_eq_true rfl⟩) hS (fun _ h => h) (fun _ h => h) (fun q_33 H locs hY hk hS => ?_)
    obtain ⟨hq_33, hP⟩ := hY
    replace hq_33 := hq_33.symm
    subst hq_33
    refine lv_iload hx hb dX12_worthOf_60 (lv_at hl 3 rfl) ?_
    refine lv_icmp_le (tgt := 74) hx hb dX12_worthOf_62 (by decide) (fun c_34 => ?_) (fun c_34 => ?_)
    · rw [if_pos c_34] at h
      refine lv_iload hx hb dX12_worthOf_74 (lv_at hl 3 rfl) ?_
      exact L76 k24 hk24 _ _ _ _ _ _ _ _ _ _ h hP hS (lv_sub hl [1, 2, 0, 4, 5] rfl)
    · rw [if_neg c_34] at h
      refine lv_aload_n hx hb dX12_worthOf_65 rfl (lv_at hl 1 rfl) ?_
      refine lv_iload hx hb dX12_worthOf_66 (lv_at hl 5 rfl) ?_
      obtain ⟨f_51, wl_52, r_53, z_54, h⟩ := gb_bd_s h
      refine gb_calli (va_runV (C := RX12) (As := [.int v6]) (rest := []) ⟨hx, hb, hml, hown, hq⟩ (mc_payOf l D cT tt b1 b hb1 n f_29 wl_30 v6 f_51 wl_52 r_53 z_54) (cwV 1 hq (gb_gV w_1548 w_1550 s_6_4 w_14 w_1551) rfl rfl rfl (by decide +kernel) ⟨Nat.le_of_ble_eq_true rfl, Nat.le_of_ble_eq_true rfl⟩) (gb_preV (r := (RX12, TX12, 44)) (ci := 10) (q0 := 0) hSt hP rfl (gb_at b rfl) hS (fun q h => Nat.le_trans hb1 h.1) hP) rfl rfl hl.1 rfl (lv_room (Nat.le_of_ble_eq_true rfl)) dX12_worthOf_68 ⟨Nat.le_of_ble_eq_true rfl, Nat.le_of_ble_eq_true rfl⟩) hS (fun _ h => h) (fun _ h => h) (fun q_55 H locs hY hk hS => ?_)
      obtain ⟨hq_55, hP⟩ := hY
      replace hq_55 := hq_55.symm
      subst hq_55
      refine lv_goto (tgt := 76) hx hb dX12_worthOf_71 (by decide) ?_
      exact L76 k24 hk24 _ _ _ _ _ _ _ _ _ _ h hP hS (lv_sub hl [1, 2, 0, 4, 5] rfl)
  have L24 : ∀ (mm : Nat) (f : gb_F) (w : Int64) (v2 : Int32) (v3 : Int32) (v4 : Int32) (v5 : Int32) (v6 : Int32) (H : Heap) (locs : List Loc) (ls : Array Slot), ms_worthOf_24 n mm f w v2 v3 v4 v5 v6 = some (fE, wE, rE) → va_P D vwCl (gb_wl b (gb_MW cT b f w)) H → va_S (gb_fr b 22) s.heap H locs → lv_has ls 7 [(0, .ref (b + 0)), (2, .int v2), (3, .int v3), (4, .int v4), (5, .int v5), (6, .int v6)] → W p l e (headSpec (.code yX12_worthOf cX12_worthOf 7 (some FieldType.int) :: gb_wA) ({ frames := 4, cells := 0, slots := 0, locals := 86 })).room s m ([.ref (b + 0), .int p1, .int p2]).toArray below meth c H locs 0 0 (MQ below (gb_Qi (fun r h => r = rE ∧ va_P D vwCl (gb_wl b (gb_MW cT b fE wE)) h) (gb_fr b 22)) ([.ref (b + 0), .int p1, .int p2]).toArray s 0 0 (gb_fr b 22)) (F0 m 24 ls []) := by
    clear h hP hS hl ls f w
    intro mm
    induction mm with
    | zero =>
      intro f w v2 v3 v4 v5 v6 H locs ls h
      cases h
    | succ mm ih =>
      intro f w v2 v3 v4 v5 v6 H locs ls h hP hS hl
      rw [ms_worthOf_24] at h
      refine lv_iload hx hb dX12_worthOf_24 (lv_at hl 5 rfl) ?_
      refine lv_aload_n hx hb dX12_worthOf_26 rfl (lv_at hl 0 rfl) ?_
      obtain ⟨f_16, wl_17, r_18, z_19, h⟩ := gb_bd_s h
      refine gb_calli (va_runV (C := RX12) (As := []) (rest := [.int v6]) ⟨hx, hb, hml, hown, hq⟩ (mc_paths l D cT tt b1 b hb1 n f w f_16 wl_17 r_18 z_19) (cwV 0 hq (gb_gV w_1384 w_1386 s_4_4 w_14 w_1387) rfl rfl rfl (by decide +kernel) ⟨Nat.le_of_ble_eq_true rfl, Nat.le_of_ble_eq_true rfl⟩) (gb_preV (r := (RX12, TX12, 44)) (ci := 10) (q0 := 0) hSt hP rfl (gb_at b rfl) hS (fun q h => Nat.le_trans hb1 h.1) hP) rfl rfl hl.1 rfl (lv_room (Nat.le_of_ble_eq_true rfl)) dX12_worthOf_27 ⟨Nat.le_of_ble_eq_true rfl, Nat.le_of_ble_eq_true rfl⟩) hS (fun _ h => h) (fun _ h => h) (fun q_20 H locs hY hk hS => ?_)
      obtain ⟨hq_20, hP⟩ := hY
      replace hq_20 := hq_20.symm
      subst hq_20
      refine lv_icmp_ge (tgt := 110) hx hb dX12_worthOf_30 (by decide) (fun c_21 => ?_) (fun c_21 => ?_)
      · rw [if_pos c_21] at h
        refine lv_iload_n hx hb dX12_worthOf_110 rfl (lv_at hl 1 rfl) ?_
        refine lv_if_eq (tgt := 119) hx hb dX12_worthOf_111 (by decide) (fun c_22 => ?_) (fun c_22 => ?_)
        · rw [if_pos c_22] at h
          refine lv_iload hx hb dX12_worthOf_119 (lv_at hl 3 rfl) ?_
          refine lv_iload_n hx hb dX12_worthOf_121 rfl (lv_at hl 2 rfl) ?_
          refine lv_isub hx hb dX12_worthOf_122 ?_
          obtain ⟨e1, e2, e3⟩ := gb_eq3 h
          exact W.iret (v := (v4 - v3)) hx hb hr (fun t ht hW => gb_ri ht ⟨e3, by rw [← e1, ← e2]; exact hP⟩ hS) hS.2.2 dX12_worthOf_123
        · rw [if_neg c_22] at h
          refine lv_iload hx hb dX12_worthOf_114 (lv_at hl 4 rfl) ?_
          refine lv_goto (tgt := 123) hx hb dX12_worthOf_116 (by decide) ?_
          obtain ⟨e1, e2, e3⟩ := gb_eq3 h
          exact W.iret (v := v5) hx hb hr (fun t ht hW => gb_ri ht ⟨e3, by rw [← e1, ← e2]; exact hP⟩ hS) hS.2.2 dX12_worthOf_123
      · rw [if_neg c_21] at h
        refine lv_aload_n hx hb dX12_worthOf_33 rfl (lv_at hl 0 rfl) ?_
        refine lv_iload hx hb dX12_worthOf_34 (lv_at hl 5 rfl) ?_
        obtain ⟨f_23, wl_24, r_25, z_26, h⟩ := gb_bd_s h
        refine gb_calli (va_runV (C := RX12) (As := [.int v6]) (rest := []) ⟨hx, hb, hml, hown, hq⟩ (mc_payOf l D cT tt b1 b hb1 n f_16 wl_17 v6 f_23 wl_24 r_25 z_26) (cwV 1 hq (gb_gV w_1548 w_1550 s_6_4 w_14 w_1551) rfl rfl rfl (by decide +kernel) ⟨Nat.le_of_ble_eq_true rfl, Nat.le_of_ble_eq_true rfl⟩) (gb_preV (r := (RX12, TX12, 44)) (ci := 10) (q0 := 0) hSt hP rfl (gb_at b rfl) hS (fun q h => Nat.le_trans hb1 h.1) hP) rfl rfl hl.1 rfl (lv_room (Nat.le_of_ble_eq_true rfl)) dX12_worthOf_36 ⟨Nat.le_of_ble_eq_true rfl, Nat.le_of_ble_eq_true rfl⟩) hS (fun _ h => h) (fun _ h => h) (fun q_27 H locs hY hk hS => ?_)
        obtain ⟨hq_27, hP⟩ := hY
        replace hq_27 := hq_27.symm
        subst hq_27
        refine lv_iload_n hx hb dX12_worthOf_39 rfl (lv_at hl 2 rfl) ?_
        refine lv_icmp_ge (tgt := 52) hx hb dX12_worthOf_40 (by decide) (fun c_28 => ?_) (fun c_28 => ?_)
        · rw [if_pos c_28] at h
          refine lv_iload_n hx hb dX12_worthOf_52 rfl (lv_at hl 2 rfl) ?_
          exact L53 _ ih _ _ _ _ _ _ _ _ _ _ h hP hS (lv_sub hl [0, 1, 3, 4, 5] rfl)
        · rw [if_neg c_28] at h
          refine lv_aload_n hx hb dX12_worthOf_43 rfl (lv_at hl 0 rfl) ?_
          refine lv_iload hx hb dX12_worthOf_44 (lv_at hl 5 rfl) ?_
          obtain ⟨f_56, wl_57, r_58, z_59, h⟩ := gb_bd_s h
          refine gb_calli (va_runV (C := RX12) (As := [.int v6]) (rest := []) ⟨hx, hb, hml, hown, hq⟩ (mc_payOf l D cT tt b1 b hb1 n f_23 wl_24 v6 f_56 wl_57 r_58 z_59) (cwV 1 hq (gb_gV w_1548 w_1550 s_6_4 w_14 w_1551) rfl rfl rfl (by decide +kernel) ⟨Nat.le_of_ble_eq_true rfl, Nat.le_of_ble_eq_true rfl⟩) (gb_preV (r := (RX12, TX12, 44)) (ci := 10) (q0 := 0) hSt hP rfl (gb_at b rfl) hS (fun q h => Nat.le_trans hb1 h.1) hP) rfl rfl hl.1 rfl (lv_room (Nat.le_of_ble_eq_true rfl)) dX12_worthOf_46 ⟨Nat.le_of_ble_eq_true rfl, Nat.le_of_ble_eq_true rfl⟩) hS (fun _ h => h) (fun _ h => h) (fun q_60 H locs hY hk hS => ?_)
          obtain ⟨hq_60, hP⟩ := hY
          replace hq_60 := hq_60.symm
          subst hq_60
          refine lv_goto (tgt := 53) hx hb dX12_worthOf_49 (by decide) ?_
          exact L53 _ ih _ _ _ _ _ _ _ _ _ _ h hP hS (lv_sub hl [0, 1, 3, 4, 5] rfl)
  unfold ms_worthOf at h
  refine lv_aload_n hx hb dX12_worthOf_0 rfl (lv_at hl 0 rfl) ?_
  refine lv_iload_n hx hb dX12_worthOf_1 rfl (lv_at hl 1 rfl) ?_
  obtain ⟨f_1, wl_2, r_3, z_4, h⟩ := gb_bd_s h
  refine gb_callv (va_runV (C := RX12) (As := [.int p1]) (rest := []) ⟨hx, hb, hml, hown, hq⟩ (mc_sums l D cT tt b1 b hb1 n f w p1 f_1 wl_2 r_3 z_4) (cwV 1 hq (gb_gV w_1544 w_1546 s_6_3 w_14 w_1547) rfl rfl rfl (by decide +kernel) ⟨Nat.le_of_ble_eq_true rfl, Nat.le_of_ble_eq_true rfl⟩) (gb_preV (r := (RX12, TX12, 44)) (ci := 10) (q0 := 0) hSt hP rfl (gb_at b rfl) hS (fun q h => Nat.le_trans hb1 h.1) hP) rfl rfl hl.1 rfl (lv_room (Nat.le_of_ble_eq_true rfl)) dX12_worthOf_2 ⟨Nat.le_of_ble_eq_true rfl, Nat.le_of_ble_eq_true rfl⟩) hS (fun _ h => h) (fun _ h => h) (fun H locs hY hk hS => ?_)
  have hP := hY
  refine lv_aload_n hx hb dX12_worthOf_5 rfl (lv_at hl 0 rfl) ?_
  refine lv_iconst (v := 0) hx hb dX12_worthOf_6 (by decide) ?_
  obtain ⟨f_6, wl_7, r_8, z_9, h⟩ := gb_bd_s h
  refine gb_calli (va_runV (C := RX12) (As := [.int 0]) (rest := []) ⟨hx, hb, hml, hown, hq⟩ (mc_payOf l D cT tt b1 b hb1 n f_1 wl_2 0 f_6 wl_7 r_8 z_9) (cwV 1 hq (gb_gV w_1548 w_1550 s_6_4 w_14 w_1551) rfl rfl rfl (by decide +kernel) ⟨Nat.le_of_ble_eq_true rfl, Nat.le_of_ble_eq_true rfl⟩) (gb_preV (r := (RX12, TX12, 44)) (ci := 10) (q0 := 0) hSt hP rfl (gb_at b rfl) hS (fun q h => Nat.le_trans hb1 h.1) hP) rfl rfl hl.1 rfl (lv_room (Nat.le_of_ble_eq_true rfl)) dX12_worthOf_7 ⟨Nat.le_of_ble_eq_true rfl, Nat.le_of_ble_eq_true rfl⟩) hS (fun _ h => h) (fun _ h => h) (fun q_10 H locs hY hk hS => ?_)
  obtain ⟨hq_10, hP⟩ := hY
  replace hq_10 := hq_10.symm
  subst hq_10
  refine lv_istore_n (lv' := [(3, .int r_8), (0, .ref (b + 0)), (1, .int p1), (2, .int p2)]) hx hb dX12_worthOf_10 rfl hl (by decide) rfl (fun ls hl => ?_)
  refine lv_aload_n hx hb dX12_worthOf_11 rfl (lv_at hl 1 rfl) ?_
  refine lv_iconst (v := 0) hx hb dX12_worthOf_12 (by decide) ?_
  obtain ⟨f_11, wl_12, r_13, z_14, h⟩ := gb_bd_s h
  refine gb_calli (va_runV (C := RX12) (As := [.int 0]) (rest := []) ⟨hx, hb, hml, hown, hq⟩ (mc_payOf l D cT tt b1 b hb1 n f_6 wl_7 0 f_11 wl_12 r_13 z_14) (cwV 1 hq (gb_gV w_1548 w_1550 s_6_4 w_14 w_1551) rfl rfl rfl (by decide +kernel) ⟨Nat.le_of_ble_eq_true rfl, Nat.le_of_ble_eq_true rfl⟩) (gb_preV (r := (RX12, TX12, 44)) (ci := 10) (q0 := 0) hSt hP rfl (gb_at b rfl) hS (fun q h => Nat.le_trans hb1 h.1) hP) rfl rfl hl.1 rfl (lv_room (Nat.le_of_ble_eq_true rfl)) dX12_worthOf_13 ⟨Nat.le_of_ble_eq_true rfl, Nat.le_of_ble_eq_true rfl⟩) hS (fun _ h => h) (fun _ h => h) (fun q_15 H locs hY hk hS => ?_)
  obtain ⟨hq_15, hP⟩ := hY
  replace hq_15 := hq_15.symm
  subst hq_15
  refine lv_istore (lv' := [(4, .int r_13), (3, .int r_8), (0, .ref (b + 0)), (1, .int p1), (2, .int p2)]) hx hb dX12_worthOf_16 hl (by decide) rfl (fun ls hl => ?_)
  refine lv_iconst (v := 0) hx hb dX12_worthOf_18 (by decide) ?_
  refine lv_istore (lv' := [(5, .int 0), (4, .int r_13), (3, .int r_8), (0, .ref (b + 0)), (1, .int p1), (2, .int p2)]) hx hb dX12_worthOf_19 hl (by decide) rfl (fun ls hl => ?_)
  refine lv_iconst (v := 0) hx hb dX12_worthOf_21 (by decide) ?_
  refine lv_istore (lv' := [(6, .int 0), (5, .int 0), (4, .int r_13), (3, .int r_8), (0, .ref (b + 0)), (1, .int p1), (2, .int p2)]) hx hb dX12_worthOf_22 hl (by decide) rfl (fun ls hl => ?_)
  exact L24 n _ _ _ _ _ _ _ _ _ _ h hP hS (lv_sub hl [4, 6, 3, 2, 1, 0] rfl)
theorem dX12_bestWorth_0 : decode cX12_bestWorth 0 = .ok (.aload_n 0, 1) := dc_42 (show ((cX12_bestWorth.data.toList.drop 0).take 1).map UInt8.toNat = [42] by decide +kernel)
theorem dX12_bestWorth_1 : decode cX12_bestWorth 1 = .ok (.invokevirtual 306, 3) := dc_182 (show ((cX12_bestWorth.data.toList.drop 1).take 3).map UInt8.toNat = [182, 1, 50] by decide +kernel) rfl
theorem w_1531 : (Cond.code ({ cls := "GooseBorderModel", name := "measures", desc := "()V" } : MethodName) prog_14_method_69_code (3 : Nat) (Option.none : Option FieldType)) ∈ gb_wA := gb_t7 91 rfl rfl
theorem w_1528 : (Cond.methodLink "GooseBorderModel" (306 : Nat) ({ cls := "GooseBorderModel", name := "measures", desc := "()V" } : MethodName)) ∈ gb_wA := gb_t7 88 rfl rfl
theorem w_1530 : (Cond.instanceMethod ({ cls := "GooseBorderModel", name := "measures", desc := "()V" } : MethodName)) ∈ gb_wA := gb_t7 90 rfl rfl
theorem s_5_15 : Cond.selects "GooseBorderModel" (⟨"GooseBorderModel", "measures", "()V"⟩ : MethodName) (⟨"GooseBorderModel", "measures", "()V"⟩ : MethodName) ∈ gb_wA := gb_s5 15 rfl rfl
theorem dX12_bestWorth_4 : decode cX12_bestWorth 4 = .ok (.iconst 0, 1) := dc_3 (show ((cX12_bestWorth.data.toList.drop 4).take 1).map UInt8.toNat = [3] by decide +kernel)
theorem dX12_bestWorth_5 : decode cX12_bestWorth 5 = .ok (.istore_n 2, 1) := dc_61 (show ((cX12_bestWorth.data.toList.drop 5).take 1).map UInt8.toNat = [61] by decide +kernel)
theorem dX12_bestWorth_6 : decode cX12_bestWorth 6 = .ok (.aload_n 0, 1) := dc_42 (show ((cX12_bestWorth.data.toList.drop 6).take 1).map UInt8.toNat = [42] by decide +kernel)
theorem dX12_bestWorth_7 : decode cX12_bestWorth 7 = .ok (.iconst (-1), 1) := dc_2 (show ((cX12_bestWorth.data.toList.drop 7).take 1).map UInt8.toNat = [2] by decide +kernel)
theorem dX12_bestWorth_8 : decode cX12_bestWorth 8 = .ok (.putfield 309, 3) := dc_181 (show ((cX12_bestWorth.data.toList.drop 8).take 3).map UInt8.toNat = [181, 1, 53] by decide +kernel) rfl
theorem w_1152 : (Cond.fieldLink "GooseBorderModel" (309 : Nat) "GooseBorderModel" "bestCode" "I") ∈ gb_wA := gb_t5 192 rfl rfl
theorem dX12_bestWorth_11 : decode cX12_bestWorth 11 = .ok (.iconst 0, 1) := dc_3 (show ((cX12_bestWorth.data.toList.drop 11).take 1).map UInt8.toNat = [3] by decide +kernel)
theorem dX12_bestWorth_12 : decode cX12_bestWorth 12 = .ok (.istore_n 3, 1) := dc_62 (show ((cX12_bestWorth.data.toList.drop 12).take 1).map UInt8.toNat = [62] by decide +kernel)
theorem dX12_bestWorth_13 : decode cX12_bestWorth 13 = .ok (.iload_n 3, 1) := dc_29 (show ((cX12_bestWorth.data.toList.drop 13).take 1).map UInt8.toNat = [29] by decide +kernel)
theorem dX12_bestWorth_14 : decode cX12_bestWorth 14 = .ok (.aload_n 0, 1) := dc_42 (show ((cX12_bestWorth.data.toList.drop 14).take 1).map UInt8.toNat = [42] by decide +kernel)
theorem dX12_bestWorth_15 : decode cX12_bestWorth 15 = .ok (.invokevirtual 312, 3) := dc_182 (show ((cX12_bestWorth.data.toList.drop 15).take 3).map UInt8.toNat = [182, 1, 56] by decide +kernel) rfl
theorem w_1539 : (Cond.code ({ cls := "GooseBorderModel", name := "codes", desc := "()I" } : MethodName) prog_14_method_70_code (3 : Nat) (Option.some FieldType.int)) ∈ gb_wA := gb_t7 99 rfl rfl
theorem w_1536 : (Cond.methodLink "GooseBorderModel" (312 : Nat) ({ cls := "GooseBorderModel", name := "codes", desc := "()I" } : MethodName)) ∈ gb_wA := gb_t7 96 rfl rfl
theorem w_1538 : (Cond.instanceMethod ({ cls := "GooseBorderModel", name := "codes", desc := "()I" } : MethodName)) ∈ gb_wA := gb_t7 98 rfl rfl
theorem s_6_1 : Cond.selects "GooseBorderModel" (⟨"GooseBorderModel", "codes", "()I"⟩ : MethodName) (⟨"GooseBorderModel", "codes", "()I"⟩ : MethodName) ∈ gb_wA := gb_s6 1 rfl rfl
theorem dX12_bestWorth_18 : decode cX12_bestWorth 18 = .ok (.if_icmp .ge 54, 3) := dc_162 (show ((cX12_bestWorth.data.toList.drop 18).take 3).map UInt8.toNat = [162, 0, 54] by decide +kernel) rfl
theorem dX12_bestWorth_72 : decode cX12_bestWorth 72 = .ok (.iload_n 2, 1) := dc_28 (show ((cX12_bestWorth.data.toList.drop 72).take 1).map UInt8.toNat = [28] by decide +kernel)
theorem dX12_bestWorth_73 : decode cX12_bestWorth 73 = .ok (.ireturn, 1) := dc_172 (show ((cX12_bestWorth.data.toList.drop 73).take 1).map UInt8.toNat = [172] by decide +kernel)
theorem dX12_bestWorth_21 : decode cX12_bestWorth 21 = .ok (.aload_n 0, 1) := dc_42 (show ((cX12_bestWorth.data.toList.drop 21).take 1).map UInt8.toNat = [42] by decide +kernel)
theorem dX12_bestWorth_22 : decode cX12_bestWorth 22 = .ok (.iload_n 3, 1) := dc_29 (show ((cX12_bestWorth.data.toList.drop 22).take 1).map UInt8.toNat = [29] by decide +kernel)
theorem dX12_bestWorth_23 : decode cX12_bestWorth 23 = .ok (.iload_n 1, 1) := dc_27 (show ((cX12_bestWorth.data.toList.drop 23).take 1).map UInt8.toNat = [27] by decide +kernel)
theorem dX12_bestWorth_24 : decode cX12_bestWorth 24 = .ok (.invokevirtual 315, 3) := dc_182 (show ((cX12_bestWorth.data.toList.drop 24).take 3).map UInt8.toNat = [182, 1, 59] by decide +kernel) rfl
theorem w_1543 : (Cond.code ({ cls := "GooseBorderModel", name := "worthOf", desc := "(IZ)I" } : MethodName) prog_14_method_73_code (7 : Nat) (Option.some FieldType.int)) ∈ gb_wA := gb_t7 103 rfl rfl
theorem w_1540 : (Cond.methodLink "GooseBorderModel" (315 : Nat) ({ cls := "GooseBorderModel", name := "worthOf", desc := "(IZ)I" } : MethodName)) ∈ gb_wA := gb_t7 100 rfl rfl
theorem w_1542 : (Cond.instanceMethod ({ cls := "GooseBorderModel", name := "worthOf", desc := "(IZ)I" } : MethodName)) ∈ gb_wA := gb_t7 102 rfl rfl
theorem s_6_2 : Cond.selects "GooseBorderModel" (⟨"GooseBorderModel", "worthOf", "(IZ)I"⟩ : MethodName) (⟨"GooseBorderModel", "worthOf", "(IZ)I"⟩ : MethodName) ∈ gb_wA := gb_s6 2 rfl rfl
theorem dX12_bestWorth_27 : decode cX12_bestWorth 27 = .ok (.istore 4, 2) := dc_54 (show ((cX12_bestWorth.data.toList.drop 27).take 2).map UInt8.toNat = [54, 4] by decide +kernel) rfl
theorem dX12_bestWorth_29 : decode cX12_bestWorth 29 = .ok (.aload_n 0, 1) := dc_42 (show ((cX12_bestWorth.data.toList.drop 29).take 1).map UInt8.toNat = [42] by decide +kernel)
theorem dX12_bestWorth_30 : decode cX12_bestWorth 30 = .ok (.getfield 309, 3) := dc_180 (show ((cX12_bestWorth.data.toList.drop 30).take 3).map UInt8.toNat = [180, 1, 53] by decide +kernel) rfl
theorem dX12_bestWorth_33 : decode cX12_bestWorth 33 = .ok (.ifCond .lt 25, 3) := dc_155 (show ((cX12_bestWorth.data.toList.drop 33).take 3).map UInt8.toNat = [155, 0, 25] by decide +kernel) rfl
theorem dX12_bestWorth_58 : decode cX12_bestWorth 58 = .ok (.aload_n 0, 1) := dc_42 (show ((cX12_bestWorth.data.toList.drop 58).take 1).map UInt8.toNat = [42] by decide +kernel)
theorem dX12_bestWorth_59 : decode cX12_bestWorth 59 = .ok (.iload_n 3, 1) := dc_29 (show ((cX12_bestWorth.data.toList.drop 59).take 1).map UInt8.toNat = [29] by decide +kernel)
theorem dX12_bestWorth_60 : decode cX12_bestWorth 60 = .ok (.putfield 309, 3) := dc_181 (show ((cX12_bestWorth.data.toList.drop 60).take 3).map UInt8.toNat = [181, 1, 53] by decide +kernel) rfl
theorem dX12_bestWorth_63 : decode cX12_bestWorth 63 = .ok (.iload 4, 2) := dc_21 (show ((cX12_bestWorth.data.toList.drop 63).take 2).map UInt8.toNat = [21, 4] by decide +kernel) rfl
theorem dX12_bestWorth_65 : decode cX12_bestWorth 65 = .ok (.istore_n 2, 1) := dc_61 (show ((cX12_bestWorth.data.toList.drop 65).take 1).map UInt8.toNat = [61] by decide +kernel)
theorem dX12_bestWorth_66 : decode cX12_bestWorth 66 = .ok (.iinc 3 1, 3) := dc_132 (show ((cX12_bestWorth.data.toList.drop 66).take 3).map UInt8.toNat = [132, 3, 1] by decide +kernel) rfl
theorem dX12_bestWorth_69 : decode cX12_bestWorth 69 = .ok (.goto (-56), 3) := dc_167 (show ((cX12_bestWorth.data.toList.drop 69).take 3).map UInt8.toNat = [167, 255, 200] by decide +kernel) rfl
theorem dX12_bestWorth_36 : decode cX12_bestWorth 36 = .ok (.iload_n 1, 1) := dc_27 (show ((cX12_bestWorth.data.toList.drop 36).take 1).map UInt8.toNat = [27] by decide +kernel)
theorem dX12_bestWorth_37 : decode cX12_bestWorth 37 = .ok (.ifCond .eq 12, 3) := dc_153 (show ((cX12_bestWorth.data.toList.drop 37).take 3).map UInt8.toNat = [153, 0, 12] by decide +kernel) rfl
theorem dX12_bestWorth_49 : decode cX12_bestWorth 49 = .ok (.iload 4, 2) := dc_21 (show ((cX12_bestWorth.data.toList.drop 49).take 2).map UInt8.toNat = [21, 4] by decide +kernel) rfl
theorem dX12_bestWorth_51 : decode cX12_bestWorth 51 = .ok (.iload_n 2, 1) := dc_28 (show ((cX12_bestWorth.data.toList.drop 51).take 1).map UInt8.toNat = [28] by decide +kernel)
theorem dX12_bestWorth_52 : decode cX12_bestWorth 52 = .ok (.if_icmp .lt 6, 3) := dc_161 (show ((cX12_bestWorth.data.toList.drop 52).take 3).map UInt8.toNat = [161, 0, 6] by decide +kernel) rfl
theorem dX12_bestWorth_55 : decode cX12_bestWorth 55 = .ok (.goto 11, 3) := dc_167 (show ((cX12_bestWorth.data.toList.drop 55).take 3).map UInt8.toNat = [167, 0, 11] by decide +kernel) rfl
theorem dX12_bestWorth_40 : decode cX12_bestWorth 40 = .ok (.iload 4, 2) := dc_21 (show ((cX12_bestWorth.data.toList.drop 40).take 2).map UInt8.toNat = [21, 4] by decide +kernel) rfl
theorem dX12_bestWorth_42 : decode cX12_bestWorth 42 = .ok (.iload_n 2, 1) := dc_28 (show ((cX12_bestWorth.data.toList.drop 42).take 1).map UInt8.toNat = [28] by decide +kernel)
theorem dX12_bestWorth_43 : decode cX12_bestWorth 43 = .ok (.if_icmp .gt 15, 3) := dc_163 (show ((cX12_bestWorth.data.toList.drop 43).take 3).map UInt8.toNat = [163, 0, 15] by decide +kernel) rfl
theorem dX12_bestWorth_46 : decode cX12_bestWorth 46 = .ok (.goto 20, 3) := dc_167 (show ((cX12_bestWorth.data.toList.drop 46).take 3).map UInt8.toNat = [167, 0, 20] by decide +kernel) rfl
def ms_bestWorth_13 (n : Nat) : Nat → gb_F → Int64 → Int32 → Int32 → Int32 → gb_MR Int32
  | 0, _, _, _, _, _ => none
  | mm + 1, f, w, v1, v2, v3 => gb_bd (ms_codes n f w) (fun f_7 wl_8 r_9 => (if r_9 ≤ v3 then some (f_7, wl_8, v2) else gb_bd (ms_worthOf n f_7 wl_8 v3 v1) (fun f_13 wl_14 r_15 => (if (f_13 0 28) < 0 then gb_lt (gb_u f_13 0 (upd (f_13 0) 28 v3)) (fun f_19 => gb_lt (v3 + 1) (fun x_20 => ms_bestWorth_13 n mm f_19 wl_14 v1 r_15 x_20)) else (if v1 = 0 then (if r_15 < v2 then gb_lt (gb_u f_13 0 (upd (f_13 0) 28 v3)) (fun f_23 => gb_lt (v3 + 1) (fun x_24 => ms_bestWorth_13 n mm f_23 wl_14 v1 r_15 x_24)) else gb_lt (v3 + 1) (fun x_25 => ms_bestWorth_13 n mm f_13 wl_14 v1 v2 x_25)) else (if v2 < r_15 then gb_lt (gb_u f_13 0 (upd (f_13 0) 28 v3)) (fun f_27 => gb_lt (v3 + 1) (fun x_28 => ms_bestWorth_13 n mm f_27 wl_14 v1 r_15 x_28)) else gb_lt (v3 + 1) (fun x_29 => ms_bestWorth_13 n mm f_13 wl_14 v1 v2 x_29)))))))
def ms_bestWorth (n : Nat) (f : gb_F) (w : Int64) (p1 : Int32) : gb_MR Int32 := gb_bd (ms_measures n f w) (fun f_1 wl_2 _ => gb_lt (gb_u f_1 0 (upd (f_1 0) 28 (-1))) (fun f_6 => ms_bestWorth_13 n n f_6 wl_2 p1 0 0))
set_option maxHeartbeats 8000000 in
set_option maxRecDepth 100000 in
theorem mc_bestWorth (l : Launch) (D : va_G) (cT : Nat → ClassId) (tt : Nat → Nat) (b1 b : Nat) (hb1 : b1 ≤ b) (n : Nat) (f : gb_F) (w : Int64) (p1 : Int32) (fE : gb_F) (wE : Int64) (rE : Int32) (h : ms_bestWorth n f w p1 = some (fE, wE, rE)) : Met l yX12_bestWorth (.code yX12_bestWorth cX12_bestWorth 5 (some FieldType.int) :: gb_wA) ({ frames := 5, cells := 0, slots := 0, locals := 114 }) (gb_Pc D cT tt b1 [.ref (b + 0), .int p1] (fun h => va_P D vwCl (gb_wl b (gb_MW cT b f w)) h)) (gb_Qi (fun r h => r = rE ∧ va_P D vwCl (gb_wl b (gb_MW cT b fE wE)) h) (gb_fr b 22)) 0 0 (gb_fr b 22) := by
  refine Met.ofW (cc := cX12_bestWorth) (maxL := 5) (ret := (some FieldType.int)) (by decide) rfl ?_
  intro p e s m args below meth c s₁ B hml hv
  obtain ⟨rfl, hSt, hP⟩ := hv
  have hx := B.exec
  have hb := B.bytes
  have hr := B.returns
  have hts := atoms_spec (ws := .code yX12_bestWorth cX12_bestWorth 5 (some FieldType.int) :: gb_wA) B.pre
  have hq : ∀ w ∈ gb_wA, w.before _ s = true := fun w h => hts w (List.mem_cons_of_mem _ h)
  have hown : s.vm.findClass RX12 = some m.cls := findClass_of_methodNamed B.named
  have hlocks := B.notSynchronized
  clear B hts
  have hK := hSt.1
  have hS : va_S (gb_fr b 22) s.heap s.heap [] := va_S.rf
  have hl := lv_entry ([.ref (b + 0), .int p1]) (n := 5) (Nat.le_of_ble_eq_true rfl)
  rw [lg_entry_eq]
  generalize (lg_sl ([.ref (b + 0), .int p1]) ++ List.replicate (5 - (lg_sl ([.ref (b + 0), .int p1])).length) Slot.unset).toArray = ls at hl ⊢
  replace hl : lv_has ls 5 [(0, .ref (b + 0)), (1, .int p1)] := hl
  have L13 : ∀ (mm : Nat) (f : gb_F) (w : Int64) (v1 : Int32) (v2 : Int32) (v3 : Int32) (H : Heap) (locs : List Loc) (ls : Array Slot), ms_bestWorth_13 n mm f w v1 v2 v3 = some (fE, wE, rE) → va_P D vwCl (gb_wl b (gb_MW cT b f w)) H → va_S (gb_fr b 22) s.heap H locs → lv_has ls 5 [(0, .ref (b + 0)), (1, .int v1), (2, .int v2), (3, .int v3)] → W p l e (headSpec (.code yX12_bestWorth cX12_bestWorth 5 (some FieldType.int) :: gb_wA) ({ frames := 5, cells := 0, slots := 0, locals := 114 })).room s m ([.ref (b + 0), .int p1]).toArray below meth c H locs 0 0 (MQ below (gb_Qi (fun r h => r = rE ∧ va_P D vwCl (gb_wl b (gb_MW cT b fE wE)) h) (gb_fr b 22)) ([.ref (b + 0), .int p1]).toArray s 0 0 (gb_fr b 22)) (F0 m 13 ls []) := by
    clear h hP hS hl ls f w
    intro mm
    induction mm with
    | zero =>
      intro f w v1 v2 v3 H locs ls h
      cases h
    | succ mm ih =>
      intro f w v1 v2 v3 H locs ls h hP hS hl
      rw [ms_bestWorth_13] at h
      refine lv_iload_n hx hb dX12_bestWorth_13 rfl (lv_at hl 3 rfl) ?_
      refine lv_aload_n hx hb dX12_bestWorth_14 rfl (lv_at hl 0 rfl) ?_
      obtain ⟨f_7, wl_8, r_9, z_10, h⟩ := gb_bd_s h
      refine gb_calli (va_runV (C := RX12) (As := []) (rest := [.int v3]) ⟨hx, hb, hml, hown, hq⟩ (mc_codes l D cT tt b1 b hb1 n f w f_7 wl_8 r_9 z_10) (cwV 0 hq (gb_gV w_1536 w_1538 s_6_1 w_14 w_1539) rfl rfl rfl (by decide +kernel) ⟨Nat.le_of_ble_eq_true rfl, Nat.le_of_ble_eq_true rfl⟩) (gb_preV (r := (RX12, TX12, 44)) (ci := 10) (q0 := 0) hSt hP rfl (gb_at b rfl) hS (fun q h => Nat.le_trans hb1 h.1) hP) rfl rfl hl.1 rfl (lv_room (Nat.le_of_ble_eq_true rfl)) dX12_bestWorth_15 ⟨Nat.le_of_ble_eq_true rfl, Nat.le_of_ble_eq_true rfl⟩) hS (fun _ h => h) (fun _ h => h) (fun q_11 H locs hY hk hS => ?_)
      obtain ⟨hq_11, hP⟩ := hY
      replace hq_11 := hq_11.symm
      subst hq_11
      refine lv_icmp_ge (tgt := 72) hx hb dX12_bestWorth_18 (by decide) (fun c_12 => ?_) (fun c_12 => ?_)
      · rw [if_pos c_12] at h
        refine lv_iload_n hx hb dX12_bestWorth_72 rfl (lv_at hl 2 rfl) ?_
        obtain ⟨e1, e2, e3⟩ := gb_eq3 h
        exact W.iret (v := v2) hx hb hr (fun t ht hW => gb_ri ht ⟨e3, by rw [← e1, ← e2]; exact hP⟩ hS) hS.2.2 dX12_bestWorth_73
      · rw [if_neg c_12] at h
        refine lv_aload_n hx hb dX12_bestWorth_21 rfl (lv_at hl 0 rfl) ?_
        refine lv_iload_n hx hb dX12_bestWorth_22 rfl (lv_at hl 3 rfl) ?_
        refine lv_iload_n hx hb dX12_bestWorth_23 rfl (lv_at hl 1 rfl) ?_
        obtain ⟨f_13, wl_14, r_15, z_16, h⟩ := gb_bd_s h
        refine gb_calli (va_runV (C := RX12) (As := [.int v3, .int v1]) (rest := []) ⟨hx, hb, hml, hown, hq⟩ (mc_worthOf l D cT tt b1 b hb1 n f_7 wl_8 v3 v1 f_13 wl_14 r_15 z_16) (cwV 2 hq (gb_gV w_1540 w_1542 s_6_2 w_14 w_1543) rfl rfl rfl (by decide +kernel) ⟨Nat.le_of_ble_eq_true rfl, Nat.le_of_ble_eq_true rfl⟩) (gb_preV (r := (RX12, TX12, 44)) (ci := 10) (q0 := 0) hSt hP rfl (gb_at b rfl) hS (fun q h => Nat.le_trans hb1 h.1) hP) rfl rfl hl.1 rfl (lv_room (Nat.le_of_ble_eq_true rfl)) dX12_bestWorth_24 ⟨Nat.le_of_ble_eq_true rfl, Nat.le_of_ble_eq_true rfl⟩) hS (fun _ h => h) (fun _ h => h) (fun q_17 H locs hY hk hS => ?_)
        obtain ⟨hq_17, hP⟩ := hY
        replace hq_17 := hq_17.symm
        subst hq_17
        refine lv_istore (lv' := [(4, .int r_15), (0, .ref (b + 0)), (1, .int v1), (2, .int v2), (3, .int v3)]) hx hb dX12_bestWorth_27 hl (by decide) rfl (fun ls hl => ?_)
        refine lv_aload_n hx hb dX12_bestWorth_29 rfl (lv_at hl 1 rfl) ?_
        refine va_get (ci := 10) (v := (.int (f_13 0 28))) (C := RX12) (T := TX12) (N := 44) hx hb hq i_X12 hown hK hP 0 (gb_at b rfl) rfl 28 (by decide) (hq _ w_1152) (fun _ h9 => h9) rfl dX12_bestWorth_30 ?_
        refine lv_if_lt (tgt := 58) hx hb dX12_bestWorth_33 (by decide) (fun c_18 => ?_) (fun c_18 => ?_)
        · rw [if_pos c_18] at h
          refine lv_aload_n hx hb dX12_bestWorth_58 rfl (lv_at hl 1 rfl) ?_
          refine lv_iload_n hx hb dX12_bestWorth_59 rfl (lv_at hl 4 rfl) ?_
          refine gb_put (ci := 10) (v := (.int v3)) (ty := .int) (C := RX12) (T := TX12) (N := 44) hx hb hq i_X12 tyX12 tyX12_ok nmX12 hown hK hP (fun k h => ⟨Nat.le_add_right b k, Nat.add_lt_add_left h b⟩) hS rfl 0 rfl rfl 28 (by decide) (hq _ w_1152) (fun _ h9 => h9) rfl (by decide +kernel) rfl rfl (Nat.le_of_ble_eq_true rfl) dX12_bestWorth_60 (fun H locs hP hz_ hS => ?_)
          obtain ⟨f_19, ef_19⟩ : ∃ q, q = (gb_u f_13 0 (upd (f_13 0) 28 v3)) := ⟨_, rfl⟩
          replace hP : va_P D vwCl (gb_wl b (gb_MW cT b f_19 wl_14)) H := by rw [ef_19]; exact hP
          replace h := gb_lt_s ef_19 h
          refine lv_iload hx hb dX12_bestWorth_63 (lv_at hl 0 rfl) ?_
          refine lv_istore_n (lv' := [(2, .int r_15), (4, .int r_15), (0, .ref (b + 0)), (1, .int v1), (3, .int v3)]) hx hb dX12_bestWorth_65 rfl hl (by decide) rfl (fun ls hl => ?_)
          obtain ⟨x_20, ex_20⟩ : ∃ q, q = (v3 + 1) := ⟨_, rfl⟩
          replace h := gb_lt_s ex_20 h
          refine lv_iinc (v := x_20) (lv' := [(3, .int x_20), (2, .int r_15), (4, .int r_15), (0, .ref (b + 0)), (1, .int v1)]) hx hb dX12_bestWorth_66 hl (k := 4) rfl (by rw [ex_20]; rfl) (by decide) rfl (fun ls hl => ?_)
          refine lv_goto (tgt := 13) hx hb dX12_bestWorth_69 (by decide) ?_
          exact ih _ _ _ _ _ _ _ _ h hP hS (lv_sub hl [3, 4, 1, 0] rfl)
        · rw [if_neg c_18] at h
          refine lv_iload_n hx hb dX12_bestWorth_36 rfl (lv_at hl 2 rfl) ?_
          refine lv_if_eq (tgt := 49) hx hb dX12_bestWorth_37 (by decide) (fun c_21 => ?_) (fun c_21 => ?_)
          · rw [if_pos c_21] at h
            refine lv_iload hx hb dX12_bestWorth_49 (lv_at hl 0 rfl) ?_
            refine lv_iload_n hx hb dX12_bestWorth_51 rfl (lv_at hl 3 rfl) ?_
            refine lv_icmp_lt (tgt := 58) hx hb dX12_bestWorth_52 (by decide) (fun c_22 => ?_) (fun c_22 => ?_)
            · rw [if_pos c_22] at h
              refine lv_aload_n hx hb dX12_bestWorth_58 rfl (lv_at hl 1 rfl) ?_
              refine lv_iload_n hx hb dX12_bestWorth_59 rfl (lv_at hl 4 rfl) ?_
              refine gb_put (ci := 10) (v := (.int v3)) (ty := .int) (C := RX12) (T := TX12) (N := 44) hx hb hq i_X12 tyX12 tyX12_ok nmX12 hown hK hP (fun k h => ⟨Nat.le_add_right b k, Nat.add_lt_add_left h b⟩) hS rfl 0 rfl rfl 28 (by decide) (hq _ w_1152) (fun _ h9 => h9) rfl (by decide +kernel) rfl rfl (Nat.le_of_ble_eq_true rfl) dX12_bestWorth_60 (fun H locs hP hz_ hS => ?_)
              obtain ⟨f_23, ef_23⟩ : ∃ q, q = (gb_u f_13 0 (upd (f_13 0) 28 v3)) := ⟨_, rfl⟩
              replace hP : va_P D vwCl (gb_wl b (gb_MW cT b f_23 wl_14)) H := by rw [ef_23]; exact hP
              replace h := gb_lt_s ef_23 h
              refine lv_iload hx hb dX12_bestWorth_63 (lv_at hl 0 rfl) ?_
              refine lv_istore_n (lv' := [(2, .int r_15), (4, .int r_15), (0, .ref (b + 0)), (1, .int v1), (3, .int v3)]) hx hb dX12_bestWorth_65 rfl hl (by decide) rfl (fun ls hl => ?_)
              obtain ⟨x_24, ex_24⟩ : ∃ q, q = (v3 + 1) := ⟨_, rfl⟩
              replace h := gb_lt_s ex_24 h
              refine lv_iinc (v := x_24) (lv' := [(3, .int x_24), (2, .int r_15), (4, .int r_15), (0, .ref (b + 0)), (1, .int v1)]) hx hb dX12_bestWorth_66 hl (k := 4) rfl (by rw [ex_24]; rfl) (by decide) rfl (fun ls hl => ?_)
              refine lv_goto (tgt := 13) hx hb dX12_bestWorth_69 (by decide) ?_
              exact ih _ _ _ _ _ _ _ _ h hP hS (lv_sub hl [3, 4, 1, 0] rfl)
            · rw [if_neg c_22] at h
              refine lv_goto (tgt := 66) hx hb dX12_bestWorth_55 (by decide) ?_
              obtain ⟨x_25, ex_25⟩ : ∃ q, q = (v3 + 1) := ⟨_, rfl⟩
              replace h := gb_lt_s ex_25 h
              refine lv_iinc (v := x_25) (lv' := [(3, .int x_25), (4, .int r_15), (0, .ref (b + 0)), (1, .int v1), (2, .int v2)]) hx hb dX12_bestWorth_66 hl (k := 4) rfl (by rw [ex_25]; rfl) (by decide) rfl (fun ls hl => ?_)
              refine lv_goto (tgt := 13) hx hb dX12_bestWorth_69 (by decide) ?_
              exact ih _ _ _ _ _ _ _ _ h hP hS (lv_sub hl [2, 3, 4, 0] rfl)
          · rw [if_neg c_21] at h
            refine lv_iload hx hb dX12_bestWorth_40 (lv_at hl 0 rfl) ?_
            refine lv_iload_n hx hb dX12_bestWorth_42 rfl (lv_at hl 3 rfl) ?_
            refine lv_icmp_gt (tgt := 58) hx hb dX12_bestWorth_43 (by decide) (fun c_26 => ?_) (fun c_26 => ?_)
            · rw [if_pos c_26] at h
              refine lv_aload_n hx hb dX12_bestWorth_58 rfl (lv_at hl 1 rfl) ?_
              refine lv_iload_n hx hb dX12_bestWorth_59 rfl (lv_at hl 4 rfl) ?_
              refine gb_put (ci := 10) (v := (.int v3)) (ty := .int) (C := RX12) (T := TX12) (N := 44) hx hb hq i_X12 tyX12 tyX12_ok nmX12 hown hK hP (fun k h => ⟨Nat.le_add_right b k, Nat.add_lt_add_left h b⟩) hS rfl 0 rfl rfl 28 (by decide) (hq _ w_1152) (fun _ h9 => h9) rfl (by decide +kernel) rfl rfl (Nat.le_of_ble_eq_true rfl) dX12_bestWorth_60 (fun H locs hP hz_ hS => ?_)
              obtain ⟨f_27, ef_27⟩ : ∃ q, q = (gb_u f_13 0 (upd (f_13 0) 28 v3)) := ⟨_, rfl⟩
              replace hP : va_P D vwCl (gb_wl b (gb_MW cT b f_27 wl_14)) H := by rw [ef_27]; exact hP
              replace h := gb_lt_s ef_27 h
              refine lv_iload hx hb dX12_bestWorth_63 (lv_at hl 0 rfl) ?_
              refine lv_istore_n (lv' := [(2, .int r_15), (4, .int r_15), (0, .ref (b + 0)), (1, .int v1), (3, .int v3)]) hx hb dX12_bestWorth_65 rfl hl (by decide) rfl (fun ls hl => ?_)
              obtain ⟨x_28, ex_28⟩ : ∃ q, q = (v3 + 1) := ⟨_, rfl⟩
              replace h := gb_lt_s ex_28 h
              refine lv_iinc (v := x_28) (lv' := [(3, .int x_28), (2, .int r_15), (4, .int r_15), (0, .ref (b + 0)), (1, .int v1)]) hx hb dX12_bestWorth_66 hl (k := 4) rfl (by rw [ex_28]; rfl) (by decide) rfl (fun ls hl => ?_)
              refine lv_goto (tgt := 13) hx hb dX12_bestWorth_69 (by decide) ?_
              exact ih _ _ _ _ _ _ _ _ h hP hS (lv_sub hl [3, 4, 1, 0] rfl)
            · rw [if_neg c_26] at h
              refine lv_goto (tgt := 66) hx hb dX12_bestWorth_46 (by decide) ?_
              obtain ⟨x_29, ex_29⟩ : ∃ q, q = (v3 + 1) := ⟨_, rfl⟩
              replace h := gb_lt_s ex_29 h
              refine lv_iinc (v := x_29) (lv' := [(3, .int x_29), (4, .int r_15), (0, .ref (b + 0)), (1, .int v1), (2, .int v2)]) hx hb dX12_bestWorth_66 hl (k := 4) rfl (by rw [ex_29]; rfl) (by decide) rfl (fun ls hl => ?_)
              refine lv_goto (tgt := 13) hx hb dX12_bestWorth_69 (by decide) ?_
              exact ih _ _ _ _ _ _ _ _ h hP hS (lv_sub hl [2, 3, 4, 0] rfl)
  unfold ms_bestWorth at h
  refine lv_aload_n hx hb dX12_bestWorth_0 rfl (lv_at hl 0 rfl) ?_
  obtain ⟨f_1, wl_2, r_3, z_4, h⟩ := gb_bd_s h
  refine gb_callv (va_runV (C := RX12) (As := []) (rest := []) ⟨hx, hb, hml, hown, hq⟩ (mc_measures l D cT tt b1 b hb1 n f w f_1 wl_2 r_3 z_4) (cwV 0 hq (gb_gV w_1528 w_1530 s_5_15 w_14 w_1531) rfl rfl rfl (by decide +kernel) ⟨Nat.le_of_ble_eq_true rfl, Nat.le_of_ble_eq_true rfl⟩) (gb_preV (r := (RX12, TX12, 44)) (ci := 10) (q0 := 0) hSt hP rfl (gb_at b rfl) hS (fun q h => Nat.le_trans hb1 h.1) hP) rfl rfl hl.1 rfl (lv_room (Nat.le_of_ble_eq_true rfl)) dX12_bestWorth_1 ⟨Nat.le_of_ble_eq_true rfl, Nat.le_of_ble_eq_true rfl⟩) hS (fun _ h => h) (fun _ h => h) (fun H locs hY hk hS => ?_)
  have hP := hY
  refine lv_iconst (v := 0) hx hb dX12_bestWorth_4 (by decide) ?_
  refine lv_istore_n (lv' := [(2, .int 0), (0, .ref (b + 0)), (1, .int p1)]) hx hb dX12_bestWorth_5 rfl hl (by decide) rfl (fun ls hl => ?_)
  refine lv_aload_n hx hb dX12_bestWorth_6 rfl (lv_at hl 1 rfl) ?_
  refine lv_iconst (v := (-1)) hx hb dX12_bestWorth_7 (by decide) ?_
  refine gb_put (ci := 10) (v := (.int (-1))) (ty := .int) (C := RX12) (T := TX12) (N := 44) hx hb hq i_X12 tyX12 tyX12_ok nmX12 hown hK hP (fun k h => ⟨Nat.le_add_right b k, Nat.add_lt_add_left h b⟩) hS rfl 0 rfl rfl 28 (by decide) (hq _ w_1152) (fun _ h9 => h9) rfl (by decide +kernel) rfl rfl (Nat.le_of_ble_eq_true rfl) dX12_bestWorth_8 (fun H locs hP hz_ hS => ?_)
  obtain ⟨f_6, ef_6⟩ : ∃ q, q = (gb_u f_1 0 (upd (f_1 0) 28 (-1))) := ⟨_, rfl⟩
  replace hP : va_P D vwCl (gb_wl b (gb_MW cT b f_6 wl_2)) H := by rw [ef_6]; exact hP
  replace h := gb_lt_s ef_6 h
  refine lv_iconst (v := 0) hx hb dX12_bestWorth_11 (by decide) ?_
  refine lv_istore_n (lv' := [(3, .int 0), (2, .int 0), (0, .ref (b + 0)), (1, .int p1)]) hx hb dX12_bestWorth_12 rfl hl (by decide) rfl (fun ls hl => ?_)
  exact L13 n _ _ _ _ _ _ _ _ h hP hS (lv_sub hl [2, 3, 1, 0] rfl)
theorem dX12_canMarch_0 : decode cX12_canMarch 0 = .ok (.aload_n 0, 1) := dc_42 (show ((cX12_canMarch.data.toList.drop 0).take 1).map UInt8.toNat = [42] by decide +kernel)
theorem dX12_canMarch_1 : decode cX12_canMarch 1 = .ok (.iload_n 1, 1) := dc_27 (show ((cX12_canMarch.data.toList.drop 1).take 1).map UInt8.toNat = [27] by decide +kernel)
theorem dX12_canMarch_2 : decode cX12_canMarch 2 = .ok (.invokevirtual 205, 3) := dc_182 (show ((cX12_canMarch.data.toList.drop 2).take 3).map UInt8.toNat = [182, 0, 205] by decide +kernel) rfl
theorem dX12_canMarch_5 : decode cX12_canMarch 5 = .ok (.ifCond .eq 23, 3) := dc_153 (show ((cX12_canMarch.data.toList.drop 5).take 3).map UInt8.toNat = [153, 0, 23] by decide +kernel) rfl
theorem dX12_canMarch_28 : decode cX12_canMarch 28 = .ok (.iconst 0, 1) := dc_3 (show ((cX12_canMarch.data.toList.drop 28).take 1).map UInt8.toNat = [3] by decide +kernel)
theorem dX12_canMarch_29 : decode cX12_canMarch 29 = .ok (.ireturn, 1) := dc_172 (show ((cX12_canMarch.data.toList.drop 29).take 1).map UInt8.toNat = [172] by decide +kernel)
theorem dX12_canMarch_8 : decode cX12_canMarch 8 = .ok (.aload_n 0, 1) := dc_42 (show ((cX12_canMarch.data.toList.drop 8).take 1).map UInt8.toNat = [42] by decide +kernel)
theorem dX12_canMarch_9 : decode cX12_canMarch 9 = .ok (.invokevirtual 202, 3) := dc_182 (show ((cX12_canMarch.data.toList.drop 9).take 3).map UInt8.toNat = [182, 0, 202] by decide +kernel) rfl
theorem dX12_canMarch_12 : decode cX12_canMarch 12 = .ok (.bipush 6, 2) := dc_16 (show ((cX12_canMarch.data.toList.drop 12).take 2).map UInt8.toNat = [16, 6] by decide +kernel) rfl
theorem dX12_canMarch_14 : decode cX12_canMarch 14 = .ok (.if_icmp .gt 14, 3) := dc_163 (show ((cX12_canMarch.data.toList.drop 14).take 3).map UInt8.toNat = [163, 0, 14] by decide +kernel) rfl
theorem dX12_canMarch_17 : decode cX12_canMarch 17 = .ok (.aload_n 0, 1) := dc_42 (show ((cX12_canMarch.data.toList.drop 17).take 1).map UInt8.toNat = [42] by decide +kernel)
theorem dX12_canMarch_18 : decode cX12_canMarch 18 = .ok (.invokevirtual 199, 3) := dc_182 (show ((cX12_canMarch.data.toList.drop 18).take 3).map UInt8.toNat = [182, 0, 199] by decide +kernel) rfl
theorem dX12_canMarch_21 : decode cX12_canMarch 21 = .ok (.ifCond .le 7, 3) := dc_158 (show ((cX12_canMarch.data.toList.drop 21).take 3).map UInt8.toNat = [158, 0, 7] by decide +kernel) rfl
theorem dX12_canMarch_24 : decode cX12_canMarch 24 = .ok (.iconst 1, 1) := dc_4 (show ((cX12_canMarch.data.toList.drop 24).take 1).map UInt8.toNat = [4] by decide +kernel)
theorem dX12_canMarch_25 : decode cX12_canMarch 25 = .ok (.goto 4, 3) := dc_167 (show ((cX12_canMarch.data.toList.drop 25).take 3).map UInt8.toNat = [167, 0, 4] by decide +kernel) rfl
def ms_canMarch (n : Nat) (f : gb_F) (w : Int64) (p1 : Int32) : gb_MR Int32 := gb_bd (ms_isBorder n f w p1) (fun f_1 wl_2 r_3 => (if r_3 = 0 then some (f_1, wl_2, 0) else gb_bd (ms_geese n f_1 wl_2) (fun f_7 wl_8 r_9 => (if (6 : Int32) < r_9 then some (f_7, wl_8, 0) else gb_bd (ms_paths n f_7 wl_8) (fun f_13 wl_14 r_15 => (if r_15 ≤ 0 then some (f_13, wl_14, 0) else some (f_13, wl_14, 1)))))))
set_option maxHeartbeats 8000000 in
set_option maxRecDepth 100000 in
theorem mc_canMarch (l : Launch) (D : va_G) (cT : Nat → ClassId) (tt : Nat → Nat) (b1 b : Nat) (hb1 : b1 ≤ b) (n : Nat) (f : gb_F) (w : Int64) (p1 : Int32) (fE : gb_F) (wE : Int64) (rE : Int32) (h : ms_canMarch n f w p1 = some (fE, wE, rE)) : Met l yX12_canMarch (.code yX12_canMarch cX12_canMarch 2 (some FieldType.boolean) :: gb_wA) ({ frames := 3, cells := 0, slots := 0, locals := 65 }) (gb_Pc D cT tt b1 [.ref (b + 0), .int p1] (fun h => va_P D vwCl (gb_wl b (gb_MW cT b f w)) h)) (gb_Qi (fun r h => r = rE ∧ va_P D vwCl (gb_wl b (gb_MW cT b fE wE)) h) (gb_fr b 22)) 0 0 (gb_fr b 22) := by
  refine Met.ofW (cc := cX12_canMarch) (maxL := 2) (ret := (some FieldType.boolean)) (by decide) rfl ?_
  intro p e s m args below meth c s₁ B hml hv
  obtain ⟨rfl, hSt, hP⟩ := hv
  have hx := B.exec
  have hb := B.bytes
  have hr := B.returns
  have hts := atoms_spec (ws := .code yX12_canMarch cX12_canMarch 2 (some FieldType.boolean) :: gb_wA) B.pre
  have hq : ∀ w ∈ gb_wA, w.before _ s = true := fun w h => hts w (List.mem_cons_of_mem _ h)
  have hown : s.vm.findClass RX12 = some m.cls := findClass_of_methodNamed B.named
  have hlocks := B.notSynchronized
  clear B hts
  have hK := hSt.1
  have hS : va_S (gb_fr b 22) s.heap s.heap [] := va_S.rf
  have hl := lv_entry ([.ref (b + 0), .int p1]) (n := 2) (Nat.le_of_ble_eq_true rfl)
  rw [lg_entry_eq]
  generalize (lg_sl ([.ref (b + 0), .int p1]) ++ List.replicate (2 - (lg_sl ([.ref (b + 0), .int p1])).length) Slot.unset).toArray = ls at hl ⊢
  replace hl : lv_has ls 2 [(0, .ref (b + 0)), (1, .int p1)] := hl
  unfold ms_canMarch at h
  refine lv_aload_n hx hb dX12_canMarch_0 rfl (lv_at hl 0 rfl) ?_
  refine lv_iload_n hx hb dX12_canMarch_1 rfl (lv_at hl 1 rfl) ?_
  obtain ⟨f_1, wl_2, r_3, z_4, h⟩ := gb_bd_s h
  refine gb_calli (va_runV (C := RX12) (As := [.int p1]) (rest := []) ⟨hx, hb, hml, hown, hq⟩ (mc_isBorder l D cT tt b1 b hb1 n f w p1 f_1 wl_2 r_3 z_4) (cwV 1 hq (gb_gV w_1372 w_1374 s_4_1 w_14 w_1375) rfl rfl rfl (by decide +kernel) ⟨Nat.le_of_ble_eq_true rfl, Nat.le_of_ble_eq_true rfl⟩) (gb_preV (r := (RX12, TX12, 44)) (ci := 10) (q0 := 0) hSt hP rfl (gb_at b rfl) hS (fun q h => Nat.le_trans hb1 h.1) hP) rfl rfl hl.1 rfl (lv_room (Nat.le_of_ble_eq_true rfl)) dX12_canMarch_2 ⟨Nat.le_of_ble_eq_true rfl, Nat.le_of_ble_eq_true rfl⟩) hS (fun _ h => h) (fun _ h => h) (fun q_5 H locs hY hk hS => ?_)
  obtain ⟨hq_5, hP⟩ := hY
  replace hq_5 := hq_5.symm
  subst hq_5
  refine lv_if_eq (tgt := 28) hx hb dX12_canMarch_5 (by decide) (fun c_6 => ?_) (fun c_6 => ?_)
  · rw [if_pos c_6] at h
    refine lv_iconst (v := 0) hx hb dX12_canMarch_28 (by decide) ?_
    obtain ⟨e1, e2, e3⟩ := gb_eq3 h
    exact W.zret (v := 0) hx hb hr (by decide) (fun t ht hW => gb_ri ht ⟨e3, by rw [← e1, ← e2]; exact hP⟩ hS) hS.2.2 dX12_canMarch_29
  · rw [if_neg c_6] at h
    refine lv_aload_n hx hb dX12_canMarch_8 rfl (lv_at hl 0 rfl) ?_
    obtain ⟨f_7, wl_8, r_9, z_10, h⟩ := gb_bd_s h
    refine gb_calli (va_runV (C := RX12) (As := []) (rest := []) ⟨hx, hb, hml, hown, hq⟩ (mc_geese l D cT tt b1 b hb1 n f_1 wl_2 f_7 wl_8 r_9 z_10) (cwV 0 hq (gb_gV w_1396 w_1398 s_4_7 w_14 w_1399) rfl rfl rfl (by decide +kernel) ⟨Nat.le_of_ble_eq_true rfl, Nat.le_of_ble_eq_true rfl⟩) (gb_preV (r := (RX12, TX12, 44)) (ci := 10) (q0 := 0) hSt hP rfl (gb_at b rfl) hS (fun q h => Nat.le_trans hb1 h.1) hP) rfl rfl hl.1 rfl (lv_room (Nat.le_of_ble_eq_true rfl)) dX12_canMarch_9 ⟨Nat.le_of_ble_eq_true rfl, Nat.le_of_ble_eq_true rfl⟩) hS (fun _ h => h) (fun _ h => h) (fun q_11 H locs hY hk hS => ?_)
    obtain ⟨hq_11, hP⟩ := hY
    replace hq_11 := hq_11.symm
    subst hq_11
    refine lv_bipush (v := 6) hx hb dX12_canMarch_12 (by decide) ?_
    refine lv_icmp_gt (tgt := 28) hx hb dX12_canMarch_14 (by decide) (fun c_12 => ?_) (fun c_12 => ?_)
    · rw [if_pos c_12] at h
      refine lv_iconst (v := 0) hx hb dX12_canMarch_28 (by decide) ?_
      obtain ⟨e1, e2, e3⟩ := gb_eq3 h
      exact W.zret (v := 0) hx hb hr (by decide) (fun t ht hW => gb_ri ht ⟨e3, by rw [← e1, ← e2]; exact hP⟩ hS) hS.2.2 dX12_canMarch_29
    · rw [if_neg c_12] at h
      refine lv_aload_n hx hb dX12_canMarch_17 rfl (lv_at hl 0 rfl) ?_
      obtain ⟨f_13, wl_14, r_15, z_16, h⟩ := gb_bd_s h
      refine gb_calli (va_runV (C := RX12) (As := []) (rest := []) ⟨hx, hb, hml, hown, hq⟩ (mc_paths l D cT tt b1 b hb1 n f_7 wl_8 f_13 wl_14 r_15 z_16) (cwV 0 hq (gb_gV w_1384 w_1386 s_4_4 w_14 w_1387) rfl rfl rfl (by decide +kernel) ⟨Nat.le_of_ble_eq_true rfl, Nat.le_of_ble_eq_true rfl⟩) (gb_preV (r := (RX12, TX12, 44)) (ci := 10) (q0 := 0) hSt hP rfl (gb_at b rfl) hS (fun q h => Nat.le_trans hb1 h.1) hP) rfl rfl hl.1 rfl (lv_room (Nat.le_of_ble_eq_true rfl)) dX12_canMarch_18 ⟨Nat.le_of_ble_eq_true rfl, Nat.le_of_ble_eq_true rfl⟩) hS (fun _ h => h) (fun _ h => h) (fun q_17 H locs hY hk hS => ?_)
      obtain ⟨hq_17, hP⟩ := hY
      replace hq_17 := hq_17.symm
      subst hq_17
      refine lv_if_le (tgt := 28) hx hb dX12_canMarch_21 (by decide) (fun c_18 => ?_) (fun c_18 => ?_)
      · rw [if_pos c_18] at h
        refine lv_iconst (v := 0) hx hb dX12_canMarch_28 (by decide) ?_
        obtain ⟨e1, e2, e3⟩ := gb_eq3 h
        exact W.zret (v := 0) hx hb hr (by decide) (fun t ht hW => gb_ri ht ⟨e3, by rw [← e1, ← e2]; exact hP⟩ hS) hS.2.2 dX12_canMarch_29
      · rw [if_neg c_18] at h
        refine lv_iconst (v := 1) hx hb dX12_canMarch_24 (by decide) ?_
        refine lv_goto (tgt := 29) hx hb dX12_canMarch_25 (by decide) ?_
        obtain ⟨e1, e2, e3⟩ := gb_eq3 h
        exact W.zret (v := 1) hx hb hr (by decide) (fun t ht hW => gb_ri ht ⟨e3, by rw [← e1, ← e2]; exact hP⟩ hS) hS.2.2 dX12_canMarch_29
theorem dX12_figure_0 : decode cX12_figure 0 = .ok (.aload_n 0, 1) := dc_42 (show ((cX12_figure.data.toList.drop 0).take 1).map UInt8.toNat = [42] by decide +kernel)
theorem dX12_figure_1 : decode cX12_figure 1 = .ok (.getfield 309, 3) := dc_180 (show ((cX12_figure.data.toList.drop 1).take 3).map UInt8.toNat = [180, 1, 53] by decide +kernel) rfl
theorem dX12_figure_4 : decode cX12_figure 4 = .ok (.istore_n 2, 1) := dc_61 (show ((cX12_figure.data.toList.drop 4).take 1).map UInt8.toNat = [61] by decide +kernel)
theorem dX12_figure_5 : decode cX12_figure 5 = .ok (.aload_n 0, 1) := dc_42 (show ((cX12_figure.data.toList.drop 5).take 1).map UInt8.toNat = [42] by decide +kernel)
theorem dX12_figure_6 : decode cX12_figure 6 = .ok (.invokevirtual 202, 3) := dc_182 (show ((cX12_figure.data.toList.drop 6).take 3).map UInt8.toNat = [182, 0, 202] by decide +kernel) rfl
theorem dX12_figure_9 : decode cX12_figure 9 = .ok (.iconst 1, 1) := dc_4 (show ((cX12_figure.data.toList.drop 9).take 1).map UInt8.toNat = [4] by decide +kernel)
theorem dX12_figure_10 : decode cX12_figure 10 = .ok (.isub, 1) := dc_100 (show ((cX12_figure.data.toList.drop 10).take 1).map UInt8.toNat = [100] by decide +kernel)
theorem dX12_figure_11 : decode cX12_figure 11 = .ok (.istore_n 3, 1) := dc_62 (show ((cX12_figure.data.toList.drop 11).take 1).map UInt8.toNat = [62] by decide +kernel)
theorem dX12_figure_12 : decode cX12_figure 12 = .ok (.iload_n 3, 1) := dc_29 (show ((cX12_figure.data.toList.drop 12).take 1).map UInt8.toNat = [29] by decide +kernel)
theorem dX12_figure_13 : decode cX12_figure 13 = .ok (.iload_n 1, 1) := dc_27 (show ((cX12_figure.data.toList.drop 13).take 1).map UInt8.toNat = [27] by decide +kernel)
theorem dX12_figure_14 : decode cX12_figure 14 = .ok (.if_icmp .le 16, 3) := dc_164 (show ((cX12_figure.data.toList.drop 14).take 3).map UInt8.toNat = [164, 0, 16] by decide +kernel) rfl
theorem dX12_figure_30 : decode cX12_figure 30 = .ok (.iload_n 2, 1) := dc_28 (show ((cX12_figure.data.toList.drop 30).take 1).map UInt8.toNat = [28] by decide +kernel)
theorem dX12_figure_31 : decode cX12_figure 31 = .ok (.aload_n 0, 1) := dc_42 (show ((cX12_figure.data.toList.drop 31).take 1).map UInt8.toNat = [42] by decide +kernel)
theorem dX12_figure_32 : decode cX12_figure 32 = .ok (.invokevirtual 199, 3) := dc_182 (show ((cX12_figure.data.toList.drop 32).take 3).map UInt8.toNat = [182, 0, 199] by decide +kernel) rfl
theorem dX12_figure_35 : decode cX12_figure 35 = .ok (.irem, 1) := dc_112 (show ((cX12_figure.data.toList.drop 35).take 1).map UInt8.toNat = [112] by decide +kernel)
theorem dX12_figure_36 : decode cX12_figure 36 = .ok (.ireturn, 1) := dc_172 (show ((cX12_figure.data.toList.drop 36).take 1).map UInt8.toNat = [172] by decide +kernel)
theorem dX12_figure_17 : decode cX12_figure 17 = .ok (.iload_n 2, 1) := dc_28 (show ((cX12_figure.data.toList.drop 17).take 1).map UInt8.toNat = [28] by decide +kernel)
theorem dX12_figure_18 : decode cX12_figure 18 = .ok (.aload_n 0, 1) := dc_42 (show ((cX12_figure.data.toList.drop 18).take 1).map UInt8.toNat = [42] by decide +kernel)
theorem dX12_figure_19 : decode cX12_figure 19 = .ok (.invokevirtual 199, 3) := dc_182 (show ((cX12_figure.data.toList.drop 19).take 3).map UInt8.toNat = [182, 0, 199] by decide +kernel) rfl
theorem dX12_figure_22 : decode cX12_figure 22 = .ok (.idiv, 1) := dc_108 (show ((cX12_figure.data.toList.drop 22).take 1).map UInt8.toNat = [108] by decide +kernel)
theorem dX12_figure_23 : decode cX12_figure 23 = .ok (.istore_n 2, 1) := dc_61 (show ((cX12_figure.data.toList.drop 23).take 1).map UInt8.toNat = [61] by decide +kernel)
theorem dX12_figure_24 : decode cX12_figure 24 = .ok (.iinc 3 (-1), 3) := dc_132 (show ((cX12_figure.data.toList.drop 24).take 3).map UInt8.toNat = [132, 3, 255] by decide +kernel) rfl
theorem dX12_figure_27 : decode cX12_figure 27 = .ok (.goto (-15), 3) := dc_167 (show ((cX12_figure.data.toList.drop 27).take 3).map UInt8.toNat = [167, 255, 241] by decide +kernel) rfl
def ms_figure_12 (n : Nat) : Nat → gb_F → Int64 → Int32 → Int32 → Int32 → gb_MR Int32
  | 0, _, _, _, _, _ => none
  | mm + 1, f, w, v1, v2, v3 => (if v3 ≤ v1 then gb_bd (ms_paths n f w) (fun f_9 wl_10 r_11 => gb_nz r_11 (gb_lt (v2 - v2 / r_11 * r_11) (fun x_15 => some (f_9, wl_10, x_15)))) else gb_bd (ms_paths n f w) (fun f_16 wl_17 r_18 => gb_nz r_18 (gb_lt (v2 / r_18) (fun x_22 => gb_lt (v3 + (-1)) (fun x_23 => ms_figure_12 n mm f_16 wl_17 v1 x_22 x_23)))))
def ms_figure (n : Nat) (f : gb_F) (w : Int64) (p1 : Int32) : gb_MR Int32 := gb_lt (f 0 28) (fun x_1 => gb_bd (ms_geese n f w) (fun f_2 wl_3 r_4 => gb_lt (r_4 - 1) (fun x_7 => ms_figure_12 n n f_2 wl_3 p1 x_1 x_7)))
set_option maxHeartbeats 8000000 in
set_option maxRecDepth 100000 in
theorem mc_figure (l : Launch) (D : va_G) (cT : Nat → ClassId) (tt : Nat → Nat) (b1 b : Nat) (hb1 : b1 ≤ b) (n : Nat) (f : gb_F) (w : Int64) (p1 : Int32) (fE : gb_F) (wE : Int64) (rE : Int32) (h : ms_figure n f w p1 = some (fE, wE, rE)) : Met l yX12_figure (.code yX12_figure cX12_figure 4 (some FieldType.int) :: gb_wA) ({ frames := 2, cells := 0, slots := 0, locals := 41 }) (gb_Pc D cT tt b1 [.ref (b + 0), .int p1] (fun h => va_P D vwCl (gb_wl b (gb_MW cT b f w)) h)) (gb_Qi (fun r h => r = rE ∧ va_P D vwCl (gb_wl b (gb_MW cT b fE wE)) h) (gb_fr b 22)) 0 0 (gb_fr b 22) := by
  refine Met.ofW (cc := cX12_figure) (maxL := 4) (ret := (some FieldType.int)) (by decide) rfl ?_
  intro p e s m args below meth c s₁ B hml hv
  obtain ⟨rfl, hSt, hP⟩ := hv
  have hx := B.exec
  have hb := B.bytes
  have hr := B.returns
  have hts := atoms_spec (ws := .code yX12_figure cX12_figure 4 (some FieldType.int) :: gb_wA) B.pre
  have hq : ∀ w ∈ gb_wA, w.before _ s = true := fun w h => hts w (List.mem_cons_of_mem _ h)
  have hown : s.vm.findClass RX12 = some m.cls := findClass_of_methodNamed B.named
  have hlocks := B.notSynchronized
  clear B hts
  have hK := hSt.1
  have hS : va_S (gb_fr b 22) s.heap s.heap [] := va_S.rf
  have hl := lv_entry ([.ref (b + 0), .int p1]) (n := 4) (Nat.le_of_ble_eq_true rfl)
  rw [lg_entry_eq]
  generalize (lg_sl ([.ref (b + 0), .int p1]) ++ List.replicate (4 - (lg_sl ([.ref (b + 0), .int p1])).length) Slot.unset).toArray = ls at hl ⊢
  replace hl : lv_has ls 4 [(0, .ref (b + 0)), (1, .int p1)] := hl
  have L12 : ∀ (mm : Nat) (f : gb_F) (w : Int64) (v1 : Int32) (v2 : Int32) (v3 : Int32) (H : Heap) (locs : List Loc) (ls : Array Slot), ms_figure_12 n mm f w v1 v2 v3 = some (fE, wE, rE) → va_P D vwCl (gb_wl b (gb_MW cT b f w)) H → va_S (gb_fr b 22) s.heap H locs → lv_has ls 4 [(0, .ref (b + 0)), (1, .int v1), (2, .int v2), (3, .int v3)] → W p l e (headSpec (.code yX12_figure cX12_figure 4 (some FieldType.int) :: gb_wA) ({ frames := 2, cells := 0, slots := 0, locals := 41 })).room s m ([.ref (b + 0), .int p1]).toArray below meth c H locs 0 0 (MQ below (gb_Qi (fun r h => r = rE ∧ va_P D vwCl (gb_wl b (gb_MW cT b fE wE)) h) (gb_fr b 22)) ([.ref (b + 0), .int p1]).toArray s 0 0 (gb_fr b 22)) (F0 m 12 ls []) := by
    clear h hP hS hl ls f w
    intro mm
    induction mm with
    | zero =>
      intro f w v1 v2 v3 H locs ls h
      cases h
    | succ mm ih =>
      intro f w v1 v2 v3 H locs ls h hP hS hl
      rw [ms_figure_12] at h
      refine lv_iload_n hx hb dX12_figure_12 rfl (lv_at hl 3 rfl) ?_
      refine lv_iload_n hx hb dX12_figure_13 rfl (lv_at hl 1 rfl) ?_
      refine lv_icmp_le (tgt := 30) hx hb dX12_figure_14 (by decide) (fun c_8 => ?_) (fun c_8 => ?_)
      · rw [if_pos c_8] at h
        refine lv_iload_n hx hb dX12_figure_30 rfl (lv_at hl 2 rfl) ?_
        refine lv_aload_n hx hb dX12_figure_31 rfl (lv_at hl 0 rfl) ?_
        obtain ⟨f_9, wl_10, r_11, z_12, h⟩ := gb_bd_s h
        refine gb_calli (va_runV (C := RX12) (As := []) (rest := [.int v2]) ⟨hx, hb, hml, hown, hq⟩ (mc_paths l D cT tt b1 b hb1 n f w f_9 wl_10 r_11 z_12) (cwV 0 hq (gb_gV w_1384 w_1386 s_4_4 w_14 w_1387) rfl rfl rfl (by decide +kernel) ⟨Nat.le_of_ble_eq_true rfl, Nat.le_of_ble_eq_true rfl⟩) (gb_preV (r := (RX12, TX12, 44)) (ci := 10) (q0 := 0) hSt hP rfl (gb_at b rfl) hS (fun q h => Nat.le_trans hb1 h.1) hP) rfl rfl hl.1 rfl (lv_room (Nat.le_of_ble_eq_true rfl)) dX12_figure_32 ⟨Nat.le_of_ble_eq_true rfl, Nat.le_of_ble_eq_true rfl⟩) hS (fun _ h => h) (fun _ h => h) (fun q_13 H locs hY hk hS => ?_)
        obtain ⟨hq_13, hP⟩ := hY
        replace hq_13 := hq_13.symm
        subst hq_13
        obtain ⟨z_14, h⟩ := gb_nz_s h
        refine lv_irem hx hb dX12_figure_35 z_14 ?_
        refine lv_topi (fun x_15 ex_15 => ?_)
        replace h := gb_lt_s ex_15 h
        obtain ⟨e1, e2, e3⟩ := gb_eq3 h
        exact W.iret (v := x_15) hx hb hr (fun t ht hW => gb_ri ht ⟨e3, by rw [← e1, ← e2]; exact hP⟩ hS) hS.2.2 dX12_figure_36
      · rw [if_neg c_8] at h
        refine lv_iload_n hx hb dX12_figure_17 rfl (lv_at hl 2 rfl) ?_
        refine lv_aload_n hx hb dX12_figure_18 rfl (lv_at hl 0 rfl) ?_
        obtain ⟨f_16, wl_17, r_18, z_19, h⟩ := gb_bd_s h
        refine gb_calli (va_runV (C := RX12) (As := []) (rest := [.int v2]) ⟨hx, hb, hml, hown, hq⟩ (mc_paths l D cT tt b1 b hb1 n f w f_16 wl_17 r_18 z_19) (cwV 0 hq (gb_gV w_1384 w_1386 s_4_4 w_14 w_1387) rfl rfl rfl (by decide +kernel) ⟨Nat.le_of_ble_eq_true rfl, Nat.le_of_ble_eq_true rfl⟩) (gb_preV (r := (RX12, TX12, 44)) (ci := 10) (q0 := 0) hSt hP rfl (gb_at b rfl) hS (fun q h => Nat.le_trans hb1 h.1) hP) rfl rfl hl.1 rfl (lv_room (Nat.le_of_ble_eq_true rfl)) dX12_figure_19 ⟨Nat.le_of_ble_eq_true rfl, Nat.le_of_ble_eq_true rfl⟩) hS (fun _ h => h) (fun _ h => h) (fun q_20 H locs hY hk hS => ?_)
        obtain ⟨hq_20, hP⟩ := hY
        replace hq_20 := hq_20.symm
        subst hq_20
        obtain ⟨z_21, h⟩ := gb_nz_s h
        refine lv_idiv hx hb dX12_figure_22 z_21 ?_
        refine lv_topi (fun x_22 ex_22 => ?_)
        replace h := gb_lt_s ex_22 h
        refine lv_istore_n (lv' := [(2, .int x_22), (0, .ref (b + 0)), (1, .int v1), (3, .int v3)]) hx hb dX12_figure_23 rfl hl (by decide) rfl (fun ls hl => ?_)
        obtain ⟨x_23, ex_23⟩ : ∃ q, q = (v3 + (-1)) := ⟨_, rfl⟩
        replace h := gb_lt_s ex_23 h
        refine lv_iinc (v := x_23) (lv' := [(3, .int x_23), (2, .int x_22), (0, .ref (b + 0)), (1, .int v1)]) hx hb dX12_figure_24 hl (k := 3) rfl (by rw [ex_23]; rfl) (by decide) rfl (fun ls hl => ?_)
        refine lv_goto (tgt := 12) hx hb dX12_figure_27 (by decide) ?_
        exact ih _ _ _ _ _ _ _ _ h hP hS (lv_sub hl [2, 3, 1, 0] rfl)
  unfold ms_figure at h
  refine lv_aload_n hx hb dX12_figure_0 rfl (lv_at hl 0 rfl) ?_
  refine va_get (ci := 10) (v := (.int (f 0 28))) (C := RX12) (T := TX12) (N := 44) hx hb hq i_X12 hown hK hP 0 (gb_at b rfl) rfl 28 (by decide) (hq _ w_1152) (fun _ h9 => h9) rfl dX12_figure_1 ?_
  refine lv_topi (fun x_1 ex_1 => ?_)
  replace h := gb_lt_s ex_1 h
  refine lv_istore_n (lv' := [(2, .int x_1), (0, .ref (b + 0)), (1, .int p1)]) hx hb dX12_figure_4 rfl hl (by decide) rfl (fun ls hl => ?_)
  refine lv_aload_n hx hb dX12_figure_5 rfl (lv_at hl 1 rfl) ?_
  obtain ⟨f_2, wl_3, r_4, z_5, h⟩ := gb_bd_s h
  refine gb_calli (va_runV (C := RX12) (As := []) (rest := []) ⟨hx, hb, hml, hown, hq⟩ (mc_geese l D cT tt b1 b hb1 n f w f_2 wl_3 r_4 z_5) (cwV 0 hq (gb_gV w_1396 w_1398 s_4_7 w_14 w_1399) rfl rfl rfl (by decide +kernel) ⟨Nat.le_of_ble_eq_true rfl, Nat.le_of_ble_eq_true rfl⟩) (gb_preV (r := (RX12, TX12, 44)) (ci := 10) (q0 := 0) hSt hP rfl (gb_at b rfl) hS (fun q h => Nat.le_trans hb1 h.1) hP) rfl rfl hl.1 rfl (lv_room (Nat.le_of_ble_eq_true rfl)) dX12_figure_6 ⟨Nat.le_of_ble_eq_true rfl, Nat.le_of_ble_eq_true rfl⟩) hS (fun _ h => h) (fun _ h => h) (fun q_6 H locs hY hk hS => ?_)
  obtain ⟨hq_6, hP⟩ := hY
  replace hq_6 := hq_6.symm
  subst hq_6
  refine lv_iconst (v := 1) hx hb dX12_figure_9 (by decide) ?_
  refine lv_isub hx hb dX12_figure_10 ?_
  refine lv_topi (fun x_7 ex_7 => ?_)
  replace h := gb_lt_s ex_7 h
  refine lv_istore_n (lv' := [(3, .int x_7), (2, .int x_1), (0, .ref (b + 0)), (1, .int p1)]) hx hb dX12_figure_11 rfl hl (by decide) rfl (fun ls hl => ?_)
  exact L12 n _ _ _ _ _ _ _ _ h hP hS (lv_sub hl [2, 3, 1, 0] rfl)
theorem dX12_even_0 : decode cX12_even 0 = .ok (.aload_n 0, 1) := dc_42 (show ((cX12_even.data.toList.drop 0).take 1).map UInt8.toNat = [42] by decide +kernel)
theorem dX12_even_1 : decode cX12_even 1 = .ok (.iload_n 1, 1) := dc_27 (show ((cX12_even.data.toList.drop 1).take 1).map UInt8.toNat = [27] by decide +kernel)
theorem dX12_even_2 : decode cX12_even 2 = .ok (.invokevirtual 319, 3) := dc_182 (show ((cX12_even.data.toList.drop 2).take 3).map UInt8.toNat = [182, 1, 63] by decide +kernel) rfl
theorem w_1523 : (Cond.code ({ cls := "GooseBorderModel", name := "canMarch", desc := "(I)Z" } : MethodName) prog_14_method_75_code (2 : Nat) (Option.some FieldType.boolean)) ∈ gb_wA := gb_t7 83 rfl rfl
theorem w_1520 : (Cond.methodLink "GooseBorderModel" (319 : Nat) ({ cls := "GooseBorderModel", name := "canMarch", desc := "(I)Z" } : MethodName)) ∈ gb_wA := gb_t7 80 rfl rfl
theorem w_1522 : (Cond.instanceMethod ({ cls := "GooseBorderModel", name := "canMarch", desc := "(I)Z" } : MethodName)) ∈ gb_wA := gb_t7 82 rfl rfl
theorem s_5_13 : Cond.selects "GooseBorderModel" (⟨"GooseBorderModel", "canMarch", "(I)Z"⟩ : MethodName) (⟨"GooseBorderModel", "canMarch", "(I)Z"⟩ : MethodName) ∈ gb_wA := gb_s5 13 rfl rfl
theorem dX12_even_5 : decode cX12_even 5 = .ok (.ifCond .eq 29, 3) := dc_153 (show ((cX12_even.data.toList.drop 5).take 3).map UInt8.toNat = [153, 0, 29] by decide +kernel) rfl
theorem dX12_even_34 : decode cX12_even 34 = .ok (.iconst (-1), 1) := dc_2 (show ((cX12_even.data.toList.drop 34).take 1).map UInt8.toNat = [2] by decide +kernel)
theorem dX12_even_35 : decode cX12_even 35 = .ok (.ireturn, 1) := dc_172 (show ((cX12_even.data.toList.drop 35).take 1).map UInt8.toNat = [172] by decide +kernel)
theorem dX12_even_8 : decode cX12_even 8 = .ok (.iload_n 2, 1) := dc_28 (show ((cX12_even.data.toList.drop 8).take 1).map UInt8.toNat = [28] by decide +kernel)
theorem dX12_even_9 : decode cX12_even 9 = .ok (.ifCond .eq 27, 3) := dc_153 (show ((cX12_even.data.toList.drop 9).take 3).map UInt8.toNat = [153, 0, 27] by decide +kernel) rfl
theorem dX12_even_36 : decode cX12_even 36 = .ok (.aload_n 0, 1) := dc_42 (show ((cX12_even.data.toList.drop 36).take 1).map UInt8.toNat = [42] by decide +kernel)
theorem dX12_even_37 : decode cX12_even 37 = .ok (.iconst 0, 1) := dc_3 (show ((cX12_even.data.toList.drop 37).take 1).map UInt8.toNat = [3] by decide +kernel)
theorem dX12_even_38 : decode cX12_even 38 = .ok (.invokevirtual 322, 3) := dc_182 (show ((cX12_even.data.toList.drop 38).take 3).map UInt8.toNat = [182, 1, 66] by decide +kernel) rfl
theorem w_1527 : (Cond.code ({ cls := "GooseBorderModel", name := "bestWorth", desc := "(Z)I" } : MethodName) prog_14_method_74_code (5 : Nat) (Option.some FieldType.int)) ∈ gb_wA := gb_t7 87 rfl rfl
theorem w_1524 : (Cond.methodLink "GooseBorderModel" (322 : Nat) ({ cls := "GooseBorderModel", name := "bestWorth", desc := "(Z)I" } : MethodName)) ∈ gb_wA := gb_t7 84 rfl rfl
theorem w_1526 : (Cond.instanceMethod ({ cls := "GooseBorderModel", name := "bestWorth", desc := "(Z)I" } : MethodName)) ∈ gb_wA := gb_t7 86 rfl rfl
theorem s_5_14 : Cond.selects "GooseBorderModel" (⟨"GooseBorderModel", "bestWorth", "(Z)I"⟩ : MethodName) (⟨"GooseBorderModel", "bestWorth", "(Z)I"⟩ : MethodName) ∈ gb_wA := gb_s5 14 rfl rfl
theorem dX12_even_41 : decode cX12_even 41 = .ok (.istore_n 3, 1) := dc_62 (show ((cX12_even.data.toList.drop 41).take 1).map UInt8.toNat = [62] by decide +kernel)
theorem dX12_even_42 : decode cX12_even 42 = .ok (.iload_n 2, 1) := dc_28 (show ((cX12_even.data.toList.drop 42).take 1).map UInt8.toNat = [28] by decide +kernel)
theorem dX12_even_43 : decode cX12_even 43 = .ok (.ifCond .ne 5, 3) := dc_154 (show ((cX12_even.data.toList.drop 43).take 3).map UInt8.toNat = [154, 0, 5] by decide +kernel) rfl
theorem dX12_even_48 : decode cX12_even 48 = .ok (.iload_n 2, 1) := dc_28 (show ((cX12_even.data.toList.drop 48).take 1).map UInt8.toNat = [28] by decide +kernel)
theorem dX12_even_49 : decode cX12_even 49 = .ok (.bipush 20, 2) := dc_16 (show ((cX12_even.data.toList.drop 49).take 2).map UInt8.toNat = [16, 20] by decide +kernel) rfl
theorem dX12_even_51 : decode cX12_even 51 = .ok (.if_icmp .ge 12, 3) := dc_162 (show ((cX12_even.data.toList.drop 51).take 3).map UInt8.toNat = [162, 0, 12] by decide +kernel) rfl
theorem dX12_even_63 : decode cX12_even 63 = .ok (.aload_n 0, 1) := dc_42 (show ((cX12_even.data.toList.drop 63).take 1).map UInt8.toNat = [42] by decide +kernel)
theorem dX12_even_64 : decode cX12_even 64 = .ok (.aload_n 0, 1) := dc_42 (show ((cX12_even.data.toList.drop 64).take 1).map UInt8.toNat = [42] by decide +kernel)
theorem dX12_even_65 : decode cX12_even 65 = .ok (.getfield 309, 3) := dc_180 (show ((cX12_even.data.toList.drop 65).take 3).map UInt8.toNat = [180, 1, 53] by decide +kernel) rfl
theorem dX12_even_68 : decode cX12_even 68 = .ok (.invokevirtual 300, 3) := dc_182 (show ((cX12_even.data.toList.drop 68).take 3).map UInt8.toNat = [182, 1, 44] by decide +kernel) rfl
theorem dX12_even_71 : decode cX12_even 71 = .ok (.aload_n 0, 1) := dc_42 (show ((cX12_even.data.toList.drop 71).take 1).map UInt8.toNat = [42] by decide +kernel)
theorem dX12_even_72 : decode cX12_even 72 = .ok (.iload_n 2, 1) := dc_28 (show ((cX12_even.data.toList.drop 72).take 1).map UInt8.toNat = [28] by decide +kernel)
theorem dX12_even_73 : decode cX12_even 73 = .ok (.bipush 20, 2) := dc_16 (show ((cX12_even.data.toList.drop 73).take 2).map UInt8.toNat = [16, 20] by decide +kernel) rfl
theorem dX12_even_75 : decode cX12_even 75 = .ok (.isub, 1) := dc_100 (show ((cX12_even.data.toList.drop 75).take 1).map UInt8.toNat = [100] by decide +kernel)
theorem dX12_even_76 : decode cX12_even 76 = .ok (.invokevirtual 303, 3) := dc_182 (show ((cX12_even.data.toList.drop 76).take 3).map UInt8.toNat = [182, 1, 47] by decide +kernel) rfl
theorem dX12_even_79 : decode cX12_even 79 = .ok (.ireturn, 1) := dc_172 (show ((cX12_even.data.toList.drop 79).take 1).map UInt8.toNat = [172] by decide +kernel)
theorem dX12_even_54 : decode cX12_even 54 = .ok (.aload_n 0, 1) := dc_42 (show ((cX12_even.data.toList.drop 54).take 1).map UInt8.toNat = [42] by decide +kernel)
theorem dX12_even_55 : decode cX12_even 55 = .ok (.iload_n 2, 1) := dc_28 (show ((cX12_even.data.toList.drop 55).take 1).map UInt8.toNat = [28] by decide +kernel)
theorem dX12_even_56 : decode cX12_even 56 = .ok (.bipush 10, 2) := dc_16 (show ((cX12_even.data.toList.drop 56).take 2).map UInt8.toNat = [16, 10] by decide +kernel) rfl
theorem dX12_even_58 : decode cX12_even 58 = .ok (.isub, 1) := dc_100 (show ((cX12_even.data.toList.drop 58).take 1).map UInt8.toNat = [100] by decide +kernel)
theorem dX12_even_59 : decode cX12_even 59 = .ok (.invokevirtual 326, 3) := dc_182 (show ((cX12_even.data.toList.drop 59).take 3).map UInt8.toNat = [182, 1, 70] by decide +kernel) rfl
theorem w_1555 : (Cond.code ({ cls := "GooseBorderModel", name := "figure", desc := "(I)I" } : MethodName) prog_14_method_76_code (4 : Nat) (Option.some FieldType.int)) ∈ gb_wA := gb_t7 115 rfl rfl
theorem w_1552 : (Cond.methodLink "GooseBorderModel" (326 : Nat) ({ cls := "GooseBorderModel", name := "figure", desc := "(I)I" } : MethodName)) ∈ gb_wA := gb_t7 112 rfl rfl
theorem w_1554 : (Cond.instanceMethod ({ cls := "GooseBorderModel", name := "figure", desc := "(I)I" } : MethodName)) ∈ gb_wA := gb_t7 114 rfl rfl
theorem s_6_5 : Cond.selects "GooseBorderModel" (⟨"GooseBorderModel", "figure", "(I)I"⟩ : MethodName) (⟨"GooseBorderModel", "figure", "(I)I"⟩ : MethodName) ∈ gb_wA := gb_s6 5 rfl rfl
theorem dX12_even_62 : decode cX12_even 62 = .ok (.ireturn, 1) := dc_172 (show ((cX12_even.data.toList.drop 62).take 1).map UInt8.toNat = [172] by decide +kernel)
theorem dX12_even_46 : decode cX12_even 46 = .ok (.iload_n 3, 1) := dc_29 (show ((cX12_even.data.toList.drop 46).take 1).map UInt8.toNat = [29] by decide +kernel)
theorem dX12_even_47 : decode cX12_even 47 = .ok (.ireturn, 1) := dc_172 (show ((cX12_even.data.toList.drop 47).take 1).map UInt8.toNat = [172] by decide +kernel)
theorem dX12_even_12 : decode cX12_even 12 = .ok (.aload_n 0, 1) := dc_42 (show ((cX12_even.data.toList.drop 12).take 1).map UInt8.toNat = [42] by decide +kernel)
theorem dX12_even_13 : decode cX12_even 13 = .ok (.iload_n 2, 1) := dc_28 (show ((cX12_even.data.toList.drop 13).take 1).map UInt8.toNat = [28] by decide +kernel)
theorem dX12_even_14 : decode cX12_even 14 = .ok (.bipush 10, 2) := dc_16 (show ((cX12_even.data.toList.drop 14).take 2).map UInt8.toNat = [16, 10] by decide +kernel) rfl
theorem dX12_even_16 : decode cX12_even 16 = .ok (.isub, 1) := dc_100 (show ((cX12_even.data.toList.drop 16).take 1).map UInt8.toNat = [100] by decide +kernel)
theorem dX12_even_17 : decode cX12_even 17 = .ok (.invokevirtual 214, 3) := dc_182 (show ((cX12_even.data.toList.drop 17).take 3).map UInt8.toNat = [182, 0, 214] by decide +kernel) rfl
theorem dX12_even_20 : decode cX12_even 20 = .ok (.ifCond .ne 16, 3) := dc_154 (show ((cX12_even.data.toList.drop 20).take 3).map UInt8.toNat = [154, 0, 16] by decide +kernel) rfl
theorem dX12_even_23 : decode cX12_even 23 = .ok (.aload_n 0, 1) := dc_42 (show ((cX12_even.data.toList.drop 23).take 1).map UInt8.toNat = [42] by decide +kernel)
theorem dX12_even_24 : decode cX12_even 24 = .ok (.iload_n 2, 1) := dc_28 (show ((cX12_even.data.toList.drop 24).take 1).map UInt8.toNat = [28] by decide +kernel)
theorem dX12_even_25 : decode cX12_even 25 = .ok (.bipush 20, 2) := dc_16 (show ((cX12_even.data.toList.drop 25).take 2).map UInt8.toNat = [16, 20] by decide +kernel) rfl
theorem dX12_even_27 : decode cX12_even 27 = .ok (.isub, 1) := dc_100 (show ((cX12_even.data.toList.drop 27).take 1).map UInt8.toNat = [100] by decide +kernel)
theorem dX12_even_28 : decode cX12_even 28 = .ok (.invokevirtual 208, 3) := dc_182 (show ((cX12_even.data.toList.drop 28).take 3).map UInt8.toNat = [182, 0, 208] by decide +kernel) rfl
theorem dX12_even_31 : decode cX12_even 31 = .ok (.ifCond .ne 5, 3) := dc_154 (show ((cX12_even.data.toList.drop 31).take 3).map UInt8.toNat = [154, 0, 5] by decide +kernel) rfl
def ms_even_36 (n : Nat) (f : gb_F) (w : Int64) (v2 : Int32) : gb_MR Int32 := gb_bd (ms_bestWorth n f w 0) (fun f_8 wl_9 r_10 => (if v2 = 0 then some (f_8, wl_9, r_10) else (if (20 : Int32) ≤ v2 then gb_bd (ms_sums n f_8 wl_9 (f_8 0 28)) (fun f_15 wl_16 _ => gb_bd (ms_payOf n f_15 wl_16 (v2 - 20)) (fun f_20 wl_21 r_22 => some (f_20, wl_21, r_22))) else gb_bd (ms_figure n f_8 wl_9 (v2 - 10)) (fun f_25 wl_26 r_27 => some (f_25, wl_26, r_27)))))
def ms_even (n : Nat) (f : gb_F) (w : Int64) (p1 : Int32) (p2 : Int32) : gb_MR Int32 := gb_bd (ms_canMarch n f w p1) (fun f_1 wl_2 r_3 => (if r_3 = 0 then some (f_1, wl_2, (-1)) else (if p2 = 0 then ms_even_36 n f_1 wl_2 p2 else gb_bd (ms_isGoose n f_1 wl_2 (p2 - 10)) (fun f_30 wl_31 r_32 => (if r_32 = 0 then gb_bd (ms_isPath n f_30 wl_31 (p2 - 20)) (fun f_36 wl_37 r_38 => (if r_38 = 0 then some (f_36, wl_37, (-1)) else ms_even_36 n f_36 wl_37 p2)) else ms_even_36 n f_30 wl_31 p2)))))
set_option maxHeartbeats 8000000 in
set_option maxRecDepth 100000 in
theorem mc_even (l : Launch) (D : va_G) (cT : Nat → ClassId) (tt : Nat → Nat) (b1 b : Nat) (hb1 : b1 ≤ b) (n : Nat) (f : gb_F) (w : Int64) (p1 : Int32) (p2 : Int32) (fE : gb_F) (wE : Int64) (rE : Int32) (h : ms_even n f w p1 p2 = some (fE, wE, rE)) : Met l yX12_even (.code yX12_even cX12_even 4 (some FieldType.int) :: gb_wA) ({ frames := 6, cells := 0, slots := 0, locals := 138 }) (gb_Pc D cT tt b1 [.ref (b + 0), .int p1, .int p2] (fun h => va_P D vwCl (gb_wl b (gb_MW cT b f w)) h)) (gb_Qi (fun r h => r = rE ∧ va_P D vwCl (gb_wl b (gb_MW cT b fE wE)) h) (gb_fr b 22)) 0 0 (gb_fr b 22) := by
  refine Met.ofW (cc := cX12_even) (maxL := 4) (ret := (some FieldType.int)) (by decide) rfl ?_
  intro p e s m args below meth c s₁ B hml hv
  obtain ⟨rfl, hSt, hP⟩ := hv
  have hx := B.exec
  have hb := B.bytes
  have hr := B.returns
  have hts := atoms_spec (ws := .code yX12_even cX12_even 4 (some FieldType.int) :: gb_wA) B.pre
  have hq : ∀ w ∈ gb_wA, w.before _ s = true := fun w h => hts w (List.mem_cons_of_mem _ h)
  have hown : s.vm.findClass RX12 = some m.cls := findClass_of_methodNamed B.named
  have hlocks := B.notSynchronized
  clear B hts
  have hK := hSt.1
  have hS : va_S (gb_fr b 22) s.heap s.heap [] := va_S.rf
  have hl := lv_entry ([.ref (b + 0), .int p1, .int p2]) (n := 4) (Nat.le_of_ble_eq_true rfl)
  rw [lg_entry_eq]
  generalize (lg_sl ([.ref (b + 0), .int p1, .int p2]) ++ List.replicate (4 - (lg_sl ([.ref (b + 0), .int p1, .int p2])).length) Slot.unset).toArray = ls at hl ⊢
  replace hl : lv_has ls 4 [(0, .ref (b + 0)), (1, .int p1), (2, .int p2)] := hl
  have L36 : ∀ (f : gb_F) (w : Int64) (v2 : Int32) (H : Heap) (locs : List Loc) (ls : Array Slot), ms_even_36 n f w v2 = some (fE, wE, rE) → va_P D vwCl (gb_wl b (gb_MW cT b f w)) H → va_S (gb_fr b 22) s.heap H locs → lv_has ls 4 [(0, .ref (b + 0)), (2, .int v2)] → W p l e (headSpec (.code yX12_even cX12_even 4 (some FieldType.int) :: gb_wA) ({ frames := 6, cells := 0, slots := 0, locals := 138 })).room s m ([.ref (b + 0), .int p1, .int p2]).toArray below meth c H locs 0 0 (MQ below (gb_Qi (fun r h => r = rE ∧ va_P D vwCl (gb_wl b (gb_MW cT b fE wE)) h) (gb_fr b 22)) ([.ref (b + 0), .int p1, .int p2]).toArray s 0 0 (gb_fr b 22)) (F0 m 36 ls []) := by
    clear h hP hS hl ls f w
    intro f w v2 H locs ls h hP hS hl
    unfold ms_even_36 at h
    refine lv_aload_n hx hb dX12_even_36 rfl (lv_at hl 0 rfl) ?_
    refine lv_iconst (v := 0) hx hb dX12_even_37 (by decide) ?_
    obtain ⟨f_8, wl_9, r_10, z_11, h⟩ := gb_bd_s h
    refine gb_calli (va_runV (C := RX12) (As := [.int 0]) (rest := []) ⟨hx, hb, hml, hown, hq⟩ (mc_bestWorth l D cT tt b1 b hb1 n f w 0 f_8 wl_9 r_10 z_11) (cwV 1 hq (gb_gV w_1524 w_1526 s_5_14 w_14 w_1527) rfl rfl rfl (by decide +kernel) ⟨Nat.le_of_ble_eq_true rfl, Nat.le_of_ble_eq_true rfl⟩) (gb_preV (r := (RX12, TX12, 44)) (ci := 10) (q0 := 0) hSt hP rfl (gb_at b rfl) hS (fun q h => Nat.le_trans hb1 h.1) hP) rfl rfl hl.1 rfl (lv_room (Nat.le_of_ble_eq_true rfl)) dX12_even_38 ⟨Nat.le_of_ble_eq_true rfl, Nat.le_of_ble_eq_true rfl⟩) hS (fun _ h => h) (fun _ h => h) (fun q_12 H locs hY hk hS => ?_)
    obtain ⟨hq_12, hP⟩ := hY
    replace hq_12 := hq_12.symm
    subst hq_12
    refine lv_istore_n (lv' := [(3, .int r_10), (0, .ref (b + 0)), (2, .int v2)]) hx hb dX12_even_41 rfl hl (by decide) rfl (fun ls hl => ?_)
    refine lv_iload_n hx hb dX12_even_42 rfl (lv_at hl 2 rfl) ?_
    refine lv_if_ne (tgt := 48) hx hb dX12_even_43 (by decide) (fun c_13 => ?_) (fun c_13 => ?_)
    · rw [if_neg c_13] at h
      refine lv_iload_n hx hb dX12_even_48 rfl (lv_at hl 2 rfl) ?_
      refine lv_bipush (v := 20) hx hb dX12_even_49 (by decide) ?_
      refine lv_icmp_ge (tgt := 63) hx hb dX12_even_51 (by decide) (fun c_14 => ?_) (fun c_14 => ?_)
      · rw [if_pos c_14] at h
        refine lv_aload_n hx hb dX12_even_63 rfl (lv_at hl 1 rfl) ?_
        refine lv_aload_n hx hb dX12_even_64 rfl (lv_at hl 1 rfl) ?_
        refine va_get (ci := 10) (v := (.int (f_8 0 28))) (C := RX12) (T := TX12) (N := 44) hx hb hq i_X12 hown hK hP 0 (gb_at b rfl) rfl 28 (by decide) (hq _ w_1152) (fun _ h9 => h9) rfl dX12_even_65 ?_
        obtain ⟨f_15, wl_16, r_17, z_18, h⟩ := gb_bd_s h
        refine gb_callv (va_runV (C := RX12) (As := [.int (f_8 0 28)]) (rest := []) ⟨hx, hb, hml, hown, hq⟩ (mc_sums l D cT tt b1 b hb1 n f_8 wl_9 (f_8 0 28) f_15 wl_16 r_17 z_18) (cwV 1 hq (gb_gV w_1544 w_1546 s_6_3 w_14 w_1547) rfl rfl rfl (by decide +kernel) ⟨Nat.le_of_ble_eq_true rfl, Nat.le_of_ble_eq_true rfl⟩) (gb_preV (r := (RX12, TX12, 44)) (ci := 10) (q0 := 0) hSt hP rfl (gb_at b rfl) hS (fun q h => Nat.le_trans hb1 h.1) hP) rfl rfl hl.1 rfl (lv_room (Nat.le_of_ble_eq_true rfl)) dX12_even_68 ⟨Nat.le_of_ble_eq_true rfl, Nat.le_of_ble_eq_true rfl⟩) hS (fun _ h => h) (fun _ h => h) (fun H locs hY hk hS => ?_)
        have hP := hY
        refine lv_aload_n hx hb dX12_even_71 rfl (lv_at hl 1 rfl) ?_
        refine lv_iload_n hx hb dX12_even_72 rfl (lv_at hl 2 rfl) ?_
        refine lv_bipush (v := 20) hx hb dX12_even_73 (by decide) ?_
        refine lv_isub hx hb dX12_even_75 ?_
        obtain ⟨f_20, wl_21, r_22, z_23, h⟩ := gb_bd_s h
        refine gb_calli (va_runV (C := RX12) (As := [.int (v2 - 20)]) (rest := []) ⟨hx, hb, hml, hown, hq⟩ (mc_payOf l D cT tt b1 b hb1 n f_15 wl_16 (v2 - 20) f_20 wl_21 r_22 z_23) (cwV 1 hq (gb_gV w_1548 w_1550 s_6_4 w_14 w_1551) rfl rfl rfl (by decide +kernel) ⟨Nat.le_of_ble_eq_true rfl, Nat.le_of_ble_eq_true rfl⟩) (gb_preV (r := (RX12, TX12, 44)) (ci := 10) (q0 := 0) hSt hP rfl (gb_at b rfl) hS (fun q h => Nat.le_trans hb1 h.1) hP) rfl rfl hl.1 rfl (lv_room (Nat.le_of_ble_eq_true rfl)) dX12_even_76 ⟨Nat.le_of_ble_eq_true rfl, Nat.le_of_ble_eq_true rfl⟩) hS (fun _ h => h) (fun _ h => h) (fun q_24 H locs hY hk hS => ?_)
        obtain ⟨hq_24, hP⟩ := hY
        replace hq_24 := hq_24.symm
        subst hq_24
        obtain ⟨e1, e2, e3⟩ := gb_eq3 h
        exact W.iret (v := r_22) hx hb hr (fun t ht hW => gb_ri ht ⟨e3, by rw [← e1, ← e2]; exact hP⟩ hS) hS.2.2 dX12_even_79
      · rw [if_neg c_14] at h
        refine lv_aload_n hx hb dX12_even_54 rfl (lv_at hl 1 rfl) ?_
        refine lv_iload_n hx hb dX12_even_55 rfl (lv_at hl 2 rfl) ?_
        refine lv_bipush (v := 10) hx hb dX12_even_56 (by decide) ?_
        refine lv_isub hx hb dX12_even_58 ?_
        obtain ⟨f_25, wl_26, r_27, z_28, h⟩ := gb_bd_s h
        refine gb_calli (va_runV (C := RX12) (As := [.int (v2 - 10)]) (rest := []) ⟨hx, hb, hml, hown, hq⟩ (mc_figure l D cT tt b1 b hb1 n f_8 wl_9 (v2 - 10) f_25 wl_26 r_27 z_28) (cwV 1 hq (gb_gV w_1552 w_1554 s_6_5 w_14 w_1555) rfl rfl rfl (by decide +kernel) ⟨Nat.le_of_ble_eq_true rfl, Nat.le_of_ble_eq_true rfl⟩) (gb_preV (r := (RX12, TX12, 44)) (ci := 10) (q0 := 0) hSt hP rfl (gb_at b rfl) hS (fun q h => Nat.le_trans hb1 h.1) hP) rfl rfl hl.1 rfl (lv_room (Nat.le_of_ble_eq_true rfl)) dX12_even_59 ⟨Nat.le_of_ble_eq_true rfl, Nat.le_of_ble_eq_true rfl⟩) hS (fun _ h => h) (fun _ h => h) (fun q_29 H locs hY hk hS => ?_)
        obtain ⟨hq_29, hP⟩ := hY
        replace hq_29 := hq_29.symm
        subst hq_29
        obtain ⟨e1, e2, e3⟩ := gb_eq3 h
        exact W.iret (v := r_27) hx hb hr (fun t ht hW => gb_ri ht ⟨e3, by rw [← e1, ← e2]; exact hP⟩ hS) hS.2.2 dX12_even_62
    · rw [if_pos c_13] at h
      refine lv_iload_n hx hb dX12_even_46 rfl (lv_at hl 0 rfl) ?_
      obtain ⟨e1, e2, e3⟩ := gb_eq3 h
      exact W.iret (v := r_10) hx hb hr (fun t ht hW => gb_ri ht ⟨e3, by rw [← e1, ← e2]; exact hP⟩ hS) hS.2.2 dX12_even_47
  unfold ms_even at h
  refine lv_aload_n hx hb dX12_even_0 rfl (lv_at hl 0 rfl) ?_
  refine lv_iload_n hx hb dX12_even_1 rfl (lv_at hl 1 rfl) ?_
  obtain ⟨f_1, wl_2, r_3, z_4, h⟩ := gb_bd_s h
  refine gb_calli (va_runV (C := RX12) (As := [.int p1]) (rest := []) ⟨hx, hb, hml, hown, hq⟩ (mc_canMarch l D cT tt b1 b hb1 n f w p1 f_1 wl_2 r_3 z_4) (cwV 1 hq (gb_gV w_1520 w_1522 s_5_13 w_14 w_1523) rfl rfl rfl (by decide +kernel) ⟨Nat.le_of_ble_eq_true rfl, Nat.le_of_ble_eq_true rfl⟩) (gb_preV (r := (RX12, TX12, 44)) (ci := 10) (q0 := 0) hSt hP rfl (gb_at b rfl) hS (fun q h => Nat.le_trans hb1 h.1) hP) rfl rfl hl.1 rfl (lv_room (Nat.le_of_ble_eq_true rfl)) dX12_even_2 ⟨Nat.le_of_ble_eq_true rfl, Nat.le_of_ble_eq_true rfl⟩) hS (fun _ h => h) (fun _ h => h) (fun q_5 H locs hY hk hS => ?_)
  obtain ⟨hq_5, hP⟩ := hY
  replace hq_5 := hq_5.symm
  subst hq_5
  refine lv_if_eq (tgt := 34) hx hb dX12_even_5 (by decide) (fun c_6 => ?_) (fun c_6 => ?_)
  · rw [if_pos c_6] at h
    refine lv_iconst (v := (-1)) hx hb dX12_even_34 (by decide) ?_
    obtain ⟨e1, e2, e3⟩ := gb_eq3 h
    exact W.iret (v := (-1)) hx hb hr (fun t ht hW => gb_ri ht ⟨e3, by rw [← e1, ← e2]; exact hP⟩ hS) hS.2.2 dX12_even_35
  · rw [if_neg c_6] at h
    refine lv_iload_n hx hb dX12_even_8 rfl (lv_at hl 2 rfl) ?_
    refine lv_if_eq (tgt := 36) hx hb dX12_even_9 (by decide) (fun c_7 => ?_) (fun c_7 => ?_)
    · rw [if_pos c_7] at h
      exact L36 _ _ _ _ _ _ h hP hS (lv_sub hl [0, 2] rfl)
    · rw [if_neg c_7] at h
      refine lv_aload_n hx hb dX12_even_12 rfl (lv_at hl 0 rfl) ?_
      refine lv_iload_n hx hb dX12_even_13 rfl (lv_at hl 2 rfl) ?_
      refine lv_bipush (v := 10) hx hb dX12_even_14 (by decide) ?_
      refine lv_isub hx hb dX12_even_16 ?_
      obtain ⟨f_30, wl_31, r_32, z_33, h⟩ := gb_bd_s h
      refine gb_calli (va_runV (C := RX12) (As := [.int (p2 - 10)]) (rest := []) ⟨hx, hb, hml, hown, hq⟩ (mc_isGoose l D cT tt b1 b hb1 n f_1 wl_2 (p2 - 10) f_30 wl_31 r_32 z_33) (cwV 1 hq (gb_gV w_1392 w_1394 s_4_6 w_14 w_1395) rfl rfl rfl (by decide +kernel) ⟨Nat.le_of_ble_eq_true rfl, Nat.le_of_ble_eq_true rfl⟩) (gb_preV (r := (RX12, TX12, 44)) (ci := 10) (q0 := 0) hSt hP rfl (gb_at b rfl) hS (fun q h => Nat.le_trans hb1 h.1) hP) rfl rfl hl.1 rfl (lv_room (Nat.le_of_ble_eq_true rfl)) dX12_even_17 ⟨Nat.le_of_ble_eq_true rfl, Nat.le_of_ble_eq_true rfl⟩) hS (fun _ h => h) (fun _ h => h) (fun q_34 H locs hY hk hS => ?_)
      obtain ⟨hq_34, hP⟩ := hY
      replace hq_34 := hq_34.symm
      subst hq_34
      refine lv_if_ne (tgt := 36) hx hb dX12_even_20 (by decide) (fun c_35 => ?_) (fun c_35 => ?_)
      · rw [if_neg c_35] at h
        exact L36 _ _ _ _ _ _ h hP hS (lv_sub hl [0, 2] rfl)
      · rw [if_pos c_35] at h
        refine lv_aload_n hx hb dX12_even_23 rfl (lv_at hl 0 rfl) ?_
        refine lv_iload_n hx hb dX12_even_24 rfl (lv_at hl 2 rfl) ?_
        refine lv_bipush (v := 20) hx hb dX12_even_25 (by decide) ?_
        refine lv_isub hx hb dX12_even_27 ?_
        obtain ⟨f_36, wl_37, r_38, z_39, h⟩ := gb_bd_s h
        refine gb_calli (va_runV (C := RX12) (As := [.int (p2 - 20)]) (rest := []) ⟨hx, hb, hml, hown, hq⟩ (mc_isPath l D cT tt b1 b hb1 n f_30 wl_31 (p2 - 20) f_36 wl_37 r_38 z_39) (cwV 1 hq (gb_gV w_1380 w_1382 s_4_3 w_14 w_1383) rfl rfl rfl (by decide +kernel) ⟨Nat.le_of_ble_eq_true rfl, Nat.le_of_ble_eq_true rfl⟩) (gb_preV (r := (RX12, TX12, 44)) (ci := 10) (q0 := 0) hSt hP rfl (gb_at b rfl) hS (fun q h => Nat.le_trans hb1 h.1) hP) rfl rfl hl.1 rfl (lv_room (Nat.le_of_ble_eq_true rfl)) dX12_even_28 ⟨Nat.le_of_ble_eq_true rfl, Nat.le_of_ble_eq_true rfl⟩) hS (fun _ h => h) (fun _ h => h) (fun q_40 H locs hY hk hS => ?_)
        obtain ⟨hq_40, hP⟩ := hY
        replace hq_40 := hq_40.symm
        subst hq_40
        refine lv_if_ne (tgt := 36) hx hb dX12_even_31 (by decide) (fun c_41 => ?_) (fun c_41 => ?_)
        · rw [if_neg c_41] at h
          exact L36 _ _ _ _ _ _ h hP hS (lv_sub hl [0, 2] rfl)
        · rw [if_pos c_41] at h
          refine lv_iconst (v := (-1)) hx hb dX12_even_34 (by decide) ?_
          obtain ⟨e1, e2, e3⟩ := gb_eq3 h
          exact W.iret (v := (-1)) hx hb hr (fun t ht hW => gb_ri ht ⟨e3, by rw [← e1, ← e2]; exact hP⟩ hS) hS.2.2 dX12_even_35
theorem dX12_richest_0 : decode cX12_richest 0 = .ok (.aload_n 0, 1) := dc_42 (show ((cX12_richest.data.toList.drop 0).take 1).map UInt8.toNat = [42] by decide +kernel)
theorem dX12_richest_1 : decode cX12_richest 1 = .ok (.iload_n 1, 1) := dc_27 (show ((cX12_richest.data.toList.drop 1).take 1).map UInt8.toNat = [27] by decide +kernel)
theorem dX12_richest_2 : decode cX12_richest 2 = .ok (.invokevirtual 319, 3) := dc_182 (show ((cX12_richest.data.toList.drop 2).take 3).map UInt8.toNat = [182, 1, 63] by decide +kernel) rfl
theorem dX12_richest_5 : decode cX12_richest 5 = .ok (.ifCond .eq 27, 3) := dc_153 (show ((cX12_richest.data.toList.drop 5).take 3).map UInt8.toNat = [153, 0, 27] by decide +kernel) rfl
theorem dX12_richest_32 : decode cX12_richest 32 = .ok (.iconst (-1), 1) := dc_2 (show ((cX12_richest.data.toList.drop 32).take 1).map UInt8.toNat = [2] by decide +kernel)
theorem dX12_richest_33 : decode cX12_richest 33 = .ok (.ireturn, 1) := dc_172 (show ((cX12_richest.data.toList.drop 33).take 1).map UInt8.toNat = [172] by decide +kernel)
theorem dX12_richest_8 : decode cX12_richest 8 = .ok (.aload_n 0, 1) := dc_42 (show ((cX12_richest.data.toList.drop 8).take 1).map UInt8.toNat = [42] by decide +kernel)
theorem dX12_richest_9 : decode cX12_richest 9 = .ok (.iconst 2, 1) := dc_5 (show ((cX12_richest.data.toList.drop 9).take 1).map UInt8.toNat = [5] by decide +kernel)
theorem dX12_richest_10 : decode cX12_richest 10 = .ok (.iload_n 2, 1) := dc_28 (show ((cX12_richest.data.toList.drop 10).take 1).map UInt8.toNat = [28] by decide +kernel)
theorem dX12_richest_11 : decode cX12_richest 11 = .ok (.invokevirtual 171, 3) := dc_182 (show ((cX12_richest.data.toList.drop 11).take 3).map UInt8.toNat = [182, 0, 171] by decide +kernel) rfl
theorem dX12_richest_14 : decode cX12_richest 14 = .ok (.ifCond .eq 18, 3) := dc_153 (show ((cX12_richest.data.toList.drop 14).take 3).map UInt8.toNat = [153, 0, 18] by decide +kernel) rfl
theorem dX12_richest_17 : decode cX12_richest 17 = .ok (.iload_n 3, 1) := dc_29 (show ((cX12_richest.data.toList.drop 17).take 1).map UInt8.toNat = [29] by decide +kernel)
theorem dX12_richest_18 : decode cX12_richest 18 = .ok (.ifCond .eq 16, 3) := dc_153 (show ((cX12_richest.data.toList.drop 18).take 3).map UInt8.toNat = [153, 0, 16] by decide +kernel) rfl
theorem dX12_richest_34 : decode cX12_richest 34 = .ok (.aload_n 0, 1) := dc_42 (show ((cX12_richest.data.toList.drop 34).take 1).map UInt8.toNat = [42] by decide +kernel)
theorem dX12_richest_35 : decode cX12_richest 35 = .ok (.iconst 2, 1) := dc_5 (show ((cX12_richest.data.toList.drop 35).take 1).map UInt8.toNat = [5] by decide +kernel)
theorem dX12_richest_36 : decode cX12_richest 36 = .ok (.iload_n 2, 1) := dc_28 (show ((cX12_richest.data.toList.drop 36).take 1).map UInt8.toNat = [28] by decide +kernel)
theorem dX12_richest_37 : decode cX12_richest 37 = .ok (.invokestatic 190, 3) := dc_184 (show ((cX12_richest.data.toList.drop 37).take 3).map UInt8.toNat = [184, 0, 190] by decide +kernel) rfl
theorem dX12_richest_40 : decode cX12_richest 40 = .ok (.putfield 288, 3) := dc_181 (show ((cX12_richest.data.toList.drop 40).take 3).map UInt8.toNat = [181, 1, 32] by decide +kernel) rfl
theorem dX12_richest_43 : decode cX12_richest 43 = .ok (.aload_n 0, 1) := dc_42 (show ((cX12_richest.data.toList.drop 43).take 1).map UInt8.toNat = [42] by decide +kernel)
theorem dX12_richest_44 : decode cX12_richest 44 = .ok (.iconst 1, 1) := dc_4 (show ((cX12_richest.data.toList.drop 44).take 1).map UInt8.toNat = [4] by decide +kernel)
theorem dX12_richest_45 : decode cX12_richest 45 = .ok (.invokevirtual 322, 3) := dc_182 (show ((cX12_richest.data.toList.drop 45).take 3).map UInt8.toNat = [182, 1, 66] by decide +kernel) rfl
theorem dX12_richest_48 : decode cX12_richest 48 = .ok (.istore 4, 2) := dc_54 (show ((cX12_richest.data.toList.drop 48).take 2).map UInt8.toNat = [54, 4] by decide +kernel) rfl
theorem dX12_richest_50 : decode cX12_richest 50 = .ok (.iload_n 3, 1) := dc_29 (show ((cX12_richest.data.toList.drop 50).take 1).map UInt8.toNat = [29] by decide +kernel)
theorem dX12_richest_51 : decode cX12_richest 51 = .ok (.ifCond .ne 8, 3) := dc_154 (show ((cX12_richest.data.toList.drop 51).take 3).map UInt8.toNat = [154, 0, 8] by decide +kernel) rfl
theorem dX12_richest_59 : decode cX12_richest 59 = .ok (.aload_n 0, 1) := dc_42 (show ((cX12_richest.data.toList.drop 59).take 1).map UInt8.toNat = [42] by decide +kernel)
theorem dX12_richest_60 : decode cX12_richest 60 = .ok (.iload_n 3, 1) := dc_29 (show ((cX12_richest.data.toList.drop 60).take 1).map UInt8.toNat = [29] by decide +kernel)
theorem dX12_richest_61 : decode cX12_richest 61 = .ok (.bipush 10, 2) := dc_16 (show ((cX12_richest.data.toList.drop 61).take 2).map UInt8.toNat = [16, 10] by decide +kernel) rfl
theorem dX12_richest_63 : decode cX12_richest 63 = .ok (.isub, 1) := dc_100 (show ((cX12_richest.data.toList.drop 63).take 1).map UInt8.toNat = [100] by decide +kernel)
theorem dX12_richest_64 : decode cX12_richest 64 = .ok (.invokevirtual 326, 3) := dc_182 (show ((cX12_richest.data.toList.drop 64).take 3).map UInt8.toNat = [182, 1, 70] by decide +kernel) rfl
theorem dX12_richest_67 : decode cX12_richest 67 = .ok (.ireturn, 1) := dc_172 (show ((cX12_richest.data.toList.drop 67).take 1).map UInt8.toNat = [172] by decide +kernel)
theorem dX12_richest_54 : decode cX12_richest 54 = .ok (.iload 4, 2) := dc_21 (show ((cX12_richest.data.toList.drop 54).take 2).map UInt8.toNat = [21, 4] by decide +kernel) rfl
theorem dX12_richest_56 : decode cX12_richest 56 = .ok (.goto 11, 3) := dc_167 (show ((cX12_richest.data.toList.drop 56).take 3).map UInt8.toNat = [167, 0, 11] by decide +kernel) rfl
theorem dX12_richest_21 : decode cX12_richest 21 = .ok (.aload_n 0, 1) := dc_42 (show ((cX12_richest.data.toList.drop 21).take 1).map UInt8.toNat = [42] by decide +kernel)
theorem dX12_richest_22 : decode cX12_richest 22 = .ok (.iload_n 3, 1) := dc_29 (show ((cX12_richest.data.toList.drop 22).take 1).map UInt8.toNat = [29] by decide +kernel)
theorem dX12_richest_23 : decode cX12_richest 23 = .ok (.bipush 10, 2) := dc_16 (show ((cX12_richest.data.toList.drop 23).take 2).map UInt8.toNat = [16, 10] by decide +kernel) rfl
theorem dX12_richest_25 : decode cX12_richest 25 = .ok (.isub, 1) := dc_100 (show ((cX12_richest.data.toList.drop 25).take 1).map UInt8.toNat = [100] by decide +kernel)
theorem dX12_richest_26 : decode cX12_richest 26 = .ok (.invokevirtual 214, 3) := dc_182 (show ((cX12_richest.data.toList.drop 26).take 3).map UInt8.toNat = [182, 0, 214] by decide +kernel) rfl
theorem dX12_richest_29 : decode cX12_richest 29 = .ok (.ifCond .ne 5, 3) := dc_154 (show ((cX12_richest.data.toList.drop 29).take 3).map UInt8.toNat = [154, 0, 5] by decide +kernel) rfl
def ms_richest_34 (n : Nat) (f : gb_F) (w : Int64) (v2 : Int32) (v3 : Int32) : gb_MR Int32 := gb_bd (ms_placeOf n f w 2 v2) (fun f_14 wl_15 r_16 => gb_lt (gb_u f_14 0 (upd (f_14 0) 25 r_16)) (fun f_19 => gb_bd (ms_bestWorth n f_19 wl_15 1) (fun f_20 wl_21 r_22 => (if v3 = 0 then some (f_20, wl_21, r_22) else gb_bd (ms_figure n f_20 wl_21 (v3 - 10)) (fun f_26 wl_27 r_28 => some (f_26, wl_27, r_28))))))
def ms_richest (n : Nat) (f : gb_F) (w : Int64) (p1 : Int32) (p2 : Int32) (p3 : Int32) : gb_MR Int32 := gb_bd (ms_canMarch n f w p1) (fun f_1 wl_2 r_3 => (if r_3 = 0 then some (f_1, wl_2, (-1)) else gb_bd (ms_isOf n f_1 wl_2 2 p2) (fun f_7 wl_8 r_9 => (if r_9 = 0 then some (f_7, wl_8, (-1)) else (if p3 = 0 then ms_richest_34 n f_7 wl_8 p2 p3 else gb_bd (ms_isGoose n f_7 wl_8 (p3 - 10)) (fun f_31 wl_32 r_33 => (if r_33 = 0 then some (f_31, wl_32, (-1)) else ms_richest_34 n f_31 wl_32 p2 p3)))))))
set_option maxHeartbeats 8000000 in
set_option maxRecDepth 100000 in
theorem mc_richest (l : Launch) (D : va_G) (cT : Nat → ClassId) (tt : Nat → Nat) (b1 b : Nat) (hb1 : b1 ≤ b) (n : Nat) (f : gb_F) (w : Int64) (p1 : Int32) (p2 : Int32) (p3 : Int32) (fE : gb_F) (wE : Int64) (rE : Int32) (h : ms_richest n f w p1 p2 p3 = some (fE, wE, rE)) : Met l yX12_richest (.code yX12_richest cX12_richest 5 (some FieldType.int) :: gb_wA) ({ frames := 6, cells := 0, slots := 0, locals := 138 }) (gb_Pc D cT tt b1 [.ref (b + 0), .int p1, .int p2, .int p3] (fun h => va_P D vwCl (gb_wl b (gb_MW cT b f w)) h)) (gb_Qi (fun r h => r = rE ∧ va_P D vwCl (gb_wl b (gb_MW cT b fE wE)) h) (gb_fr b 22)) 0 0 (gb_fr b 22) := by
  refine Met.ofW (cc := cX12_richest) (maxL := 5) (ret := (some FieldType.int)) (by decide) rfl ?_
  intro p e s m args below meth c s₁ B hml hv
  obtain ⟨rfl, hSt, hP⟩ := hv
  have hx := B.exec
  have hb := B.bytes
  have hr := B.returns
  have hts := atoms_spec (ws := .code yX12_richest cX12_richest 5 (some FieldType.int) :: gb_wA) B.pre
  have hq : ∀ w ∈ gb_wA, w.before _ s = true := fun w h => hts w (List.mem_cons_of_mem _ h)
  have hown : s.vm.findClass RX12 = some m.cls := findClass_of_methodNamed B.named
  have hlocks := B.notSynchronized
  clear B hts
  have hK := hSt.1
  have hS : va_S (gb_fr b 22) s.heap s.heap [] := va_S.rf
  have hl := lv_entry ([.ref (b + 0), .int p1, .int p2, .int p3]) (n := 5) (Nat.le_of_ble_eq_true rfl)
  rw [lg_entry_eq]
  generalize (lg_sl ([.ref (b + 0), .int p1, .int p2, .int p3]) ++ List.replicate (5 - (lg_sl ([.ref (b + 0), .int p1, .int p2, .int p3])).length) Slot.unset).toArray = ls at hl ⊢
  replace hl : lv_has ls 5 [(0, .ref (b + 0)), (1, .int p1), (2, .int p2), (3, .int p3)] := hl
  have L34 : ∀ (f : gb_F) (w : Int64) (v2 : Int32) (v3 : Int32) (H : Heap) (locs : List Loc) (ls : Array Slot), ms_richest_34 n f w v2 v3 = some (fE, wE, rE) → va_P D vwCl (gb_wl b (gb_MW cT b f w)) H → va_S (gb_fr b 22) s.heap H locs → lv_has ls 5 [(0, .ref (b + 0)), (2, .int v2), (3, .int v3)] → W p l e (headSpec (.code yX12_richest cX12_richest 5 (some FieldType.int) :: gb_wA) ({ frames := 6, cells := 0, slots := 0, locals := 138 })).room s m ([.ref (b + 0), .int p1, .int p2, .int p3]).toArray below meth c H locs 0 0 (MQ below (gb_Qi (fun r h => r = rE ∧ va_P D vwCl (gb_wl b (gb_MW cT b fE wE)) h) (gb_fr b 22)) ([.ref (b + 0), .int p1, .int p2, .int p3]).toArray s 0 0 (gb_fr b 22)) (F0 m 34 ls []) := by
    clear h hP hS hl ls f w
    intro f w v2 v3 H locs ls h hP hS hl
    unfold ms_richest_34 at h
    refine lv_aload_n hx hb dX12_richest_34 rfl (lv_at hl 0 rfl) ?_
    refine lv_iconst (v := 2) hx hb dX12_richest_35 (by decide) ?_
    refine lv_iload_n hx hb dX12_richest_36 rfl (lv_at hl 1 rfl) ?_
    obtain ⟨f_14, wl_15, r_16, z_17, h⟩ := gb_bd_s h
    refine gb_calli (va_runS (As := [.int 2, .int v2]) (rest := [.ref (b + 0)]) ⟨hx, hb, hml, hown, hq⟩ (mc_placeOf l D cT tt b1 b hb1 n f w 2 v2 f_14 wl_15 r_16 z_17) (va_cwS 2 hq (gb_gS w_1361 w_1362 w_14 w_1363) rfl rfl rfl (by decide +kernel) ⟨Nat.le_of_ble_eq_true rfl, Nat.le_of_ble_eq_true rfl⟩) (gb_preS hSt hS (fun q h => Nat.le_trans hb1 h.1) hP) rfl rfl hl.1 rfl (lv_room (Nat.le_of_ble_eq_true rfl)) dX12_richest_37 ⟨Nat.le_of_ble_eq_true rfl, Nat.le_of_ble_eq_true rfl⟩) hS (fun _ h => h) (fun _ h => h) (fun q_18 H locs hY hk hS => ?_)
    obtain ⟨hq_18, hP⟩ := hY
    replace hq_18 := hq_18.symm
    subst hq_18
    refine gb_put (ci := 10) (v := (.int r_16)) (ty := .int) (C := RX12) (T := TX12) (N := 44) hx hb hq i_X12 tyX12 tyX12_ok nmX12 hown hK hP (fun k h => ⟨Nat.le_add_right b k, Nat.add_lt_add_left h b⟩) hS rfl 0 rfl rfl 25 (by decide) (hq _ w_1149) (fun _ h9 => h9) rfl (by decide +kernel) rfl rfl (Nat.le_of_ble_eq_true rfl) dX12_richest_40 (fun H locs hP hz_ hS => ?_)
    obtain ⟨f_19, ef_19⟩ : ∃ q, q = (gb_u f_14 0 (upd (f_14 0) 25 r_16)) := ⟨_, rfl⟩
    replace hP : va_P D vwCl (gb_wl b (gb_MW cT b f_19 wl_15)) H := by rw [ef_19]; exact hP
    replace h := gb_lt_s ef_19 h
    refine lv_aload_n hx hb dX12_richest_43 rfl (lv_at hl 0 rfl) ?_
    refine lv_iconst (v := 1) hx hb dX12_richest_44 (by decide) ?_
    obtain ⟨f_20, wl_21, r_22, z_23, h⟩ := gb_bd_s h
    refine gb_calli (va_runV (C := RX12) (As := [.int 1]) (rest := []) ⟨hx, hb, hml, hown, hq⟩ (mc_bestWorth l D cT tt b1 b hb1 n f_19 wl_15 1 f_20 wl_21 r_22 z_23) (cwV 1 hq (gb_gV w_1524 w_1526 s_5_14 w_14 w_1527) rfl rfl rfl (by decide +kernel) ⟨Nat.le_of_ble_eq_true rfl, Nat.le_of_ble_eq_true rfl⟩) (gb_preV (r := (RX12, TX12, 44)) (ci := 10) (q0 := 0) hSt hP rfl (gb_at b rfl) hS (fun q h => Nat.le_trans hb1 h.1) hP) rfl rfl hl.1 rfl (lv_room (Nat.le_of_ble_eq_true rfl)) dX12_richest_45 ⟨Nat.le_of_ble_eq_true rfl, Nat.le_of_ble_eq_true rfl⟩) hS (fun _ h => h) (fun _ h => h) (fun q_24 H locs hY hk hS => ?_)
    obtain ⟨hq_24, hP⟩ := hY
    replace hq_24 := hq_24.symm
    subst hq_24
    refine lv_istore (lv' := [(4, .int r_22), (0, .ref (b + 0)), (2, .int v2), (3, .int v3)]) hx hb dX12_richest_48 hl (by decide) rfl (fun ls hl => ?_)
    refine lv_iload_n hx hb dX12_richest_50 rfl (lv_at hl 3 rfl) ?_
    refine lv_if_ne (tgt := 59) hx hb dX12_richest_51 (by decide) (fun c_25 => ?_) (fun c_25 => ?_)
    · rw [if_neg c_25] at h
      refine lv_aload_n hx hb dX12_richest_59 rfl (lv_at hl 1 rfl) ?_
      refine lv_iload_n hx hb dX12_richest_60 rfl (lv_at hl 3 rfl) ?_
      refine lv_bipush (v := 10) hx hb dX12_richest_61 (by decide) ?_
      refine lv_isub hx hb dX12_richest_63 ?_
      obtain ⟨f_26, wl_27, r_28, z_29, h⟩ := gb_bd_s h
      refine gb_calli (va_runV (C := RX12) (As := [.int (v3 - 10)]) (rest := []) ⟨hx, hb, hml, hown, hq⟩ (mc_figure l D cT tt b1 b hb1 n f_20 wl_21 (v3 - 10) f_26 wl_27 r_28 z_29) (cwV 1 hq (gb_gV w_1552 w_1554 s_6_5 w_14 w_1555) rfl rfl rfl (by decide +kernel) ⟨Nat.le_of_ble_eq_true rfl, Nat.le_of_ble_eq_true rfl⟩) (gb_preV (r := (RX12, TX12, 44)) (ci := 10) (q0 := 0) hSt hP rfl (gb_at b rfl) hS (fun q h => Nat.le_trans hb1 h.1) hP) rfl rfl hl.1 rfl (lv_room (Nat.le_of_ble_eq_true rfl)) dX12_richest_64 ⟨Nat.le_of_ble_eq_true rfl, Nat.le_of_ble_eq_true rfl⟩) hS (fun _ h => h) (fun _ h => h) (fun q_30 H locs hY hk hS => ?_)
      obtain ⟨hq_30, hP⟩ := hY
      replace hq_30 := hq_30.symm
      subst hq_30
      obtain ⟨e1, e2, e3⟩ := gb_eq3 h
      exact W.iret (v := r_28) hx hb hr (fun t ht hW => gb_ri ht ⟨e3, by rw [← e1, ← e2]; exact hP⟩ hS) hS.2.2 dX12_richest_67
    · rw [if_pos c_25] at h
      refine lv_iload hx hb dX12_richest_54 (lv_at hl 0 rfl) ?_
      refine lv_goto (tgt := 67) hx hb dX12_richest_56 (by decide) ?_
      obtain ⟨e1, e2, e3⟩ := gb_eq3 h
      exact W.iret (v := r_22) hx hb hr (fun t ht hW => gb_ri ht ⟨e3, by rw [← e1, ← e2]; exact hP⟩ hS) hS.2.2 dX12_richest_67
  unfold ms_richest at h
  refine lv_aload_n hx hb dX12_richest_0 rfl (lv_at hl 0 rfl) ?_
  refine lv_iload_n hx hb dX12_richest_1 rfl (lv_at hl 1 rfl) ?_
  obtain ⟨f_1, wl_2, r_3, z_4, h⟩ := gb_bd_s h
  refine gb_calli (va_runV (C := RX12) (As := [.int p1]) (rest := []) ⟨hx, hb, hml, hown, hq⟩ (mc_canMarch l D cT tt b1 b hb1 n f w p1 f_1 wl_2 r_3 z_4) (cwV 1 hq (gb_gV w_1520 w_1522 s_5_13 w_14 w_1523) rfl rfl rfl (by decide +kernel) ⟨Nat.le_of_ble_eq_true rfl, Nat.le_of_ble_eq_true rfl⟩) (gb_preV (r := (RX12, TX12, 44)) (ci := 10) (q0 := 0) hSt hP rfl (gb_at b rfl) hS (fun q h => Nat.le_trans hb1 h.1) hP) rfl rfl hl.1 rfl (lv_room (Nat.le_of_ble_eq_true rfl)) dX12_richest_2 ⟨Nat.le_of_ble_eq_true rfl, Nat.le_of_ble_eq_true rfl⟩) hS (fun _ h => h) (fun _ h => h) (fun q_5 H locs hY hk hS => ?_)
  obtain ⟨hq_5, hP⟩ := hY
  replace hq_5 := hq_5.symm
  subst hq_5
  refine lv_if_eq (tgt := 32) hx hb dX12_richest_5 (by decide) (fun c_6 => ?_) (fun c_6 => ?_)
  · rw [if_pos c_6] at h
    refine lv_iconst (v := (-1)) hx hb dX12_richest_32 (by decide) ?_
    obtain ⟨e1, e2, e3⟩ := gb_eq3 h
    exact W.iret (v := (-1)) hx hb hr (fun t ht hW => gb_ri ht ⟨e3, by rw [← e1, ← e2]; exact hP⟩ hS) hS.2.2 dX12_richest_33
  · rw [if_neg c_6] at h
    refine lv_aload_n hx hb dX12_richest_8 rfl (lv_at hl 0 rfl) ?_
    refine lv_iconst (v := 2) hx hb dX12_richest_9 (by decide) ?_
    refine lv_iload_n hx hb dX12_richest_10 rfl (lv_at hl 2 rfl) ?_
    obtain ⟨f_7, wl_8, r_9, z_10, h⟩ := gb_bd_s h
    refine gb_calli (va_runV (C := RX12) (As := [.int 2, .int p2]) (rest := []) ⟨hx, hb, hml, hown, hq⟩ (mc_isOf l D cT tt b1 b hb1 n f_1 wl_2 2 p2 f_7 wl_8 r_9 z_10) (cwV 2 hq (gb_gV w_1272 w_1274 s_3_0 w_14 w_1275) rfl rfl rfl (by decide +kernel) ⟨Nat.le_of_ble_eq_true rfl, Nat.le_of_ble_eq_true rfl⟩) (gb_preV (r := (RX12, TX12, 44)) (ci := 10) (q0 := 0) hSt hP rfl (gb_at b rfl) hS (fun q h => Nat.le_trans hb1 h.1) hP) rfl rfl hl.1 rfl (lv_room (Nat.le_of_ble_eq_true rfl)) dX12_richest_11 ⟨Nat.le_of_ble_eq_true rfl, Nat.le_of_ble_eq_true rfl⟩) hS (fun _ h => h) (fun _ h => h) (fun q_11 H locs hY hk hS => ?_)
    obtain ⟨hq_11, hP⟩ := hY
    replace hq_11 := hq_11.symm
    subst hq_11
    refine lv_if_eq (tgt := 32) hx hb dX12_richest_14 (by decide) (fun c_12 => ?_) (fun c_12 => ?_)
    · rw [if_pos c_12] at h
      refine lv_iconst (v := (-1)) hx hb dX12_richest_32 (by decide) ?_
      obtain ⟨e1, e2, e3⟩ := gb_eq3 h
      exact W.iret (v := (-1)) hx hb hr (fun t ht hW => gb_ri ht ⟨e3, by rw [← e1, ← e2]; exact hP⟩ hS) hS.2.2 dX12_richest_33
    · rw [if_neg c_12] at h
      refine lv_iload_n hx hb dX12_richest_17 rfl (lv_at hl 3 rfl) ?_
      refine lv_if_eq (tgt := 34) hx hb dX12_richest_18 (by decide) (fun c_13 => ?_) (fun c_13 => ?_)
      · rw [if_pos c_13] at h
        exact L34 _ _ _ _ _ _ _ h hP hS (lv_sub hl [0, 2, 3] rfl)
      · rw [if_neg c_13] at h
        refine lv_aload_n hx hb dX12_richest_21 rfl (lv_at hl 0 rfl) ?_
        refine lv_iload_n hx hb dX12_richest_22 rfl (lv_at hl 3 rfl) ?_
        refine lv_bipush (v := 10) hx hb dX12_richest_23 (by decide) ?_
        refine lv_isub hx hb dX12_richest_25 ?_
        obtain ⟨f_31, wl_32, r_33, z_34, h⟩ := gb_bd_s h
        refine gb_calli (va_runV (C := RX12) (As := [.int (p3 - 10)]) (rest := []) ⟨hx, hb, hml, hown, hq⟩ (mc_isGoose l D cT tt b1 b hb1 n f_7 wl_8 (p3 - 10) f_31 wl_32 r_33 z_34) (cwV 1 hq (gb_gV w_1392 w_1394 s_4_6 w_14 w_1395) rfl rfl rfl (by decide +kernel) ⟨Nat.le_of_ble_eq_true rfl, Nat.le_of_ble_eq_true rfl⟩) (gb_preV (r := (RX12, TX12, 44)) (ci := 10) (q0 := 0) hSt hP rfl (gb_at b rfl) hS (fun q h => Nat.le_trans hb1 h.1) hP) rfl rfl hl.1 rfl (lv_room (Nat.le_of_ble_eq_true rfl)) dX12_richest_26 ⟨Nat.le_of_ble_eq_true rfl, Nat.le_of_ble_eq_true rfl⟩) hS (fun _ h => h) (fun _ h => h) (fun q_35 H locs hY hk hS => ?_)
        obtain ⟨hq_35, hP⟩ := hY
        replace hq_35 := hq_35.symm
        subst hq_35
        refine lv_if_ne (tgt := 34) hx hb dX12_richest_29 (by decide) (fun c_36 => ?_) (fun c_36 => ?_)
        · rw [if_neg c_36] at h
          exact L34 _ _ _ _ _ _ _ h hP hS (lv_sub hl [0, 2, 3] rfl)
        · rw [if_pos c_36] at h
          refine lv_iconst (v := (-1)) hx hb dX12_richest_32 (by decide) ?_
          obtain ⟨e1, e2, e3⟩ := gb_eq3 h
          exact W.iret (v := (-1)) hx hb hr (fun t ht hW => gb_ri ht ⟨e3, by rw [← e1, ← e2]; exact hP⟩ hS) hS.2.2 dX12_richest_33
theorem dX12_tar_0 : decode cX12_tar 0 = .ok (.aload_n 0, 1) := dc_42 (show ((cX12_tar.data.toList.drop 0).take 1).map UInt8.toNat = [42] by decide +kernel)
theorem dX12_tar_1 : decode cX12_tar 1 = .ok (.iload_n 1, 1) := dc_27 (show ((cX12_tar.data.toList.drop 1).take 1).map UInt8.toNat = [27] by decide +kernel)
theorem dX12_tar_2 : decode cX12_tar 2 = .ok (.invokevirtual 205, 3) := dc_182 (show ((cX12_tar.data.toList.drop 2).take 3).map UInt8.toNat = [182, 0, 205] by decide +kernel) rfl
theorem dX12_tar_5 : decode cX12_tar 5 = .ok (.ifCond .eq 22, 3) := dc_153 (show ((cX12_tar.data.toList.drop 5).take 3).map UInt8.toNat = [153, 0, 22] by decide +kernel) rfl
theorem dX12_tar_27 : decode cX12_tar 27 = .ok (.iconst (-1), 1) := dc_2 (show ((cX12_tar.data.toList.drop 27).take 1).map UInt8.toNat = [2] by decide +kernel)
theorem dX12_tar_28 : decode cX12_tar 28 = .ok (.ireturn, 1) := dc_172 (show ((cX12_tar.data.toList.drop 28).take 1).map UInt8.toNat = [172] by decide +kernel)
theorem dX12_tar_8 : decode cX12_tar 8 = .ok (.aload_n 0, 1) := dc_42 (show ((cX12_tar.data.toList.drop 8).take 1).map UInt8.toNat = [42] by decide +kernel)
theorem dX12_tar_9 : decode cX12_tar 9 = .ok (.iload_n 2, 1) := dc_28 (show ((cX12_tar.data.toList.drop 9).take 1).map UInt8.toNat = [28] by decide +kernel)
theorem dX12_tar_10 : decode cX12_tar 10 = .ok (.invokevirtual 208, 3) := dc_182 (show ((cX12_tar.data.toList.drop 10).take 3).map UInt8.toNat = [182, 0, 208] by decide +kernel) rfl
theorem dX12_tar_13 : decode cX12_tar 13 = .ok (.ifCond .eq 14, 3) := dc_153 (show ((cX12_tar.data.toList.drop 13).take 3).map UInt8.toNat = [153, 0, 14] by decide +kernel) rfl
theorem dX12_tar_16 : decode cX12_tar 16 = .ok (.iload_n 3, 1) := dc_29 (show ((cX12_tar.data.toList.drop 16).take 1).map UInt8.toNat = [29] by decide +kernel)
theorem dX12_tar_17 : decode cX12_tar 17 = .ok (.iconst 0, 1) := dc_3 (show ((cX12_tar.data.toList.drop 17).take 1).map UInt8.toNat = [3] by decide +kernel)
theorem dX12_tar_18 : decode cX12_tar 18 = .ok (.sipush 9999, 3) := dc_17 (show ((cX12_tar.data.toList.drop 18).take 3).map UInt8.toNat = [17, 39, 15] by decide +kernel) rfl
theorem dX12_tar_21 : decode cX12_tar 21 = .ok (.invokestatic 129, 3) := dc_184 (show ((cX12_tar.data.toList.drop 21).take 3).map UInt8.toNat = [184, 0, 129] by decide +kernel) rfl
theorem dX12_tar_24 : decode cX12_tar 24 = .ok (.ifCond .ne 5, 3) := dc_154 (show ((cX12_tar.data.toList.drop 24).take 3).map UInt8.toNat = [154, 0, 5] by decide +kernel) rfl
theorem dX12_tar_29 : decode cX12_tar 29 = .ok (.aload_n 0, 1) := dc_42 (show ((cX12_tar.data.toList.drop 29).take 1).map UInt8.toNat = [42] by decide +kernel)
theorem dX12_tar_30 : decode cX12_tar 30 = .ok (.iload_n 2, 1) := dc_28 (show ((cX12_tar.data.toList.drop 30).take 1).map UInt8.toNat = [28] by decide +kernel)
theorem dX12_tar_31 : decode cX12_tar 31 = .ok (.iconst 0, 1) := dc_3 (show ((cX12_tar.data.toList.drop 31).take 1).map UInt8.toNat = [3] by decide +kernel)
theorem dX12_tar_32 : decode cX12_tar 32 = .ok (.invokevirtual 211, 3) := dc_182 (show ((cX12_tar.data.toList.drop 32).take 3).map UInt8.toNat = [182, 0, 211] by decide +kernel) rfl
theorem dX12_tar_35 : decode cX12_tar 35 = .ok (.istore 4, 2) := dc_54 (show ((cX12_tar.data.toList.drop 35).take 2).map UInt8.toNat = [54, 4] by decide +kernel) rfl
theorem dX12_tar_37 : decode cX12_tar 37 = .ok (.iconst 0, 1) := dc_3 (show ((cX12_tar.data.toList.drop 37).take 1).map UInt8.toNat = [3] by decide +kernel)
theorem dX12_tar_38 : decode cX12_tar 38 = .ok (.istore 5, 2) := dc_54 (show ((cX12_tar.data.toList.drop 38).take 2).map UInt8.toNat = [54, 5] by decide +kernel) rfl
theorem dX12_tar_40 : decode cX12_tar 40 = .ok (.iconst 0, 1) := dc_3 (show ((cX12_tar.data.toList.drop 40).take 1).map UInt8.toNat = [3] by decide +kernel)
theorem dX12_tar_41 : decode cX12_tar 41 = .ok (.istore 6, 2) := dc_54 (show ((cX12_tar.data.toList.drop 41).take 2).map UInt8.toNat = [54, 6] by decide +kernel) rfl
theorem dX12_tar_43 : decode cX12_tar 43 = .ok (.iload 6, 2) := dc_21 (show ((cX12_tar.data.toList.drop 43).take 2).map UInt8.toNat = [21, 6] by decide +kernel) rfl
theorem dX12_tar_45 : decode cX12_tar 45 = .ok (.aload_n 0, 1) := dc_42 (show ((cX12_tar.data.toList.drop 45).take 1).map UInt8.toNat = [42] by decide +kernel)
theorem dX12_tar_46 : decode cX12_tar 46 = .ok (.invokevirtual 202, 3) := dc_182 (show ((cX12_tar.data.toList.drop 46).take 3).map UInt8.toNat = [182, 0, 202] by decide +kernel) rfl
theorem dX12_tar_49 : decode cX12_tar 49 = .ok (.if_icmp .ge 31, 3) := dc_162 (show ((cX12_tar.data.toList.drop 49).take 3).map UInt8.toNat = [162, 0, 31] by decide +kernel) rfl
theorem dX12_tar_80 : decode cX12_tar 80 = .ok (.iconst 0, 1) := dc_3 (show ((cX12_tar.data.toList.drop 80).take 1).map UInt8.toNat = [3] by decide +kernel)
theorem dX12_tar_81 : decode cX12_tar 81 = .ok (.istore 6, 2) := dc_54 (show ((cX12_tar.data.toList.drop 81).take 2).map UInt8.toNat = [54, 6] by decide +kernel) rfl
theorem dX12_tar_83 : decode cX12_tar 83 = .ok (.bipush 12, 2) := dc_16 (show ((cX12_tar.data.toList.drop 83).take 2).map UInt8.toNat = [16, 12] by decide +kernel) rfl
theorem dX12_tar_85 : decode cX12_tar 85 = .ok (.istore 7, 2) := dc_54 (show ((cX12_tar.data.toList.drop 85).take 2).map UInt8.toNat = [54, 7] by decide +kernel) rfl
theorem dX12_tar_87 : decode cX12_tar 87 = .ok (.iload 7, 2) := dc_21 (show ((cX12_tar.data.toList.drop 87).take 2).map UInt8.toNat = [21, 7] by decide +kernel) rfl
theorem dX12_tar_89 : decode cX12_tar 89 = .ok (.ifCond .le 95, 3) := dc_158 (show ((cX12_tar.data.toList.drop 89).take 3).map UInt8.toNat = [158, 0, 95] by decide +kernel) rfl
theorem dX12_tar_184 : decode cX12_tar 184 = .ok (.iload 5, 2) := dc_21 (show ((cX12_tar.data.toList.drop 184).take 2).map UInt8.toNat = [21, 5] by decide +kernel) rfl
theorem dX12_tar_186 : decode cX12_tar 186 = .ok (.iload_n 3, 1) := dc_29 (show ((cX12_tar.data.toList.drop 186).take 1).map UInt8.toNat = [29] by decide +kernel)
theorem dX12_tar_187 : decode cX12_tar 187 = .ok (.if_icmp .le 7, 3) := dc_164 (show ((cX12_tar.data.toList.drop 187).take 3).map UInt8.toNat = [164, 0, 7] by decide +kernel) rfl
theorem dX12_tar_194 : decode cX12_tar 194 = .ok (.iload 6, 2) := dc_21 (show ((cX12_tar.data.toList.drop 194).take 2).map UInt8.toNat = [21, 6] by decide +kernel) rfl
theorem dX12_tar_196 : decode cX12_tar 196 = .ok (.ireturn, 1) := dc_172 (show ((cX12_tar.data.toList.drop 196).take 1).map UInt8.toNat = [172] by decide +kernel)
theorem dX12_tar_190 : decode cX12_tar 190 = .ok (.iconst (-1), 1) := dc_2 (show ((cX12_tar.data.toList.drop 190).take 1).map UInt8.toNat = [2] by decide +kernel)
theorem dX12_tar_191 : decode cX12_tar 191 = .ok (.goto 5, 3) := dc_167 (show ((cX12_tar.data.toList.drop 191).take 3).map UInt8.toNat = [167, 0, 5] by decide +kernel) rfl
theorem dX12_tar_92 : decode cX12_tar 92 = .ok (.iconst 0, 1) := dc_3 (show ((cX12_tar.data.toList.drop 92).take 1).map UInt8.toNat = [3] by decide +kernel)
theorem dX12_tar_93 : decode cX12_tar 93 = .ok (.istore 8, 2) := dc_54 (show ((cX12_tar.data.toList.drop 93).take 2).map UInt8.toNat = [54, 8] by decide +kernel) rfl
theorem dX12_tar_95 : decode cX12_tar 95 = .ok (.iload 8, 2) := dc_21 (show ((cX12_tar.data.toList.drop 95).take 2).map UInt8.toNat = [21, 8] by decide +kernel) rfl
theorem dX12_tar_97 : decode cX12_tar 97 = .ok (.aload_n 0, 1) := dc_42 (show ((cX12_tar.data.toList.drop 97).take 1).map UInt8.toNat = [42] by decide +kernel)
theorem dX12_tar_98 : decode cX12_tar 98 = .ok (.invokevirtual 202, 3) := dc_182 (show ((cX12_tar.data.toList.drop 98).take 3).map UInt8.toNat = [182, 0, 202] by decide +kernel) rfl
theorem dX12_tar_101 : decode cX12_tar 101 = .ok (.if_icmp .ge 77, 3) := dc_162 (show ((cX12_tar.data.toList.drop 101).take 3).map UInt8.toNat = [162, 0, 77] by decide +kernel) rfl
theorem dX12_tar_178 : decode cX12_tar 178 = .ok (.iinc 7 (-1), 3) := dc_132 (show ((cX12_tar.data.toList.drop 178).take 3).map UInt8.toNat = [132, 7, 255] by decide +kernel) rfl
theorem dX12_tar_181 : decode cX12_tar 181 = .ok (.goto (-94), 3) := dc_167 (show ((cX12_tar.data.toList.drop 181).take 3).map UInt8.toNat = [167, 255, 162] by decide +kernel) rfl
theorem dX12_tar_104 : decode cX12_tar 104 = .ok (.aload_n 0, 1) := dc_42 (show ((cX12_tar.data.toList.drop 104).take 1).map UInt8.toNat = [42] by decide +kernel)
theorem dX12_tar_105 : decode cX12_tar 105 = .ok (.iload 8, 2) := dc_21 (show ((cX12_tar.data.toList.drop 105).take 2).map UInt8.toNat = [21, 8] by decide +kernel) rfl
theorem dX12_tar_107 : decode cX12_tar 107 = .ok (.iconst 0, 1) := dc_3 (show ((cX12_tar.data.toList.drop 107).take 1).map UInt8.toNat = [3] by decide +kernel)
theorem dX12_tar_108 : decode cX12_tar 108 = .ok (.invokevirtual 217, 3) := dc_182 (show ((cX12_tar.data.toList.drop 108).take 3).map UInt8.toNat = [182, 0, 217] by decide +kernel) rfl
theorem dX12_tar_111 : decode cX12_tar 111 = .ok (.aload_n 0, 1) := dc_42 (show ((cX12_tar.data.toList.drop 111).take 1).map UInt8.toNat = [42] by decide +kernel)
theorem dX12_tar_112 : decode cX12_tar 112 = .ok (.iload 8, 2) := dc_21 (show ((cX12_tar.data.toList.drop 112).take 2).map UInt8.toNat = [21, 8] by decide +kernel) rfl
theorem dX12_tar_114 : decode cX12_tar 114 = .ok (.iconst 1, 1) := dc_4 (show ((cX12_tar.data.toList.drop 114).take 1).map UInt8.toNat = [4] by decide +kernel)
theorem dX12_tar_115 : decode cX12_tar 115 = .ok (.invokevirtual 217, 3) := dc_182 (show ((cX12_tar.data.toList.drop 115).take 3).map UInt8.toNat = [182, 0, 217] by decide +kernel) rfl
theorem dX12_tar_118 : decode cX12_tar 118 = .ok (.iadd, 1) := dc_96 (show ((cX12_tar.data.toList.drop 118).take 1).map UInt8.toNat = [96] by decide +kernel)
theorem dX12_tar_119 : decode cX12_tar 119 = .ok (.iconst 2, 1) := dc_5 (show ((cX12_tar.data.toList.drop 119).take 1).map UInt8.toNat = [5] by decide +kernel)
theorem dX12_tar_120 : decode cX12_tar 120 = .ok (.isub, 1) := dc_100 (show ((cX12_tar.data.toList.drop 120).take 1).map UInt8.toNat = [100] by decide +kernel)
theorem dX12_tar_121 : decode cX12_tar 121 = .ok (.iconst 1, 1) := dc_4 (show ((cX12_tar.data.toList.drop 121).take 1).map UInt8.toNat = [4] by decide +kernel)
theorem dX12_tar_122 : decode cX12_tar 122 = .ok (.aload_n 0, 1) := dc_42 (show ((cX12_tar.data.toList.drop 122).take 1).map UInt8.toNat = [42] by decide +kernel)
theorem dX12_tar_123 : decode cX12_tar 123 = .ok (.iload 8, 2) := dc_21 (show ((cX12_tar.data.toList.drop 123).take 2).map UInt8.toNat = [21, 8] by decide +kernel) rfl
theorem dX12_tar_125 : decode cX12_tar 125 = .ok (.iconst 3, 1) := dc_6 (show ((cX12_tar.data.toList.drop 125).take 1).map UInt8.toNat = [6] by decide +kernel)
theorem dX12_tar_126 : decode cX12_tar 126 = .ok (.invokevirtual 217, 3) := dc_182 (show ((cX12_tar.data.toList.drop 126).take 3).map UInt8.toNat = [182, 0, 217] by decide +kernel) rfl
theorem dX12_tar_129 : decode cX12_tar 129 = .ok (.iadd, 1) := dc_96 (show ((cX12_tar.data.toList.drop 129).take 1).map UInt8.toNat = [96] by decide +kernel)
theorem dX12_tar_130 : decode cX12_tar 130 = .ok (.imul, 1) := dc_104 (show ((cX12_tar.data.toList.drop 130).take 1).map UInt8.toNat = [104] by decide +kernel)
theorem dX12_tar_131 : decode cX12_tar 131 = .ok (.istore 9, 2) := dc_54 (show ((cX12_tar.data.toList.drop 131).take 2).map UInt8.toNat = [54, 9] by decide +kernel) rfl
theorem dX12_tar_133 : decode cX12_tar 133 = .ok (.iconst 0, 1) := dc_3 (show ((cX12_tar.data.toList.drop 133).take 1).map UInt8.toNat = [3] by decide +kernel)
theorem dX12_tar_134 : decode cX12_tar 134 = .ok (.istore 10, 2) := dc_54 (show ((cX12_tar.data.toList.drop 134).take 2).map UInt8.toNat = [54, 10] by decide +kernel) rfl
theorem dX12_tar_136 : decode cX12_tar 136 = .ok (.iload 10, 2) := dc_21 (show ((cX12_tar.data.toList.drop 136).take 2).map UInt8.toNat = [21, 10] by decide +kernel) rfl
theorem dX12_tar_138 : decode cX12_tar 138 = .ok (.iload 4, 2) := dc_21 (show ((cX12_tar.data.toList.drop 138).take 2).map UInt8.toNat = [21, 4] by decide +kernel) rfl
theorem dX12_tar_140 : decode cX12_tar 140 = .ok (.if_icmp .ge 32, 3) := dc_162 (show ((cX12_tar.data.toList.drop 140).take 3).map UInt8.toNat = [162, 0, 32] by decide +kernel) rfl
theorem dX12_tar_172 : decode cX12_tar 172 = .ok (.iinc 8 1, 3) := dc_132 (show ((cX12_tar.data.toList.drop 172).take 3).map UInt8.toNat = [132, 8, 1] by decide +kernel) rfl
theorem dX12_tar_175 : decode cX12_tar 175 = .ok (.goto (-80), 3) := dc_167 (show ((cX12_tar.data.toList.drop 175).take 3).map UInt8.toNat = [167, 255, 176] by decide +kernel) rfl
theorem dX12_tar_143 : decode cX12_tar 143 = .ok (.iload 9, 2) := dc_21 (show ((cX12_tar.data.toList.drop 143).take 2).map UInt8.toNat = [21, 9] by decide +kernel) rfl
theorem dX12_tar_145 : decode cX12_tar 145 = .ok (.iload 7, 2) := dc_21 (show ((cX12_tar.data.toList.drop 145).take 2).map UInt8.toNat = [21, 7] by decide +kernel) rfl
theorem dX12_tar_147 : decode cX12_tar 147 = .ok (.if_icmp .ne 25, 3) := dc_160 (show ((cX12_tar.data.toList.drop 147).take 3).map UInt8.toNat = [160, 0, 25] by decide +kernel) rfl
theorem dX12_tar_150 : decode cX12_tar 150 = .ok (.iload 5, 2) := dc_21 (show ((cX12_tar.data.toList.drop 150).take 2).map UInt8.toNat = [21, 5] by decide +kernel) rfl
theorem dX12_tar_152 : decode cX12_tar 152 = .ok (.iload_n 3, 1) := dc_29 (show ((cX12_tar.data.toList.drop 152).take 1).map UInt8.toNat = [29] by decide +kernel)
theorem dX12_tar_153 : decode cX12_tar 153 = .ok (.if_icmp .le 19, 3) := dc_164 (show ((cX12_tar.data.toList.drop 153).take 3).map UInt8.toNat = [164, 0, 19] by decide +kernel) rfl
theorem dX12_tar_156 : decode cX12_tar 156 = .ok (.iload 5, 2) := dc_21 (show ((cX12_tar.data.toList.drop 156).take 2).map UInt8.toNat = [21, 5] by decide +kernel) rfl
theorem dX12_tar_158 : decode cX12_tar 158 = .ok (.iload 9, 2) := dc_21 (show ((cX12_tar.data.toList.drop 158).take 2).map UInt8.toNat = [21, 9] by decide +kernel) rfl
theorem dX12_tar_160 : decode cX12_tar 160 = .ok (.isub, 1) := dc_100 (show ((cX12_tar.data.toList.drop 160).take 1).map UInt8.toNat = [100] by decide +kernel)
theorem dX12_tar_161 : decode cX12_tar 161 = .ok (.istore 5, 2) := dc_54 (show ((cX12_tar.data.toList.drop 161).take 2).map UInt8.toNat = [54, 5] by decide +kernel) rfl
theorem dX12_tar_163 : decode cX12_tar 163 = .ok (.iinc 6 1, 3) := dc_132 (show ((cX12_tar.data.toList.drop 163).take 3).map UInt8.toNat = [132, 6, 1] by decide +kernel) rfl
theorem dX12_tar_166 : decode cX12_tar 166 = .ok (.iinc 10 1, 3) := dc_132 (show ((cX12_tar.data.toList.drop 166).take 3).map UInt8.toNat = [132, 10, 1] by decide +kernel) rfl
theorem dX12_tar_169 : decode cX12_tar 169 = .ok (.goto (-33), 3) := dc_167 (show ((cX12_tar.data.toList.drop 169).take 3).map UInt8.toNat = [167, 255, 223] by decide +kernel) rfl
theorem dX12_tar_52 : decode cX12_tar 52 = .ok (.iload 5, 2) := dc_21 (show ((cX12_tar.data.toList.drop 52).take 2).map UInt8.toNat = [21, 5] by decide +kernel) rfl
theorem dX12_tar_54 : decode cX12_tar 54 = .ok (.aload_n 0, 1) := dc_42 (show ((cX12_tar.data.toList.drop 54).take 1).map UInt8.toNat = [42] by decide +kernel)
theorem dX12_tar_55 : decode cX12_tar 55 = .ok (.iload 6, 2) := dc_21 (show ((cX12_tar.data.toList.drop 55).take 2).map UInt8.toNat = [21, 6] by decide +kernel) rfl
theorem dX12_tar_57 : decode cX12_tar 57 = .ok (.iload 4, 2) := dc_21 (show ((cX12_tar.data.toList.drop 57).take 2).map UInt8.toNat = [21, 4] by decide +kernel) rfl
theorem dX12_tar_59 : decode cX12_tar 59 = .ok (.iconst 0, 1) := dc_3 (show ((cX12_tar.data.toList.drop 59).take 1).map UInt8.toNat = [3] by decide +kernel)
theorem dX12_tar_60 : decode cX12_tar 60 = .ok (.iconst 0, 1) := dc_3 (show ((cX12_tar.data.toList.drop 60).take 1).map UInt8.toNat = [3] by decide +kernel)
theorem dX12_tar_61 : decode cX12_tar 61 = .ok (.aload_n 0, 1) := dc_42 (show ((cX12_tar.data.toList.drop 61).take 1).map UInt8.toNat = [42] by decide +kernel)
theorem dX12_tar_62 : decode cX12_tar 62 = .ok (.iload 6, 2) := dc_21 (show ((cX12_tar.data.toList.drop 62).take 2).map UInt8.toNat = [21, 6] by decide +kernel) rfl
theorem dX12_tar_64 : decode cX12_tar 64 = .ok (.iconst 3, 1) := dc_6 (show ((cX12_tar.data.toList.drop 64).take 1).map UInt8.toNat = [6] by decide +kernel)
theorem dX12_tar_65 : decode cX12_tar 65 = .ok (.invokevirtual 217, 3) := dc_182 (show ((cX12_tar.data.toList.drop 65).take 3).map UInt8.toNat = [182, 0, 217] by decide +kernel) rfl
theorem dX12_tar_68 : decode cX12_tar 68 = .ok (.invokevirtual 220, 3) := dc_182 (show ((cX12_tar.data.toList.drop 68).take 3).map UInt8.toNat = [182, 0, 220] by decide +kernel) rfl
theorem dX12_tar_71 : decode cX12_tar 71 = .ok (.iadd, 1) := dc_96 (show ((cX12_tar.data.toList.drop 71).take 1).map UInt8.toNat = [96] by decide +kernel)
theorem dX12_tar_72 : decode cX12_tar 72 = .ok (.istore 5, 2) := dc_54 (show ((cX12_tar.data.toList.drop 72).take 2).map UInt8.toNat = [54, 5] by decide +kernel) rfl
theorem dX12_tar_74 : decode cX12_tar 74 = .ok (.iinc 6 1, 3) := dc_132 (show ((cX12_tar.data.toList.drop 74).take 3).map UInt8.toNat = [132, 6, 1] by decide +kernel) rfl
theorem dX12_tar_77 : decode cX12_tar 77 = .ok (.goto (-34), 3) := dc_167 (show ((cX12_tar.data.toList.drop 77).take 3).map UInt8.toNat = [167, 255, 222] by decide +kernel) rfl
def ms_tar_136 (n : Nat) (k87 : gb_F → Int64 → Int32 → Int32 → Int32 → Int32 → Int32 → gb_MR Int32) (k95 : gb_F → Int64 → Int32 → Int32 → Int32 → Int32 → Int32 → Int32 → gb_MR Int32) : Nat → gb_F → Int64 → Int32 → Int32 → Int32 → Int32 → Int32 → Int32 → Int32 → Int32 → gb_MR Int32
  | 0, _, _, _, _, _, _, _, _, _, _ => none
  | mm + 1, f, w, v3, v4, v5, v6, v7, v8, v9, v10 => (if v4 ≤ v10 then gb_lt (v8 + 1) (fun x_56 => k95 f w v3 v4 v5 v6 v7 x_56) else (if v9 = v7 then (if v5 ≤ v3 then gb_lt (v8 + 1) (fun x_60 => k95 f w v3 v4 v5 v6 v7 x_60) else gb_lt (v5 - v9) (fun x_61 => gb_lt (v6 + 1) (fun x_62 => gb_lt (v10 + 1) (fun x_63 => ms_tar_136 n k87 k95 mm f w v3 v4 x_61 x_62 v7 v8 v9 x_63)))) else gb_lt (v8 + 1) (fun x_58 => k95 f w v3 v4 v5 v6 v7 x_58)))
def ms_tar_95 (n : Nat) (k87 : gb_F → Int64 → Int32 → Int32 → Int32 → Int32 → Int32 → gb_MR Int32) : Nat → gb_F → Int64 → Int32 → Int32 → Int32 → Int32 → Int32 → Int32 → gb_MR Int32
  | 0, _, _, _, _, _, _, _, _ => none
  | mm + 1, f, w, v3, v4, v5, v6, v7, v8 => gb_bd (ms_geese n f w) (fun f_32 wl_33 r_34 => (if r_34 ≤ v8 then gb_lt (v7 + (-1)) (fun x_38 => k87 f_32 wl_33 v3 v4 v5 v6 x_38) else gb_bd (ms_ofGoose n f_32 wl_33 v8 0) (fun f_39 wl_40 r_41 => gb_bd (ms_ofGoose n f_39 wl_40 v8 1) (fun f_44 wl_45 r_46 => gb_bd (ms_ofGoose n f_44 wl_45 v8 3) (fun f_49 wl_50 r_51 => gb_lt (((r_41 + r_46) - 2) * (1 + r_51)) (fun x_54 => ms_tar_136 n k87 (fun f w v3 v4 v5 v6 v7 v8 => ms_tar_95 n k87 mm f w v3 v4 v5 v6 v7 v8) n f_49 wl_50 v3 v4 v5 v6 v7 v8 x_54 0))))))
def ms_tar_87 (n : Nat) : Nat → gb_F → Int64 → Int32 → Int32 → Int32 → Int32 → Int32 → gb_MR Int32
  | 0, _, _, _, _, _, _, _ => none
  | mm + 1, f, w, v3, v4, v5, v6, v7 => (if v7 ≤ 0 then (if v5 ≤ v3 then some (f, w, v6) else some (f, w, (-1))) else ms_tar_95 n (fun f w v3 v4 v5 v6 v7 => ms_tar_87 n mm f w v3 v4 v5 v6 v7) n f w v3 v4 v5 v6 v7 0)
def ms_tar_43 (n : Nat) : Nat → gb_F → Int64 → Int32 → Int32 → Int32 → Int32 → gb_MR Int32
  | 0, _, _, _, _, _, _ => none
  | mm + 1, f, w, v3, v4, v5, v6 => gb_bd (ms_geese n f w) (fun f_24 wl_25 r_26 => (if r_26 ≤ v6 then ms_tar_87 n n f_24 wl_25 v3 v4 v5 0 12 else gb_bd (ms_ofGoose n f_24 wl_25 v6 3) (fun f_64 wl_65 r_66 => gb_bd (ms_left n f_64 wl_65 v6 v4 0 0 r_66) (fun f_69 wl_70 r_71 => gb_lt (v5 + r_71) (fun x_74 => gb_lt (v6 + 1) (fun x_75 => ms_tar_43 n mm f_69 wl_70 v3 v4 x_74 x_75))))))
def ms_tar (n : Nat) (f : gb_F) (w : Int64) (p1 : Int32) (p2 : Int32) (p3 : Int32) : gb_MR Int32 := gb_bd (ms_isBorder n f w p1) (fun f_1 wl_2 r_3 => (if r_3 = 0 then some (f_1, wl_2, (-1)) else gb_bd (ms_isPath n f_1 wl_2 p2) (fun f_7 wl_8 r_9 => (if r_9 = 0 then some (f_7, wl_8, (-1)) else gb_bd (ms_isIn n f_7 wl_8 p3 0 9999) (fun f_13 wl_14 r_15 => (if r_15 = 0 then some (f_13, wl_14, (-1)) else gb_bd (ms_ofPath n f_13 wl_14 p2 0) (fun f_19 wl_20 r_21 => ms_tar_43 n n f_19 wl_20 p3 r_21 0 0)))))))
set_option maxHeartbeats 8000000 in
set_option maxRecDepth 100000 in
theorem mc_tar (l : Launch) (D : va_G) (cT : Nat → ClassId) (tt : Nat → Nat) (b1 b : Nat) (hb1 : b1 ≤ b) (n : Nat) (f : gb_F) (w : Int64) (p1 : Int32) (p2 : Int32) (p3 : Int32) (fE : gb_F) (wE : Int64) (rE : Int32) (h : ms_tar n f w p1 p2 p3 = some (fE, wE, rE)) : Met l yX12_tar (.code yX12_tar cX12_tar 11 (some FieldType.int) :: gb_wA) ({ frames := 3, cells := 0, slots := 0, locals := 70 }) (gb_Pc D cT tt b1 [.ref (b + 0), .int p1, .int p2, .int p3] (fun h => va_P D vwCl (gb_wl b (gb_MW cT b f w)) h)) (gb_Qi (fun r h => r = rE ∧ va_P D vwCl (gb_wl b (gb_MW cT b fE wE)) h) (gb_fr b 22)) 0 0 (gb_fr b 22) := by
  refine Met.ofW (cc := cX12_tar) (maxL := 11) (ret := (some FieldType.int)) (by decide) rfl ?_
  intro p e s m args below meth c s₁ B hml hv
  obtain ⟨rfl, hSt, hP⟩ := hv
  have hx := B.exec
  have hb := B.bytes
  have hr := B.returns
  have hts := atoms_spec (ws := .code yX12_tar cX12_tar 11 (some FieldType.int) :: gb_wA) B.pre
  have hq : ∀ w ∈ gb_wA, w.before _ s = true := fun w h => hts w (List.mem_cons_of_mem _ h)
  have hown : s.vm.findClass RX12 = some m.cls := findClass_of_methodNamed B.named
  have hlocks := B.notSynchronized
  clear B hts
  have hK := hSt.1
  have hS : va_S (gb_fr b 22) s.heap s.heap [] := va_S.rf
  have hl := lv_entry ([.ref (b + 0), .int p1, .int p2, .int p3]) (n := 11) (Nat.le_of_ble_eq_true rfl)
  rw [lg_entry_eq]
  generalize (lg_sl ([.ref (b + 0), .int p1, .int p2, .int p3]) ++ List.replicate (11 - (lg_sl ([.ref (b + 0), .int p1, .int p2, .int p3])).length) Slot.unset).toArray = ls at hl ⊢
  replace hl : lv_has ls 11 [(0, .ref (b + 0)), (1, .int p1), (2, .int p2), (3, .int p3)] := hl
  have L136 : ∀ (k87 : gb_F → Int64 → Int32 → Int32 → Int32 → Int32 → Int32 → gb_MR Int32) (k95 : gb_F → Int64 → Int32 → Int32 → Int32 → Int32 → Int32 → Int32 → gb_MR Int32) (hk87 : ∀ (f : gb_F) (w : Int64) (v3 : Int32) (v4 : Int32) (v5 : Int32) (v6 : Int32) (v7 : Int32) (H : Heap) (locs : List Loc) (ls : Array Slot), k87 f w v3 v4 v5 v6 v7 = some (fE, wE, rE) → va_P D vwCl (gb_wl b (gb_MW cT b f w)) H → va_S (gb_fr b 22) s.heap H locs → lv_has ls 11 [(0, .ref (b + 0)), (3, .int v3), (4, .int v4), (5, .int v5), (6, .int v6), (7, .int v7)] → W p l e (headSpec (.code yX12_tar cX12_tar 11 (some FieldType.int) :: gb_wA) ({ frames := 3, cells := 0, slots := 0, locals := 70 })).room s m ([.ref (b + 0), .int p1, .int p2, .int p3]).toArray below meth c H locs 0 0 (MQ below (gb_Qi (fun r h => r = rE ∧ va_P D vwCl (gb_wl b (gb_MW cT b fE wE)) h) (gb_fr b 22)) ([.ref (b + 0), .int p1, .int p2, .int p3]).toArray s 0 0 (gb_fr b 22)) (F0 m 87 ls [])) (hk95 : ∀ (f : gb_F) (w : Int64) (v3 : Int32) (v4 : Int32) (v5 : Int32) (v6 : Int32) (v7 : Int32) (v8 : Int32) (H : Heap) (locs : List Loc) (ls : Array Slot), k95 f w v3 v4 v5 v6 v7 v8 = some (fE, wE, rE) → va_P D vwCl (gb_wl b (gb_MW cT b f w)) H → va_S (gb_fr b 22) s.heap H locs → lv_has ls 11 [(0, .ref (b + 0)), (3, .int v3), (4, .int v4), (5, .int v5), (6, .int v6), (7, .int v7), (8, .int v8)] → W p l e (headSpec (.code yX12_tar cX12_tar 11 (some FieldType.int) :: gb_wA) ({ frames := 3, cells := 0, slots := 0, locals := 70 })).room s m ([.ref (b + 0), .int p1, .int p2, .int p3]).toArray below meth c H locs 0 0 (MQ below (gb_Qi (fun r h => r = rE ∧ va_P D vwCl (gb_wl b (gb_MW cT b fE wE)) h) (gb_fr b 22)) ([.ref (b + 0), .int p1, .int p2, .int p3]).toArray s 0 0 (gb_fr b 22)) (F0 m 95 ls [])) (mm : Nat) (f : gb_F) (w : Int64) (v3 : Int32) (v4 : Int32) (v5 : Int32) (v6 : Int32) (v7 : Int32) (v8 : Int32) (v9 : Int32) (v10 : Int32) (H : Heap) (locs : List Loc) (ls : Array Slot), ms_tar_136 n k87 k95 mm f w v3 v4 v5 v6 v7 v8 v9 v10 = some (fE, wE, rE) → va_P D vwCl (gb_wl b (gb_MW cT b f w)) H → va_S (gb_fr b 22) s.heap H locs → lv_has ls 11 [(0, .ref (b + 0)), (3, .int v3), (4, .int v4), (5, .int v5), (6, .int v6), (7, .int v7), (8, .int v8), (9, .int v9), (10, .int v10)] → W p l e (headSpec (.code yX12_tar cX12_tar 11 (some FieldType.int) :: gb_wA) ({ frames := 3, cells := 0, slots := 0, locals := 70 })).room s m ([.ref (b + 0), .int p1, .int p2, .int p3]).toArray below meth c H locs 0 0 (MQ below (gb_Qi (fun r h => r = rE ∧ va_P D vwCl (gb_wl b (gb_MW cT b fE wE)) h) (gb_fr b 22)) ([.ref (b + 0), .int p1, .int p2, .int p3]).toArray s 0 0 (gb_fr b 22)) (F0 m 136 ls []) := by
    clear h hP hS hl ls f w
    intro k87 k95 hk87 hk95 mm
    induction mm with
    | zero =>
      intro f w v3 v4 v5 v6 v7 v8 v9 v10 H locs ls h
      cases h
    | succ mm ih =>
      intro f w v3 v4 v5 v6 v7 v8 v9 v10 H locs ls h hP hS hl
      rw [ms_tar_136] at h
      refine lv_iload hx hb dX12_tar_136 (lv_at hl 8 rfl) ?_
      refine lv_iload hx hb dX12_tar_138 (lv_at hl 2 rfl) ?_
      refine lv_icmp_ge (tgt := 172) hx hb dX12_tar_140 (by decide) (fun c_55 => ?_) (fun c_55 => ?_)
      · rw [if_pos c_55] at h
        obtain ⟨x_56, ex_56⟩ : ∃ q, q = (v8 + 1) := ⟨_, rfl⟩
        replace h := gb_lt_s ex_56 h
        refine lv_iinc (v := x_56) (lv' := [(8, .int x_56), (0, .ref (b + 0)), (3, .int v3), (4, .int v4), (5, .int v5), (6, .int v6), (7, .int v7), (9, .int v9), (10, .int v10)]) hx hb dX12_tar_172 hl (k := 6) rfl (by rw [ex_56]; rfl) (by decide) rfl (fun ls hl => ?_)
        refine lv_goto (tgt := 95) hx hb dX12_tar_175 (by decide) ?_
        exact hk95 _ _ _ _ _ _ _ _ _ _ _ h hP hS (lv_sub hl [1, 2, 3, 4, 5, 6, 0] rfl)
      · rw [if_neg c_55] at h
        refine lv_iload hx hb dX12_tar_143 (lv_at hl 7 rfl) ?_
        refine lv_iload hx hb dX12_tar_145 (lv_at hl 5 rfl) ?_
        refine lv_icmp_ne (tgt := 172) hx hb dX12_tar_147 (by decide) (fun c_57 => ?_) (fun c_57 => ?_)
        · rw [if_neg c_57] at h
          obtain ⟨x_58, ex_58⟩ : ∃ q, q = (v8 + 1) := ⟨_, rfl⟩
          replace h := gb_lt_s ex_58 h
          refine lv_iinc (v := x_58) (lv' := [(8, .int x_58), (0, .ref (b + 0)), (3, .int v3), (4, .int v4), (5, .int v5), (6, .int v6), (7, .int v7), (9, .int v9), (10, .int v10)]) hx hb dX12_tar_172 hl (k := 6) rfl (by rw [ex_58]; rfl) (by decide) rfl (fun ls hl => ?_)
          refine lv_goto (tgt := 95) hx hb dX12_tar_175 (by decide) ?_
          exact hk95 _ _ _ _ _ _ _ _ _ _ _ h hP hS (lv_sub hl [1, 2, 3, 4, 5, 6, 0] rfl)
        · rw [if_pos c_57] at h
          refine lv_iload hx hb dX12_tar_150 (lv_at hl 3 rfl) ?_
          refine lv_iload_n hx hb dX12_tar_152 rfl (lv_at hl 1 rfl) ?_
          refine lv_icmp_le (tgt := 172) hx hb dX12_tar_153 (by decide) (fun c_59 => ?_) (fun c_59 => ?_)
          · rw [if_pos c_59] at h
            obtain ⟨x_60, ex_60⟩ : ∃ q, q = (v8 + 1) := ⟨_, rfl⟩
            replace h := gb_lt_s ex_60 h
            refine lv_iinc (v := x_60) (lv' := [(8, .int x_60), (0, .ref (b + 0)), (3, .int v3), (4, .int v4), (5, .int v5), (6, .int v6), (7, .int v7), (9, .int v9), (10, .int v10)]) hx hb dX12_tar_172 hl (k := 6) rfl (by rw [ex_60]; rfl) (by decide) rfl (fun ls hl => ?_)
            refine lv_goto (tgt := 95) hx hb dX12_tar_175 (by decide) ?_
            exact hk95 _ _ _ _ _ _ _ _ _ _ _ h hP hS (lv_sub hl [1, 2, 3, 4, 5, 6, 0] rfl)
          · rw [if_neg c_59] at h
            refine lv_iload hx hb dX12_tar_156 (lv_at hl 3 rfl) ?_
            refine lv_iload hx hb dX12_tar_158 (lv_at hl 7 rfl) ?_
            refine lv_isub hx hb dX12_tar_160 ?_
            refine lv_topi (fun x_61 ex_61 => ?_)
            replace h := gb_lt_s ex_61 h
            refine lv_istore (lv' := [(5, .int x_61), (0, .ref (b + 0)), (3, .int v3), (4, .int v4), (6, .int v6), (7, .int v7), (8, .int v8), (9, .int v9), (10, .int v10)]) hx hb dX12_tar_161 hl (by decide) rfl (fun ls hl => ?_)
            obtain ⟨x_62, ex_62⟩ : ∃ q, q = (v6 + 1) := ⟨_, rfl⟩
            replace h := gb_lt_s ex_62 h
            refine lv_iinc (v := x_62) (lv' := [(6, .int x_62), (5, .int x_61), (0, .ref (b + 0)), (3, .int v3), (4, .int v4), (7, .int v7), (8, .int v8), (9, .int v9), (10, .int v10)]) hx hb dX12_tar_163 hl (k := 4) rfl (by rw [ex_62]; rfl) (by decide) rfl (fun ls hl => ?_)
            obtain ⟨x_63, ex_63⟩ : ∃ q, q = (v10 + 1) := ⟨_, rfl⟩
            replace h := gb_lt_s ex_63 h
            refine lv_iinc (v := x_63) (lv' := [(10, .int x_63), (6, .int x_62), (5, .int x_61), (0, .ref (b + 0)), (3, .int v3), (4, .int v4), (7, .int v7), (8, .int v8), (9, .int v9)]) hx hb dX12_tar_166 hl (k := 8) rfl (by rw [ex_63]; rfl) (by decide) rfl (fun ls hl => ?_)
            refine lv_goto (tgt := 136) hx hb dX12_tar_169 (by decide) ?_
            exact ih _ _ _ _ _ _ _ _ _ _ _ _ _ h hP hS (lv_sub hl [3, 4, 5, 2, 1, 6, 7, 8, 0] rfl)
  have L95 : ∀ (k87 : gb_F → Int64 → Int32 → Int32 → Int32 → Int32 → Int32 → gb_MR Int32) (hk87 : ∀ (f : gb_F) (w : Int64) (v3 : Int32) (v4 : Int32) (v5 : Int32) (v6 : Int32) (v7 : Int32) (H : Heap) (locs : List Loc) (ls : Array Slot), k87 f w v3 v4 v5 v6 v7 = some (fE, wE, rE) → va_P D vwCl (gb_wl b (gb_MW cT b f w)) H → va_S (gb_fr b 22) s.heap H locs → lv_has ls 11 [(0, .ref (b + 0)), (3, .int v3), (4, .int v4), (5, .int v5), (6, .int v6), (7, .int v7)] → W p l e (headSpec (.code yX12_tar cX12_tar 11 (some FieldType.int) :: gb_wA) ({ frames := 3, cells := 0, slots := 0, locals := 70 })).room s m ([.ref (b + 0), .int p1, .int p2, .int p3]).toArray below meth c H locs 0 0 (MQ below (gb_Qi (fun r h => r = rE ∧ va_P D vwCl (gb_wl b (gb_MW cT b fE wE)) h) (gb_fr b 22)) ([.ref (b + 0), .int p1, .int p2, .int p3]).toArray s 0 0 (gb_fr b 22)) (F0 m 87 ls [])) (mm : Nat) (f : gb_F) (w : Int64) (v3 : Int32) (v4 : Int32) (v5 : Int32) (v6 : Int32) (v7 : Int32) (v8 : Int32) (H : Heap) (locs : List Loc) (ls : Array Slot), ms_tar_95 n k87 mm f w v3 v4 v5 v6 v7 v8 = some (fE, wE, rE) → va_P D vwCl (gb_wl b (gb_MW cT b f w)) H → va_S (gb_fr b 22) s.heap H locs → lv_has ls 11 [(0, .ref (b + 0)), (3, .int v3), (4, .int v4), (5, .int v5), (6, .int v6), (7, .int v7), (8, .int v8)] → W p l e (headSpec (.code yX12_tar cX12_tar 11 (some FieldType.int) :: gb_wA) ({ frames := 3, cells := 0, slots := 0, locals := 70 })).room s m ([.ref (b + 0), .int p1, .int p2, .int p3]).toArray below meth c H locs 0 0 (MQ below (gb_Qi (fun r h => r = rE ∧ va_P D vwCl (gb_wl b (gb_MW cT b fE wE)) h) (gb_fr b 22)) ([.ref (b + 0), .int p1, .int p2, .int p3]).toArray s 0 0 (gb_fr b 22)) (F0 m 95 ls []) := by
    clear h hP hS hl ls f w
    intro k87 hk87 mm
    induction mm with
    | zero =>
      intro f w v3 v4 v5 v6 v7 v8 H locs ls h
      cases h
    | succ mm ih =>
      intro f w v3 v4 v5 v6 v7 v8 H locs ls h hP hS hl
      rw [ms_tar_95] at h
      refine lv_iload hx hb dX12_tar_95 (lv_at hl 6 rfl) ?_
      refine lv_aload_n hx hb dX12_tar_97 rfl (lv_at hl 0 rfl) ?_
      obtain ⟨f_32, wl_33, r_34, z_35, h⟩ := gb_bd_s h
      refine gb_calli (va_runV (C := RX12) (As := []) (rest := [.int v8]) ⟨hx, hb, hml, hown, hq⟩ (mc_geese l D cT tt b1 b hb1 n f w f_32 wl_33 r_34 z_35) (cwV 0 hq (gb_gV w_1396 w_1398 s_4_7 w_14 w_1399) rfl rfl rfl (by decide +kernel) ⟨Nat.le_of_ble_eq_true rfl, Nat.le_of_ble_eq_true rfl⟩) (gb_preV (r := (RX12, TX12, 44)) (ci := 10) (q0 := 0) hSt hP rfl (gb_at b rfl) hS (fun q h => Nat.le_trans hb1 h.1) hP) rfl rfl hl.1 rfl (lv_room (Nat.le_of_ble_eq_true rfl)) dX12_tar_98 ⟨Nat.le_of_ble_eq_true rfl, Nat.le_of_ble_eq_true rfl⟩) hS (fun _ h => h) (fun _ h => h) (fun q_36 H locs hY hk hS => ?_)
      obtain ⟨hq_36, hP⟩ := hY
      replace hq_36 := hq_36.symm
      subst hq_36
      refine lv_icmp_ge (tgt := 178) hx hb dX12_tar_101 (by decide) (fun c_37 => ?_) (fun c_37 => ?_)
      · rw [if_pos c_37] at h
        obtain ⟨x_38, ex_38⟩ : ∃ q, q = (v7 + (-1)) := ⟨_, rfl⟩
        replace h := gb_lt_s ex_38 h
        refine lv_iinc (v := x_38) (lv' := [(7, .int x_38), (0, .ref (b + 0)), (3, .int v3), (4, .int v4), (5, .int v5), (6, .int v6), (8, .int v8)]) hx hb dX12_tar_178 hl (k := 5) rfl (by rw [ex_38]; rfl) (by decide) rfl (fun ls hl => ?_)
        refine lv_goto (tgt := 87) hx hb dX12_tar_181 (by decide) ?_
        exact hk87 _ _ _ _ _ _ _ _ _ _ h hP hS (lv_sub hl [1, 2, 3, 4, 5, 0] rfl)
      · rw [if_neg c_37] at h
        refine lv_aload_n hx hb dX12_tar_104 rfl (lv_at hl 0 rfl) ?_
        refine lv_iload hx hb dX12_tar_105 (lv_at hl 6 rfl) ?_
        refine lv_iconst (v := 0) hx hb dX12_tar_107 (by decide) ?_
        obtain ⟨f_39, wl_40, r_41, z_42, h⟩ := gb_bd_s h
        refine gb_calli (va_runV (C := RX12) (As := [.int v8, .int 0]) (rest := []) ⟨hx, hb, hml, hown, hq⟩ (mc_ofGoose l D cT tt b1 b hb1 n f_32 wl_33 v8 0 f_39 wl_40 r_41 z_42) (cwV 2 hq (gb_gV w_1400 w_1402 s_4_8 w_14 w_1403) rfl rfl rfl (by decide +kernel) ⟨Nat.le_of_ble_eq_true rfl, Nat.le_of_ble_eq_true rfl⟩) (gb_preV (r := (RX12, TX12, 44)) (ci := 10) (q0 := 0) hSt hP rfl (gb_at b rfl) hS (fun q h => Nat.le_trans hb1 h.1) hP) rfl rfl hl.1 rfl (lv_room (Nat.le_of_ble_eq_true rfl)) dX12_tar_108 ⟨Nat.le_of_ble_eq_true rfl, Nat.le_of_ble_eq_true rfl⟩) hS (fun _ h => h) (fun _ h => h) (fun q_43 H locs hY hk hS => ?_)
        obtain ⟨hq_43, hP⟩ := hY
        replace hq_43 := hq_43.symm
        subst hq_43
        refine lv_aload_n hx hb dX12_tar_111 rfl (lv_at hl 0 rfl) ?_
        refine lv_iload hx hb dX12_tar_112 (lv_at hl 6 rfl) ?_
        refine lv_iconst (v := 1) hx hb dX12_tar_114 (by decide) ?_
        obtain ⟨f_44, wl_45, r_46, z_47, h⟩ := gb_bd_s h
        refine gb_calli (va_runV (C := RX12) (As := [.int v8, .int 1]) (rest := [.int r_41]) ⟨hx, hb, hml, hown, hq⟩ (mc_ofGoose l D cT tt b1 b hb1 n f_39 wl_40 v8 1 f_44 wl_45 r_46 z_47) (cwV 2 hq (gb_gV w_1400 w_1402 s_4_8 w_14 w_1403) rfl rfl rfl (by decide +kernel) ⟨Nat.le_of_ble_eq_true rfl, Nat.le_of_ble_eq_true rfl⟩) (gb_preV (r := (RX12, TX12, 44)) (ci := 10) (q0 := 0) hSt hP rfl (gb_at b rfl) hS (fun q h => Nat.le_trans hb1 h.1) hP) rfl rfl hl.1 rfl (lv_room (Nat.le_of_ble_eq_true rfl)) dX12_tar_115 ⟨Nat.le_of_ble_eq_true rfl, Nat.le_of_ble_eq_true rfl⟩) hS (fun _ h => h) (fun _ h => h) (fun q_48 H locs hY hk hS => ?_)
        obtain ⟨hq_48, hP⟩ := hY
        replace hq_48 := hq_48.symm
        subst hq_48
        refine lv_iadd hx hb dX12_tar_118 ?_
        refine lv_iconst (v := 2) hx hb dX12_tar_119 (by decide) ?_
        refine lv_isub hx hb dX12_tar_120 ?_
        refine lv_iconst (v := 1) hx hb dX12_tar_121 (by decide) ?_
        refine lv_aload_n hx hb dX12_tar_122 rfl (lv_at hl 0 rfl) ?_
        refine lv_iload hx hb dX12_tar_123 (lv_at hl 6 rfl) ?_
        refine lv_iconst (v := 3) hx hb dX12_tar_125 (by decide) ?_
        obtain ⟨f_49, wl_50, r_51, z_52, h⟩ := gb_bd_s h
        refine gb_calli (va_runV (C := RX12) (As := [.int v8, .int 3]) (rest := [.int 1, .int ((r_41 + r_46) - 2)]) ⟨hx, hb, hml, hown, hq⟩ (mc_ofGoose l D cT tt b1 b hb1 n f_44 wl_45 v8 3 f_49 wl_50 r_51 z_52) (cwV 2 hq (gb_gV w_1400 w_1402 s_4_8 w_14 w_1403) rfl rfl rfl (by decide +kernel) ⟨Nat.le_of_ble_eq_true rfl, Nat.le_of_ble_eq_true rfl⟩) (gb_preV (r := (RX12, TX12, 44)) (ci := 10) (q0 := 0) hSt hP rfl (gb_at b rfl) hS (fun q h => Nat.le_trans hb1 h.1) hP) rfl rfl hl.1 rfl (lv_room (Nat.le_of_ble_eq_true rfl)) dX12_tar_126 ⟨Nat.le_of_ble_eq_true rfl, Nat.le_of_ble_eq_true rfl⟩) hS (fun _ h => h) (fun _ h => h) (fun q_53 H locs hY hk hS => ?_)
        obtain ⟨hq_53, hP⟩ := hY
        replace hq_53 := hq_53.symm
        subst hq_53
        refine lv_iadd hx hb dX12_tar_129 ?_
        refine lv_imul hx hb dX12_tar_130 ?_
        refine lv_topi (fun x_54 ex_54 => ?_)
        replace h := gb_lt_s ex_54 h
        refine lv_istore (lv' := [(9, .int x_54), (0, .ref (b + 0)), (3, .int v3), (4, .int v4), (5, .int v5), (6, .int v6), (7, .int v7), (8, .int v8)]) hx hb dX12_tar_131 hl (by decide) rfl (fun ls hl => ?_)
        refine lv_iconst (v := 0) hx hb dX12_tar_133 (by decide) ?_
        refine lv_istore (lv' := [(10, .int 0), (9, .int x_54), (0, .ref (b + 0)), (3, .int v3), (4, .int v4), (5, .int v5), (6, .int v6), (7, .int v7), (8, .int v8)]) hx hb dX12_tar_134 hl (by decide) rfl (fun ls hl => ?_)
        exact L136 k87 _ hk87 ih n _ _ _ _ _ _ _ _ _ _ _ _ _ h hP hS (lv_sub hl [2, 3, 4, 5, 6, 7, 8, 1, 0] rfl)
  have L87 : ∀ (mm : Nat) (f : gb_F) (w : Int64) (v3 : Int32) (v4 : Int32) (v5 : Int32) (v6 : Int32) (v7 : Int32) (H : Heap) (locs : List Loc) (ls : Array Slot), ms_tar_87 n mm f w v3 v4 v5 v6 v7 = some (fE, wE, rE) → va_P D vwCl (gb_wl b (gb_MW cT b f w)) H → va_S (gb_fr b 22) s.heap H locs → lv_has ls 11 [(0, .ref (b + 0)), (3, .int v3), (4, .int v4), (5, .int v5), (6, .int v6), (7, .int v7)] → W p l e (headSpec (.code yX12_tar cX12_tar 11 (some FieldType.int) :: gb_wA) ({ frames := 3, cells := 0, slots := 0, locals := 70 })).room s m ([.ref (b + 0), .int p1, .int p2, .int p3]).toArray below meth c H locs 0 0 (MQ below (gb_Qi (fun r h => r = rE ∧ va_P D vwCl (gb_wl b (gb_MW cT b fE wE)) h) (gb_fr b 22)) ([.ref (b + 0), .int p1, .int p2, .int p3]).toArray s 0 0 (gb_fr b 22)) (F0 m 87 ls []) := by
    clear h hP hS hl ls f w
    intro mm
    induction mm with
    | zero =>
      intro f w v3 v4 v5 v6 v7 H locs ls h
      cases h
    | succ mm ih =>
      intro f w v3 v4 v5 v6 v7 H locs ls h hP hS hl
      rw [ms_tar_87] at h
      refine lv_iload hx hb dX12_tar_87 (lv_at hl 5 rfl) ?_
      refine lv_if_le (tgt := 184) hx hb dX12_tar_89 (by decide) (fun c_30 => ?_) (fun c_30 => ?_)
      · rw [if_pos c_30] at h
        refine lv_iload hx hb dX12_tar_184 (lv_at hl 3 rfl) ?_
        refine lv_iload_n hx hb dX12_tar_186 rfl (lv_at hl 1 rfl) ?_
        refine lv_icmp_le (tgt := 194) hx hb dX12_tar_187 (by decide) (fun c_31 => ?_) (fun c_31 => ?_)
        · rw [if_pos c_31] at h
          refine lv_iload hx hb dX12_tar_194 (lv_at hl 4 rfl) ?_
          obtain ⟨e1, e2, e3⟩ := gb_eq3 h
          exact W.iret (v := v6) hx hb hr (fun t ht hW => gb_ri ht ⟨e3, by rw [← e1, ← e2]; exact hP⟩ hS) hS.2.2 dX12_tar_196
        · rw [if_neg c_31] at h
          refine lv_iconst (v := (-1)) hx hb dX12_tar_190 (by decide) ?_
          refine lv_goto (tgt := 196) hx hb dX12_tar_191 (by decide) ?_
          obtain ⟨e1, e2, e3⟩ := gb_eq3 h
          exact W.iret (v := (-1)) hx hb hr (fun t ht hW => gb_ri ht ⟨e3, by rw [← e1, ← e2]; exact hP⟩ hS) hS.2.2 dX12_tar_196
      · rw [if_neg c_30] at h
        refine lv_iconst (v := 0) hx hb dX12_tar_92 (by decide) ?_
        refine lv_istore (lv' := [(8, .int 0), (0, .ref (b + 0)), (3, .int v3), (4, .int v4), (5, .int v5), (6, .int v6), (7, .int v7)]) hx hb dX12_tar_93 hl (by decide) rfl (fun ls hl => ?_)
        exact L95 _ ih n _ _ _ _ _ _ _ _ _ _ _ h hP hS (lv_sub hl [1, 2, 3, 4, 5, 6, 0] rfl)
  have L43 : ∀ (mm : Nat) (f : gb_F) (w : Int64) (v3 : Int32) (v4 : Int32) (v5 : Int32) (v6 : Int32) (H : Heap) (locs : List Loc) (ls : Array Slot), ms_tar_43 n mm f w v3 v4 v5 v6 = some (fE, wE, rE) → va_P D vwCl (gb_wl b (gb_MW cT b f w)) H → va_S (gb_fr b 22) s.heap H locs → lv_has ls 11 [(0, .ref (b + 0)), (3, .int v3), (4, .int v4), (5, .int v5), (6, .int v6)] → W p l e (headSpec (.code yX12_tar cX12_tar 11 (some FieldType.int) :: gb_wA) ({ frames := 3, cells := 0, slots := 0, locals := 70 })).room s m ([.ref (b + 0), .int p1, .int p2, .int p3]).toArray below meth c H locs 0 0 (MQ below (gb_Qi (fun r h => r = rE ∧ va_P D vwCl (gb_wl b (gb_MW cT b fE wE)) h) (gb_fr b 22)) ([.ref (b + 0), .int p1, .int p2, .int p3]).toArray s 0 0 (gb_fr b 22)) (F0 m 43 ls []) := by
    clear h hP hS hl ls f w
    intro mm
    induction mm with
    | zero =>
      intro f w v3 v4 v5 v6 H locs ls h
      cases h
    | succ mm ih =>
      intro f w v3 v4 v5 v6 H locs ls h hP hS hl
      rw [ms_tar_43] at h
      refine lv_iload hx hb dX12_tar_43 (lv_at hl 4 rfl) ?_
      refine lv_aload_n hx hb dX12_tar_45 rfl (lv_at hl 0 rfl) ?_
      obtain ⟨f_24, wl_25, r_26, z_27, h⟩ := gb_bd_s h
      refine gb_calli (va_runV (C := RX12) (As := []) (rest := [.int v6]) ⟨hx, hb, hml, hown, hq⟩ (mc_geese l D cT tt b1 b hb1 n f w f_24 wl_25 r_26 z_27) (cwV 0 hq (gb_gV w_1396 w_1398 s_4_7 w_14 w_1399) rfl rfl rfl (by decide +kernel) ⟨Nat.le_of_ble_eq_true rfl, Nat.le_of_ble_eq_true rfl⟩) (gb_preV (r := (RX12, TX12, 44)) (ci := 10) (q0 := 0) hSt hP rfl (gb_at b rfl) hS (fun q h => Nat.le_trans hb1 h.1) hP) rfl rfl hl.1 rfl (lv_room (Nat.le_of_ble_eq_true rfl)) dX12_tar_46 ⟨Nat.le_of_ble_eq_true rfl, Nat.le_of_ble_eq_true rfl⟩) hS (fun _ h => h) (fun _ h => h) (fun q_28 H locs hY hk hS => ?_)
      obtain ⟨hq_28, hP⟩ := hY
      replace hq_28 := hq_28.symm
      subst hq_28
      refine lv_icmp_ge (tgt := 80) hx hb dX12_tar_49 (by decide) (fun c_29 => ?_) (fun c_29 => ?_)
      · rw [if_pos c_29] at h
        refine lv_iconst (v := 0) hx hb dX12_tar_80 (by decide) ?_
        refine lv_istore (lv' := [(6, .int 0), (0, .ref (b + 0)), (3, .int v3), (4, .int v4), (5, .int v5)]) hx hb dX12_tar_81 hl (by decide) rfl (fun ls hl => ?_)
        refine lv_bipush (v := 12) hx hb dX12_tar_83 (by decide) ?_
        refine lv_istore (lv' := [(7, .int 12), (6, .int 0), (0, .ref (b + 0)), (3, .int v3), (4, .int v4), (5, .int v5)]) hx hb dX12_tar_85 hl (by decide) rfl (fun ls hl => ?_)
        exact L87 n _ _ _ _ _ _ _ _ _ _ h hP hS (lv_sub hl [2, 3, 4, 5, 1, 0] rfl)
      · rw [if_neg c_29] at h
        refine lv_iload hx hb dX12_tar_52 (lv_at hl 3 rfl) ?_
        refine lv_aload_n hx hb dX12_tar_54 rfl (lv_at hl 0 rfl) ?_
        refine lv_iload hx hb dX12_tar_55 (lv_at hl 4 rfl) ?_
        refine lv_iload hx hb dX12_tar_57 (lv_at hl 2 rfl) ?_
        refine lv_iconst (v := 0) hx hb dX12_tar_59 (by decide) ?_
        refine lv_iconst (v := 0) hx hb dX12_tar_60 (by decide) ?_
        refine lv_aload_n hx hb dX12_tar_61 rfl (lv_at hl 0 rfl) ?_
        refine lv_iload hx hb dX12_tar_62 (lv_at hl 4 rfl) ?_
        refine lv_iconst (v := 3) hx hb dX12_tar_64 (by decide) ?_
        obtain ⟨f_64, wl_65, r_66, z_67, h⟩ := gb_bd_s h
        refine gb_calli (va_runV (C := RX12) (As := [.int v6, .int 3]) (rest := [.int 0, .int 0, .int v4, .int v6, .ref (b + 0), .int v5]) ⟨hx, hb, hml, hown, hq⟩ (mc_ofGoose l D cT tt b1 b hb1 n f_24 wl_25 v6 3 f_64 wl_65 r_66 z_67) (cwV 2 hq (gb_gV w_1400 w_1402 s_4_8 w_14 w_1403) rfl rfl rfl (by decide +kernel) ⟨Nat.le_of_ble_eq_true rfl, Nat.le_of_ble_eq_true rfl⟩) (gb_preV (r := (RX12, TX12, 44)) (ci := 10) (q0 := 0) hSt hP rfl (gb_at b rfl) hS (fun q h => Nat.le_trans hb1 h.1) hP) rfl rfl hl.1 rfl (lv_room (Nat.le_of_ble_eq_true rfl)) dX12_tar_65 ⟨Nat.le_of_ble_eq_true rfl, Nat.le_of_ble_eq_true rfl⟩) hS (fun _ h => h) (fun _ h => h) (fun q_68 H locs hY hk hS => ?_)
        obtain ⟨hq_68, hP⟩ := hY
        replace hq_68 := hq_68.symm
        subst hq_68
        obtain ⟨f_69, wl_70, r_71, z_72, h⟩ := gb_bd_s h
        refine gb_calli (va_runV (C := RX12) (As := [.int v6, .int v4, .int 0, .int 0, .int r_66]) (rest := [.int v5]) ⟨hx, hb, hml, hown, hq⟩ (mc_left l D cT tt b1 b hb1 n f_64 wl_65 v6 v4 0 0 r_66 f_69 wl_70 r_71 z_72) (cwV 5 hq (gb_gV w_1408 w_1410 s_4_9 w_14 w_1411) rfl rfl rfl (by decide +kernel) ⟨Nat.le_of_ble_eq_true rfl, Nat.le_of_ble_eq_true rfl⟩) (gb_preV (r := (RX12, TX12, 44)) (ci := 10) (q0 := 0) hSt hP rfl (gb_at b rfl) hS (fun q h => Nat.le_trans hb1 h.1) hP) rfl rfl hl.1 rfl (lv_room (Nat.le_of_ble_eq_true rfl)) dX12_tar_68 ⟨Nat.le_of_ble_eq_true rfl, Nat.le_of_ble_eq_true rfl⟩) hS (fun _ h => h) (fun _ h => h) (fun q_73 H locs hY hk hS => ?_)
        obtain ⟨hq_73, hP⟩ := hY
        replace hq_73 := hq_73.symm
        subst hq_73
        refine lv_iadd hx hb dX12_tar_71 ?_
        refine lv_topi (fun x_74 ex_74 => ?_)
        replace h := gb_lt_s ex_74 h
        refine lv_istore (lv' := [(5, .int x_74), (0, .ref (b + 0)), (3, .int v3), (4, .int v4), (6, .int v6)]) hx hb dX12_tar_72 hl (by decide) rfl (fun ls hl => ?_)
        obtain ⟨x_75, ex_75⟩ : ∃ q, q = (v6 + 1) := ⟨_, rfl⟩
        replace h := gb_lt_s ex_75 h
        refine lv_iinc (v := x_75) (lv' := [(6, .int x_75), (5, .int x_74), (0, .ref (b + 0)), (3, .int v3), (4, .int v4)]) hx hb dX12_tar_74 hl (k := 4) rfl (by rw [ex_75]; rfl) (by decide) rfl (fun ls hl => ?_)
        refine lv_goto (tgt := 43) hx hb dX12_tar_77 (by decide) ?_
        exact ih _ _ _ _ _ _ _ _ _ h hP hS (lv_sub hl [2, 3, 4, 1, 0] rfl)
  unfold ms_tar at h
  refine lv_aload_n hx hb dX12_tar_0 rfl (lv_at hl 0 rfl) ?_
  refine lv_iload_n hx hb dX12_tar_1 rfl (lv_at hl 1 rfl) ?_
  obtain ⟨f_1, wl_2, r_3, z_4, h⟩ := gb_bd_s h
  refine gb_calli (va_runV (C := RX12) (As := [.int p1]) (rest := []) ⟨hx, hb, hml, hown, hq⟩ (mc_isBorder l D cT tt b1 b hb1 n f w p1 f_1 wl_2 r_3 z_4) (cwV 1 hq (gb_gV w_1372 w_1374 s_4_1 w_14 w_1375) rfl rfl rfl (by decide +kernel) ⟨Nat.le_of_ble_eq_true rfl, Nat.le_of_ble_eq_true rfl⟩) (gb_preV (r := (RX12, TX12, 44)) (ci := 10) (q0 := 0) hSt hP rfl (gb_at b rfl) hS (fun q h => Nat.le_trans hb1 h.1) hP) rfl rfl hl.1 rfl (lv_room (Nat.le_of_ble_eq_true rfl)) dX12_tar_2 ⟨Nat.le_of_ble_eq_true rfl, Nat.le_of_ble_eq_true rfl⟩) hS (fun _ h => h) (fun _ h => h) (fun q_5 H locs hY hk hS => ?_)
  obtain ⟨hq_5, hP⟩ := hY
  replace hq_5 := hq_5.symm
  subst hq_5
  refine lv_if_eq (tgt := 27) hx hb dX12_tar_5 (by decide) (fun c_6 => ?_) (fun c_6 => ?_)
  · rw [if_pos c_6] at h
    refine lv_iconst (v := (-1)) hx hb dX12_tar_27 (by decide) ?_
    obtain ⟨e1, e2, e3⟩ := gb_eq3 h
    exact W.iret (v := (-1)) hx hb hr (fun t ht hW => gb_ri ht ⟨e3, by rw [← e1, ← e2]; exact hP⟩ hS) hS.2.2 dX12_tar_28
  · rw [if_neg c_6] at h
    refine lv_aload_n hx hb dX12_tar_8 rfl (lv_at hl 0 rfl) ?_
    refine lv_iload_n hx hb dX12_tar_9 rfl (lv_at hl 2 rfl) ?_
    obtain ⟨f_7, wl_8, r_9, z_10, h⟩ := gb_bd_s h
    refine gb_calli (va_runV (C := RX12) (As := [.int p2]) (rest := []) ⟨hx, hb, hml, hown, hq⟩ (mc_isPath l D cT tt b1 b hb1 n f_1 wl_2 p2 f_7 wl_8 r_9 z_10) (cwV 1 hq (gb_gV w_1380 w_1382 s_4_3 w_14 w_1383) rfl rfl rfl (by decide +kernel) ⟨Nat.le_of_ble_eq_true rfl, Nat.le_of_ble_eq_true rfl⟩) (gb_preV (r := (RX12, TX12, 44)) (ci := 10) (q0 := 0) hSt hP rfl (gb_at b rfl) hS (fun q h => Nat.le_trans hb1 h.1) hP) rfl rfl hl.1 rfl (lv_room (Nat.le_of_ble_eq_true rfl)) dX12_tar_10 ⟨Nat.le_of_ble_eq_true rfl, Nat.le_of_ble_eq_true rfl⟩) hS (fun _ h => h) (fun _ h => h) (fun q_11 H locs hY hk hS => ?_)
    obtain ⟨hq_11, hP⟩ := hY
    replace hq_11 := hq_11.symm
    subst hq_11
    refine lv_if_eq (tgt := 27) hx hb dX12_tar_13 (by decide) (fun c_12 => ?_) (fun c_12 => ?_)
    · rw [if_pos c_12] at h
      refine lv_iconst (v := (-1)) hx hb dX12_tar_27 (by decide) ?_
      obtain ⟨e1, e2, e3⟩ := gb_eq3 h
      exact W.iret (v := (-1)) hx hb hr (fun t ht hW => gb_ri ht ⟨e3, by rw [← e1, ← e2]; exact hP⟩ hS) hS.2.2 dX12_tar_28
    · rw [if_neg c_12] at h
      refine lv_iload_n hx hb dX12_tar_16 rfl (lv_at hl 3 rfl) ?_
      refine lv_iconst (v := 0) hx hb dX12_tar_17 (by decide) ?_
      refine lv_sipush (v := 9999) hx hb dX12_tar_18 (by decide) ?_
      obtain ⟨f_13, wl_14, r_15, z_16, h⟩ := gb_bd_s h
      refine gb_calli (va_runS (As := [.int p3, .int 0, .int 9999]) (rest := []) ⟨hx, hb, hml, hown, hq⟩ (mc_isIn l D cT tt b1 b hb1 n f_7 wl_8 p3 0 9999 f_13 wl_14 r_15 z_16) (va_cwS 3 hq (gb_gS w_1269 w_1270 w_14 w_1271) rfl rfl rfl (by decide +kernel) ⟨Nat.le_of_ble_eq_true rfl, Nat.le_of_ble_eq_true rfl⟩) (gb_preS hSt hS (fun q h => Nat.le_trans hb1 h.1) hP) rfl rfl hl.1 rfl (lv_room (Nat.le_of_ble_eq_true rfl)) dX12_tar_21 ⟨Nat.le_of_ble_eq_true rfl, Nat.le_of_ble_eq_true rfl⟩) hS (fun _ h => h) (fun _ h => h) (fun q_17 H locs hY hk hS => ?_)
      obtain ⟨hq_17, hP⟩ := hY
      replace hq_17 := hq_17.symm
      subst hq_17
      refine lv_if_ne (tgt := 29) hx hb dX12_tar_24 (by decide) (fun c_18 => ?_) (fun c_18 => ?_)
      · rw [if_neg c_18] at h
        refine lv_aload_n hx hb dX12_tar_29 rfl (lv_at hl 0 rfl) ?_
        refine lv_iload_n hx hb dX12_tar_30 rfl (lv_at hl 2 rfl) ?_
        refine lv_iconst (v := 0) hx hb dX12_tar_31 (by decide) ?_
        obtain ⟨f_19, wl_20, r_21, z_22, h⟩ := gb_bd_s h
        refine gb_calli (va_runV (C := RX12) (As := [.int p2, .int 0]) (rest := []) ⟨hx, hb, hml, hown, hq⟩ (mc_ofPath l D cT tt b1 b hb1 n f_13 wl_14 p2 0 f_19 wl_20 r_21 z_22) (cwV 2 hq (gb_gV w_1388 w_1390 s_4_5 w_14 w_1391) rfl rfl rfl (by decide +kernel) ⟨Nat.le_of_ble_eq_true rfl, Nat.le_of_ble_eq_true rfl⟩) (gb_preV (r := (RX12, TX12, 44)) (ci := 10) (q0 := 0) hSt hP rfl (gb_at b rfl) hS (fun q h => Nat.le_trans hb1 h.1) hP) rfl rfl hl.1 rfl (lv_room (Nat.le_of_ble_eq_true rfl)) dX12_tar_32 ⟨Nat.le_of_ble_eq_true rfl, Nat.le_of_ble_eq_true rfl⟩) hS (fun _ h => h) (fun _ h => h) (fun q_23 H locs hY hk hS => ?_)
        obtain ⟨hq_23, hP⟩ := hY
        replace hq_23 := hq_23.symm
        subst hq_23
        refine lv_istore (lv' := [(4, .int r_21), (0, .ref (b + 0)), (1, .int p1), (2, .int p2), (3, .int p3)]) hx hb dX12_tar_35 hl (by decide) rfl (fun ls hl => ?_)
        refine lv_iconst (v := 0) hx hb dX12_tar_37 (by decide) ?_
        refine lv_istore (lv' := [(5, .int 0), (4, .int r_21), (0, .ref (b + 0)), (1, .int p1), (2, .int p2), (3, .int p3)]) hx hb dX12_tar_38 hl (by decide) rfl (fun ls hl => ?_)
        refine lv_iconst (v := 0) hx hb dX12_tar_40 (by decide) ?_
        refine lv_istore (lv' := [(6, .int 0), (5, .int 0), (4, .int r_21), (0, .ref (b + 0)), (1, .int p1), (2, .int p2), (3, .int p3)]) hx hb dX12_tar_41 hl (by decide) rfl (fun ls hl => ?_)
        exact L43 n _ _ _ _ _ _ _ _ _ h hP hS (lv_sub hl [3, 6, 2, 1, 0] rfl)
      · rw [if_pos c_18] at h
        refine lv_iconst (v := (-1)) hx hb dX12_tar_27 (by decide) ?_
        obtain ⟨e1, e2, e3⟩ := gb_eq3 h
        exact W.iret (v := (-1)) hx hb hr (fun t ht hW => gb_ri ht ⟨e3, by rw [← e1, ← e2]; exact hP⟩ hS) hS.2.2 dX12_tar_28
theorem dX12_lamePay_0 : decode cX12_lamePay 0 = .ok (.iconst 0, 1) := dc_3 (show ((cX12_lamePay.data.toList.drop 0).take 1).map UInt8.toNat = [3] by decide +kernel)
theorem dX12_lamePay_1 : decode cX12_lamePay 1 = .ok (.istore_n 3, 1) := dc_62 (show ((cX12_lamePay.data.toList.drop 1).take 1).map UInt8.toNat = [62] by decide +kernel)
theorem dX12_lamePay_2 : decode cX12_lamePay 2 = .ok (.iconst 0, 1) := dc_3 (show ((cX12_lamePay.data.toList.drop 2).take 1).map UInt8.toNat = [3] by decide +kernel)
theorem dX12_lamePay_3 : decode cX12_lamePay 3 = .ok (.istore 4, 2) := dc_54 (show ((cX12_lamePay.data.toList.drop 3).take 2).map UInt8.toNat = [54, 4] by decide +kernel) rfl
theorem dX12_lamePay_5 : decode cX12_lamePay 5 = .ok (.iload 4, 2) := dc_21 (show ((cX12_lamePay.data.toList.drop 5).take 2).map UInt8.toNat = [21, 4] by decide +kernel) rfl
theorem dX12_lamePay_7 : decode cX12_lamePay 7 = .ok (.aload_n 0, 1) := dc_42 (show ((cX12_lamePay.data.toList.drop 7).take 1).map UInt8.toNat = [42] by decide +kernel)
theorem dX12_lamePay_8 : decode cX12_lamePay 8 = .ok (.invokevirtual 202, 3) := dc_182 (show ((cX12_lamePay.data.toList.drop 8).take 3).map UInt8.toNat = [182, 0, 202] by decide +kernel) rfl
theorem dX12_lamePay_11 : decode cX12_lamePay 11 = .ok (.if_icmp .ge 47, 3) := dc_162 (show ((cX12_lamePay.data.toList.drop 11).take 3).map UInt8.toNat = [162, 0, 47] by decide +kernel) rfl
theorem dX12_lamePay_58 : decode cX12_lamePay 58 = .ok (.aload_n 0, 1) := dc_42 (show ((cX12_lamePay.data.toList.drop 58).take 1).map UInt8.toNat = [42] by decide +kernel)
theorem dX12_lamePay_59 : decode cX12_lamePay 59 = .ok (.iload_n 1, 1) := dc_27 (show ((cX12_lamePay.data.toList.drop 59).take 1).map UInt8.toNat = [27] by decide +kernel)
theorem dX12_lamePay_60 : decode cX12_lamePay 60 = .ok (.iconst 1, 1) := dc_4 (show ((cX12_lamePay.data.toList.drop 60).take 1).map UInt8.toNat = [4] by decide +kernel)
theorem dX12_lamePay_61 : decode cX12_lamePay 61 = .ok (.invokevirtual 211, 3) := dc_182 (show ((cX12_lamePay.data.toList.drop 61).take 3).map UInt8.toNat = [182, 0, 211] by decide +kernel) rfl
theorem dX12_lamePay_64 : decode cX12_lamePay 64 = .ok (.aload_n 0, 1) := dc_42 (show ((cX12_lamePay.data.toList.drop 64).take 1).map UInt8.toNat = [42] by decide +kernel)
theorem dX12_lamePay_65 : decode cX12_lamePay 65 = .ok (.iload_n 3, 1) := dc_29 (show ((cX12_lamePay.data.toList.drop 65).take 1).map UInt8.toNat = [29] by decide +kernel)
theorem dX12_lamePay_66 : decode cX12_lamePay 66 = .ok (.iload_n 1, 1) := dc_27 (show ((cX12_lamePay.data.toList.drop 66).take 1).map UInt8.toNat = [27] by decide +kernel)
theorem dX12_lamePay_67 : decode cX12_lamePay 67 = .ok (.invokevirtual 276, 3) := dc_182 (show ((cX12_lamePay.data.toList.drop 67).take 3).map UInt8.toNat = [182, 1, 20] by decide +kernel) rfl
theorem dX12_lamePay_70 : decode cX12_lamePay 70 = .ok (.imul, 1) := dc_104 (show ((cX12_lamePay.data.toList.drop 70).take 1).map UInt8.toNat = [104] by decide +kernel)
theorem dX12_lamePay_71 : decode cX12_lamePay 71 = .ok (.ireturn, 1) := dc_172 (show ((cX12_lamePay.data.toList.drop 71).take 1).map UInt8.toNat = [172] by decide +kernel)
theorem dX12_lamePay_14 : decode cX12_lamePay 14 = .ok (.iload_n 3, 1) := dc_29 (show ((cX12_lamePay.data.toList.drop 14).take 1).map UInt8.toNat = [29] by decide +kernel)
theorem dX12_lamePay_15 : decode cX12_lamePay 15 = .ok (.aload_n 0, 1) := dc_42 (show ((cX12_lamePay.data.toList.drop 15).take 1).map UInt8.toNat = [42] by decide +kernel)
theorem dX12_lamePay_16 : decode cX12_lamePay 16 = .ok (.iload 4, 2) := dc_21 (show ((cX12_lamePay.data.toList.drop 16).take 2).map UInt8.toNat = [21, 4] by decide +kernel) rfl
theorem dX12_lamePay_18 : decode cX12_lamePay 18 = .ok (.aload_n 0, 1) := dc_42 (show ((cX12_lamePay.data.toList.drop 18).take 1).map UInt8.toNat = [42] by decide +kernel)
theorem dX12_lamePay_19 : decode cX12_lamePay 19 = .ok (.iload_n 1, 1) := dc_27 (show ((cX12_lamePay.data.toList.drop 19).take 1).map UInt8.toNat = [27] by decide +kernel)
theorem dX12_lamePay_20 : decode cX12_lamePay 20 = .ok (.iconst 0, 1) := dc_3 (show ((cX12_lamePay.data.toList.drop 20).take 1).map UInt8.toNat = [3] by decide +kernel)
theorem dX12_lamePay_21 : decode cX12_lamePay 21 = .ok (.invokevirtual 211, 3) := dc_182 (show ((cX12_lamePay.data.toList.drop 21).take 3).map UInt8.toNat = [182, 0, 211] by decide +kernel) rfl
theorem dX12_lamePay_24 : decode cX12_lamePay 24 = .ok (.aload_n 0, 1) := dc_42 (show ((cX12_lamePay.data.toList.drop 24).take 1).map UInt8.toNat = [42] by decide +kernel)
theorem dX12_lamePay_25 : decode cX12_lamePay 25 = .ok (.iload 4, 2) := dc_21 (show ((cX12_lamePay.data.toList.drop 25).take 2).map UInt8.toNat = [21, 4] by decide +kernel) rfl
theorem dX12_lamePay_27 : decode cX12_lamePay 27 = .ok (.iconst 2, 1) := dc_5 (show ((cX12_lamePay.data.toList.drop 27).take 1).map UInt8.toNat = [5] by decide +kernel)
theorem dX12_lamePay_28 : decode cX12_lamePay 28 = .ok (.invokevirtual 217, 3) := dc_182 (show ((cX12_lamePay.data.toList.drop 28).take 3).map UInt8.toNat = [182, 0, 217] by decide +kernel) rfl
theorem dX12_lamePay_31 : decode cX12_lamePay 31 = .ok (.iconst 0, 1) := dc_3 (show ((cX12_lamePay.data.toList.drop 31).take 1).map UInt8.toNat = [3] by decide +kernel)
theorem dX12_lamePay_32 : decode cX12_lamePay 32 = .ok (.iload_n 2, 1) := dc_28 (show ((cX12_lamePay.data.toList.drop 32).take 1).map UInt8.toNat = [28] by decide +kernel)
theorem dX12_lamePay_33 : decode cX12_lamePay 33 = .ok (.ifCond .eq 13, 3) := dc_153 (show ((cX12_lamePay.data.toList.drop 33).take 3).map UInt8.toNat = [153, 0, 13] by decide +kernel) rfl
theorem dX12_lamePay_46 : decode cX12_lamePay 46 = .ok (.iconst 0, 1) := dc_3 (show ((cX12_lamePay.data.toList.drop 46).take 1).map UInt8.toNat = [3] by decide +kernel)
theorem dX12_lamePay_47 : decode cX12_lamePay 47 = .ok (.invokevirtual 220, 3) := dc_182 (show ((cX12_lamePay.data.toList.drop 47).take 3).map UInt8.toNat = [182, 0, 220] by decide +kernel) rfl
theorem dX12_lamePay_50 : decode cX12_lamePay 50 = .ok (.iadd, 1) := dc_96 (show ((cX12_lamePay.data.toList.drop 50).take 1).map UInt8.toNat = [96] by decide +kernel)
theorem dX12_lamePay_51 : decode cX12_lamePay 51 = .ok (.istore_n 3, 1) := dc_62 (show ((cX12_lamePay.data.toList.drop 51).take 1).map UInt8.toNat = [62] by decide +kernel)
theorem dX12_lamePay_52 : decode cX12_lamePay 52 = .ok (.iinc 4 1, 3) := dc_132 (show ((cX12_lamePay.data.toList.drop 52).take 3).map UInt8.toNat = [132, 4, 1] by decide +kernel) rfl
theorem dX12_lamePay_55 : decode cX12_lamePay 55 = .ok (.goto (-50), 3) := dc_167 (show ((cX12_lamePay.data.toList.drop 55).take 3).map UInt8.toNat = [167, 255, 206] by decide +kernel) rfl
theorem dX12_lamePay_36 : decode cX12_lamePay 36 = .ok (.aload_n 0, 1) := dc_42 (show ((cX12_lamePay.data.toList.drop 36).take 1).map UInt8.toNat = [42] by decide +kernel)
theorem dX12_lamePay_37 : decode cX12_lamePay 37 = .ok (.iload 4, 2) := dc_21 (show ((cX12_lamePay.data.toList.drop 37).take 2).map UInt8.toNat = [21, 4] by decide +kernel) rfl
theorem dX12_lamePay_39 : decode cX12_lamePay 39 = .ok (.iconst 3, 1) := dc_6 (show ((cX12_lamePay.data.toList.drop 39).take 1).map UInt8.toNat = [6] by decide +kernel)
theorem dX12_lamePay_40 : decode cX12_lamePay 40 = .ok (.invokevirtual 217, 3) := dc_182 (show ((cX12_lamePay.data.toList.drop 40).take 3).map UInt8.toNat = [182, 0, 217] by decide +kernel) rfl
theorem dX12_lamePay_43 : decode cX12_lamePay 43 = .ok (.goto 4, 3) := dc_167 (show ((cX12_lamePay.data.toList.drop 43).take 3).map UInt8.toNat = [167, 0, 4] by decide +kernel) rfl
def ms_lamePay_5 (n : Nat) : Nat → gb_F → Int64 → Int32 → Int32 → Int32 → Int32 → gb_MR Int32
  | 0, _, _, _, _, _, _ => none
  | mm + 1, f, w, v1, v2, v3, v4 => gb_bd (ms_geese n f w) (fun f_1 wl_2 r_3 => (if r_3 ≤ v4 then gb_bd (ms_ofPath n f_1 wl_2 v1 1) (fun f_7 wl_8 r_9 => gb_bd (ms_padded n f_7 wl_8 v3 v1) (fun f_12 wl_13 r_14 => some (f_12, wl_13, (r_9 * r_14)))) else gb_bd (ms_ofPath n f_1 wl_2 v1 0) (fun f_17 wl_18 r_19 => gb_bd (ms_ofGoose n f_17 wl_18 v4 2) (fun f_22 wl_23 r_24 => (if v2 = 0 then gb_bd (ms_left n f_22 wl_23 v4 r_19 r_24 0 0) (fun f_28 wl_29 r_30 => gb_lt (v3 + r_30) (fun x_33 => gb_lt (v4 + 1) (fun x_34 => ms_lamePay_5 n mm f_28 wl_29 v1 v2 x_33 x_34))) else gb_bd (ms_ofGoose n f_22 wl_23 v4 3) (fun f_35 wl_36 r_37 => gb_bd (ms_left n f_35 wl_36 v4 r_19 r_24 0 r_37) (fun f_40 wl_41 r_42 => gb_lt (v3 + r_42) (fun x_45 => gb_lt (v4 + 1) (fun x_46 => ms_lamePay_5 n mm f_40 wl_41 v1 v2 x_45 x_46)))))))))
def ms_lamePay (n : Nat) (f : gb_F) (w : Int64) (p1 : Int32) (p2 : Int32) : gb_MR Int32 := ms_lamePay_5 n n f w p1 p2 0 0
set_option maxHeartbeats 8000000 in
set_option maxRecDepth 100000 in
theorem mc_lamePay (l : Launch) (D : va_G) (cT : Nat → ClassId) (tt : Nat → Nat) (b1 b : Nat) (hb1 : b1 ≤ b) (n : Nat) (f : gb_F) (w : Int64) (p1 : Int32) (p2 : Int32) (fE : gb_F) (wE : Int64) (rE : Int32) (h : ms_lamePay n f w p1 p2 = some (fE, wE, rE)) : Met l yX12_lamePay (.code yX12_lamePay cX12_lamePay 5 (some FieldType.int) :: gb_wA) ({ frames := 3, cells := 0, slots := 0, locals := 70 }) (gb_Pc D cT tt b1 [.ref (b + 0), .int p1, .int p2] (fun h => va_P D vwCl (gb_wl b (gb_MW cT b f w)) h)) (gb_Qi (fun r h => r = rE ∧ va_P D vwCl (gb_wl b (gb_MW cT b fE wE)) h) (gb_fr b 22)) 0 0 (gb_fr b 22) := by
  refine Met.ofW (cc := cX12_lamePay) (maxL := 5) (ret := (some FieldType.int)) (by decide) rfl ?_
  intro p e s m args below meth c s₁ B hml hv
  obtain ⟨rfl, hSt, hP⟩ := hv
  have hx := B.exec
  have hb := B.bytes
  have hr := B.returns
  have hts := atoms_spec (ws := .code yX12_lamePay cX12_lamePay 5 (some FieldType.int) :: gb_wA) B.pre
  have hq : ∀ w ∈ gb_wA, w.before _ s = true := fun w h => hts w (List.mem_cons_of_mem _ h)
  have hown : s.vm.findClass RX12 = some m.cls := findClass_of_methodNamed B.named
  have hlocks := B.notSynchronized
  clear B hts
  have hK := hSt.1
  have hS : va_S (gb_fr b 22) s.heap s.heap [] := va_S.rf
  have hl := lv_entry ([.ref (b + 0), .int p1, .int p2]) (n := 5) (Nat.le_of_ble_eq_true rfl)
  rw [lg_entry_eq]
  generalize (lg_sl ([.ref (b + 0), .int p1, .int p2]) ++ List.replicate (5 - (lg_sl ([.ref (b + 0), .int p1, .int p2])).length) Slot.unset).toArray = ls at hl ⊢
  replace hl : lv_has ls 5 [(0, .ref (b + 0)), (1, .int p1), (2, .int p2)] := hl
  have L5 : ∀ (mm : Nat) (f : gb_F) (w : Int64) (v1 : Int32) (v2 : Int32) (v3 : Int32) (v4 : Int32) (H : Heap) (locs : List Loc) (ls : Array Slot), ms_lamePay_5 n mm f w v1 v2 v3 v4 = some (fE, wE, rE) → va_P D vwCl (gb_wl b (gb_MW cT b f w)) H → va_S (gb_fr b 22) s.heap H locs → lv_has ls 5 [(0, .ref (b + 0)), (1, .int v1), (2, .int v2), (3, .int v3), (4, .int v4)] → W p l e (headSpec (.code yX12_lamePay cX12_lamePay 5 (some FieldType.int) :: gb_wA) ({ frames := 3, cells := 0, slots := 0, locals := 70 })).room s m ([.ref (b + 0), .int p1, .int p2]).toArray below meth c H locs 0 0 (MQ below (gb_Qi (fun r h => r = rE ∧ va_P D vwCl (gb_wl b (gb_MW cT b fE wE)) h) (gb_fr b 22)) ([.ref (b + 0), .int p1, .int p2]).toArray s 0 0 (gb_fr b 22)) (F0 m 5 ls []) := by
    clear h hP hS hl ls f w
    intro mm
    induction mm with
    | zero =>
      intro f w v1 v2 v3 v4 H locs ls h
      cases h
    | succ mm ih =>
      intro f w v1 v2 v3 v4 H locs ls h hP hS hl
      rw [ms_lamePay_5] at h
      refine lv_iload hx hb dX12_lamePay_5 (lv_at hl 4 rfl) ?_
      refine lv_aload_n hx hb dX12_lamePay_7 rfl (lv_at hl 0 rfl) ?_
      obtain ⟨f_1, wl_2, r_3, z_4, h⟩ := gb_bd_s h
      refine gb_calli (va_runV (C := RX12) (As := []) (rest := [.int v4]) ⟨hx, hb, hml, hown, hq⟩ (mc_geese l D cT tt b1 b hb1 n f w f_1 wl_2 r_3 z_4) (cwV 0 hq (gb_gV w_1396 w_1398 s_4_7 w_14 w_1399) rfl rfl rfl (by decide +kernel) ⟨Nat.le_of_ble_eq_true rfl, Nat.le_of_ble_eq_true rfl⟩) (gb_preV (r := (RX12, TX12, 44)) (ci := 10) (q0 := 0) hSt hP rfl (gb_at b rfl) hS (fun q h => Nat.le_trans hb1 h.1) hP) rfl rfl hl.1 rfl (lv_room (Nat.le_of_ble_eq_true rfl)) dX12_lamePay_8 ⟨Nat.le_of_ble_eq_true rfl, Nat.le_of_ble_eq_true rfl⟩) hS (fun _ h => h) (fun _ h => h) (fun q_5 H locs hY hk hS => ?_)
      obtain ⟨hq_5, hP⟩ := hY
      replace hq_5 := hq_5.symm
      subst hq_5
      refine lv_icmp_ge (tgt := 58) hx hb dX12_lamePay_11 (by decide) (fun c_6 => ?_) (fun c_6 => ?_)
      · rw [if_pos c_6] at h
        refine lv_aload_n hx hb dX12_lamePay_58 rfl (lv_at hl 0 rfl) ?_
        refine lv_iload_n hx hb dX12_lamePay_59 rfl (lv_at hl 1 rfl) ?_
        refine lv_iconst (v := 1) hx hb dX12_lamePay_60 (by decide) ?_
        obtain ⟨f_7, wl_8, r_9, z_10, h⟩ := gb_bd_s h
        refine gb_calli (va_runV (C := RX12) (As := [.int v1, .int 1]) (rest := []) ⟨hx, hb, hml, hown, hq⟩ (mc_ofPath l D cT tt b1 b hb1 n f_1 wl_2 v1 1 f_7 wl_8 r_9 z_10) (cwV 2 hq (gb_gV w_1388 w_1390 s_4_5 w_14 w_1391) rfl rfl rfl (by decide +kernel) ⟨Nat.le_of_ble_eq_true rfl, Nat.le_of_ble_eq_true rfl⟩) (gb_preV (r := (RX12, TX12, 44)) (ci := 10) (q0 := 0) hSt hP rfl (gb_at b rfl) hS (fun q h => Nat.le_trans hb1 h.1) hP) rfl rfl hl.1 rfl (lv_room (Nat.le_of_ble_eq_true rfl)) dX12_lamePay_61 ⟨Nat.le_of_ble_eq_true rfl, Nat.le_of_ble_eq_true rfl⟩) hS (fun _ h => h) (fun _ h => h) (fun q_11 H locs hY hk hS => ?_)
        obtain ⟨hq_11, hP⟩ := hY
        replace hq_11 := hq_11.symm
        subst hq_11
        refine lv_aload_n hx hb dX12_lamePay_64 rfl (lv_at hl 0 rfl) ?_
        refine lv_iload_n hx hb dX12_lamePay_65 rfl (lv_at hl 3 rfl) ?_
        refine lv_iload_n hx hb dX12_lamePay_66 rfl (lv_at hl 1 rfl) ?_
        obtain ⟨f_12, wl_13, r_14, z_15, h⟩ := gb_bd_s h
        refine gb_calli (va_runV (C := RX12) (As := [.int v3, .int v1]) (rest := [.int r_9]) ⟨hx, hb, hml, hown, hq⟩ (mc_padded l D cT tt b1 b hb1 n f_7 wl_8 v3 v1 f_12 wl_13 r_14 z_15) (cwV 2 hq (gb_gV w_1480 w_1482 s_5_7 w_14 w_1483) rfl rfl rfl (by decide +kernel) ⟨Nat.le_of_ble_eq_true rfl, Nat.le_of_ble_eq_true rfl⟩) (gb_preV (r := (RX12, TX12, 44)) (ci := 10) (q0 := 0) hSt hP rfl (gb_at b rfl) hS (fun q h => Nat.le_trans hb1 h.1) hP) rfl rfl hl.1 rfl (lv_room (Nat.le_of_ble_eq_true rfl)) dX12_lamePay_67 ⟨Nat.le_of_ble_eq_true rfl, Nat.le_of_ble_eq_true rfl⟩) hS (fun _ h => h) (fun _ h => h) (fun q_16 H locs hY hk hS => ?_)
        obtain ⟨hq_16, hP⟩ := hY
        replace hq_16 := hq_16.symm
        subst hq_16
        refine lv_imul hx hb dX12_lamePay_70 ?_
        obtain ⟨e1, e2, e3⟩ := gb_eq3 h
        exact W.iret (v := (r_9 * r_14)) hx hb hr (fun t ht hW => gb_ri ht ⟨e3, by rw [← e1, ← e2]; exact hP⟩ hS) hS.2.2 dX12_lamePay_71
      · rw [if_neg c_6] at h
        refine lv_iload_n hx hb dX12_lamePay_14 rfl (lv_at hl 3 rfl) ?_
        refine lv_aload_n hx hb dX12_lamePay_15 rfl (lv_at hl 0 rfl) ?_
        refine lv_iload hx hb dX12_lamePay_16 (lv_at hl 4 rfl) ?_
        refine lv_aload_n hx hb dX12_lamePay_18 rfl (lv_at hl 0 rfl) ?_
        refine lv_iload_n hx hb dX12_lamePay_19 rfl (lv_at hl 1 rfl) ?_
        refine lv_iconst (v := 0) hx hb dX12_lamePay_20 (by decide) ?_
        obtain ⟨f_17, wl_18, r_19, z_20, h⟩ := gb_bd_s h
        refine gb_calli (va_runV (C := RX12) (As := [.int v1, .int 0]) (rest := [.int v4, .ref (b + 0), .int v3]) ⟨hx, hb, hml, hown, hq⟩ (mc_ofPath l D cT tt b1 b hb1 n f_1 wl_2 v1 0 f_17 wl_18 r_19 z_20) (cwV 2 hq (gb_gV w_1388 w_1390 s_4_5 w_14 w_1391) rfl rfl rfl (by decide +kernel) ⟨Nat.le_of_ble_eq_true rfl, Nat.le_of_ble_eq_true rfl⟩) (gb_preV (r := (RX12, TX12, 44)) (ci := 10) (q0 := 0) hSt hP rfl (gb_at b rfl) hS (fun q h => Nat.le_trans hb1 h.1) hP) rfl rfl hl.1 rfl (lv_room (Nat.le_of_ble_eq_true rfl)) dX12_lamePay_21 ⟨Nat.le_of_ble_eq_true rfl, Nat.le_of_ble_eq_true rfl⟩) hS (fun _ h => h) (fun _ h => h) (fun q_21 H locs hY hk hS => ?_)
        obtain ⟨hq_21, hP⟩ := hY
        replace hq_21 := hq_21.symm
        subst hq_21
        refine lv_aload_n hx hb dX12_lamePay_24 rfl (lv_at hl 0 rfl) ?_
        refine lv_iload hx hb dX12_lamePay_25 (lv_at hl 4 rfl) ?_
        refine lv_iconst (v := 2) hx hb dX12_lamePay_27 (by decide) ?_
        obtain ⟨f_22, wl_23, r_24, z_25, h⟩ := gb_bd_s h
        refine gb_calli (va_runV (C := RX12) (As := [.int v4, .int 2]) (rest := [.int r_19, .int v4, .ref (b + 0), .int v3]) ⟨hx, hb, hml, hown, hq⟩ (mc_ofGoose l D cT tt b1 b hb1 n f_17 wl_18 v4 2 f_22 wl_23 r_24 z_25) (cwV 2 hq (gb_gV w_1400 w_1402 s_4_8 w_14 w_1403) rfl rfl rfl (by decide +kernel) ⟨Nat.le_of_ble_eq_true rfl, Nat.le_of_ble_eq_true rfl⟩) (gb_preV (r := (RX12, TX12, 44)) (ci := 10) (q0 := 0) hSt hP rfl (gb_at b rfl) hS (fun q h => Nat.le_trans hb1 h.1) hP) rfl rfl hl.1 rfl (lv_room (Nat.le_of_ble_eq_true rfl)) dX12_lamePay_28 ⟨Nat.le_of_ble_eq_true rfl, Nat.le_of_ble_eq_true rfl⟩) hS (fun _ h => h) (fun _ h => h) (fun q_26 H locs hY hk hS => ?_)
        obtain ⟨hq_26, hP⟩ := hY
        replace hq_26 := hq_26.symm
        subst hq_26
        refine lv_iconst (v := 0) hx hb dX12_lamePay_31 (by decide) ?_
        refine lv_iload_n hx hb dX12_lamePay_32 rfl (lv_at hl 2 rfl) ?_
        refine lv_if_eq (tgt := 46) hx hb dX12_lamePay_33 (by decide) (fun c_27 => ?_) (fun c_27 => ?_)
        · rw [if_pos c_27] at h
          refine lv_iconst (v := 0) hx hb dX12_lamePay_46 (by decide) ?_
          obtain ⟨f_28, wl_29, r_30, z_31, h⟩ := gb_bd_s h
          refine gb_calli (va_runV (C := RX12) (As := [.int v4, .int r_19, .int r_24, .int 0, .int 0]) (rest := [.int v3]) ⟨hx, hb, hml, hown, hq⟩ (mc_left l D cT tt b1 b hb1 n f_22 wl_23 v4 r_19 r_24 0 0 f_28 wl_29 r_30 z_31) (cwV 5 hq (gb_gV w_1408 w_1410 s_4_9 w_14 w_1411) rfl rfl rfl (by decide +kernel) ⟨Nat.le_of_ble_eq_true rfl, Nat.le_of_ble_eq_true rfl⟩) (gb_preV (r := (RX12, TX12, 44)) (ci := 10) (q0 := 0) hSt hP rfl (gb_at b rfl) hS (fun q h => Nat.le_trans hb1 h.1) hP) rfl rfl hl.1 rfl (lv_room (Nat.le_of_ble_eq_true rfl)) dX12_lamePay_47 ⟨Nat.le_of_ble_eq_true rfl, Nat.le_of_ble_eq_true rfl⟩) hS (fun _ h => h) (fun _ h => h) (fun q_32 H locs hY hk hS => ?_)
          obtain ⟨hq_32, hP⟩ := hY
          replace hq_32 := hq_32.symm
          subst hq_32
          refine lv_iadd hx hb dX12_lamePay_50 ?_
          refine lv_topi (fun x_33 ex_33 => ?_)
          replace h := gb_lt_s ex_33 h
          refine lv_istore_n (lv' := [(3, .int x_33), (0, .ref (b + 0)), (1, .int v1), (2, .int v2), (4, .int v4)]) hx hb dX12_lamePay_51 rfl hl (by decide) rfl (fun ls hl => ?_)
          obtain ⟨x_34, ex_34⟩ : ∃ q, q = (v4 + 1) := ⟨_, rfl⟩
          replace h := gb_lt_s ex_34 h
          refine lv_iinc (v := x_34) (lv' := [(4, .int x_34), (3, .int x_33), (0, .ref (b + 0)), (1, .int v1), (2, .int v2)]) hx hb dX12_lamePay_52 hl (k := 4) rfl (by rw [ex_34]; rfl) (by decide) rfl (fun ls hl => ?_)
          refine lv_goto (tgt := 5) hx hb dX12_lamePay_55 (by decide) ?_
          exact ih _ _ _ _ _ _ _ _ _ h hP hS (lv_sub hl [2, 3, 4, 1, 0] rfl)
        · rw [if_neg c_27] at h
          refine lv_aload_n hx hb dX12_lamePay_36 rfl (lv_at hl 0 rfl) ?_
          refine lv_iload hx hb dX12_lamePay_37 (lv_at hl 4 rfl) ?_
          refine lv_iconst (v := 3) hx hb dX12_lamePay_39 (by decide) ?_
          obtain ⟨f_35, wl_36, r_37, z_38, h⟩ := gb_bd_s h
          refine gb_calli (va_runV (C := RX12) (As := [.int v4, .int 3]) (rest := [.int 0, .int r_24, .int r_19, .int v4, .ref (b + 0), .int v3]) ⟨hx, hb, hml, hown, hq⟩ (mc_ofGoose l D cT tt b1 b hb1 n f_22 wl_23 v4 3 f_35 wl_36 r_37 z_38) (cwV 2 hq (gb_gV w_1400 w_1402 s_4_8 w_14 w_1403) rfl rfl rfl (by decide +kernel) ⟨Nat.le_of_ble_eq_true rfl, Nat.le_of_ble_eq_true rfl⟩) (gb_preV (r := (RX12, TX12, 44)) (ci := 10) (q0 := 0) hSt hP rfl (gb_at b rfl) hS (fun q h => Nat.le_trans hb1 h.1) hP) rfl rfl hl.1 rfl (lv_room (Nat.le_of_ble_eq_true rfl)) dX12_lamePay_40 ⟨Nat.le_of_ble_eq_true rfl, Nat.le_of_ble_eq_true rfl⟩) hS (fun _ h => h) (fun _ h => h) (fun q_39 H locs hY hk hS => ?_)
          obtain ⟨hq_39, hP⟩ := hY
          replace hq_39 := hq_39.symm
          subst hq_39
          refine lv_goto (tgt := 47) hx hb dX12_lamePay_43 (by decide) ?_
          obtain ⟨f_40, wl_41, r_42, z_43, h⟩ := gb_bd_s h
          refine gb_calli (va_runV (C := RX12) (As := [.int v4, .int r_19, .int r_24, .int 0, .int r_37]) (rest := [.int v3]) ⟨hx, hb, hml, hown, hq⟩ (mc_left l D cT tt b1 b hb1 n f_35 wl_36 v4 r_19 r_24 0 r_37 f_40 wl_41 r_42 z_43) (cwV 5 hq (gb_gV w_1408 w_1410 s_4_9 w_14 w_1411) rfl rfl rfl (by decide +kernel) ⟨Nat.le_of_ble_eq_true rfl, Nat.le_of_ble_eq_true rfl⟩) (gb_preV (r := (RX12, TX12, 44)) (ci := 10) (q0 := 0) hSt hP rfl (gb_at b rfl) hS (fun q h => Nat.le_trans hb1 h.1) hP) rfl rfl hl.1 rfl (lv_room (Nat.le_of_ble_eq_true rfl)) dX12_lamePay_47 ⟨Nat.le_of_ble_eq_true rfl, Nat.le_of_ble_eq_true rfl⟩) hS (fun _ h => h) (fun _ h => h) (fun q_44 H locs hY hk hS => ?_)
          obtain ⟨hq_44, hP⟩ := hY
          replace hq_44 := hq_44.symm
          subst hq_44
          refine lv_iadd hx hb dX12_lamePay_50 ?_
          refine lv_topi (fun x_45 ex_45 => ?_)
          replace h := gb_lt_s ex_45 h
          refine lv_istore_n (lv' := [(3, .int x_45), (0, .ref (b + 0)), (1, .int v1), (2, .int v2), (4, .int v4)]) hx hb dX12_lamePay_51 rfl hl (by decide) rfl (fun ls hl => ?_)
          obtain ⟨x_46, ex_46⟩ : ∃ q, q = (v4 + 1) := ⟨_, rfl⟩
          replace h := gb_lt_s ex_46 h
          refine lv_iinc (v := x_46) (lv' := [(4, .int x_46), (3, .int x_45), (0, .ref (b + 0)), (1, .int v1), (2, .int v2)]) hx hb dX12_lamePay_52 hl (k := 4) rfl (by rw [ex_46]; rfl) (by decide) rfl (fun ls hl => ?_)
          refine lv_goto (tgt := 5) hx hb dX12_lamePay_55 (by decide) ?_
          exact ih _ _ _ _ _ _ _ _ _ h hP hS (lv_sub hl [2, 3, 4, 1, 0] rfl)
  unfold ms_lamePay at h
  refine lv_iconst (v := 0) hx hb dX12_lamePay_0 (by decide) ?_
  refine lv_istore_n (lv' := [(3, .int 0), (0, .ref (b + 0)), (1, .int p1), (2, .int p2)]) hx hb dX12_lamePay_1 rfl hl (by decide) rfl (fun ls hl => ?_)
  refine lv_iconst (v := 0) hx hb dX12_lamePay_2 (by decide) ?_
  refine lv_istore (lv' := [(4, .int 0), (3, .int 0), (0, .ref (b + 0)), (1, .int p1), (2, .int p2)]) hx hb dX12_lamePay_3 hl (by decide) rfl (fun ls hl => ?_)
  exact L5 n _ _ _ _ _ _ _ _ _ h hP hS (lv_sub hl [2, 3, 4, 1, 0] rfl)
