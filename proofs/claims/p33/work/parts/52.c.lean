theorem dX11_marks_0 : decode cX11_marks 0 = .ok (.aload_n 0, 1) := dc_42 (show ((cX11_marks.data.toList.drop 0).take 1).map UInt8.toNat = [42] by decide +kernel)
theorem dX11_marks_1 : decode cX11_marks 1 = .ok (.iload_n 1, 1) := dc_27 (show ((cX11_marks.data.toList.drop 1).take 1).map UInt8.toNat = [27] by decide +kernel)
theorem dX11_marks_2 : decode cX11_marks 2 = .ok (.invokevirtual 113, 3) := dc_182 (show ((cX11_marks.data.toList.drop 2).take 3).map UInt8.toNat = [182, 0, 113] by decide +kernel) rfl
theorem dX11_marks_5 : decode cX11_marks 5 = .ok (.astore 5, 2) := dc_58 (show ((cX11_marks.data.toList.drop 5).take 2).map UInt8.toNat = [58, 5] by decide +kernel) rfl
theorem dX11_marks_7 : decode cX11_marks 7 = .ok (.aload 5, 2) := dc_25 (show ((cX11_marks.data.toList.drop 7).take 2).map UInt8.toNat = [25, 5] by decide +kernel) rfl
theorem dX11_marks_9 : decode cX11_marks 9 = .ok (.ifnull 21, 3) := dc_198 (show ((cX11_marks.data.toList.drop 9).take 3).map UInt8.toNat = [198, 0, 21] by decide +kernel) rfl
theorem dX11_marks_30 : decode cX11_marks 30 = .ok (.iconst (-1), 1) := dc_2 (show ((cX11_marks.data.toList.drop 30).take 1).map UInt8.toNat = [2] by decide +kernel)
theorem dX11_marks_31 : decode cX11_marks 31 = .ok (.ireturn, 1) := dc_172 (show ((cX11_marks.data.toList.drop 31).take 1).map UInt8.toNat = [172] by decide +kernel)
theorem dX11_marks_12 : decode cX11_marks 12 = .ok (.aload 5, 2) := dc_25 (show ((cX11_marks.data.toList.drop 12).take 2).map UInt8.toNat = [25, 5] by decide +kernel) rfl
theorem dX11_marks_14 : decode cX11_marks 14 = .ok (.iload_n 2, 1) := dc_28 (show ((cX11_marks.data.toList.drop 14).take 1).map UInt8.toNat = [28] by decide +kernel)
theorem dX11_marks_15 : decode cX11_marks 15 = .ok (.invokevirtual 131, 3) := dc_182 (show ((cX11_marks.data.toList.drop 15).take 3).map UInt8.toNat = [182, 0, 131] by decide +kernel) rfl
theorem w_619 : (Cond.methodLink "GooseBorder" (131 : Nat) ({ cls := "GooseBorder$Border", name := "hasGoose", desc := "(I)Z" } : MethodName)) ∈ gb_wA := gb_t3 139 rfl rfl
theorem dX11_marks_18 : decode cX11_marks 18 = .ok (.ifCond .eq 12, 3) := dc_153 (show ((cX11_marks.data.toList.drop 18).take 3).map UInt8.toNat = [153, 0, 12] by decide +kernel) rfl
theorem dX11_marks_21 : decode cX11_marks 21 = .ok (.aload 5, 2) := dc_25 (show ((cX11_marks.data.toList.drop 21).take 2).map UInt8.toNat = [25, 5] by decide +kernel) rfl
theorem dX11_marks_23 : decode cX11_marks 23 = .ok (.iload_n 3, 1) := dc_29 (show ((cX11_marks.data.toList.drop 23).take 1).map UInt8.toNat = [29] by decide +kernel)
theorem dX11_marks_24 : decode cX11_marks 24 = .ok (.invokevirtual 135, 3) := dc_182 (show ((cX11_marks.data.toList.drop 24).take 3).map UInt8.toNat = [182, 0, 135] by decide +kernel) rfl
theorem w_620 : (Cond.methodLink "GooseBorder" (135 : Nat) ({ cls := "GooseBorder$Border", name := "hasPath", desc := "(I)Z" } : MethodName)) ∈ gb_wA := gb_t3 140 rfl rfl
theorem dX11_marks_27 : decode cX11_marks 27 = .ok (.ifCond .ne 5, 3) := dc_154 (show ((cX11_marks.data.toList.drop 27).take 3).map UInt8.toNat = [154, 0, 5] by decide +kernel) rfl
theorem dX11_marks_32 : decode cX11_marks 32 = .ok (.aload 5, 2) := dc_25 (show ((cX11_marks.data.toList.drop 32).take 2).map UInt8.toNat = [25, 5] by decide +kernel) rfl
theorem dX11_marks_34 : decode cX11_marks 34 = .ok (.iload_n 2, 1) := dc_28 (show ((cX11_marks.data.toList.drop 34).take 1).map UInt8.toNat = [28] by decide +kernel)
theorem dX11_marks_35 : decode cX11_marks 35 = .ok (.aload 5, 2) := dc_25 (show ((cX11_marks.data.toList.drop 35).take 2).map UInt8.toNat = [25, 5] by decide +kernel) rfl
theorem dX11_marks_37 : decode cX11_marks 37 = .ok (.iload_n 3, 1) := dc_29 (show ((cX11_marks.data.toList.drop 37).take 1).map UInt8.toNat = [29] by decide +kernel)
theorem dX11_marks_38 : decode cX11_marks 38 = .ok (.invokevirtual 138, 3) := dc_182 (show ((cX11_marks.data.toList.drop 38).take 3).map UInt8.toNat = [182, 0, 138] by decide +kernel) rfl
theorem w_621 : (Cond.methodLink "GooseBorder" (138 : Nat) ({ cls := "GooseBorder$Border", name := "miles", desc := "(I)I" } : MethodName)) ∈ gb_wA := gb_t3 141 rfl rfl
theorem dX11_marks_41 : decode cX11_marks 41 = .ok (.aload 5, 2) := dc_25 (show ((cX11_marks.data.toList.drop 41).take 2).map UInt8.toNat = [25, 5] by decide +kernel) rfl
theorem dX11_marks_43 : decode cX11_marks 43 = .ok (.iload_n 2, 1) := dc_28 (show ((cX11_marks.data.toList.drop 43).take 1).map UInt8.toNat = [28] by decide +kernel)
theorem dX11_marks_44 : decode cX11_marks 44 = .ok (.invokevirtual 141, 3) := dc_182 (show ((cX11_marks.data.toList.drop 44).take 3).map UInt8.toNat = [182, 0, 141] by decide +kernel) rfl
theorem w_625 : (Cond.methodLink "GooseBorder" (141 : Nat) ({ cls := "GooseBorder$Border", name := "boots", desc := "(I)I" } : MethodName)) ∈ gb_wA := gb_t3 145 rfl rfl
theorem dX11_marks_47 : decode cX11_marks 47 = .ok (.iload 4, 2) := dc_21 (show ((cX11_marks.data.toList.drop 47).take 2).map UInt8.toNat = [21, 4] by decide +kernel) rfl
theorem dX11_marks_49 : decode cX11_marks 49 = .ok (.invokevirtual 144, 3) := dc_182 (show ((cX11_marks.data.toList.drop 49).take 3).map UInt8.toNat = [182, 0, 144] by decide +kernel) rfl
theorem w_629 : (Cond.methodLink "GooseBorder" (144 : Nat) ({ cls := "GooseBorder$Border", name := "marksOver", desc := "(IIIZ)I" } : MethodName)) ∈ gb_wA := gb_t3 149 rfl rfl
theorem dX11_marks_52 : decode cX11_marks 52 = .ok (.ireturn, 1) := dc_172 (show ((cX11_marks.data.toList.drop 52).take 1).map UInt8.toNat = [172] by decide +kernel)
def cs_Face_marks (n : Nat) (σ : gb_S) (p1 : Int32) (p2 : Int32) (p3 : Int32) (p4 : Int32) : gb_CR Int32 := gb_cd (cs_Face_borderAt n σ p1) (fun s_1 r_2 => (if r_2 = 0 then some (s_1, (-1)) else gb_kk (gb_kB r_2) (gb_cd (cs_Border_hasGoose_B n s_1 r_2 p2) (fun s_7 r_8 => (if r_8 = 0 then some (s_7, (-1)) else gb_cd (cs_Border_hasPath_B n s_7 r_2 p3) (fun s_12 r_13 => (if r_13 = 0 then some (s_12, (-1)) else gb_cd (cs_Border_miles_B n s_12 r_2 p3) (fun s_17 r_18 => gb_cd (cs_Border_boots_B n s_17 r_2 p2) (fun s_21 r_22 => gb_cd (cs_Border_marksOver_B n s_21 r_2 p2 r_18 r_22 p4) (fun s_25 r_26 => some (s_25, r_26)))))))))))
set_option maxHeartbeats 8000000 in
set_option maxRecDepth 100000 in
theorem cc_Face_marks (l : Launch) (D : va_G) (cT : Nat → ClassId) (tt : Nat → Nat) (b1 b : Nat) (hb1 : b1 ≤ b) (n : Nat) (σ : gb_S) (p1 : Int32) (p2 : Int32) (p3 : Int32) (p4 : Int32) (σE : gb_S) (rE : Int32) (h : cs_Face_marks n σ p1 p2 p3 p4 = some (σE, rE)) : Met l yX11_marks (.code yX11_marks cX11_marks 6 (some FieldType.int) :: gb_wA) ({ frames := 2, cells := 0, slots := 0, locals := 48 }) (gb_Pc D cT tt b1 [.ref (b + 0), .int p1, .int p2, .int p3, .int p4] (fun h => va_P D vwCl (gb_wl b (gb_CW cT b σ)) h)) (gb_Qi (fun r h => r = rE ∧ va_P D vwCl (gb_wl b (gb_CW cT b σE)) h) (gb_fr b 135)) 0 0 (gb_fr b 135) := by
  refine Met.ofW (cc := cX11_marks) (maxL := 6) (ret := (some FieldType.int)) (by decide) rfl ?_
  intro p e s m args below meth c s₁ B hml hv
  obtain ⟨rfl, hSt, hP⟩ := hv
  have hx := B.exec
  have hb := B.bytes
  have hr := B.returns
  have hts := atoms_spec (ws := .code yX11_marks cX11_marks 6 (some FieldType.int) :: gb_wA) B.pre
  have hq : ∀ w ∈ gb_wA, w.before _ s = true := fun w h => hts w (List.mem_cons_of_mem _ h)
  have hown : s.vm.findClass RX11 = some m.cls := findClass_of_methodNamed B.named
  have hlocks := B.notSynchronized
  clear B hts
  have hK := hSt.1
  have hS : va_S (gb_fr b 135) s.heap s.heap [] := va_S.rf
  have hl := lv_entry ([.ref (b + 0), .int p1, .int p2, .int p3, .int p4]) (n := 6) (Nat.le_of_ble_eq_true rfl)
  rw [lg_entry_eq]
  generalize (lg_sl ([.ref (b + 0), .int p1, .int p2, .int p3, .int p4]) ++ List.replicate (6 - (lg_sl ([.ref (b + 0), .int p1, .int p2, .int p3, .int p4])).length) Slot.unset).toArray = ls at hl ⊢
  replace hl : lv_has ls 6 [(0, .ref (b + 0)), (1, .int p1), (2, .int p2), (3, .int p3), (4, .int p4)] := hl
  unfold cs_Face_marks at h
  refine lv_aload_n hx hb dX11_marks_0 rfl (lv_at hl 0 rfl) ?_
  refine lv_iload_n hx hb dX11_marks_1 rfl (lv_at hl 1 rfl) ?_
  obtain ⟨s_1, r_2, z_3, h⟩ := gb_cd_s h
  refine gb_callq (va_runV (C := RX11) (As := [.int p1]) (rest := []) ⟨hx, hb, hml, hown, hq⟩ (cc_Face_borderAt l D cT tt b1 b hb1 n σ p1 s_1 r_2 z_3) (cwV 1 hq (gb_gV w_593 w_595 s_1_7 w_1 w_596) rfl rfl rfl (by decide +kernel) ⟨Nat.le_of_ble_eq_true rfl, Nat.le_of_ble_eq_true rfl⟩) (gb_preV (r := (RX11, TX11, 10)) (ci := 9) (q0 := 0) hSt hP rfl (gb_at b rfl) hS (fun q h => Nat.le_trans hb1 h.1) hP) rfl rfl hl.1 rfl (lv_room (Nat.le_of_ble_eq_true rfl)) dX11_marks_2 ⟨Nat.le_of_ble_eq_true rfl, Nat.le_of_ble_eq_true rfl⟩) hS (fun _ h => h) (fun _ h => h) (fun q_4 H locs hY hk hS => ?_)
  obtain ⟨hq_4, hP⟩ := hY
  subst hq_4
  rw [gb_onv]
  by_cases c_5 : r_2 = 0
  · rw [if_pos c_5] at h
    rw [gb_nv0 c_5]
    refine lv_astoreN (lv' := [(5, .null), (0, .ref (b + 0)), (1, .int p1), (2, .int p2), (3, .int p3), (4, .int p4)]) hx hb dX11_marks_5 hl (by decide) rfl (fun ls hl => ?_)
    refine lv_aloadN hx hb dX11_marks_7 (lv_at hl 0 rfl) ?_
    refine lv_ifnullN (tgt := 30) hx hb dX11_marks_9 (by decide) ?_
    refine lv_iconst (v := (-1)) hx hb dX11_marks_30 (by decide) ?_
    obtain ⟨e1, e2⟩ := gb_eq2 h
    exact W.iret (v := (-1)) hx hb hr (fun t ht hW => gb_ri ht ⟨e2, by rw [← e1]; exact hP⟩ hS) hS.2.2 dX11_marks_31
  rw [if_neg c_5] at h
  rw [gb_nv1 c_5]
  obtain ⟨z_6, h⟩ := gb_kk_s h
  refine lv_astore (lv' := [(5, .ref (b + r_2)), (0, .ref (b + 0)), (1, .int p1), (2, .int p2), (3, .int p3), (4, .int p4)]) hx hb dX11_marks_5 hl (by decide) rfl (fun ls hl => ?_)
  refine lv_aload hx hb dX11_marks_7 (lv_at hl 0 rfl) ?_
  refine lv_ifnull hx hb dX11_marks_9 ?_
  refine lv_aload hx hb dX11_marks_12 (lv_at hl 0 rfl) ?_
  refine lv_iload_n hx hb dX11_marks_14 rfl (lv_at hl 3 rfl) ?_
  obtain ⟨s_7, r_8, z_9, h⟩ := gb_cd_s h
  refine gb_calli (va_runV (C := RX0) (As := [.int p2]) (rest := []) ⟨hx, hb, hml, hown, hq⟩ (cc_Border_hasGoose_B l D cT tt b1 b hb1 n s_1 r_2 p2 s_7 r_8 z_9) (cwV 1 hq (gb_gV w_619 w_612 w_613 w_4 w_614) rfl rfl rfl (by decide +kernel) ⟨Nat.le_of_ble_eq_true rfl, Nat.le_of_ble_eq_true rfl⟩) (gb_preV (r := (RX0, TX0, 1)) (ci := 0) (q0 := r_2) hSt hP rfl (gb_at b (gb_cB z_6).1) hS (fun q h => Nat.le_trans hb1 h.1) hP) rfl rfl hl.1 rfl (lv_room (Nat.le_of_ble_eq_true rfl)) dX11_marks_15 ⟨Nat.le_of_ble_eq_true rfl, Nat.le_of_ble_eq_true rfl⟩) hS (fun _ h => h) (fun _ h => h) (fun q_10 H locs hY hk hS => ?_)
  obtain ⟨hq_10, hP⟩ := hY
  replace hq_10 := hq_10.symm
  subst hq_10
  refine lv_if_eq (tgt := 30) hx hb dX11_marks_18 (by decide) (fun c_11 => ?_) (fun c_11 => ?_)
  · rw [if_pos c_11] at h
    refine lv_iconst (v := (-1)) hx hb dX11_marks_30 (by decide) ?_
    obtain ⟨e1, e2⟩ := gb_eq2 h
    exact W.iret (v := (-1)) hx hb hr (fun t ht hW => gb_ri ht ⟨e2, by rw [← e1]; exact hP⟩ hS) hS.2.2 dX11_marks_31
  · rw [if_neg c_11] at h
    refine lv_aload hx hb dX11_marks_21 (lv_at hl 0 rfl) ?_
    refine lv_iload_n hx hb dX11_marks_23 rfl (lv_at hl 4 rfl) ?_
    obtain ⟨s_12, r_13, z_14, h⟩ := gb_cd_s h
    refine gb_calli (va_runV (C := RX0) (As := [.int p3]) (rest := []) ⟨hx, hb, hml, hown, hq⟩ (cc_Border_hasPath_B l D cT tt b1 b hb1 n s_7 r_2 p3 s_12 r_13 z_14) (cwV 1 hq (gb_gV w_620 w_608 w_609 w_4 w_610) rfl rfl rfl (by decide +kernel) ⟨Nat.le_of_ble_eq_true rfl, Nat.le_of_ble_eq_true rfl⟩) (gb_preV (r := (RX0, TX0, 1)) (ci := 0) (q0 := r_2) hSt hP rfl (gb_at b (gb_cB z_6).1) hS (fun q h => Nat.le_trans hb1 h.1) hP) rfl rfl hl.1 rfl (lv_room (Nat.le_of_ble_eq_true rfl)) dX11_marks_24 ⟨Nat.le_of_ble_eq_true rfl, Nat.le_of_ble_eq_true rfl⟩) hS (fun _ h => h) (fun _ h => h) (fun q_15 H locs hY hk hS => ?_)
    obtain ⟨hq_15, hP⟩ := hY
    replace hq_15 := hq_15.symm
    subst hq_15
    refine lv_if_ne (tgt := 32) hx hb dX11_marks_27 (by decide) (fun c_16 => ?_) (fun c_16 => ?_)
    · rw [if_neg c_16] at h
      refine lv_aload hx hb dX11_marks_32 (lv_at hl 0 rfl) ?_
      refine lv_iload_n hx hb dX11_marks_34 rfl (lv_at hl 3 rfl) ?_
      refine lv_aload hx hb dX11_marks_35 (lv_at hl 0 rfl) ?_
      refine lv_iload_n hx hb dX11_marks_37 rfl (lv_at hl 4 rfl) ?_
      obtain ⟨s_17, r_18, z_19, h⟩ := gb_cd_s h
      refine gb_calli (va_runV (C := RX0) (As := [.int p3]) (rest := [.int p2, .ref (b + r_2)]) ⟨hx, hb, hml, hown, hq⟩ (cc_Border_miles_B l D cT tt b1 b hb1 n s_12 r_2 p3 s_17 r_18 z_19) (cwV 1 hq (gb_gV w_621 w_622 w_623 w_4 w_624) rfl rfl rfl (by decide +kernel) ⟨Nat.le_of_ble_eq_true rfl, Nat.le_of_ble_eq_true rfl⟩) (gb_preV (r := (RX0, TX0, 1)) (ci := 0) (q0 := r_2) hSt hP rfl (gb_at b (gb_cB z_6).1) hS (fun q h => Nat.le_trans hb1 h.1) hP) rfl rfl hl.1 rfl (lv_room (Nat.le_of_ble_eq_true rfl)) dX11_marks_38 ⟨Nat.le_of_ble_eq_true rfl, Nat.le_of_ble_eq_true rfl⟩) hS (fun _ h => h) (fun _ h => h) (fun q_20 H locs hY hk hS => ?_)
      obtain ⟨hq_20, hP⟩ := hY
      replace hq_20 := hq_20.symm
      subst hq_20
      refine lv_aload hx hb dX11_marks_41 (lv_at hl 0 rfl) ?_
      refine lv_iload_n hx hb dX11_marks_43 rfl (lv_at hl 3 rfl) ?_
      obtain ⟨s_21, r_22, z_23, h⟩ := gb_cd_s h
      refine gb_calli (va_runV (C := RX0) (As := [.int p2]) (rest := [.int r_18, .int p2, .ref (b + r_2)]) ⟨hx, hb, hml, hown, hq⟩ (cc_Border_boots_B l D cT tt b1 b hb1 n s_17 r_2 p2 s_21 r_22 z_23) (cwV 1 hq (gb_gV w_625 w_626 w_627 w_4 w_628) rfl rfl rfl (by decide +kernel) ⟨Nat.le_of_ble_eq_true rfl, Nat.le_of_ble_eq_true rfl⟩) (gb_preV (r := (RX0, TX0, 1)) (ci := 0) (q0 := r_2) hSt hP rfl (gb_at b (gb_cB z_6).1) hS (fun q h => Nat.le_trans hb1 h.1) hP) rfl rfl hl.1 rfl (lv_room (Nat.le_of_ble_eq_true rfl)) dX11_marks_44 ⟨Nat.le_of_ble_eq_true rfl, Nat.le_of_ble_eq_true rfl⟩) hS (fun _ h => h) (fun _ h => h) (fun q_24 H locs hY hk hS => ?_)
      obtain ⟨hq_24, hP⟩ := hY
      replace hq_24 := hq_24.symm
      subst hq_24
      refine lv_iload hx hb dX11_marks_47 (lv_at hl 5 rfl) ?_
      obtain ⟨s_25, r_26, z_27, h⟩ := gb_cd_s h
      refine gb_calli (va_runV (C := RX0) (As := [.int p2, .int r_18, .int r_22, .int p4]) (rest := []) ⟨hx, hb, hml, hown, hq⟩ (cc_Border_marksOver_B l D cT tt b1 b hb1 n s_21 r_2 p2 r_18 r_22 p4 s_25 r_26 z_27) (cwV 4 hq (gb_gV w_629 w_630 w_631 w_4 w_632) rfl rfl rfl (by decide +kernel) ⟨Nat.le_of_ble_eq_true rfl, Nat.le_of_ble_eq_true rfl⟩) (gb_preV (r := (RX0, TX0, 1)) (ci := 0) (q0 := r_2) hSt hP rfl (gb_at b (gb_cB z_6).1) hS (fun q h => Nat.le_trans hb1 h.1) hP) rfl rfl hl.1 rfl (lv_room (Nat.le_of_ble_eq_true rfl)) dX11_marks_49 ⟨Nat.le_of_ble_eq_true rfl, Nat.le_of_ble_eq_true rfl⟩) hS (fun _ h => h) (fun _ h => h) (fun q_28 H locs hY hk hS => ?_)
      obtain ⟨hq_28, hP⟩ := hY
      replace hq_28 := hq_28.symm
      subst hq_28
      obtain ⟨e1, e2⟩ := gb_eq2 h
      exact W.iret (v := r_26) hx hb hr (fun t ht hW => gb_ri ht ⟨e2, by rw [← e1]; exact hP⟩ hS) hS.2.2 dX11_marks_52
    · rw [if_pos c_16] at h
      refine lv_iconst (v := (-1)) hx hb dX11_marks_30 (by decide) ?_
      obtain ⟨e1, e2⟩ := gb_eq2 h
      exact W.iret (v := (-1)) hx hb hr (fun t ht hW => gb_ri ht ⟨e2, by rw [← e1]; exact hP⟩ hS) hS.2.2 dX11_marks_31
theorem dX11_deed_0 : decode cX11_deed 0 = .ok (.aload_n 0, 1) := dc_42 (show ((cX11_deed.data.toList.drop 0).take 1).map UInt8.toNat = [42] by decide +kernel)
theorem dX11_deed_1 : decode cX11_deed 1 = .ok (.iload_n 1, 1) := dc_27 (show ((cX11_deed.data.toList.drop 1).take 1).map UInt8.toNat = [27] by decide +kernel)
theorem dX11_deed_2 : decode cX11_deed 2 = .ok (.invokevirtual 148, 3) := dc_182 (show ((cX11_deed.data.toList.drop 2).take 3).map UInt8.toNat = [182, 0, 148] by decide +kernel) rfl
theorem dX11_nightAt_0 : decode cX11_nightAt 0 = .ok (.iload_n 1, 1) := dc_27 (show ((cX11_nightAt.data.toList.drop 0).take 1).map UInt8.toNat = [27] by decide +kernel)
theorem dX11_nightAt_1 : decode cX11_nightAt 1 = .ok (.ifCond .lt 28, 3) := dc_155 (show ((cX11_nightAt.data.toList.drop 1).take 3).map UInt8.toNat = [155, 0, 28] by decide +kernel) rfl
theorem dX11_nightAt_29 : decode cX11_nightAt 29 = .ok (.aconst_null, 1) := dc_1 (show ((cX11_nightAt.data.toList.drop 29).take 1).map UInt8.toNat = [1] by decide +kernel)
theorem dX11_nightAt_30 : decode cX11_nightAt 30 = .ok (.areturn, 1) := dc_176 (show ((cX11_nightAt.data.toList.drop 30).take 1).map UInt8.toNat = [176] by decide +kernel)
theorem dX11_nightAt_4 : decode cX11_nightAt 4 = .ok (.iload_n 1, 1) := dc_27 (show ((cX11_nightAt.data.toList.drop 4).take 1).map UInt8.toNat = [27] by decide +kernel)
theorem dX11_nightAt_5 : decode cX11_nightAt 5 = .ok (.aload_n 0, 1) := dc_42 (show ((cX11_nightAt.data.toList.drop 5).take 1).map UInt8.toNat = [42] by decide +kernel)
theorem dX11_nightAt_6 : decode cX11_nightAt 6 = .ok (.getfield 12, 3) := dc_180 (show ((cX11_nightAt.data.toList.drop 6).take 3).map UInt8.toNat = [180, 0, 12] by decide +kernel) rfl
theorem dX11_nightAt_9 : decode cX11_nightAt 9 = .ok (.getfield 88, 3) := dc_180 (show ((cX11_nightAt.data.toList.drop 9).take 3).map UInt8.toNat = [180, 0, 88] by decide +kernel) rfl
theorem dX11_nightAt_12 : decode cX11_nightAt 12 = .ok (.iconst 1, 1) := dc_4 (show ((cX11_nightAt.data.toList.drop 12).take 1).map UInt8.toNat = [4] by decide +kernel)
theorem dX11_nightAt_13 : decode cX11_nightAt 13 = .ok (.iaload, 1) := dc_46 (show ((cX11_nightAt.data.toList.drop 13).take 1).map UInt8.toNat = [46] by decide +kernel)
theorem dX11_nightAt_14 : decode cX11_nightAt 14 = .ok (.if_icmp .ge 15, 3) := dc_162 (show ((cX11_nightAt.data.toList.drop 14).take 3).map UInt8.toNat = [162, 0, 15] by decide +kernel) rfl
theorem dX11_nightAt_17 : decode cX11_nightAt 17 = .ok (.aload_n 0, 1) := dc_42 (show ((cX11_nightAt.data.toList.drop 17).take 1).map UInt8.toNat = [42] by decide +kernel)
theorem dX11_nightAt_18 : decode cX11_nightAt 18 = .ok (.getfield 12, 3) := dc_180 (show ((cX11_nightAt.data.toList.drop 18).take 3).map UInt8.toNat = [180, 0, 12] by decide +kernel) rfl
theorem dX11_nightAt_21 : decode cX11_nightAt 21 = .ok (.getfield 183, 3) := dc_180 (show ((cX11_nightAt.data.toList.drop 21).take 3).map UInt8.toNat = [180, 0, 183] by decide +kernel) rfl
theorem w_115 : (Cond.fieldLink "GooseBorder" (183 : Nat) "GooseBorder$Told" "nights" "[LGooseBorder$Night;") ∈ gb_wA := gb_t1 115 rfl rfl
theorem dX11_nightAt_24 : decode cX11_nightAt 24 = .ok (.iload_n 1, 1) := dc_27 (show ((cX11_nightAt.data.toList.drop 24).take 1).map UInt8.toNat = [27] by decide +kernel)
theorem dX11_nightAt_25 : decode cX11_nightAt 25 = .ok (.aaload, 1) := dc_50 (show ((cX11_nightAt.data.toList.drop 25).take 1).map UInt8.toNat = [50] by decide +kernel)
theorem dX11_nightAt_26 : decode cX11_nightAt 26 = .ok (.goto 4, 3) := dc_167 (show ((cX11_nightAt.data.toList.drop 26).take 3).map UInt8.toNat = [167, 0, 4] by decide +kernel) rfl
def cs_Face_nightAt (n : Nat) (σ : gb_S) (p1 : Int32) : gb_CR Nat := (if p1 < 0 then some (σ, 0) else gb_lt ((σ.1 22) (Int32.toNatClampNeg 1)) (fun x_2 => (if x_2 ≤ p1 then some (σ, 0) else gb_ck p1 2 (gb_lt (([8, 10] : List Nat).getD (Int32.toNatClampNeg p1) 0) (fun a_5 => gb_kk (gb_kN a_5) (some (σ, a_5)))))))
set_option maxHeartbeats 8000000 in
set_option maxRecDepth 100000 in
theorem cc_Face_nightAt (l : Launch) (D : va_G) (cT : Nat → ClassId) (tt : Nat → Nat) (b1 b : Nat) (hb1 : b1 ≤ b) (n : Nat) (σ : gb_S) (p1 : Int32) (σE : gb_S) (rE : Nat) (h : cs_Face_nightAt n σ p1 = some (σE, rE)) : Met l yX11_nightAt (.code yX11_nightAt cX11_nightAt 2 (some (FieldType.object "GooseBorder$Night")) :: gb_wA) ({ frames := 0, cells := 0, slots := 0, locals := 0 }) (gb_Pc D cT tt b1 [.ref (b + 0), .int p1] (fun h => va_P D vwCl (gb_wl b (gb_CW cT b σ)) h)) (gb_Qq (fun r h => r = gb_on b rE ∧ va_P D vwCl (gb_wl b (gb_CW cT b σE)) h) (gb_fr b 135)) 0 0 (gb_fr b 135) := by
  refine Met.ofW (cc := cX11_nightAt) (maxL := 2) (ret := (some (FieldType.object "GooseBorder$Night"))) (by decide) rfl ?_
  intro p e s m args below meth c s₁ B hml hv
  obtain ⟨rfl, hSt, hP⟩ := hv
  have hx := B.exec
  have hb := B.bytes
  have hr := B.returns
  have hts := atoms_spec (ws := .code yX11_nightAt cX11_nightAt 2 (some (FieldType.object "GooseBorder$Night")) :: gb_wA) B.pre
  have hq : ∀ w ∈ gb_wA, w.before _ s = true := fun w h => hts w (List.mem_cons_of_mem _ h)
  have hown : s.vm.findClass RX11 = some m.cls := findClass_of_methodNamed B.named
  have hlocks := B.notSynchronized
  clear B hts
  have hK := hSt.1
  have hS : va_S (gb_fr b 135) s.heap s.heap [] := va_S.rf
  have hl := lv_entry ([.ref (b + 0), .int p1]) (n := 2) (Nat.le_of_ble_eq_true rfl)
  rw [lg_entry_eq]
  generalize (lg_sl ([.ref (b + 0), .int p1]) ++ List.replicate (2 - (lg_sl ([.ref (b + 0), .int p1])).length) Slot.unset).toArray = ls at hl ⊢
  replace hl : lv_has ls 2 [(0, .ref (b + 0)), (1, .int p1)] := hl
  unfold cs_Face_nightAt at h
  refine lv_iload_n hx hb dX11_nightAt_0 rfl (lv_at hl 1 rfl) ?_
  refine lv_if_lt (tgt := 29) hx hb dX11_nightAt_1 (by decide) (fun c_1 => ?_) (fun c_1 => ?_)
  · rw [if_pos c_1] at h
    refine lv_null hx hb dX11_nightAt_29 ?_
    obtain ⟨e1, e2⟩ := gb_eq2 h
    exact W.aret (v := .null) hx hb hr (Or.inl ⟨_, rfl⟩) (Or.inl rfl) (fun t ht hW => gb_rq none ht ⟨by rw [← e2]; rfl, by rw [← e1]; exact hP⟩ hS) hS.2.2 dX11_nightAt_30
  · rw [if_neg c_1] at h
    refine lv_iload_n hx hb dX11_nightAt_4 rfl (lv_at hl 1 rfl) ?_
    refine lv_aload_n hx hb dX11_nightAt_5 rfl (lv_at hl 0 rfl) ?_
    refine va_get (ci := 9) (v := (.ref (b + 1))) (C := RX11) (T := TX11) (N := 10) hx hb hq i_X11 hown hK hP 0 (gb_at b rfl) rfl 0 (by decide) (hq _ w_315) (fun _ h9 => h9) rfl dX11_nightAt_6 ?_
    refine va_get (ci := 8) (v := (.ref (b + 22))) (C := RX10) (T := TX10) (N := 9) hx hb hq i_X10 hown hK hP 1 (gb_at b rfl) rfl 4 (by decide) (hq _ w_121) (fun _ h9 => h9) rfl dX11_nightAt_9 ?_
    refine lv_iconst (v := 1) hx hb dX11_nightAt_12 (by decide) ?_
    refine va_iald hx hb hK hP 22 0 (gb_at b rfl) rfl (gb_in rfl) dX11_nightAt_13 ?_
    refine lv_topi (fun x_2 ex_2 => ?_)
    replace h := gb_lt_s ex_2 h
    refine lv_icmp_ge (tgt := 29) hx hb dX11_nightAt_14 (by decide) (fun c_3 => ?_) (fun c_3 => ?_)
    · rw [if_pos c_3] at h
      refine lv_null hx hb dX11_nightAt_29 ?_
      obtain ⟨e1, e2⟩ := gb_eq2 h
      exact W.aret (v := .null) hx hb hr (Or.inl ⟨_, rfl⟩) (Or.inl rfl) (fun t ht hW => gb_rq none ht ⟨by rw [← e2]; rfl, by rw [← e1]; exact hP⟩ hS) hS.2.2 dX11_nightAt_30
    · rw [if_neg c_3] at h
      refine lv_aload_n hx hb dX11_nightAt_17 rfl (lv_at hl 0 rfl) ?_
      refine va_get (ci := 9) (v := (.ref (b + 1))) (C := RX11) (T := TX11) (N := 10) hx hb hq i_X11 hown hK hP 0 (gb_at b rfl) rfl 0 (by decide) (hq _ w_315) (fun _ h9 => h9) rfl dX11_nightAt_18 ?_
      refine va_get (ci := 8) (v := (.ref (b + 7))) (C := RX10) (T := TX10) (N := 9) hx hb hq i_X10 hown hK hP 1 (gb_at b rfl) rfl 1 (by decide) (hq _ w_115) (fun _ h9 => h9) rfl dX11_nightAt_21 ?_
      refine lv_iload_n hx hb dX11_nightAt_24 rfl (lv_at hl 1 rfl) ?_
      obtain ⟨z_4, h⟩ := gb_ck_s h
      refine gb_aald (v := .ref (b + (([8, 10] : List Nat).getD (Int32.toNatClampNeg p1) 0))) hx hb hK hP 7 5 (gb_at b rfl) rfl z_4 (gb_ra_at (L := ([8, 10] : List Nat)) z_4) dX11_nightAt_25 ?_
      obtain ⟨a_5, ea_5⟩ : ∃ q, q = (([8, 10] : List Nat).getD (Int32.toNatClampNeg p1) 0) := ⟨_, rfl⟩
      rw [← ea_5]
      replace h := gb_lt_s ea_5 h
      obtain ⟨z_6, h⟩ := gb_kk_s h
      refine lv_goto (tgt := 30) hx hb dX11_nightAt_26 (by decide) ?_
      obtain ⟨e1, e2⟩ := gb_eq2 h
      exact W.aret (v := (.ref (b + a_5))) hx hb hr (Or.inl ⟨_, rfl⟩) (Or.inr ⟨_, rfl⟩) (fun t ht hW => gb_rq (some (b + a_5)) ht ⟨by rw [← e2]; exact (gb_on1 (gb_nzN z_6)), by rw [← e1]; exact hP⟩ hS) hS.2.2 dX11_nightAt_30
theorem w_649 : (Cond.code ({ cls := "GooseBorder", name := "nightAt", desc := "(I)LGooseBorder$Night;" } : MethodName) prog_1_method_17_code (2 : Nat) (Option.some (FieldType.object "GooseBorder$Night"))) ∈ gb_wA := gb_t3 169 rfl rfl
theorem w_646 : (Cond.methodLink "GooseBorder" (148 : Nat) ({ cls := "GooseBorder", name := "nightAt", desc := "(I)LGooseBorder$Night;" } : MethodName)) ∈ gb_wA := gb_t3 166 rfl rfl
theorem w_648 : (Cond.instanceMethod ({ cls := "GooseBorder", name := "nightAt", desc := "(I)LGooseBorder$Night;" } : MethodName)) ∈ gb_wA := gb_t3 168 rfl rfl
theorem s_1_8 : Cond.selects "GooseBorder" (⟨"GooseBorder", "nightAt", "(I)LGooseBorder$Night;"⟩ : MethodName) (⟨"GooseBorder", "nightAt", "(I)LGooseBorder$Night;"⟩ : MethodName) ∈ gb_wA := gb_s1 8 rfl rfl
theorem dX11_deed_5 : decode cX11_deed 5 = .ok (.astore 4, 2) := dc_58 (show ((cX11_deed.data.toList.drop 5).take 2).map UInt8.toNat = [58, 4] by decide +kernel) rfl
theorem dX11_deed_7 : decode cX11_deed 7 = .ok (.aload 4, 2) := dc_25 (show ((cX11_deed.data.toList.drop 7).take 2).map UInt8.toNat = [25, 4] by decide +kernel) rfl
theorem dX11_deed_9 : decode cX11_deed 9 = .ok (.ifnonnull 8, 3) := dc_199 (show ((cX11_deed.data.toList.drop 9).take 3).map UInt8.toNat = [199, 0, 8] by decide +kernel) rfl
theorem dX11_deed_12 : decode cX11_deed 12 = .ok (.bipush (-2), 2) := dc_16 (show ((cX11_deed.data.toList.drop 12).take 2).map UInt8.toNat = [16, 254] by decide +kernel) rfl
theorem dX11_deed_14 : decode cX11_deed 14 = .ok (.goto 10, 3) := dc_167 (show ((cX11_deed.data.toList.drop 14).take 3).map UInt8.toNat = [167, 0, 10] by decide +kernel) rfl
theorem dX11_deed_24 : decode cX11_deed 24 = .ok (.ireturn, 1) := dc_172 (show ((cX11_deed.data.toList.drop 24).take 1).map UInt8.toNat = [172] by decide +kernel)
theorem dX11_deed_17 : decode cX11_deed 17 = .ok (.aload 4, 2) := dc_25 (show ((cX11_deed.data.toList.drop 17).take 2).map UInt8.toNat = [25, 4] by decide +kernel) rfl
theorem dX11_deed_19 : decode cX11_deed 19 = .ok (.iload_n 2, 1) := dc_28 (show ((cX11_deed.data.toList.drop 19).take 1).map UInt8.toNat = [28] by decide +kernel)
theorem dX11_deed_20 : decode cX11_deed 20 = .ok (.iload_n 3, 1) := dc_29 (show ((cX11_deed.data.toList.drop 20).take 1).map UInt8.toNat = [29] by decide +kernel)
theorem dX11_deed_21 : decode cX11_deed 21 = .ok (.invokestatic 152, 3) := dc_184 (show ((cX11_deed.data.toList.drop 21).take 3).map UInt8.toNat = [184, 0, 152] by decide +kernel) rfl
theorem dX11_lineOf_0 : decode cX11_lineOf 0 = .ok (.iload_n 1, 1) := dc_27 (show ((cX11_lineOf.data.toList.drop 0).take 1).map UInt8.toNat = [27] by decide +kernel)
theorem dX11_lineOf_1 : decode cX11_lineOf 1 = .ok (.iconst (-1), 1) := dc_2 (show ((cX11_lineOf.data.toList.drop 1).take 1).map UInt8.toNat = [2] by decide +kernel)
theorem dX11_lineOf_2 : decode cX11_lineOf 2 = .ok (.if_icmp .ne 17, 3) := dc_160 (show ((cX11_lineOf.data.toList.drop 2).take 3).map UInt8.toNat = [160, 0, 17] by decide +kernel) rfl
theorem dX11_lineOf_19 : decode cX11_lineOf 19 = .ok (.iload_n 1, 1) := dc_27 (show ((cX11_lineOf.data.toList.drop 19).take 1).map UInt8.toNat = [27] by decide +kernel)
theorem dX11_lineOf_20 : decode cX11_lineOf 20 = .ok (.ifCond .lt 23, 3) := dc_155 (show ((cX11_lineOf.data.toList.drop 20).take 3).map UInt8.toNat = [155, 0, 23] by decide +kernel) rfl
theorem dX11_lineOf_43 : decode cX11_lineOf 43 = .ok (.bipush (-2), 2) := dc_16 (show ((cX11_lineOf.data.toList.drop 43).take 2).map UInt8.toNat = [16, 254] by decide +kernel) rfl
theorem dX11_lineOf_45 : decode cX11_lineOf 45 = .ok (.ireturn, 1) := dc_172 (show ((cX11_lineOf.data.toList.drop 45).take 1).map UInt8.toNat = [172] by decide +kernel)
theorem dX11_lineOf_23 : decode cX11_lineOf 23 = .ok (.iload_n 1, 1) := dc_27 (show ((cX11_lineOf.data.toList.drop 23).take 1).map UInt8.toNat = [27] by decide +kernel)
theorem dX11_lineOf_24 : decode cX11_lineOf 24 = .ok (.aload_n 0, 1) := dc_42 (show ((cX11_lineOf.data.toList.drop 24).take 1).map UInt8.toNat = [42] by decide +kernel)
theorem dX11_lineOf_25 : decode cX11_lineOf 25 = .ok (.invokevirtual 167, 3) := dc_182 (show ((cX11_lineOf.data.toList.drop 25).take 3).map UInt8.toNat = [182, 0, 167] by decide +kernel) rfl
def cs_Lines_size_N (n : Nat) (σ : gb_S) (k0 : Nat) : gb_CR Int32 := gb_kk (gb_kN k0) (gb_lt ((σ.1 (k0 + 1)) (Int32.toNatClampNeg 0)) (fun x_2 => some (σ, x_2)))
set_option maxHeartbeats 8000000 in
set_option maxRecDepth 100000 in
theorem cc_Lines_size_N (l : Launch) (D : va_G) (cT : Nat → ClassId) (tt : Nat → Nat) (b1 b : Nat) (hb1 : b1 ≤ b) (n : Nat) (σ : gb_S) (k0 : Nat) (σE : gb_S) (rE : Int32) (h : cs_Lines_size_N n σ k0 = some (σE, rE)) : Met l yX4_size (.code yX4_size cX4_size 1 (some FieldType.int) :: gb_wA) ({ frames := 0, cells := 0, slots := 0, locals := 0 }) (gb_Pc D cT tt b1 [.ref (b + k0)] (fun h => va_P D vwCl (gb_wl b (gb_CW cT b σ)) h)) (gb_Qi (fun r h => r = rE ∧ va_P D vwCl (gb_wl b (gb_CW cT b σE)) h) (gb_fr b 135)) 0 0 (gb_fr b 135) := by
  refine Met.ofW (cc := cX4_size) (maxL := 1) (ret := (some FieldType.int)) (by decide) rfl ?_
  intro p e s m args below meth c s₁ B hml hv
  obtain ⟨rfl, hSt, hP⟩ := hv
  have hx := B.exec
  have hb := B.bytes
  have hr := B.returns
  have hts := atoms_spec (ws := .code yX4_size cX4_size 1 (some FieldType.int) :: gb_wA) B.pre
  have hq : ∀ w ∈ gb_wA, w.before _ s = true := fun w h => hts w (List.mem_cons_of_mem _ h)
  have hown : s.vm.findClass RX4 = some m.cls := findClass_of_methodNamed B.named
  have hlocks := B.notSynchronized
  clear B hts
  have hK := hSt.1
  have hS : va_S (gb_fr b 135) s.heap s.heap [] := va_S.rf
  have hl := lv_entry ([.ref (b + k0)]) (n := 1) (Nat.le_of_ble_eq_true rfl)
  rw [lg_entry_eq]
  generalize (lg_sl ([.ref (b + k0)]) ++ List.replicate (1 - (lg_sl ([.ref (b + k0)])).length) Slot.unset).toArray = ls at hl ⊢
  replace hl : lv_has ls 1 [(0, .ref (b + k0))] := hl
  unfold cs_Lines_size_N at h
  obtain ⟨z_1, h⟩ := gb_kk_s h
  refine lv_aload_n hx hb dX4_size_0 rfl (lv_at hl 0 rfl) ?_
  refine va_get (ci := 4) (v := (.ref (b + (k0 + 1)))) (C := RX5) (T := TX5) (N := 4) hx hb hq i_X5 hown hK hP k0 (gb_at b (gb_cN z_1).1) rfl 3 (by decide) (hq _ w_52) (fun x9 h9 => u_same (hq _ w_53) x9 h9) rfl dX4_size_1 ?_
  refine lv_iconst (v := 0) hx hb dX4_size_4 (by decide) ?_
  refine va_iald hx hb hK hP (k0 + 1) 0 (gb_at b (gb_cN z_1).2) rfl (gb_in rfl) dX4_size_5 ?_
  refine lv_topi (fun x_2 ex_2 => ?_)
  replace h := gb_lt_s ex_2 h
  obtain ⟨e1, e2⟩ := gb_eq2 h
  exact W.iret (v := x_2) hx hb hr (fun t ht hW => gb_ri ht ⟨e2, by rw [← e1]; exact hP⟩ hS) hS.2.2 dX4_size_6
theorem w_653 : (Cond.methodLink "GooseBorder" (167 : Nat) ({ cls := "GooseBorder$Lines", name := "size", desc := "()I" } : MethodName)) ∈ gb_wA := gb_t3 173 rfl rfl
theorem w_485 : (Cond.sameMethod "GooseBorder$Lines" "GooseBorder$Lines" "size" "()I") ∈ gb_wA := gb_t3 5 rfl rfl
theorem w_488 : (Cond.selects "GooseBorder$Night" ({ cls := "GooseBorder$Lines", name := "size", desc := "()I" } : MethodName) ({ cls := "GooseBorder$Lines", name := "size", desc := "()I" } : MethodName)) ∈ gb_wA := gb_t3 8 rfl rfl
theorem dX11_lineOf_28 : decode cX11_lineOf 28 = .ok (.if_icmp .ge 15, 3) := dc_162 (show ((cX11_lineOf.data.toList.drop 28).take 3).map UInt8.toNat = [162, 0, 15] by decide +kernel) rfl
theorem dX11_lineOf_31 : decode cX11_lineOf 31 = .ok (.iload_n 2, 1) := dc_28 (show ((cX11_lineOf.data.toList.drop 31).take 1).map UInt8.toNat = [28] by decide +kernel)
theorem dX11_lineOf_32 : decode cX11_lineOf 32 = .ok (.ifCond .lt 11, 3) := dc_155 (show ((cX11_lineOf.data.toList.drop 32).take 3).map UInt8.toNat = [155, 0, 11] by decide +kernel) rfl
theorem dX11_lineOf_35 : decode cX11_lineOf 35 = .ok (.iload_n 2, 1) := dc_28 (show ((cX11_lineOf.data.toList.drop 35).take 1).map UInt8.toNat = [28] by decide +kernel)
theorem dX11_lineOf_36 : decode cX11_lineOf 36 = .ok (.aload_n 0, 1) := dc_42 (show ((cX11_lineOf.data.toList.drop 36).take 1).map UInt8.toNat = [42] by decide +kernel)
theorem dX11_lineOf_37 : decode cX11_lineOf 37 = .ok (.getfield 172, 3) := dc_180 (show ((cX11_lineOf.data.toList.drop 37).take 3).map UInt8.toNat = [180, 0, 172] by decide +kernel) rfl
theorem w_76 : (Cond.fieldLink "GooseBorder" (172 : Nat) "GooseBorder$Lines" "numbers" "I") ∈ gb_wA := gb_t1 76 rfl rfl
theorem dX11_lineOf_40 : decode cX11_lineOf 40 = .ok (.if_icmp .le 6, 3) := dc_164 (show ((cX11_lineOf.data.toList.drop 40).take 3).map UInt8.toNat = [164, 0, 6] by decide +kernel) rfl
theorem dX11_lineOf_46 : decode cX11_lineOf 46 = .ok (.aload_n 0, 1) := dc_42 (show ((cX11_lineOf.data.toList.drop 46).take 1).map UInt8.toNat = [42] by decide +kernel)
theorem dX11_lineOf_47 : decode cX11_lineOf 47 = .ok (.iload_n 1, 1) := dc_27 (show ((cX11_lineOf.data.toList.drop 47).take 1).map UInt8.toNat = [27] by decide +kernel)
theorem dX11_lineOf_48 : decode cX11_lineOf 48 = .ok (.iload_n 2, 1) := dc_28 (show ((cX11_lineOf.data.toList.drop 48).take 1).map UInt8.toNat = [28] by decide +kernel)
theorem dX11_lineOf_49 : decode cX11_lineOf 49 = .ok (.invokevirtual 175, 3) := dc_182 (show ((cX11_lineOf.data.toList.drop 49).take 3).map UInt8.toNat = [182, 0, 175] by decide +kernel) rfl
def cs_Lines_cell_N (n : Nat) (σ : gb_S) (k0 : Nat) (p1 : Int32) (p2 : Int32) : gb_CR Int32 := gb_kk (gb_kN k0) (gb_ck (((1 : Int32) + (p1 * ((3 : Int32) + 1))) + p2) 97 (gb_lt ((σ.1 (k0 + 1)) (Int32.toNatClampNeg (((1 : Int32) + (p1 * ((3 : Int32) + 1))) + p2))) (fun x_3 => some (σ, x_3))))
set_option maxHeartbeats 8000000 in
set_option maxRecDepth 100000 in
theorem cc_Lines_cell_N (l : Launch) (D : va_G) (cT : Nat → ClassId) (tt : Nat → Nat) (b1 b : Nat) (hb1 : b1 ≤ b) (n : Nat) (σ : gb_S) (k0 : Nat) (p1 : Int32) (p2 : Int32) (σE : gb_S) (rE : Int32) (h : cs_Lines_cell_N n σ k0 p1 p2 = some (σE, rE)) : Met l yX4_cell (.code yX4_cell cX4_cell 3 (some FieldType.int) :: gb_wA) ({ frames := 0, cells := 0, slots := 0, locals := 0 }) (gb_Pc D cT tt b1 [.ref (b + k0), .int p1, .int p2] (fun h => va_P D vwCl (gb_wl b (gb_CW cT b σ)) h)) (gb_Qi (fun r h => r = rE ∧ va_P D vwCl (gb_wl b (gb_CW cT b σE)) h) (gb_fr b 135)) 0 0 (gb_fr b 135) := by
  refine Met.ofW (cc := cX4_cell) (maxL := 3) (ret := (some FieldType.int)) (by decide) rfl ?_
  intro p e s m args below meth c s₁ B hml hv
  obtain ⟨rfl, hSt, hP⟩ := hv
  have hx := B.exec
  have hb := B.bytes
  have hr := B.returns
  have hts := atoms_spec (ws := .code yX4_cell cX4_cell 3 (some FieldType.int) :: gb_wA) B.pre
  have hq : ∀ w ∈ gb_wA, w.before _ s = true := fun w h => hts w (List.mem_cons_of_mem _ h)
  have hown : s.vm.findClass RX4 = some m.cls := findClass_of_methodNamed B.named
  have hlocks := B.notSynchronized
  clear B hts
  have hK := hSt.1
  have hS : va_S (gb_fr b 135) s.heap s.heap [] := va_S.rf
  have hl := lv_entry ([.ref (b + k0), .int p1, .int p2]) (n := 3) (Nat.le_of_ble_eq_true rfl)
  rw [lg_entry_eq]
  generalize (lg_sl ([.ref (b + k0), .int p1, .int p2]) ++ List.replicate (3 - (lg_sl ([.ref (b + k0), .int p1, .int p2])).length) Slot.unset).toArray = ls at hl ⊢
  replace hl : lv_has ls 3 [(0, .ref (b + k0)), (1, .int p1), (2, .int p2)] := hl
  unfold cs_Lines_cell_N at h
  obtain ⟨z_1, h⟩ := gb_kk_s h
  refine lv_aload_n hx hb dX4_cell_0 rfl (lv_at hl 0 rfl) ?_
  refine va_get (ci := 4) (v := (.ref (b + (k0 + 1)))) (C := RX5) (T := TX5) (N := 4) hx hb hq i_X5 hown hK hP k0 (gb_at b (gb_cN z_1).1) rfl 3 (by decide) (hq _ w_52) (fun x9 h9 => u_same (hq _ w_53) x9 h9) rfl dX4_cell_1 ?_
  refine lv_iconst (v := 1) hx hb dX4_cell_4 (by decide) ?_
  refine lv_iload_n hx hb dX4_cell_5 rfl (lv_at hl 1 rfl) ?_
  refine lv_aload_n hx hb dX4_cell_6 rfl (lv_at hl 0 rfl) ?_
  refine va_get (ci := 4) (v := (.int 3)) (C := RX5) (T := TX5) (N := 4) hx hb hq i_X5 hown hK hP k0 (gb_at b (gb_cN z_1).1) rfl 1 (by decide) (hq _ w_73) (fun _ h9 => h9) rfl dX4_cell_7 ?_
  refine lv_iconst (v := 1) hx hb dX4_cell_10 (by decide) ?_
  refine lv_iadd hx hb dX4_cell_11 ?_
  refine lv_imul hx hb dX4_cell_12 ?_
  refine lv_iadd hx hb dX4_cell_13 ?_
  refine lv_iload_n hx hb dX4_cell_14 rfl (lv_at hl 2 rfl) ?_
  refine lv_iadd hx hb dX4_cell_15 ?_
  obtain ⟨z_2, h⟩ := gb_ck_s h
  refine va_iald hx hb hK hP (k0 + 1) 0 (gb_at b (gb_cN z_1).2) rfl z_2 dX4_cell_16 ?_
  refine lv_topi (fun x_3 ex_3 => ?_)
  replace h := gb_lt_s ex_3 h
  obtain ⟨e1, e2⟩ := gb_eq2 h
  exact W.iret (v := x_3) hx hb hr (fun t ht hW => gb_ri ht ⟨e2, by rw [← e1]; exact hP⟩ hS) hS.2.2 dX4_cell_17
theorem w_654 : (Cond.methodLink "GooseBorder" (175 : Nat) ({ cls := "GooseBorder$Lines", name := "cell", desc := "(II)I" } : MethodName)) ∈ gb_wA := gb_t3 174 rfl rfl
theorem w_1730 : (Cond.sameMethod "GooseBorder$Lines" "GooseBorder$Lines" "cell" "(II)I") ∈ gb_wA := gb_t8 50 rfl rfl
theorem w_1733 : (Cond.selects "GooseBorder$Night" ({ cls := "GooseBorder$Lines", name := "cell", desc := "(II)I" } : MethodName) ({ cls := "GooseBorder$Lines", name := "cell", desc := "(II)I" } : MethodName)) ∈ gb_wA := gb_t8 53 rfl rfl
theorem dX11_lineOf_52 : decode cX11_lineOf 52 = .ok (.ireturn, 1) := dc_172 (show ((cX11_lineOf.data.toList.drop 52).take 1).map UInt8.toNat = [172] by decide +kernel)
theorem dX11_lineOf_5 : decode cX11_lineOf 5 = .ok (.iload_n 2, 1) := dc_28 (show ((cX11_lineOf.data.toList.drop 5).take 1).map UInt8.toNat = [28] by decide +kernel)
theorem dX11_lineOf_6 : decode cX11_lineOf 6 = .ok (.ifCond .ne 10, 3) := dc_154 (show ((cX11_lineOf.data.toList.drop 6).take 3).map UInt8.toNat = [154, 0, 10] by decide +kernel) rfl
theorem dX11_lineOf_16 : decode cX11_lineOf 16 = .ok (.bipush (-2), 2) := dc_16 (show ((cX11_lineOf.data.toList.drop 16).take 2).map UInt8.toNat = [16, 254] by decide +kernel) rfl
theorem dX11_lineOf_18 : decode cX11_lineOf 18 = .ok (.ireturn, 1) := dc_172 (show ((cX11_lineOf.data.toList.drop 18).take 1).map UInt8.toNat = [172] by decide +kernel)
theorem dX11_lineOf_9 : decode cX11_lineOf 9 = .ok (.aload_n 0, 1) := dc_42 (show ((cX11_lineOf.data.toList.drop 9).take 1).map UInt8.toNat = [42] by decide +kernel)
theorem dX11_lineOf_10 : decode cX11_lineOf 10 = .ok (.invokevirtual 167, 3) := dc_182 (show ((cX11_lineOf.data.toList.drop 10).take 3).map UInt8.toNat = [182, 0, 167] by decide +kernel) rfl
theorem dX11_lineOf_13 : decode cX11_lineOf 13 = .ok (.goto 5, 3) := dc_167 (show ((cX11_lineOf.data.toList.drop 13).take 3).map UInt8.toNat = [167, 0, 5] by decide +kernel) rfl
def cs_Face_lineOf_N (n : Nat) (σ : gb_S) (p1 : Nat) (p2 : Int32) (p3 : Int32) : gb_CR Int32 := gb_kk (gb_kN p1) ((if p2 = (-1) then (if p3 = 0 then gb_cd (cs_Lines_size_N n σ p1) (fun s_16 r_17 => some (s_16, r_17)) else some (σ, (-2))) else (if p2 < 0 then some (σ, (-2)) else gb_cd (cs_Lines_size_N n σ p1) (fun s_4 r_5 => (if r_5 ≤ p2 then some (s_4, (-2)) else (if p3 < 0 then some (s_4, (-2)) else (if p3 ≤ 3 then gb_cd (cs_Lines_cell_N n s_4 p1 p2 p3) (fun s_11 r_12 => some (s_11, r_12)) else some (s_4, (-2)))))))))
set_option maxHeartbeats 8000000 in
set_option maxRecDepth 100000 in
theorem cc_Face_lineOf_N (l : Launch) (D : va_G) (cT : Nat → ClassId) (tt : Nat → Nat) (b1 b : Nat) (hb1 : b1 ≤ b) (n : Nat) (σ : gb_S) (p1 : Nat) (p2 : Int32) (p3 : Int32) (σE : gb_S) (rE : Int32) (h : cs_Face_lineOf_N n σ p1 p2 p3 = some (σE, rE)) : Met l yX11_lineOf (.code yX11_lineOf cX11_lineOf 3 (some FieldType.int) :: gb_wA) ({ frames := 1, cells := 0, slots := 0, locals := 22 }) (gb_Pc D cT tt b1 [.ref (b + p1), .int p2, .int p3] (fun h => va_P D vwCl (gb_wl b (gb_CW cT b σ)) h)) (gb_Qi (fun r h => r = rE ∧ va_P D vwCl (gb_wl b (gb_CW cT b σE)) h) (gb_fr b 135)) 0 0 (gb_fr b 135) := by
  refine Met.ofW (cc := cX11_lineOf) (maxL := 3) (ret := (some FieldType.int)) (by decide) rfl ?_
  intro p e s m args below meth c s₁ B hml hv
  obtain ⟨rfl, hSt, hP⟩ := hv
  have hx := B.exec
  have hb := B.bytes
  have hr := B.returns
  have hts := atoms_spec (ws := .code yX11_lineOf cX11_lineOf 3 (some FieldType.int) :: gb_wA) B.pre
  have hq : ∀ w ∈ gb_wA, w.before _ s = true := fun w h => hts w (List.mem_cons_of_mem _ h)
  have hown : s.vm.findClass RX11 = some m.cls := findClass_of_methodNamed B.named
  have hlocks := B.notSynchronized
  clear B hts
  have hK := hSt.1
  have hS : va_S (gb_fr b 135) s.heap s.heap [] := va_S.rf
  have hl := lv_entry ([.ref (b + p1), .int p2, .int p3]) (n := 3) (Nat.le_of_ble_eq_true rfl)
  rw [lg_entry_eq]
  generalize (lg_sl ([.ref (b + p1), .int p2, .int p3]) ++ List.replicate (3 - (lg_sl ([.ref (b + p1), .int p2, .int p3])).length) Slot.unset).toArray = ls at hl ⊢
  replace hl : lv_has ls 3 [(0, .ref (b + p1)), (1, .int p2), (2, .int p3)] := hl
  unfold cs_Face_lineOf_N at h
  obtain ⟨z_1, h⟩ := gb_kk_s h
  refine lv_iload_n hx hb dX11_lineOf_0 rfl (lv_at hl 1 rfl) ?_
  refine lv_iconst (v := (-1)) hx hb dX11_lineOf_1 (by decide) ?_
  refine lv_icmp_ne (tgt := 19) hx hb dX11_lineOf_2 (by decide) (fun c_2 => ?_) (fun c_2 => ?_)
  · rw [if_neg c_2] at h
    refine lv_iload_n hx hb dX11_lineOf_19 rfl (lv_at hl 1 rfl) ?_
    refine lv_if_lt (tgt := 43) hx hb dX11_lineOf_20 (by decide) (fun c_3 => ?_) (fun c_3 => ?_)
    · rw [if_pos c_3] at h
      refine lv_bipush (v := (-2)) hx hb dX11_lineOf_43 (by decide) ?_
      obtain ⟨e1, e2⟩ := gb_eq2 h
      exact W.iret (v := (-2)) hx hb hr (fun t ht hW => gb_ri ht ⟨e2, by rw [← e1]; exact hP⟩ hS) hS.2.2 dX11_lineOf_45
    · rw [if_neg c_3] at h
      refine lv_iload_n hx hb dX11_lineOf_23 rfl (lv_at hl 1 rfl) ?_
      refine lv_aload_n hx hb dX11_lineOf_24 rfl (lv_at hl 0 rfl) ?_
      obtain ⟨s_4, r_5, z_6, h⟩ := gb_cd_s h
      refine gb_calli (va_runU (x := yX4_size) (C := RX5) (owner := "GooseBorder$Lines") (As := []) (rest := [.int p2]) ⟨hx, hb, hml, hown, hq⟩ (cc_Lines_size_N l D cT tt b1 b hb1 n σ p1 s_4 r_5 z_6) (va_cwU (owner := "GooseBorder$Lines") (C := RX5) 0 hq (gb_gU w_653 w_485 w_488 w_484 w_6 w_489) rfl rfl rfl rfl (by decide +kernel) ⟨Nat.le_of_ble_eq_true rfl, Nat.le_of_ble_eq_true rfl⟩) (gb_preV (r := (RX5, TX5, 4)) (ci := 4) (q0 := p1) hSt hP rfl (gb_at b (gb_cN z_1).1) hS (fun q h => Nat.le_trans hb1 h.1) hP) rfl rfl hl.1 rfl (lv_room (Nat.le_of_ble_eq_true rfl)) dX11_lineOf_25 ⟨Nat.le_of_ble_eq_true rfl, Nat.le_of_ble_eq_true rfl⟩) hS (fun _ h => h) (fun _ h => h) (fun q_7 H locs hY hk hS => ?_)
      obtain ⟨hq_7, hP⟩ := hY
      replace hq_7 := hq_7.symm
      subst hq_7
      refine lv_icmp_ge (tgt := 43) hx hb dX11_lineOf_28 (by decide) (fun c_8 => ?_) (fun c_8 => ?_)
      · rw [if_pos c_8] at h
        refine lv_bipush (v := (-2)) hx hb dX11_lineOf_43 (by decide) ?_
        obtain ⟨e1, e2⟩ := gb_eq2 h
        exact W.iret (v := (-2)) hx hb hr (fun t ht hW => gb_ri ht ⟨e2, by rw [← e1]; exact hP⟩ hS) hS.2.2 dX11_lineOf_45
      · rw [if_neg c_8] at h
        refine lv_iload_n hx hb dX11_lineOf_31 rfl (lv_at hl 2 rfl) ?_
        refine lv_if_lt (tgt := 43) hx hb dX11_lineOf_32 (by decide) (fun c_9 => ?_) (fun c_9 => ?_)
        · rw [if_pos c_9] at h
          refine lv_bipush (v := (-2)) hx hb dX11_lineOf_43 (by decide) ?_
          obtain ⟨e1, e2⟩ := gb_eq2 h
          exact W.iret (v := (-2)) hx hb hr (fun t ht hW => gb_ri ht ⟨e2, by rw [← e1]; exact hP⟩ hS) hS.2.2 dX11_lineOf_45
        · rw [if_neg c_9] at h
          refine lv_iload_n hx hb dX11_lineOf_35 rfl (lv_at hl 2 rfl) ?_
          refine lv_aload_n hx hb dX11_lineOf_36 rfl (lv_at hl 0 rfl) ?_
          refine va_get (ci := 4) (v := (.int 3)) (C := RX5) (T := TX5) (N := 4) hx hb hq i_X5 hown hK hP p1 (gb_at b (gb_cN z_1).1) rfl 1 (by decide) (hq _ w_76) (fun _ h9 => h9) rfl dX11_lineOf_37 ?_
          refine lv_icmp_le (tgt := 46) hx hb dX11_lineOf_40 (by decide) (fun c_10 => ?_) (fun c_10 => ?_)
          · rw [if_pos c_10] at h
            refine lv_aload_n hx hb dX11_lineOf_46 rfl (lv_at hl 0 rfl) ?_
            refine lv_iload_n hx hb dX11_lineOf_47 rfl (lv_at hl 1 rfl) ?_
            refine lv_iload_n hx hb dX11_lineOf_48 rfl (lv_at hl 2 rfl) ?_
            obtain ⟨s_11, r_12, z_13, h⟩ := gb_cd_s h
            refine gb_calli (va_runU (x := yX4_cell) (C := RX5) (owner := "GooseBorder$Lines") (As := [.int p2, .int p3]) (rest := []) ⟨hx, hb, hml, hown, hq⟩ (cc_Lines_cell_N l D cT tt b1 b hb1 n s_4 p1 p2 p3 s_11 r_12 z_13) (va_cwU (owner := "GooseBorder$Lines") (C := RX5) 2 hq (gb_gU w_654 w_1730 w_1733 w_546 w_6 w_547) rfl rfl rfl rfl (by decide +kernel) ⟨Nat.le_of_ble_eq_true rfl, Nat.le_of_ble_eq_true rfl⟩) (gb_preV (r := (RX5, TX5, 4)) (ci := 4) (q0 := p1) hSt hP rfl (gb_at b (gb_cN z_1).1) hS (fun q h => Nat.le_trans hb1 h.1) hP) rfl rfl hl.1 rfl (lv_room (Nat.le_of_ble_eq_true rfl)) dX11_lineOf_49 ⟨Nat.le_of_ble_eq_true rfl, Nat.le_of_ble_eq_true rfl⟩) hS (fun _ h => h) (fun _ h => h) (fun q_14 H locs hY hk hS => ?_)
            obtain ⟨hq_14, hP⟩ := hY
            replace hq_14 := hq_14.symm
            subst hq_14
            obtain ⟨e1, e2⟩ := gb_eq2 h
            exact W.iret (v := r_12) hx hb hr (fun t ht hW => gb_ri ht ⟨e2, by rw [← e1]; exact hP⟩ hS) hS.2.2 dX11_lineOf_52
          · rw [if_neg c_10] at h
            refine lv_bipush (v := (-2)) hx hb dX11_lineOf_43 (by decide) ?_
            obtain ⟨e1, e2⟩ := gb_eq2 h
            exact W.iret (v := (-2)) hx hb hr (fun t ht hW => gb_ri ht ⟨e2, by rw [← e1]; exact hP⟩ hS) hS.2.2 dX11_lineOf_45
  · rw [if_pos c_2] at h
    refine lv_iload_n hx hb dX11_lineOf_5 rfl (lv_at hl 2 rfl) ?_
    refine lv_if_ne (tgt := 16) hx hb dX11_lineOf_6 (by decide) (fun c_15 => ?_) (fun c_15 => ?_)
    · rw [if_neg c_15] at h
      refine lv_bipush (v := (-2)) hx hb dX11_lineOf_16 (by decide) ?_
      obtain ⟨e1, e2⟩ := gb_eq2 h
      exact W.iret (v := (-2)) hx hb hr (fun t ht hW => gb_ri ht ⟨e2, by rw [← e1]; exact hP⟩ hS) hS.2.2 dX11_lineOf_18
    · rw [if_pos c_15] at h
      refine lv_aload_n hx hb dX11_lineOf_9 rfl (lv_at hl 0 rfl) ?_
      obtain ⟨s_16, r_17, z_18, h⟩ := gb_cd_s h
      refine gb_calli (va_runU (x := yX4_size) (C := RX5) (owner := "GooseBorder$Lines") (As := []) (rest := []) ⟨hx, hb, hml, hown, hq⟩ (cc_Lines_size_N l D cT tt b1 b hb1 n σ p1 s_16 r_17 z_18) (va_cwU (owner := "GooseBorder$Lines") (C := RX5) 0 hq (gb_gU w_653 w_485 w_488 w_484 w_6 w_489) rfl rfl rfl rfl (by decide +kernel) ⟨Nat.le_of_ble_eq_true rfl, Nat.le_of_ble_eq_true rfl⟩) (gb_preV (r := (RX5, TX5, 4)) (ci := 4) (q0 := p1) hSt hP rfl (gb_at b (gb_cN z_1).1) hS (fun q h => Nat.le_trans hb1 h.1) hP) rfl rfl hl.1 rfl (lv_room (Nat.le_of_ble_eq_true rfl)) dX11_lineOf_10 ⟨Nat.le_of_ble_eq_true rfl, Nat.le_of_ble_eq_true rfl⟩) hS (fun _ h => h) (fun _ h => h) (fun q_19 H locs hY hk hS => ?_)
      obtain ⟨hq_19, hP⟩ := hY
      replace hq_19 := hq_19.symm
      subst hq_19
      refine lv_goto (tgt := 18) hx hb dX11_lineOf_13 (by decide) ?_
      obtain ⟨e1, e2⟩ := gb_eq2 h
      exact W.iret (v := r_17) hx hb hr (fun t ht hW => gb_ri ht ⟨e2, by rw [← e1]; exact hP⟩ hS) hS.2.2 dX11_lineOf_18
theorem w_652 : (Cond.code ({ cls := "GooseBorder", name := "lineOf", desc := "(LGooseBorder$Lines;II)I" } : MethodName) prog_1_method_15_code (3 : Nat) (Option.some FieldType.int)) ∈ gb_wA := gb_t3 172 rfl rfl
theorem w_650 : (Cond.methodLink "GooseBorder" (152 : Nat) ({ cls := "GooseBorder", name := "lineOf", desc := "(LGooseBorder$Lines;II)I" } : MethodName)) ∈ gb_wA := gb_t3 170 rfl rfl
theorem w_651 : (Cond.static ({ cls := "GooseBorder", name := "lineOf", desc := "(LGooseBorder$Lines;II)I" } : MethodName)) ∈ gb_wA := gb_t3 171 rfl rfl
def cs_Face_deed (n : Nat) (σ : gb_S) (p1 : Int32) (p2 : Int32) (p3 : Int32) : gb_CR Int32 := gb_cd (cs_Face_nightAt n σ p1) (fun s_1 r_2 => (if r_2 = 0 then some (s_1, (-2)) else gb_kk (gb_kN r_2) (gb_cd (cs_Face_lineOf_N n s_1 r_2 p2 p3) (fun s_7 r_8 => some (s_7, r_8)))))
set_option maxHeartbeats 8000000 in
set_option maxRecDepth 100000 in
theorem cc_Face_deed (l : Launch) (D : va_G) (cT : Nat → ClassId) (tt : Nat → Nat) (b1 b : Nat) (hb1 : b1 ≤ b) (n : Nat) (σ : gb_S) (p1 : Int32) (p2 : Int32) (p3 : Int32) (σE : gb_S) (rE : Int32) (h : cs_Face_deed n σ p1 p2 p3 = some (σE, rE)) : Met l yX11_deed (.code yX11_deed cX11_deed 5 (some FieldType.int) :: gb_wA) ({ frames := 2, cells := 0, slots := 0, locals := 44 }) (gb_Pc D cT tt b1 [.ref (b + 0), .int p1, .int p2, .int p3] (fun h => va_P D vwCl (gb_wl b (gb_CW cT b σ)) h)) (gb_Qi (fun r h => r = rE ∧ va_P D vwCl (gb_wl b (gb_CW cT b σE)) h) (gb_fr b 135)) 0 0 (gb_fr b 135) := by
  refine Met.ofW (cc := cX11_deed) (maxL := 5) (ret := (some FieldType.int)) (by decide) rfl ?_
  intro p e s m args below meth c s₁ B hml hv
  obtain ⟨rfl, hSt, hP⟩ := hv
  have hx := B.exec
  have hb := B.bytes
  have hr := B.returns
  have hts := atoms_spec (ws := .code yX11_deed cX11_deed 5 (some FieldType.int) :: gb_wA) B.pre
  have hq : ∀ w ∈ gb_wA, w.before _ s = true := fun w h => hts w (List.mem_cons_of_mem _ h)
  have hown : s.vm.findClass RX11 = some m.cls := findClass_of_methodNamed B.named
  have hlocks := B.notSynchronized
  clear B hts
  have hK := hSt.1
  have hS : va_S (gb_fr b 135) s.heap s.heap [] := va_S.rf
  have hl := lv_entry ([.ref (b + 0), .int p1, .int p2, .int p3]) (n := 5) (Nat.le_of_ble_eq_true rfl)
  rw [lg_entry_eq]
  generalize (lg_sl ([.ref (b + 0), .int p1, .int p2, .int p3]) ++ List.replicate (5 - (lg_sl ([.ref (b + 0), .int p1, .int p2, .int p3])).length) Slot.unset).toArray = ls at hl ⊢
  replace hl : lv_has ls 5 [(0, .ref (b + 0)), (1, .int p1), (2, .int p2), (3, .int p3)] := hl
  unfold cs_Face_deed at h
  refine lv_aload_n hx hb dX11_deed_0 rfl (lv_at hl 0 rfl) ?_
  refine lv_iload_n hx hb dX11_deed_1 rfl (lv_at hl 1 rfl) ?_
  obtain ⟨s_1, r_2, z_3, h⟩ := gb_cd_s h
  refine gb_callq (va_runV (C := RX11) (As := [.int p1]) (rest := []) ⟨hx, hb, hml, hown, hq⟩ (cc_Face_nightAt l D cT tt b1 b hb1 n σ p1 s_1 r_2 z_3) (cwV 1 hq (gb_gV w_646 w_648 s_1_8 w_1 w_649) rfl rfl rfl (by decide +kernel) ⟨Nat.le_of_ble_eq_true rfl, Nat.le_of_ble_eq_true rfl⟩) (gb_preV (r := (RX11, TX11, 10)) (ci := 9) (q0 := 0) hSt hP rfl (gb_at b rfl) hS (fun q h => Nat.le_trans hb1 h.1) hP) rfl rfl hl.1 rfl (lv_room (Nat.le_of_ble_eq_true rfl)) dX11_deed_2 ⟨Nat.le_of_ble_eq_true rfl, Nat.le_of_ble_eq_true rfl⟩) hS (fun _ h => h) (fun _ h => h) (fun q_4 H locs hY hk hS => ?_)
  obtain ⟨hq_4, hP⟩ := hY
  subst hq_4
  rw [gb_onv]
  by_cases c_5 : r_2 = 0
  · rw [if_pos c_5] at h
    rw [gb_nv0 c_5]
    refine lv_astoreN (lv' := [(4, .null), (0, .ref (b + 0)), (1, .int p1), (2, .int p2), (3, .int p3)]) hx hb dX11_deed_5 hl (by decide) rfl (fun ls hl => ?_)
    refine lv_aloadN hx hb dX11_deed_7 (lv_at hl 0 rfl) ?_
    refine lv_ifnonnullN hx hb dX11_deed_9 ?_
    refine lv_bipush (v := (-2)) hx hb dX11_deed_12 (by decide) ?_
    refine lv_goto (tgt := 24) hx hb dX11_deed_14 (by decide) ?_
    obtain ⟨e1, e2⟩ := gb_eq2 h
    exact W.iret (v := (-2)) hx hb hr (fun t ht hW => gb_ri ht ⟨e2, by rw [← e1]; exact hP⟩ hS) hS.2.2 dX11_deed_24
  rw [if_neg c_5] at h
  rw [gb_nv1 c_5]
  obtain ⟨z_6, h⟩ := gb_kk_s h
  refine lv_astore (lv' := [(4, .ref (b + r_2)), (0, .ref (b + 0)), (1, .int p1), (2, .int p2), (3, .int p3)]) hx hb dX11_deed_5 hl (by decide) rfl (fun ls hl => ?_)
  refine lv_aload hx hb dX11_deed_7 (lv_at hl 0 rfl) ?_
  refine lv_ifnonnull (tgt := 17) hx hb dX11_deed_9 (by decide) ?_
  refine lv_aload hx hb dX11_deed_17 (lv_at hl 0 rfl) ?_
  refine lv_iload_n hx hb dX11_deed_19 rfl (lv_at hl 3 rfl) ?_
  refine lv_iload_n hx hb dX11_deed_20 rfl (lv_at hl 4 rfl) ?_
  obtain ⟨s_7, r_8, z_9, h⟩ := gb_cd_s h
  refine gb_calli (va_runS (As := [.ref (b + r_2), .int p2, .int p3]) (rest := []) ⟨hx, hb, hml, hown, hq⟩ (cc_Face_lineOf_N l D cT tt b1 b hb1 n s_1 r_2 p2 p3 s_7 r_8 z_9) (va_cwS 3 hq (gb_gS w_650 w_651 w_1 w_652) rfl rfl rfl (by decide +kernel) ⟨Nat.le_of_ble_eq_true rfl, Nat.le_of_ble_eq_true rfl⟩) (gb_preS hSt hS (fun q h => Nat.le_trans hb1 h.1) hP) rfl rfl hl.1 rfl (lv_room (Nat.le_of_ble_eq_true rfl)) dX11_deed_21 ⟨Nat.le_of_ble_eq_true rfl, Nat.le_of_ble_eq_true rfl⟩) hS (fun _ h => h) (fun _ h => h) (fun q_10 H locs hY hk hS => ?_)
  obtain ⟨hq_10, hP⟩ := hY
  replace hq_10 := hq_10.symm
  subst hq_10
  obtain ⟨e1, e2⟩ := gb_eq2 h
  exact W.iret (v := r_8) hx hb hr (fun t ht hW => gb_ri ht ⟨e2, by rw [← e1]; exact hP⟩ hS) hS.2.2 dX11_deed_24
theorem dX11_term_0 : decode cX11_term 0 = .ok (.aload_n 0, 1) := dc_42 (show ((cX11_term.data.toList.drop 0).take 1).map UInt8.toNat = [42] by decide +kernel)
theorem dX11_term_1 : decode cX11_term 1 = .ok (.iload_n 1, 1) := dc_27 (show ((cX11_term.data.toList.drop 1).take 1).map UInt8.toNat = [27] by decide +kernel)
theorem dX11_term_2 : decode cX11_term 2 = .ok (.invokevirtual 156, 3) := dc_182 (show ((cX11_term.data.toList.drop 2).take 3).map UInt8.toNat = [182, 0, 156] by decide +kernel) rfl
theorem dX11_lawAt_0 : decode cX11_lawAt 0 = .ok (.iload_n 1, 1) := dc_27 (show ((cX11_lawAt.data.toList.drop 0).take 1).map UInt8.toNat = [27] by decide +kernel)
theorem dX11_lawAt_1 : decode cX11_lawAt 1 = .ok (.ifCond .lt 28, 3) := dc_155 (show ((cX11_lawAt.data.toList.drop 1).take 3).map UInt8.toNat = [155, 0, 28] by decide +kernel) rfl
theorem dX11_lawAt_29 : decode cX11_lawAt 29 = .ok (.aconst_null, 1) := dc_1 (show ((cX11_lawAt.data.toList.drop 29).take 1).map UInt8.toNat = [1] by decide +kernel)
theorem dX11_lawAt_30 : decode cX11_lawAt 30 = .ok (.areturn, 1) := dc_176 (show ((cX11_lawAt.data.toList.drop 30).take 1).map UInt8.toNat = [176] by decide +kernel)
theorem dX11_lawAt_4 : decode cX11_lawAt 4 = .ok (.iload_n 1, 1) := dc_27 (show ((cX11_lawAt.data.toList.drop 4).take 1).map UInt8.toNat = [27] by decide +kernel)
theorem dX11_lawAt_5 : decode cX11_lawAt 5 = .ok (.aload_n 0, 1) := dc_42 (show ((cX11_lawAt.data.toList.drop 5).take 1).map UInt8.toNat = [42] by decide +kernel)
theorem dX11_lawAt_6 : decode cX11_lawAt 6 = .ok (.getfield 12, 3) := dc_180 (show ((cX11_lawAt.data.toList.drop 6).take 3).map UInt8.toNat = [180, 0, 12] by decide +kernel) rfl
theorem dX11_lawAt_9 : decode cX11_lawAt 9 = .ok (.getfield 88, 3) := dc_180 (show ((cX11_lawAt.data.toList.drop 9).take 3).map UInt8.toNat = [180, 0, 88] by decide +kernel) rfl
theorem dX11_lawAt_12 : decode cX11_lawAt 12 = .ok (.iconst 2, 1) := dc_5 (show ((cX11_lawAt.data.toList.drop 12).take 1).map UInt8.toNat = [5] by decide +kernel)
theorem dX11_lawAt_13 : decode cX11_lawAt 13 = .ok (.iaload, 1) := dc_46 (show ((cX11_lawAt.data.toList.drop 13).take 1).map UInt8.toNat = [46] by decide +kernel)
theorem dX11_lawAt_14 : decode cX11_lawAt 14 = .ok (.if_icmp .ge 15, 3) := dc_162 (show ((cX11_lawAt.data.toList.drop 14).take 3).map UInt8.toNat = [162, 0, 15] by decide +kernel) rfl
theorem dX11_lawAt_17 : decode cX11_lawAt 17 = .ok (.aload_n 0, 1) := dc_42 (show ((cX11_lawAt.data.toList.drop 17).take 1).map UInt8.toNat = [42] by decide +kernel)
theorem dX11_lawAt_18 : decode cX11_lawAt 18 = .ok (.getfield 12, 3) := dc_180 (show ((cX11_lawAt.data.toList.drop 18).take 3).map UInt8.toNat = [180, 0, 12] by decide +kernel) rfl
theorem dX11_lawAt_21 : decode cX11_lawAt 21 = .ok (.getfield 187, 3) := dc_180 (show ((cX11_lawAt.data.toList.drop 21).take 3).map UInt8.toNat = [180, 0, 187] by decide +kernel) rfl
theorem w_117 : (Cond.fieldLink "GooseBorder" (187 : Nat) "GooseBorder$Told" "laws" "[LGooseBorder$Law;") ∈ gb_wA := gb_t1 117 rfl rfl
theorem dX11_lawAt_24 : decode cX11_lawAt 24 = .ok (.iload_n 1, 1) := dc_27 (show ((cX11_lawAt.data.toList.drop 24).take 1).map UInt8.toNat = [27] by decide +kernel)
theorem dX11_lawAt_25 : decode cX11_lawAt 25 = .ok (.aaload, 1) := dc_50 (show ((cX11_lawAt.data.toList.drop 25).take 1).map UInt8.toNat = [50] by decide +kernel)
theorem dX11_lawAt_26 : decode cX11_lawAt 26 = .ok (.goto 4, 3) := dc_167 (show ((cX11_lawAt.data.toList.drop 26).take 3).map UInt8.toNat = [167, 0, 4] by decide +kernel) rfl
def cs_Face_lawAt (n : Nat) (σ : gb_S) (p1 : Int32) : gb_CR Nat := (if p1 < 0 then some (σ, 0) else gb_lt ((σ.1 22) (Int32.toNatClampNeg 2)) (fun x_2 => (if x_2 ≤ p1 then some (σ, 0) else gb_ck p1 2 (gb_lt (([13, 15] : List Nat).getD (Int32.toNatClampNeg p1) 0) (fun a_5 => gb_kk (gb_kL a_5) (some (σ, a_5)))))))
set_option maxHeartbeats 8000000 in
set_option maxRecDepth 100000 in
theorem cc_Face_lawAt (l : Launch) (D : va_G) (cT : Nat → ClassId) (tt : Nat → Nat) (b1 b : Nat) (hb1 : b1 ≤ b) (n : Nat) (σ : gb_S) (p1 : Int32) (σE : gb_S) (rE : Nat) (h : cs_Face_lawAt n σ p1 = some (σE, rE)) : Met l yX11_lawAt (.code yX11_lawAt cX11_lawAt 2 (some (FieldType.object "GooseBorder$Law")) :: gb_wA) ({ frames := 0, cells := 0, slots := 0, locals := 0 }) (gb_Pc D cT tt b1 [.ref (b + 0), .int p1] (fun h => va_P D vwCl (gb_wl b (gb_CW cT b σ)) h)) (gb_Qq (fun r h => r = gb_on b rE ∧ va_P D vwCl (gb_wl b (gb_CW cT b σE)) h) (gb_fr b 135)) 0 0 (gb_fr b 135) := by
  refine Met.ofW (cc := cX11_lawAt) (maxL := 2) (ret := (some (FieldType.object "GooseBorder$Law"))) (by decide) rfl ?_
  intro p e s m args below meth c s₁ B hml hv
  obtain ⟨rfl, hSt, hP⟩ := hv
  have hx := B.exec
  have hb := B.bytes
  have hr := B.returns
  have hts := atoms_spec (ws := .code yX11_lawAt cX11_lawAt 2 (some (FieldType.object "GooseBorder$Law")) :: gb_wA) B.pre
  have hq : ∀ w ∈ gb_wA, w.before _ s = true := fun w h => hts w (List.mem_cons_of_mem _ h)
  have hown : s.vm.findClass RX11 = some m.cls := findClass_of_methodNamed B.named
  have hlocks := B.notSynchronized
  clear B hts
  have hK := hSt.1
  have hS : va_S (gb_fr b 135) s.heap s.heap [] := va_S.rf
  have hl := lv_entry ([.ref (b + 0), .int p1]) (n := 2) (Nat.le_of_ble_eq_true rfl)
  rw [lg_entry_eq]
  generalize (lg_sl ([.ref (b + 0), .int p1]) ++ List.replicate (2 - (lg_sl ([.ref (b + 0), .int p1])).length) Slot.unset).toArray = ls at hl ⊢
  replace hl : lv_has ls 2 [(0, .ref (b + 0)), (1, .int p1)] := hl
  unfold cs_Face_lawAt at h
  refine lv_iload_n hx hb dX11_lawAt_0 rfl (lv_at hl 1 rfl) ?_
  refine lv_if_lt (tgt := 29) hx hb dX11_lawAt_1 (by decide) (fun c_1 => ?_) (fun c_1 => ?_)
  · rw [if_pos c_1] at h
    refine lv_null hx hb dX11_lawAt_29 ?_
    obtain ⟨e1, e2⟩ := gb_eq2 h
    exact W.aret (v := .null) hx hb hr (Or.inl ⟨_, rfl⟩) (Or.inl rfl) (fun t ht hW => gb_rq none ht ⟨by rw [← e2]; rfl, by rw [← e1]; exact hP⟩ hS) hS.2.2 dX11_lawAt_30
  · rw [if_neg c_1] at h
    refine lv_iload_n hx hb dX11_lawAt_4 rfl (lv_at hl 1 rfl) ?_
    refine lv_aload_n hx hb dX11_lawAt_5 rfl (lv_at hl 0 rfl) ?_
    refine va_get (ci := 9) (v := (.ref (b + 1))) (C := RX11) (T := TX11) (N := 10) hx hb hq i_X11 hown hK hP 0 (gb_at b rfl) rfl 0 (by decide) (hq _ w_315) (fun _ h9 => h9) rfl dX11_lawAt_6 ?_
    refine va_get (ci := 8) (v := (.ref (b + 22))) (C := RX10) (T := TX10) (N := 9) hx hb hq i_X10 hown hK hP 1 (gb_at b rfl) rfl 4 (by decide) (hq _ w_121) (fun _ h9 => h9) rfl dX11_lawAt_9 ?_
    refine lv_iconst (v := 2) hx hb dX11_lawAt_12 (by decide) ?_
    refine va_iald hx hb hK hP 22 0 (gb_at b rfl) rfl (gb_in rfl) dX11_lawAt_13 ?_
    refine lv_topi (fun x_2 ex_2 => ?_)
    replace h := gb_lt_s ex_2 h
    refine lv_icmp_ge (tgt := 29) hx hb dX11_lawAt_14 (by decide) (fun c_3 => ?_) (fun c_3 => ?_)
    · rw [if_pos c_3] at h
      refine lv_null hx hb dX11_lawAt_29 ?_
      obtain ⟨e1, e2⟩ := gb_eq2 h
      exact W.aret (v := .null) hx hb hr (Or.inl ⟨_, rfl⟩) (Or.inl rfl) (fun t ht hW => gb_rq none ht ⟨by rw [← e2]; rfl, by rw [← e1]; exact hP⟩ hS) hS.2.2 dX11_lawAt_30
    · rw [if_neg c_3] at h
      refine lv_aload_n hx hb dX11_lawAt_17 rfl (lv_at hl 0 rfl) ?_
      refine va_get (ci := 9) (v := (.ref (b + 1))) (C := RX11) (T := TX11) (N := 10) hx hb hq i_X11 hown hK hP 0 (gb_at b rfl) rfl 0 (by decide) (hq _ w_315) (fun _ h9 => h9) rfl dX11_lawAt_18 ?_
      refine va_get (ci := 8) (v := (.ref (b + 12))) (C := RX10) (T := TX10) (N := 9) hx hb hq i_X10 hown hK hP 1 (gb_at b rfl) rfl 2 (by decide) (hq _ w_117) (fun _ h9 => h9) rfl dX11_lawAt_21 ?_
      refine lv_iload_n hx hb dX11_lawAt_24 rfl (lv_at hl 1 rfl) ?_
      obtain ⟨z_4, h⟩ := gb_ck_s h
      refine gb_aald (v := .ref (b + (([13, 15] : List Nat).getD (Int32.toNatClampNeg p1) 0))) hx hb hK hP 12 6 (gb_at b rfl) rfl z_4 (gb_ra_at (L := ([13, 15] : List Nat)) z_4) dX11_lawAt_25 ?_
      obtain ⟨a_5, ea_5⟩ : ∃ q, q = (([13, 15] : List Nat).getD (Int32.toNatClampNeg p1) 0) := ⟨_, rfl⟩
      rw [← ea_5]
      replace h := gb_lt_s ea_5 h
      obtain ⟨z_6, h⟩ := gb_kk_s h
      refine lv_goto (tgt := 30) hx hb dX11_lawAt_26 (by decide) ?_
      obtain ⟨e1, e2⟩ := gb_eq2 h
      exact W.aret (v := (.ref (b + a_5))) hx hb hr (Or.inl ⟨_, rfl⟩) (Or.inr ⟨_, rfl⟩) (fun t ht hW => gb_rq (some (b + a_5)) ht ⟨by rw [← e2]; exact (gb_on1 (gb_nzL z_6)), by rw [← e1]; exact hP⟩ hS) hS.2.2 dX11_lawAt_30
theorem w_662 : (Cond.code ({ cls := "GooseBorder", name := "lawAt", desc := "(I)LGooseBorder$Law;" } : MethodName) prog_1_method_18_code (2 : Nat) (Option.some (FieldType.object "GooseBorder$Law"))) ∈ gb_wA := gb_t3 182 rfl rfl
theorem w_659 : (Cond.methodLink "GooseBorder" (156 : Nat) ({ cls := "GooseBorder", name := "lawAt", desc := "(I)LGooseBorder$Law;" } : MethodName)) ∈ gb_wA := gb_t3 179 rfl rfl
theorem w_661 : (Cond.instanceMethod ({ cls := "GooseBorder", name := "lawAt", desc := "(I)LGooseBorder$Law;" } : MethodName)) ∈ gb_wA := gb_t3 181 rfl rfl
theorem s_1_9 : Cond.selects "GooseBorder" (⟨"GooseBorder", "lawAt", "(I)LGooseBorder$Law;"⟩ : MethodName) (⟨"GooseBorder", "lawAt", "(I)LGooseBorder$Law;"⟩ : MethodName) ∈ gb_wA := gb_s1 9 rfl rfl
theorem dX11_term_5 : decode cX11_term 5 = .ok (.astore 4, 2) := dc_58 (show ((cX11_term.data.toList.drop 5).take 2).map UInt8.toNat = [58, 4] by decide +kernel) rfl
theorem dX11_term_7 : decode cX11_term 7 = .ok (.aload 4, 2) := dc_25 (show ((cX11_term.data.toList.drop 7).take 2).map UInt8.toNat = [25, 4] by decide +kernel) rfl
theorem dX11_term_9 : decode cX11_term 9 = .ok (.ifnonnull 8, 3) := dc_199 (show ((cX11_term.data.toList.drop 9).take 3).map UInt8.toNat = [199, 0, 8] by decide +kernel) rfl
theorem dX11_term_12 : decode cX11_term 12 = .ok (.bipush (-2), 2) := dc_16 (show ((cX11_term.data.toList.drop 12).take 2).map UInt8.toNat = [16, 254] by decide +kernel) rfl
theorem dX11_term_14 : decode cX11_term 14 = .ok (.goto 10, 3) := dc_167 (show ((cX11_term.data.toList.drop 14).take 3).map UInt8.toNat = [167, 0, 10] by decide +kernel) rfl
theorem dX11_term_24 : decode cX11_term 24 = .ok (.ireturn, 1) := dc_172 (show ((cX11_term.data.toList.drop 24).take 1).map UInt8.toNat = [172] by decide +kernel)
theorem dX11_term_17 : decode cX11_term 17 = .ok (.aload 4, 2) := dc_25 (show ((cX11_term.data.toList.drop 17).take 2).map UInt8.toNat = [25, 4] by decide +kernel) rfl
theorem dX11_term_19 : decode cX11_term 19 = .ok (.iload_n 2, 1) := dc_28 (show ((cX11_term.data.toList.drop 19).take 1).map UInt8.toNat = [28] by decide +kernel)
theorem dX11_term_20 : decode cX11_term 20 = .ok (.iload_n 3, 1) := dc_29 (show ((cX11_term.data.toList.drop 20).take 1).map UInt8.toNat = [29] by decide +kernel)
theorem dX11_term_21 : decode cX11_term 21 = .ok (.invokestatic 152, 3) := dc_184 (show ((cX11_term.data.toList.drop 21).take 3).map UInt8.toNat = [184, 0, 152] by decide +kernel) rfl
def cs_Lines_size_L (n : Nat) (σ : gb_S) (k0 : Nat) : gb_CR Int32 := gb_kk (gb_kL k0) (gb_lt ((σ.1 (k0 + 1)) (Int32.toNatClampNeg 0)) (fun x_2 => some (σ, x_2)))
set_option maxHeartbeats 8000000 in
set_option maxRecDepth 100000 in
theorem cc_Lines_size_L (l : Launch) (D : va_G) (cT : Nat → ClassId) (tt : Nat → Nat) (b1 b : Nat) (hb1 : b1 ≤ b) (n : Nat) (σ : gb_S) (k0 : Nat) (σE : gb_S) (rE : Int32) (h : cs_Lines_size_L n σ k0 = some (σE, rE)) : Met l yX4_size (.code yX4_size cX4_size 1 (some FieldType.int) :: gb_wA) ({ frames := 0, cells := 0, slots := 0, locals := 0 }) (gb_Pc D cT tt b1 [.ref (b + k0)] (fun h => va_P D vwCl (gb_wl b (gb_CW cT b σ)) h)) (gb_Qi (fun r h => r = rE ∧ va_P D vwCl (gb_wl b (gb_CW cT b σE)) h) (gb_fr b 135)) 0 0 (gb_fr b 135) := by
  refine Met.ofW (cc := cX4_size) (maxL := 1) (ret := (some FieldType.int)) (by decide) rfl ?_
  intro p e s m args below meth c s₁ B hml hv
  obtain ⟨rfl, hSt, hP⟩ := hv
  have hx := B.exec
  have hb := B.bytes
  have hr := B.returns
  have hts := atoms_spec (ws := .code yX4_size cX4_size 1 (some FieldType.int) :: gb_wA) B.pre
  have hq : ∀ w ∈ gb_wA, w.before _ s = true := fun w h => hts w (List.mem_cons_of_mem _ h)
  have hown : s.vm.findClass RX4 = some m.cls := findClass_of_methodNamed B.named
  have hlocks := B.notSynchronized
  clear B hts
  have hK := hSt.1
  have hS : va_S (gb_fr b 135) s.heap s.heap [] := va_S.rf
  have hl := lv_entry ([.ref (b + k0)]) (n := 1) (Nat.le_of_ble_eq_true rfl)
  rw [lg_entry_eq]
  generalize (lg_sl ([.ref (b + k0)]) ++ List.replicate (1 - (lg_sl ([.ref (b + k0)])).length) Slot.unset).toArray = ls at hl ⊢
  replace hl : lv_has ls 1 [(0, .ref (b + k0))] := hl
  unfold cs_Lines_size_L at h
  obtain ⟨z_1, h⟩ := gb_kk_s h
  refine lv_aload_n hx hb dX4_size_0 rfl (lv_at hl 0 rfl) ?_
  refine va_get (ci := 3) (v := (.ref (b + (k0 + 1)))) (C := RX3) (T := TX3) (N := 4) hx hb hq i_X3 hown hK hP k0 (gb_at b (gb_cL z_1).1) rfl 3 (by decide) (hq _ w_52) (fun x9 h9 => u_same (hq _ w_53) x9 h9) rfl dX4_size_1 ?_
  refine lv_iconst (v := 0) hx hb dX4_size_4 (by decide) ?_
  refine va_iald hx hb hK hP (k0 + 1) 0 (gb_at b (gb_cL z_1).2) rfl (gb_in rfl) dX4_size_5 ?_
  refine lv_topi (fun x_2 ex_2 => ?_)
  replace h := gb_lt_s ex_2 h
  obtain ⟨e1, e2⟩ := gb_eq2 h
  exact W.iret (v := x_2) hx hb hr (fun t ht hW => gb_ri ht ⟨e2, by rw [← e1]; exact hP⟩ hS) hS.2.2 dX4_size_6
theorem w_487 : (Cond.selects "GooseBorder$Law" ({ cls := "GooseBorder$Lines", name := "size", desc := "()I" } : MethodName) ({ cls := "GooseBorder$Lines", name := "size", desc := "()I" } : MethodName)) ∈ gb_wA := gb_t3 7 rfl rfl
def cs_Lines_cell_L (n : Nat) (σ : gb_S) (k0 : Nat) (p1 : Int32) (p2 : Int32) : gb_CR Int32 := gb_kk (gb_kL k0) (gb_ck (((1 : Int32) + (p1 * ((2 : Int32) + 1))) + p2) 25 (gb_lt ((σ.1 (k0 + 1)) (Int32.toNatClampNeg (((1 : Int32) + (p1 * ((2 : Int32) + 1))) + p2))) (fun x_3 => some (σ, x_3))))
set_option maxHeartbeats 8000000 in
set_option maxRecDepth 100000 in
theorem cc_Lines_cell_L (l : Launch) (D : va_G) (cT : Nat → ClassId) (tt : Nat → Nat) (b1 b : Nat) (hb1 : b1 ≤ b) (n : Nat) (σ : gb_S) (k0 : Nat) (p1 : Int32) (p2 : Int32) (σE : gb_S) (rE : Int32) (h : cs_Lines_cell_L n σ k0 p1 p2 = some (σE, rE)) : Met l yX4_cell (.code yX4_cell cX4_cell 3 (some FieldType.int) :: gb_wA) ({ frames := 0, cells := 0, slots := 0, locals := 0 }) (gb_Pc D cT tt b1 [.ref (b + k0), .int p1, .int p2] (fun h => va_P D vwCl (gb_wl b (gb_CW cT b σ)) h)) (gb_Qi (fun r h => r = rE ∧ va_P D vwCl (gb_wl b (gb_CW cT b σE)) h) (gb_fr b 135)) 0 0 (gb_fr b 135) := by
  refine Met.ofW (cc := cX4_cell) (maxL := 3) (ret := (some FieldType.int)) (by decide) rfl ?_
  intro p e s m args below meth c s₁ B hml hv
  obtain ⟨rfl, hSt, hP⟩ := hv
  have hx := B.exec
  have hb := B.bytes
  have hr := B.returns
  have hts := atoms_spec (ws := .code yX4_cell cX4_cell 3 (some FieldType.int) :: gb_wA) B.pre
  have hq : ∀ w ∈ gb_wA, w.before _ s = true := fun w h => hts w (List.mem_cons_of_mem _ h)
  have hown : s.vm.findClass RX4 = some m.cls := findClass_of_methodNamed B.named
  have hlocks := B.notSynchronized
  clear B hts
  have hK := hSt.1
  have hS : va_S (gb_fr b 135) s.heap s.heap [] := va_S.rf
  have hl := lv_entry ([.ref (b + k0), .int p1, .int p2]) (n := 3) (Nat.le_of_ble_eq_true rfl)
  rw [lg_entry_eq]
  generalize (lg_sl ([.ref (b + k0), .int p1, .int p2]) ++ List.replicate (3 - (lg_sl ([.ref (b + k0), .int p1, .int p2])).length) Slot.unset).toArray = ls at hl ⊢
  replace hl : lv_has ls 3 [(0, .ref (b + k0)), (1, .int p1), (2, .int p2)] := hl
  unfold cs_Lines_cell_L at h
  obtain ⟨z_1, h⟩ := gb_kk_s h
  refine lv_aload_n hx hb dX4_cell_0 rfl (lv_at hl 0 rfl) ?_
  refine va_get (ci := 3) (v := (.ref (b + (k0 + 1)))) (C := RX3) (T := TX3) (N := 4) hx hb hq i_X3 hown hK hP k0 (gb_at b (gb_cL z_1).1) rfl 3 (by decide) (hq _ w_52) (fun x9 h9 => u_same (hq _ w_53) x9 h9) rfl dX4_cell_1 ?_
  refine lv_iconst (v := 1) hx hb dX4_cell_4 (by decide) ?_
  refine lv_iload_n hx hb dX4_cell_5 rfl (lv_at hl 1 rfl) ?_
  refine lv_aload_n hx hb dX4_cell_6 rfl (lv_at hl 0 rfl) ?_
  refine va_get (ci := 3) (v := (.int 2)) (C := RX3) (T := TX3) (N := 4) hx hb hq i_X3 hown hK hP k0 (gb_at b (gb_cL z_1).1) rfl 1 (by decide) (hq _ w_73) (fun _ h9 => h9) rfl dX4_cell_7 ?_
  refine lv_iconst (v := 1) hx hb dX4_cell_10 (by decide) ?_
  refine lv_iadd hx hb dX4_cell_11 ?_
  refine lv_imul hx hb dX4_cell_12 ?_
  refine lv_iadd hx hb dX4_cell_13 ?_
  refine lv_iload_n hx hb dX4_cell_14 rfl (lv_at hl 2 rfl) ?_
  refine lv_iadd hx hb dX4_cell_15 ?_
  obtain ⟨z_2, h⟩ := gb_ck_s h
  refine va_iald hx hb hK hP (k0 + 1) 0 (gb_at b (gb_cL z_1).2) rfl z_2 dX4_cell_16 ?_
  refine lv_topi (fun x_3 ex_3 => ?_)
  replace h := gb_lt_s ex_3 h
  obtain ⟨e1, e2⟩ := gb_eq2 h
  exact W.iret (v := x_3) hx hb hr (fun t ht hW => gb_ri ht ⟨e2, by rw [← e1]; exact hP⟩ hS) hS.2.2 dX4_cell_17
theorem w_1732 : (Cond.selects "GooseBorder$Law" ({ cls := "GooseBorder$Lines", name := "cell", desc := "(II)I" } : MethodName) ({ cls := "GooseBorder$Lines", name := "cell", desc := "(II)I" } : MethodName)) ∈ gb_wA := gb_t8 52 rfl rfl
def cs_Face_lineOf_L (n : Nat) (σ : gb_S) (p1 : Nat) (p2 : Int32) (p3 : Int32) : gb_CR Int32 := gb_kk (gb_kL p1) ((if p2 = (-1) then (if p3 = 0 then gb_cd (cs_Lines_size_L n σ p1) (fun s_16 r_17 => some (s_16, r_17)) else some (σ, (-2))) else (if p2 < 0 then some (σ, (-2)) else gb_cd (cs_Lines_size_L n σ p1) (fun s_4 r_5 => (if r_5 ≤ p2 then some (s_4, (-2)) else (if p3 < 0 then some (s_4, (-2)) else (if p3 ≤ 2 then gb_cd (cs_Lines_cell_L n s_4 p1 p2 p3) (fun s_11 r_12 => some (s_11, r_12)) else some (s_4, (-2)))))))))
set_option maxHeartbeats 8000000 in
set_option maxRecDepth 100000 in
theorem cc_Face_lineOf_L (l : Launch) (D : va_G) (cT : Nat → ClassId) (tt : Nat → Nat) (b1 b : Nat) (hb1 : b1 ≤ b) (n : Nat) (σ : gb_S) (p1 : Nat) (p2 : Int32) (p3 : Int32) (σE : gb_S) (rE : Int32) (h : cs_Face_lineOf_L n σ p1 p2 p3 = some (σE, rE)) : Met l yX11_lineOf (.code yX11_lineOf cX11_lineOf 3 (some FieldType.int) :: gb_wA) ({ frames := 1, cells := 0, slots := 0, locals := 22 }) (gb_Pc D cT tt b1 [.ref (b + p1), .int p2, .int p3] (fun h => va_P D vwCl (gb_wl b (gb_CW cT b σ)) h)) (gb_Qi (fun r h => r = rE ∧ va_P D vwCl (gb_wl b (gb_CW cT b σE)) h) (gb_fr b 135)) 0 0 (gb_fr b 135) := by
  refine Met.ofW (cc := cX11_lineOf) (maxL := 3) (ret := (some FieldType.int)) (by decide) rfl ?_
  intro p e s m args below meth c s₁ B hml hv
  obtain ⟨rfl, hSt, hP⟩ := hv
  have hx := B.exec
  have hb := B.bytes
  have hr := B.returns
  have hts := atoms_spec (ws := .code yX11_lineOf cX11_lineOf 3 (some FieldType.int) :: gb_wA) B.pre
  have hq : ∀ w ∈ gb_wA, w.before _ s = true := fun w h => hts w (List.mem_cons_of_mem _ h)
  have hown : s.vm.findClass RX11 = some m.cls := findClass_of_methodNamed B.named
  have hlocks := B.notSynchronized
  clear B hts
  have hK := hSt.1
  have hS : va_S (gb_fr b 135) s.heap s.heap [] := va_S.rf
  have hl := lv_entry ([.ref (b + p1), .int p2, .int p3]) (n := 3) (Nat.le_of_ble_eq_true rfl)
  rw [lg_entry_eq]
  generalize (lg_sl ([.ref (b + p1), .int p2, .int p3]) ++ List.replicate (3 - (lg_sl ([.ref (b + p1), .int p2, .int p3])).length) Slot.unset).toArray = ls at hl ⊢
  replace hl : lv_has ls 3 [(0, .ref (b + p1)), (1, .int p2), (2, .int p3)] := hl
  unfold cs_Face_lineOf_L at h
  obtain ⟨z_1, h⟩ := gb_kk_s h
  refine lv_iload_n hx hb dX11_lineOf_0 rfl (lv_at hl 1 rfl) ?_
  refine lv_iconst (v := (-1)) hx hb dX11_lineOf_1 (by decide) ?_
  refine lv_icmp_ne (tgt := 19) hx hb dX11_lineOf_2 (by decide) (fun c_2 => ?_) (fun c_2 => ?_)
  · rw [if_neg c_2] at h
    refine lv_iload_n hx hb dX11_lineOf_19 rfl (lv_at hl 1 rfl) ?_
    refine lv_if_lt (tgt := 43) hx hb dX11_lineOf_20 (by decide) (fun c_3 => ?_) (fun c_3 => ?_)
    · rw [if_pos c_3] at h
      refine lv_bipush (v := (-2)) hx hb dX11_lineOf_43 (by decide) ?_
      obtain ⟨e1, e2⟩ := gb_eq2 h
      exact W.iret (v := (-2)) hx hb hr (fun t ht hW => gb_ri ht ⟨e2, by rw [← e1]; exact hP⟩ hS) hS.2.2 dX11_lineOf_45
    · rw [if_neg c_3] at h
      refine lv_iload_n hx hb dX11_lineOf_23 rfl (lv_at hl 1 rfl) ?_
      refine lv_aload_n hx hb dX11_lineOf_24 rfl (lv_at hl 0 rfl) ?_
      obtain ⟨s_4, r_5, z_6, h⟩ := gb_cd_s h
      refine gb_calli (va_runU (x := yX4_size) (C := RX3) (owner := "GooseBorder$Lines") (As := []) (rest := [.int p2]) ⟨hx, hb, hml, hown, hq⟩ (cc_Lines_size_L l D cT tt b1 b hb1 n σ p1 s_4 r_5 z_6) (va_cwU (owner := "GooseBorder$Lines") (C := RX3) 0 hq (gb_gU w_653 w_485 w_487 w_484 w_6 w_489) rfl rfl rfl rfl (by decide +kernel) ⟨Nat.le_of_ble_eq_true rfl, Nat.le_of_ble_eq_true rfl⟩) (gb_preV (r := (RX3, TX3, 4)) (ci := 3) (q0 := p1) hSt hP rfl (gb_at b (gb_cL z_1).1) hS (fun q h => Nat.le_trans hb1 h.1) hP) rfl rfl hl.1 rfl (lv_room (Nat.le_of_ble_eq_true rfl)) dX11_lineOf_25 ⟨Nat.le_of_ble_eq_true rfl, Nat.le_of_ble_eq_true rfl⟩) hS (fun _ h => h) (fun _ h => h) (fun q_7 H locs hY hk hS => ?_)
      obtain ⟨hq_7, hP⟩ := hY
      replace hq_7 := hq_7.symm
      subst hq_7
      refine lv_icmp_ge (tgt := 43) hx hb dX11_lineOf_28 (by decide) (fun c_8 => ?_) (fun c_8 => ?_)
      · rw [if_pos c_8] at h
        refine lv_bipush (v := (-2)) hx hb dX11_lineOf_43 (by decide) ?_
        obtain ⟨e1, e2⟩ := gb_eq2 h
        exact W.iret (v := (-2)) hx hb hr (fun t ht hW => gb_ri ht ⟨e2, by rw [← e1]; exact hP⟩ hS) hS.2.2 dX11_lineOf_45
      · rw [if_neg c_8] at h
        refine lv_iload_n hx hb dX11_lineOf_31 rfl (lv_at hl 2 rfl) ?_
        refine lv_if_lt (tgt := 43) hx hb dX11_lineOf_32 (by decide) (fun c_9 => ?_) (fun c_9 => ?_)
        · rw [if_pos c_9] at h
          refine lv_bipush (v := (-2)) hx hb dX11_lineOf_43 (by decide) ?_
          obtain ⟨e1, e2⟩ := gb_eq2 h
          exact W.iret (v := (-2)) hx hb hr (fun t ht hW => gb_ri ht ⟨e2, by rw [← e1]; exact hP⟩ hS) hS.2.2 dX11_lineOf_45
        · rw [if_neg c_9] at h
          refine lv_iload_n hx hb dX11_lineOf_35 rfl (lv_at hl 2 rfl) ?_
          refine lv_aload_n hx hb dX11_lineOf_36 rfl (lv_at hl 0 rfl) ?_
          refine va_get (ci := 3) (v := (.int 2)) (C := RX3) (T := TX3) (N := 4) hx hb hq i_X3 hown hK hP p1 (gb_at b (gb_cL z_1).1) rfl 1 (by decide) (hq _ w_76) (fun _ h9 => h9) rfl dX11_lineOf_37 ?_
          refine lv_icmp_le (tgt := 46) hx hb dX11_lineOf_40 (by decide) (fun c_10 => ?_) (fun c_10 => ?_)
          · rw [if_pos c_10] at h
            refine lv_aload_n hx hb dX11_lineOf_46 rfl (lv_at hl 0 rfl) ?_
            refine lv_iload_n hx hb dX11_lineOf_47 rfl (lv_at hl 1 rfl) ?_
            refine lv_iload_n hx hb dX11_lineOf_48 rfl (lv_at hl 2 rfl) ?_
            obtain ⟨s_11, r_12, z_13, h⟩ := gb_cd_s h
            refine gb_calli (va_runU (x := yX4_cell) (C := RX3) (owner := "GooseBorder$Lines") (As := [.int p2, .int p3]) (rest := []) ⟨hx, hb, hml, hown, hq⟩ (cc_Lines_cell_L l D cT tt b1 b hb1 n s_4 p1 p2 p3 s_11 r_12 z_13) (va_cwU (owner := "GooseBorder$Lines") (C := RX3) 2 hq (gb_gU w_654 w_1730 w_1732 w_546 w_6 w_547) rfl rfl rfl rfl (by decide +kernel) ⟨Nat.le_of_ble_eq_true rfl, Nat.le_of_ble_eq_true rfl⟩) (gb_preV (r := (RX3, TX3, 4)) (ci := 3) (q0 := p1) hSt hP rfl (gb_at b (gb_cL z_1).1) hS (fun q h => Nat.le_trans hb1 h.1) hP) rfl rfl hl.1 rfl (lv_room (Nat.le_of_ble_eq_true rfl)) dX11_lineOf_49 ⟨Nat.le_of_ble_eq_true rfl, Nat.le_of_ble_eq_true rfl⟩) hS (fun _ h => h) (fun _ h => h) (fun q_14 H locs hY hk hS => ?_)
            obtain ⟨hq_14, hP⟩ := hY
            replace hq_14 := hq_14.symm
            subst hq_14
            obtain ⟨e1, e2⟩ := gb_eq2 h
            exact W.iret (v := r_12) hx hb hr (fun t ht hW => gb_ri ht ⟨e2, by rw [← e1]; exact hP⟩ hS) hS.2.2 dX11_lineOf_52
          · rw [if_neg c_10] at h
            refine lv_bipush (v := (-2)) hx hb dX11_lineOf_43 (by decide) ?_
            obtain ⟨e1, e2⟩ := gb_eq2 h
            exact W.iret (v := (-2)) hx hb hr (fun t ht hW => gb_ri ht ⟨e2, by rw [← e1]; exact hP⟩ hS) hS.2.2 dX11_lineOf_45
  · rw [if_pos c_2] at h
    refine lv_iload_n hx hb dX11_lineOf_5 rfl (lv_at hl 2 rfl) ?_
    refine lv_if_ne (tgt := 16) hx hb dX11_lineOf_6 (by decide) (fun c_15 => ?_) (fun c_15 => ?_)
    · rw [if_neg c_15] at h
      refine lv_bipush (v := (-2)) hx hb dX11_lineOf_16 (by decide) ?_
      obtain ⟨e1, e2⟩ := gb_eq2 h
      exact W.iret (v := (-2)) hx hb hr (fun t ht hW => gb_ri ht ⟨e2, by rw [← e1]; exact hP⟩ hS) hS.2.2 dX11_lineOf_18
    · rw [if_pos c_15] at h
      refine lv_aload_n hx hb dX11_lineOf_9 rfl (lv_at hl 0 rfl) ?_
      obtain ⟨s_16, r_17, z_18, h⟩ := gb_cd_s h
      refine gb_calli (va_runU (x := yX4_size) (C := RX3) (owner := "GooseBorder$Lines") (As := []) (rest := []) ⟨hx, hb, hml, hown, hq⟩ (cc_Lines_size_L l D cT tt b1 b hb1 n σ p1 s_16 r_17 z_18) (va_cwU (owner := "GooseBorder$Lines") (C := RX3) 0 hq (gb_gU w_653 w_485 w_487 w_484 w_6 w_489) rfl rfl rfl rfl (by decide +kernel) ⟨Nat.le_of_ble_eq_true rfl, Nat.le_of_ble_eq_true rfl⟩) (gb_preV (r := (RX3, TX3, 4)) (ci := 3) (q0 := p1) hSt hP rfl (gb_at b (gb_cL z_1).1) hS (fun q h => Nat.le_trans hb1 h.1) hP) rfl rfl hl.1 rfl (lv_room (Nat.le_of_ble_eq_true rfl)) dX11_lineOf_10 ⟨Nat.le_of_ble_eq_true rfl, Nat.le_of_ble_eq_true rfl⟩) hS (fun _ h => h) (fun _ h => h) (fun q_19 H locs hY hk hS => ?_)
      obtain ⟨hq_19, hP⟩ := hY
      replace hq_19 := hq_19.symm
      subst hq_19
      refine lv_goto (tgt := 18) hx hb dX11_lineOf_13 (by decide) ?_
      obtain ⟨e1, e2⟩ := gb_eq2 h
      exact W.iret (v := r_17) hx hb hr (fun t ht hW => gb_ri ht ⟨e2, by rw [← e1]; exact hP⟩ hS) hS.2.2 dX11_lineOf_18
def cs_Face_term (n : Nat) (σ : gb_S) (p1 : Int32) (p2 : Int32) (p3 : Int32) : gb_CR Int32 := gb_cd (cs_Face_lawAt n σ p1) (fun s_1 r_2 => (if r_2 = 0 then some (s_1, (-2)) else gb_kk (gb_kL r_2) (gb_cd (cs_Face_lineOf_L n s_1 r_2 p2 p3) (fun s_7 r_8 => some (s_7, r_8)))))
set_option maxHeartbeats 8000000 in
set_option maxRecDepth 100000 in
theorem cc_Face_term (l : Launch) (D : va_G) (cT : Nat → ClassId) (tt : Nat → Nat) (b1 b : Nat) (hb1 : b1 ≤ b) (n : Nat) (σ : gb_S) (p1 : Int32) (p2 : Int32) (p3 : Int32) (σE : gb_S) (rE : Int32) (h : cs_Face_term n σ p1 p2 p3 = some (σE, rE)) : Met l yX11_term (.code yX11_term cX11_term 5 (some FieldType.int) :: gb_wA) ({ frames := 2, cells := 0, slots := 0, locals := 44 }) (gb_Pc D cT tt b1 [.ref (b + 0), .int p1, .int p2, .int p3] (fun h => va_P D vwCl (gb_wl b (gb_CW cT b σ)) h)) (gb_Qi (fun r h => r = rE ∧ va_P D vwCl (gb_wl b (gb_CW cT b σE)) h) (gb_fr b 135)) 0 0 (gb_fr b 135) := by
  refine Met.ofW (cc := cX11_term) (maxL := 5) (ret := (some FieldType.int)) (by decide) rfl ?_
  intro p e s m args below meth c s₁ B hml hv
  obtain ⟨rfl, hSt, hP⟩ := hv
  have hx := B.exec
  have hb := B.bytes
  have hr := B.returns
  have hts := atoms_spec (ws := .code yX11_term cX11_term 5 (some FieldType.int) :: gb_wA) B.pre
  have hq : ∀ w ∈ gb_wA, w.before _ s = true := fun w h => hts w (List.mem_cons_of_mem _ h)
  have hown : s.vm.findClass RX11 = some m.cls := findClass_of_methodNamed B.named
  have hlocks := B.notSynchronized
  clear B hts
  have hK := hSt.1
  have hS : va_S (gb_fr b 135) s.heap s.heap [] := va_S.rf
  have hl := lv_entry ([.ref (b + 0), .int p1, .int p2, .int p3]) (n := 5) (Nat.le_of_ble_eq_true rfl)
  rw [lg_entry_eq]
  generalize (lg_sl ([.ref (b + 0), .int p1, .int p2, .int p3]) ++ List.replicate (5 - (lg_sl ([.ref (b + 0), .int p1, .int p2, .int p3])).length) Slot.unset).toArray = ls at hl ⊢
  replace hl : lv_has ls 5 [(0, .ref (b + 0)), (1, .int p1), (2, .int p2), (3, .int p3)] := hl
  unfold cs_Face_term at h
  refine lv_aload_n hx hb dX11_term_0 rfl (lv_at hl 0 rfl) ?_
  refine lv_iload_n hx hb dX11_term_1 rfl (lv_at hl 1 rfl) ?_
  obtain ⟨s_1, r_2, z_3, h⟩ := gb_cd_s h
  refine gb_callq (va_runV (C := RX11) (As := [.int p1]) (rest := []) ⟨hx, hb, hml, hown, hq⟩ (cc_Face_lawAt l D cT tt b1 b hb1 n σ p1 s_1 r_2 z_3) (cwV 1 hq (gb_gV w_659 w_661 s_1_9 w_1 w_662) rfl rfl rfl (by decide +kernel) ⟨Nat.le_of_ble_eq_true rfl, Nat.le_of_ble_eq_true rfl⟩) (gb_preV (r := (RX11, TX11, 10)) (ci := 9) (q0 := 0) hSt hP rfl (gb_at b rfl) hS (fun q h => Nat.le_trans hb1 h.1) hP) rfl rfl hl.1 rfl (lv_room (Nat.le_of_ble_eq_true rfl)) dX11_term_2 ⟨Nat.le_of_ble_eq_true rfl, Nat.le_of_ble_eq_true rfl⟩) hS (fun _ h => h) (fun _ h => h) (fun q_4 H locs hY hk hS => ?_)
  obtain ⟨hq_4, hP⟩ := hY
  subst hq_4
  rw [gb_onv]
  by_cases c_5 : r_2 = 0
  · rw [if_pos c_5] at h
    rw [gb_nv0 c_5]
    refine lv_astoreN (lv' := [(4, .null), (0, .ref (b + 0)), (1, .int p1), (2, .int p2), (3, .int p3)]) hx hb dX11_term_5 hl (by decide) rfl (fun ls hl => ?_)
    refine lv_aloadN hx hb dX11_term_7 (lv_at hl 0 rfl) ?_
    refine lv_ifnonnullN hx hb dX11_term_9 ?_
    refine lv_bipush (v := (-2)) hx hb dX11_term_12 (by decide) ?_
    refine lv_goto (tgt := 24) hx hb dX11_term_14 (by decide) ?_
    obtain ⟨e1, e2⟩ := gb_eq2 h
    exact W.iret (v := (-2)) hx hb hr (fun t ht hW => gb_ri ht ⟨e2, by rw [← e1]; exact hP⟩ hS) hS.2.2 dX11_term_24
  rw [if_neg c_5] at h
  rw [gb_nv1 c_5]
  obtain ⟨z_6, h⟩ := gb_kk_s h
  refine lv_astore (lv' := [(4, .ref (b + r_2)), (0, .ref (b + 0)), (1, .int p1), (2, .int p2), (3, .int p3)]) hx hb dX11_term_5 hl (by decide) rfl (fun ls hl => ?_)
  refine lv_aload hx hb dX11_term_7 (lv_at hl 0 rfl) ?_
  refine lv_ifnonnull (tgt := 17) hx hb dX11_term_9 (by decide) ?_
  refine lv_aload hx hb dX11_term_17 (lv_at hl 0 rfl) ?_
  refine lv_iload_n hx hb dX11_term_19 rfl (lv_at hl 3 rfl) ?_
  refine lv_iload_n hx hb dX11_term_20 rfl (lv_at hl 4 rfl) ?_
  obtain ⟨s_7, r_8, z_9, h⟩ := gb_cd_s h
  refine gb_calli (va_runS (As := [.ref (b + r_2), .int p2, .int p3]) (rest := []) ⟨hx, hb, hml, hown, hq⟩ (cc_Face_lineOf_L l D cT tt b1 b hb1 n s_1 r_2 p2 p3 s_7 r_8 z_9) (va_cwS 3 hq (gb_gS w_650 w_651 w_1 w_652) rfl rfl rfl (by decide +kernel) ⟨Nat.le_of_ble_eq_true rfl, Nat.le_of_ble_eq_true rfl⟩) (gb_preS hSt hS (fun q h => Nat.le_trans hb1 h.1) hP) rfl rfl hl.1 rfl (lv_room (Nat.le_of_ble_eq_true rfl)) dX11_term_21 ⟨Nat.le_of_ble_eq_true rfl, Nat.le_of_ble_eq_true rfl⟩) hS (fun _ h => h) (fun _ h => h) (fun q_10 H locs hY hk hS => ?_)
  obtain ⟨hq_10, hP⟩ := hY
  replace hq_10 := hq_10.symm
  subst hq_10
  obtain ⟨e1, e2⟩ := gb_eq2 h
  exact W.iret (v := r_8) hx hb hr (fun t ht hW => gb_ri ht ⟨e2, by rw [← e1]; exact hP⟩ hS) hS.2.2 dX11_term_24
theorem dX11_seen_0 : decode cX11_seen 0 = .ok (.aload_n 0, 1) := dc_42 (show ((cX11_seen.data.toList.drop 0).take 1).map UInt8.toNat = [42] by decide +kernel)
theorem dX11_seen_1 : decode cX11_seen 1 = .ok (.iload_n 1, 1) := dc_27 (show ((cX11_seen.data.toList.drop 1).take 1).map UInt8.toNat = [27] by decide +kernel)
theorem dX11_seen_2 : decode cX11_seen 2 = .ok (.invokevirtual 160, 3) := dc_182 (show ((cX11_seen.data.toList.drop 2).take 3).map UInt8.toNat = [182, 0, 160] by decide +kernel) rfl
theorem dX11_dawnAt_0 : decode cX11_dawnAt 0 = .ok (.iload_n 1, 1) := dc_27 (show ((cX11_dawnAt.data.toList.drop 0).take 1).map UInt8.toNat = [27] by decide +kernel)
theorem dX11_dawnAt_1 : decode cX11_dawnAt 1 = .ok (.ifCond .lt 28, 3) := dc_155 (show ((cX11_dawnAt.data.toList.drop 1).take 3).map UInt8.toNat = [155, 0, 28] by decide +kernel) rfl
theorem dX11_dawnAt_29 : decode cX11_dawnAt 29 = .ok (.aconst_null, 1) := dc_1 (show ((cX11_dawnAt.data.toList.drop 29).take 1).map UInt8.toNat = [1] by decide +kernel)
theorem dX11_dawnAt_30 : decode cX11_dawnAt 30 = .ok (.areturn, 1) := dc_176 (show ((cX11_dawnAt.data.toList.drop 30).take 1).map UInt8.toNat = [176] by decide +kernel)
theorem dX11_dawnAt_4 : decode cX11_dawnAt 4 = .ok (.iload_n 1, 1) := dc_27 (show ((cX11_dawnAt.data.toList.drop 4).take 1).map UInt8.toNat = [27] by decide +kernel)
theorem dX11_dawnAt_5 : decode cX11_dawnAt 5 = .ok (.aload_n 0, 1) := dc_42 (show ((cX11_dawnAt.data.toList.drop 5).take 1).map UInt8.toNat = [42] by decide +kernel)
theorem dX11_dawnAt_6 : decode cX11_dawnAt 6 = .ok (.getfield 12, 3) := dc_180 (show ((cX11_dawnAt.data.toList.drop 6).take 3).map UInt8.toNat = [180, 0, 12] by decide +kernel) rfl
theorem dX11_dawnAt_9 : decode cX11_dawnAt 9 = .ok (.getfield 88, 3) := dc_180 (show ((cX11_dawnAt.data.toList.drop 9).take 3).map UInt8.toNat = [180, 0, 88] by decide +kernel) rfl
theorem dX11_dawnAt_12 : decode cX11_dawnAt 12 = .ok (.iconst 3, 1) := dc_6 (show ((cX11_dawnAt.data.toList.drop 12).take 1).map UInt8.toNat = [6] by decide +kernel)
theorem dX11_dawnAt_13 : decode cX11_dawnAt 13 = .ok (.iaload, 1) := dc_46 (show ((cX11_dawnAt.data.toList.drop 13).take 1).map UInt8.toNat = [46] by decide +kernel)
theorem dX11_dawnAt_14 : decode cX11_dawnAt 14 = .ok (.if_icmp .ge 15, 3) := dc_162 (show ((cX11_dawnAt.data.toList.drop 14).take 3).map UInt8.toNat = [162, 0, 15] by decide +kernel) rfl
theorem dX11_dawnAt_17 : decode cX11_dawnAt 17 = .ok (.aload_n 0, 1) := dc_42 (show ((cX11_dawnAt.data.toList.drop 17).take 1).map UInt8.toNat = [42] by decide +kernel)
theorem dX11_dawnAt_18 : decode cX11_dawnAt 18 = .ok (.getfield 12, 3) := dc_180 (show ((cX11_dawnAt.data.toList.drop 18).take 3).map UInt8.toNat = [180, 0, 12] by decide +kernel) rfl
theorem dX11_dawnAt_21 : decode cX11_dawnAt 21 = .ok (.getfield 191, 3) := dc_180 (show ((cX11_dawnAt.data.toList.drop 21).take 3).map UInt8.toNat = [180, 0, 191] by decide +kernel) rfl
theorem w_119 : (Cond.fieldLink "GooseBorder" (191 : Nat) "GooseBorder$Told" "dawns" "[LGooseBorder$Dawn;") ∈ gb_wA := gb_t1 119 rfl rfl
theorem dX11_dawnAt_24 : decode cX11_dawnAt 24 = .ok (.iload_n 1, 1) := dc_27 (show ((cX11_dawnAt.data.toList.drop 24).take 1).map UInt8.toNat = [27] by decide +kernel)
theorem dX11_dawnAt_25 : decode cX11_dawnAt 25 = .ok (.aaload, 1) := dc_50 (show ((cX11_dawnAt.data.toList.drop 25).take 1).map UInt8.toNat = [50] by decide +kernel)
theorem dX11_dawnAt_26 : decode cX11_dawnAt 26 = .ok (.goto 4, 3) := dc_167 (show ((cX11_dawnAt.data.toList.drop 26).take 3).map UInt8.toNat = [167, 0, 4] by decide +kernel) rfl
def cs_Face_dawnAt (n : Nat) (σ : gb_S) (p1 : Int32) : gb_CR Nat := (if p1 < 0 then some (σ, 0) else gb_lt ((σ.1 22) (Int32.toNatClampNeg 3)) (fun x_2 => (if x_2 ≤ p1 then some (σ, 0) else gb_ck p1 2 (gb_lt (([18, 20] : List Nat).getD (Int32.toNatClampNeg p1) 0) (fun a_5 => gb_kk (gb_kD a_5) (some (σ, a_5)))))))
set_option maxHeartbeats 8000000 in
set_option maxRecDepth 100000 in
theorem cc_Face_dawnAt (l : Launch) (D : va_G) (cT : Nat → ClassId) (tt : Nat → Nat) (b1 b : Nat) (hb1 : b1 ≤ b) (n : Nat) (σ : gb_S) (p1 : Int32) (σE : gb_S) (rE : Nat) (h : cs_Face_dawnAt n σ p1 = some (σE, rE)) : Met l yX11_dawnAt (.code yX11_dawnAt cX11_dawnAt 2 (some (FieldType.object "GooseBorder$Dawn")) :: gb_wA) ({ frames := 0, cells := 0, slots := 0, locals := 0 }) (gb_Pc D cT tt b1 [.ref (b + 0), .int p1] (fun h => va_P D vwCl (gb_wl b (gb_CW cT b σ)) h)) (gb_Qq (fun r h => r = gb_on b rE ∧ va_P D vwCl (gb_wl b (gb_CW cT b σE)) h) (gb_fr b 135)) 0 0 (gb_fr b 135) := by
  refine Met.ofW (cc := cX11_dawnAt) (maxL := 2) (ret := (some (FieldType.object "GooseBorder$Dawn"))) (by decide) rfl ?_
  intro p e s m args below meth c s₁ B hml hv
  obtain ⟨rfl, hSt, hP⟩ := hv
  have hx := B.exec
  have hb := B.bytes
  have hr := B.returns
  have hts := atoms_spec (ws := .code yX11_dawnAt cX11_dawnAt 2 (some (FieldType.object "GooseBorder$Dawn")) :: gb_wA) B.pre
  have hq : ∀ w ∈ gb_wA, w.before _ s = true := fun w h => hts w (List.mem_cons_of_mem _ h)
  have hown : s.vm.findClass RX11 = some m.cls := findClass_of_methodNamed B.named
  have hlocks := B.notSynchronized
  clear B hts
  have hK := hSt.1
  have hS : va_S (gb_fr b 135) s.heap s.heap [] := va_S.rf
  have hl := lv_entry ([.ref (b + 0), .int p1]) (n := 2) (Nat.le_of_ble_eq_true rfl)
  rw [lg_entry_eq]
  generalize (lg_sl ([.ref (b + 0), .int p1]) ++ List.replicate (2 - (lg_sl ([.ref (b + 0), .int p1])).length) Slot.unset).toArray = ls at hl ⊢
  replace hl : lv_has ls 2 [(0, .ref (b + 0)), (1, .int p1)] := hl
  unfold cs_Face_dawnAt at h
  refine lv_iload_n hx hb dX11_dawnAt_0 rfl (lv_at hl 1 rfl) ?_
  refine lv_if_lt (tgt := 29) hx hb dX11_dawnAt_1 (by decide) (fun c_1 => ?_) (fun c_1 => ?_)
  · rw [if_pos c_1] at h
    refine lv_null hx hb dX11_dawnAt_29 ?_
    obtain ⟨e1, e2⟩ := gb_eq2 h
    exact W.aret (v := .null) hx hb hr (Or.inl ⟨_, rfl⟩) (Or.inl rfl) (fun t ht hW => gb_rq none ht ⟨by rw [← e2]; rfl, by rw [← e1]; exact hP⟩ hS) hS.2.2 dX11_dawnAt_30
  · rw [if_neg c_1] at h
    refine lv_iload_n hx hb dX11_dawnAt_4 rfl (lv_at hl 1 rfl) ?_
    refine lv_aload_n hx hb dX11_dawnAt_5 rfl (lv_at hl 0 rfl) ?_
    refine va_get (ci := 9) (v := (.ref (b + 1))) (C := RX11) (T := TX11) (N := 10) hx hb hq i_X11 hown hK hP 0 (gb_at b rfl) rfl 0 (by decide) (hq _ w_315) (fun _ h9 => h9) rfl dX11_dawnAt_6 ?_
    refine va_get (ci := 8) (v := (.ref (b + 22))) (C := RX10) (T := TX10) (N := 9) hx hb hq i_X10 hown hK hP 1 (gb_at b rfl) rfl 4 (by decide) (hq _ w_121) (fun _ h9 => h9) rfl dX11_dawnAt_9 ?_
    refine lv_iconst (v := 3) hx hb dX11_dawnAt_12 (by decide) ?_
    refine va_iald hx hb hK hP 22 0 (gb_at b rfl) rfl (gb_in rfl) dX11_dawnAt_13 ?_
    refine lv_topi (fun x_2 ex_2 => ?_)
    replace h := gb_lt_s ex_2 h
    refine lv_icmp_ge (tgt := 29) hx hb dX11_dawnAt_14 (by decide) (fun c_3 => ?_) (fun c_3 => ?_)
    · rw [if_pos c_3] at h
      refine lv_null hx hb dX11_dawnAt_29 ?_
      obtain ⟨e1, e2⟩ := gb_eq2 h
      exact W.aret (v := .null) hx hb hr (Or.inl ⟨_, rfl⟩) (Or.inl rfl) (fun t ht hW => gb_rq none ht ⟨by rw [← e2]; rfl, by rw [← e1]; exact hP⟩ hS) hS.2.2 dX11_dawnAt_30
    · rw [if_neg c_3] at h
      refine lv_aload_n hx hb dX11_dawnAt_17 rfl (lv_at hl 0 rfl) ?_
      refine va_get (ci := 9) (v := (.ref (b + 1))) (C := RX11) (T := TX11) (N := 10) hx hb hq i_X11 hown hK hP 0 (gb_at b rfl) rfl 0 (by decide) (hq _ w_315) (fun _ h9 => h9) rfl dX11_dawnAt_18 ?_
      refine va_get (ci := 8) (v := (.ref (b + 17))) (C := RX10) (T := TX10) (N := 9) hx hb hq i_X10 hown hK hP 1 (gb_at b rfl) rfl 3 (by decide) (hq _ w_119) (fun _ h9 => h9) rfl dX11_dawnAt_21 ?_
      refine lv_iload_n hx hb dX11_dawnAt_24 rfl (lv_at hl 1 rfl) ?_
      obtain ⟨z_4, h⟩ := gb_ck_s h
      refine gb_aald (v := .ref (b + (([18, 20] : List Nat).getD (Int32.toNatClampNeg p1) 0))) hx hb hK hP 17 7 (gb_at b rfl) rfl z_4 (gb_ra_at (L := ([18, 20] : List Nat)) z_4) dX11_dawnAt_25 ?_
      obtain ⟨a_5, ea_5⟩ : ∃ q, q = (([18, 20] : List Nat).getD (Int32.toNatClampNeg p1) 0) := ⟨_, rfl⟩
      rw [← ea_5]
      replace h := gb_lt_s ea_5 h
      obtain ⟨z_6, h⟩ := gb_kk_s h
      refine lv_goto (tgt := 30) hx hb dX11_dawnAt_26 (by decide) ?_
      obtain ⟨e1, e2⟩ := gb_eq2 h
      exact W.aret (v := (.ref (b + a_5))) hx hb hr (Or.inl ⟨_, rfl⟩) (Or.inr ⟨_, rfl⟩) (fun t ht hW => gb_rq (some (b + a_5)) ht ⟨by rw [← e2]; exact (gb_on1 (gb_nzD z_6)), by rw [← e1]; exact hP⟩ hS) hS.2.2 dX11_dawnAt_30
theorem w_670 : (Cond.code ({ cls := "GooseBorder", name := "dawnAt", desc := "(I)LGooseBorder$Dawn;" } : MethodName) prog_1_method_19_code (2 : Nat) (Option.some (FieldType.object "GooseBorder$Dawn"))) ∈ gb_wA := gb_t3 190 rfl rfl
theorem w_667 : (Cond.methodLink "GooseBorder" (160 : Nat) ({ cls := "GooseBorder", name := "dawnAt", desc := "(I)LGooseBorder$Dawn;" } : MethodName)) ∈ gb_wA := gb_t3 187 rfl rfl
theorem w_669 : (Cond.instanceMethod ({ cls := "GooseBorder", name := "dawnAt", desc := "(I)LGooseBorder$Dawn;" } : MethodName)) ∈ gb_wA := gb_t3 189 rfl rfl
theorem s_1_10 : Cond.selects "GooseBorder" (⟨"GooseBorder", "dawnAt", "(I)LGooseBorder$Dawn;"⟩ : MethodName) (⟨"GooseBorder", "dawnAt", "(I)LGooseBorder$Dawn;"⟩ : MethodName) ∈ gb_wA := gb_s1 10 rfl rfl
theorem dX11_seen_5 : decode cX11_seen 5 = .ok (.astore 4, 2) := dc_58 (show ((cX11_seen.data.toList.drop 5).take 2).map UInt8.toNat = [58, 4] by decide +kernel) rfl
theorem dX11_seen_7 : decode cX11_seen 7 = .ok (.aload 4, 2) := dc_25 (show ((cX11_seen.data.toList.drop 7).take 2).map UInt8.toNat = [25, 4] by decide +kernel) rfl
theorem dX11_seen_9 : decode cX11_seen 9 = .ok (.ifnull 12, 3) := dc_198 (show ((cX11_seen.data.toList.drop 9).take 3).map UInt8.toNat = [198, 0, 12] by decide +kernel) rfl
theorem dX11_seen_21 : decode cX11_seen 21 = .ok (.bipush (-2), 2) := dc_16 (show ((cX11_seen.data.toList.drop 21).take 2).map UInt8.toNat = [16, 254] by decide +kernel) rfl
theorem dX11_seen_23 : decode cX11_seen 23 = .ok (.ireturn, 1) := dc_172 (show ((cX11_seen.data.toList.drop 23).take 1).map UInt8.toNat = [172] by decide +kernel)
theorem dX11_seen_12 : decode cX11_seen 12 = .ok (.iload_n 3, 1) := dc_29 (show ((cX11_seen.data.toList.drop 12).take 1).map UInt8.toNat = [29] by decide +kernel)
theorem dX11_seen_13 : decode cX11_seen 13 = .ok (.ifCond .lt 8, 3) := dc_155 (show ((cX11_seen.data.toList.drop 13).take 3).map UInt8.toNat = [155, 0, 8] by decide +kernel) rfl
theorem dX11_seen_16 : decode cX11_seen 16 = .ok (.iload_n 3, 1) := dc_29 (show ((cX11_seen.data.toList.drop 16).take 1).map UInt8.toNat = [29] by decide +kernel)
theorem dX11_seen_17 : decode cX11_seen 17 = .ok (.iconst 1, 1) := dc_4 (show ((cX11_seen.data.toList.drop 17).take 1).map UInt8.toNat = [4] by decide +kernel)
theorem dX11_seen_18 : decode cX11_seen 18 = .ok (.if_icmp .le 6, 3) := dc_164 (show ((cX11_seen.data.toList.drop 18).take 3).map UInt8.toNat = [164, 0, 6] by decide +kernel) rfl
theorem dX11_seen_24 : decode cX11_seen 24 = .ok (.aload 4, 2) := dc_25 (show ((cX11_seen.data.toList.drop 24).take 2).map UInt8.toNat = [25, 4] by decide +kernel) rfl
theorem dX11_seen_26 : decode cX11_seen 26 = .ok (.iload_n 2, 1) := dc_28 (show ((cX11_seen.data.toList.drop 26).take 1).map UInt8.toNat = [28] by decide +kernel)
theorem dX11_seen_27 : decode cX11_seen 27 = .ok (.iload_n 2, 1) := dc_28 (show ((cX11_seen.data.toList.drop 27).take 1).map UInt8.toNat = [28] by decide +kernel)
theorem dX11_seen_28 : decode cX11_seen 28 = .ok (.iconst (-1), 1) := dc_2 (show ((cX11_seen.data.toList.drop 28).take 1).map UInt8.toNat = [2] by decide +kernel)
theorem dX11_seen_29 : decode cX11_seen 29 = .ok (.if_icmp .ne 7, 3) := dc_160 (show ((cX11_seen.data.toList.drop 29).take 3).map UInt8.toNat = [160, 0, 7] by decide +kernel) rfl
theorem dX11_seen_36 : decode cX11_seen 36 = .ok (.iload_n 3, 1) := dc_29 (show ((cX11_seen.data.toList.drop 36).take 1).map UInt8.toNat = [29] by decide +kernel)
theorem dX11_seen_37 : decode cX11_seen 37 = .ok (.iconst 1, 1) := dc_4 (show ((cX11_seen.data.toList.drop 37).take 1).map UInt8.toNat = [4] by decide +kernel)
theorem dX11_seen_38 : decode cX11_seen 38 = .ok (.iadd, 1) := dc_96 (show ((cX11_seen.data.toList.drop 38).take 1).map UInt8.toNat = [96] by decide +kernel)
theorem dX11_seen_39 : decode cX11_seen 39 = .ok (.invokestatic 152, 3) := dc_184 (show ((cX11_seen.data.toList.drop 39).take 3).map UInt8.toNat = [184, 0, 152] by decide +kernel) rfl
theorem w_486 : (Cond.selects "GooseBorder$Dawn" ({ cls := "GooseBorder$Lines", name := "size", desc := "()I" } : MethodName) ({ cls := "GooseBorder$Lines", name := "size", desc := "()I" } : MethodName)) ∈ gb_wA := gb_t3 6 rfl rfl
theorem w_1731 : (Cond.selects "GooseBorder$Dawn" ({ cls := "GooseBorder$Lines", name := "cell", desc := "(II)I" } : MethodName) ({ cls := "GooseBorder$Lines", name := "cell", desc := "(II)I" } : MethodName)) ∈ gb_wA := gb_t8 51 rfl rfl
def cs_Face_lineOf_D (n : Nat) (σ : gb_S) (p1 : Nat) (p2 : Int32) (p3 : Int32) : gb_CR Int32 := gb_kk (gb_kD p1) ((if p2 = (-1) then (if p3 = 0 then gb_cd (cs_Lines_size_D n σ p1) (fun s_16 r_17 => some (s_16, r_17)) else some (σ, (-2))) else (if p2 < 0 then some (σ, (-2)) else gb_cd (cs_Lines_size_D n σ p1) (fun s_4 r_5 => (if r_5 ≤ p2 then some (s_4, (-2)) else (if p3 < 0 then some (s_4, (-2)) else (if p3 ≤ 2 then gb_cd (cs_Lines_cell_D n s_4 p1 p2 p3) (fun s_11 r_12 => some (s_11, r_12)) else some (s_4, (-2)))))))))
set_option maxHeartbeats 8000000 in
set_option maxRecDepth 100000 in
theorem cc_Face_lineOf_D (l : Launch) (D : va_G) (cT : Nat → ClassId) (tt : Nat → Nat) (b1 b : Nat) (hb1 : b1 ≤ b) (n : Nat) (σ : gb_S) (p1 : Nat) (p2 : Int32) (p3 : Int32) (σE : gb_S) (rE : Int32) (h : cs_Face_lineOf_D n σ p1 p2 p3 = some (σE, rE)) : Met l yX11_lineOf (.code yX11_lineOf cX11_lineOf 3 (some FieldType.int) :: gb_wA) ({ frames := 1, cells := 0, slots := 0, locals := 22 }) (gb_Pc D cT tt b1 [.ref (b + p1), .int p2, .int p3] (fun h => va_P D vwCl (gb_wl b (gb_CW cT b σ)) h)) (gb_Qi (fun r h => r = rE ∧ va_P D vwCl (gb_wl b (gb_CW cT b σE)) h) (gb_fr b 135)) 0 0 (gb_fr b 135) := by
  refine Met.ofW (cc := cX11_lineOf) (maxL := 3) (ret := (some FieldType.int)) (by decide) rfl ?_
  intro p e s m args below meth c s₁ B hml hv
  obtain ⟨rfl, hSt, hP⟩ := hv
  have hx := B.exec
  have hb := B.bytes
  have hr := B.returns
  have hts := atoms_spec (ws := .code yX11_lineOf cX11_lineOf 3 (some FieldType.int) :: gb_wA) B.pre
  have hq : ∀ w ∈ gb_wA, w.before _ s = true := fun w h => hts w (List.mem_cons_of_mem _ h)
  have hown : s.vm.findClass RX11 = some m.cls := findClass_of_methodNamed B.named
  have hlocks := B.notSynchronized
  clear B hts
  have hK := hSt.1
  have hS : va_S (gb_fr b 135) s.heap s.heap [] := va_S.rf
  have hl := lv_entry ([.ref (b + p1), .int p2, .int p3]) (n := 3) (Nat.le_of_ble_eq_true rfl)
  rw [lg_entry_eq]
  generalize (lg_sl ([.ref (b + p1), .int p2, .int p3]) ++ List.replicate (3 - (lg_sl ([.ref (b + p1), .int p2, .int p3])).length) Slot.unset).toArray = ls at hl ⊢
  replace hl : lv_has ls 3 [(0, .ref (b + p1)), (1, .int p2), (2, .int p3)] := hl
  unfold cs_Face_lineOf_D at h
  obtain ⟨z_1, h⟩ := gb_kk_s h
  refine lv_iload_n hx hb dX11_lineOf_0 rfl (lv_at hl 1 rfl) ?_
  refine lv_iconst (v := (-1)) hx hb dX11_lineOf_1 (by decide) ?_
  refine lv_icmp_ne (tgt := 19) hx hb dX11_lineOf_2 (by decide) (fun c_2 => ?_) (fun c_2 => ?_)
  · rw [if_neg c_2] at h
    refine lv_iload_n hx hb dX11_lineOf_19 rfl (lv_at hl 1 rfl) ?_
    refine lv_if_lt (tgt := 43) hx hb dX11_lineOf_20 (by decide) (fun c_3 => ?_) (fun c_3 => ?_)
    · rw [if_pos c_3] at h
      refine lv_bipush (v := (-2)) hx hb dX11_lineOf_43 (by decide) ?_
      obtain ⟨e1, e2⟩ := gb_eq2 h
      exact W.iret (v := (-2)) hx hb hr (fun t ht hW => gb_ri ht ⟨e2, by rw [← e1]; exact hP⟩ hS) hS.2.2 dX11_lineOf_45
    · rw [if_neg c_3] at h
      refine lv_iload_n hx hb dX11_lineOf_23 rfl (lv_at hl 1 rfl) ?_
      refine lv_aload_n hx hb dX11_lineOf_24 rfl (lv_at hl 0 rfl) ?_
      obtain ⟨s_4, r_5, z_6, h⟩ := gb_cd_s h
      refine gb_calli (va_runU (x := yX4_size) (C := RX1) (owner := "GooseBorder$Lines") (As := []) (rest := [.int p2]) ⟨hx, hb, hml, hown, hq⟩ (cc_Lines_size_D l D cT tt b1 b hb1 n σ p1 s_4 r_5 z_6) (va_cwU (owner := "GooseBorder$Lines") (C := RX1) 0 hq (gb_gU w_653 w_485 w_486 w_484 w_6 w_489) rfl rfl rfl rfl (by decide +kernel) ⟨Nat.le_of_ble_eq_true rfl, Nat.le_of_ble_eq_true rfl⟩) (gb_preV (r := (RX1, TX1, 4)) (ci := 1) (q0 := p1) hSt hP rfl (gb_at b (gb_cD z_1).1) hS (fun q h => Nat.le_trans hb1 h.1) hP) rfl rfl hl.1 rfl (lv_room (Nat.le_of_ble_eq_true rfl)) dX11_lineOf_25 ⟨Nat.le_of_ble_eq_true rfl, Nat.le_of_ble_eq_true rfl⟩) hS (fun _ h => h) (fun _ h => h) (fun q_7 H locs hY hk hS => ?_)
      obtain ⟨hq_7, hP⟩ := hY
      replace hq_7 := hq_7.symm
      subst hq_7
      refine lv_icmp_ge (tgt := 43) hx hb dX11_lineOf_28 (by decide) (fun c_8 => ?_) (fun c_8 => ?_)
      · rw [if_pos c_8] at h
        refine lv_bipush (v := (-2)) hx hb dX11_lineOf_43 (by decide) ?_
        obtain ⟨e1, e2⟩ := gb_eq2 h
        exact W.iret (v := (-2)) hx hb hr (fun t ht hW => gb_ri ht ⟨e2, by rw [← e1]; exact hP⟩ hS) hS.2.2 dX11_lineOf_45
      · rw [if_neg c_8] at h
        refine lv_iload_n hx hb dX11_lineOf_31 rfl (lv_at hl 2 rfl) ?_
        refine lv_if_lt (tgt := 43) hx hb dX11_lineOf_32 (by decide) (fun c_9 => ?_) (fun c_9 => ?_)
        · rw [if_pos c_9] at h
          refine lv_bipush (v := (-2)) hx hb dX11_lineOf_43 (by decide) ?_
          obtain ⟨e1, e2⟩ := gb_eq2 h
          exact W.iret (v := (-2)) hx hb hr (fun t ht hW => gb_ri ht ⟨e2, by rw [← e1]; exact hP⟩ hS) hS.2.2 dX11_lineOf_45
        · rw [if_neg c_9] at h
          refine lv_iload_n hx hb dX11_lineOf_35 rfl (lv_at hl 2 rfl) ?_
          refine lv_aload_n hx hb dX11_lineOf_36 rfl (lv_at hl 0 rfl) ?_
          refine va_get (ci := 1) (v := (.int 2)) (C := RX1) (T := TX1) (N := 4) hx hb hq i_X1 hown hK hP p1 (gb_at b (gb_cD z_1).1) rfl 1 (by decide) (hq _ w_76) (fun _ h9 => h9) rfl dX11_lineOf_37 ?_
          refine lv_icmp_le (tgt := 46) hx hb dX11_lineOf_40 (by decide) (fun c_10 => ?_) (fun c_10 => ?_)
          · rw [if_pos c_10] at h
            refine lv_aload_n hx hb dX11_lineOf_46 rfl (lv_at hl 0 rfl) ?_
            refine lv_iload_n hx hb dX11_lineOf_47 rfl (lv_at hl 1 rfl) ?_
            refine lv_iload_n hx hb dX11_lineOf_48 rfl (lv_at hl 2 rfl) ?_
            obtain ⟨s_11, r_12, z_13, h⟩ := gb_cd_s h
            refine gb_calli (va_runU (x := yX4_cell) (C := RX1) (owner := "GooseBorder$Lines") (As := [.int p2, .int p3]) (rest := []) ⟨hx, hb, hml, hown, hq⟩ (cc_Lines_cell_D l D cT tt b1 b hb1 n s_4 p1 p2 p3 s_11 r_12 z_13) (va_cwU (owner := "GooseBorder$Lines") (C := RX1) 2 hq (gb_gU w_654 w_1730 w_1731 w_546 w_6 w_547) rfl rfl rfl rfl (by decide +kernel) ⟨Nat.le_of_ble_eq_true rfl, Nat.le_of_ble_eq_true rfl⟩) (gb_preV (r := (RX1, TX1, 4)) (ci := 1) (q0 := p1) hSt hP rfl (gb_at b (gb_cD z_1).1) hS (fun q h => Nat.le_trans hb1 h.1) hP) rfl rfl hl.1 rfl (lv_room (Nat.le_of_ble_eq_true rfl)) dX11_lineOf_49 ⟨Nat.le_of_ble_eq_true rfl, Nat.le_of_ble_eq_true rfl⟩) hS (fun _ h => h) (fun _ h => h) (fun q_14 H locs hY hk hS => ?_)
            obtain ⟨hq_14, hP⟩ := hY
            replace hq_14 := hq_14.symm
            subst hq_14
            obtain ⟨e1, e2⟩ := gb_eq2 h
            exact W.iret (v := r_12) hx hb hr (fun t ht hW => gb_ri ht ⟨e2, by rw [← e1]; exact hP⟩ hS) hS.2.2 dX11_lineOf_52
          · rw [if_neg c_10] at h
            refine lv_bipush (v := (-2)) hx hb dX11_lineOf_43 (by decide) ?_
            obtain ⟨e1, e2⟩ := gb_eq2 h
            exact W.iret (v := (-2)) hx hb hr (fun t ht hW => gb_ri ht ⟨e2, by rw [← e1]; exact hP⟩ hS) hS.2.2 dX11_lineOf_45
  · rw [if_pos c_2] at h
    refine lv_iload_n hx hb dX11_lineOf_5 rfl (lv_at hl 2 rfl) ?_
    refine lv_if_ne (tgt := 16) hx hb dX11_lineOf_6 (by decide) (fun c_15 => ?_) (fun c_15 => ?_)
    · rw [if_neg c_15] at h
      refine lv_bipush (v := (-2)) hx hb dX11_lineOf_16 (by decide) ?_
      obtain ⟨e1, e2⟩ := gb_eq2 h
      exact W.iret (v := (-2)) hx hb hr (fun t ht hW => gb_ri ht ⟨e2, by rw [← e1]; exact hP⟩ hS) hS.2.2 dX11_lineOf_18
    · rw [if_pos c_15] at h
      refine lv_aload_n hx hb dX11_lineOf_9 rfl (lv_at hl 0 rfl) ?_
      obtain ⟨s_16, r_17, z_18, h⟩ := gb_cd_s h
      refine gb_calli (va_runU (x := yX4_size) (C := RX1) (owner := "GooseBorder$Lines") (As := []) (rest := []) ⟨hx, hb, hml, hown, hq⟩ (cc_Lines_size_D l D cT tt b1 b hb1 n σ p1 s_16 r_17 z_18) (va_cwU (owner := "GooseBorder$Lines") (C := RX1) 0 hq (gb_gU w_653 w_485 w_486 w_484 w_6 w_489) rfl rfl rfl rfl (by decide +kernel) ⟨Nat.le_of_ble_eq_true rfl, Nat.le_of_ble_eq_true rfl⟩) (gb_preV (r := (RX1, TX1, 4)) (ci := 1) (q0 := p1) hSt hP rfl (gb_at b (gb_cD z_1).1) hS (fun q h => Nat.le_trans hb1 h.1) hP) rfl rfl hl.1 rfl (lv_room (Nat.le_of_ble_eq_true rfl)) dX11_lineOf_10 ⟨Nat.le_of_ble_eq_true rfl, Nat.le_of_ble_eq_true rfl⟩) hS (fun _ h => h) (fun _ h => h) (fun q_19 H locs hY hk hS => ?_)
      obtain ⟨hq_19, hP⟩ := hY
      replace hq_19 := hq_19.symm
      subst hq_19
      refine lv_goto (tgt := 18) hx hb dX11_lineOf_13 (by decide) ?_
      obtain ⟨e1, e2⟩ := gb_eq2 h
      exact W.iret (v := r_17) hx hb hr (fun t ht hW => gb_ri ht ⟨e2, by rw [← e1]; exact hP⟩ hS) hS.2.2 dX11_lineOf_18
theorem dX11_seen_42 : decode cX11_seen 42 = .ok (.ireturn, 1) := dc_172 (show ((cX11_seen.data.toList.drop 42).take 1).map UInt8.toNat = [172] by decide +kernel)
theorem dX11_seen_32 : decode cX11_seen 32 = .ok (.iload_n 3, 1) := dc_29 (show ((cX11_seen.data.toList.drop 32).take 1).map UInt8.toNat = [29] by decide +kernel)
theorem dX11_seen_33 : decode cX11_seen 33 = .ok (.goto 6, 3) := dc_167 (show ((cX11_seen.data.toList.drop 33).take 3).map UInt8.toNat = [167, 0, 6] by decide +kernel) rfl
def cs_Face_seen (n : Nat) (σ : gb_S) (p1 : Int32) (p2 : Int32) (p3 : Int32) : gb_CR Int32 := gb_cd (cs_Face_dawnAt n σ p1) (fun s_1 r_2 => (if r_2 = 0 then some (s_1, (-2)) else gb_kk (gb_kD r_2) ((if p3 < 0 then some (s_1, (-2)) else (if p3 ≤ 1 then (if p2 = (-1) then gb_cd (cs_Face_lineOf_D n s_1 r_2 p2 p3) (fun s_14 r_15 => some (s_14, r_15)) else gb_cd (cs_Face_lineOf_D n s_1 r_2 p2 (p3 + 1)) (fun s_10 r_11 => some (s_10, r_11))) else some (s_1, (-2)))))))
set_option maxHeartbeats 8000000 in
set_option maxRecDepth 100000 in
theorem cc_Face_seen (l : Launch) (D : va_G) (cT : Nat → ClassId) (tt : Nat → Nat) (b1 b : Nat) (hb1 : b1 ≤ b) (n : Nat) (σ : gb_S) (p1 : Int32) (p2 : Int32) (p3 : Int32) (σE : gb_S) (rE : Int32) (h : cs_Face_seen n σ p1 p2 p3 = some (σE, rE)) : Met l yX11_seen (.code yX11_seen cX11_seen 5 (some FieldType.int) :: gb_wA) ({ frames := 2, cells := 0, slots := 0, locals := 44 }) (gb_Pc D cT tt b1 [.ref (b + 0), .int p1, .int p2, .int p3] (fun h => va_P D vwCl (gb_wl b (gb_CW cT b σ)) h)) (gb_Qi (fun r h => r = rE ∧ va_P D vwCl (gb_wl b (gb_CW cT b σE)) h) (gb_fr b 135)) 0 0 (gb_fr b 135) := by
  refine Met.ofW (cc := cX11_seen) (maxL := 5) (ret := (some FieldType.int)) (by decide) rfl ?_
  intro p e s m args below meth c s₁ B hml hv
  obtain ⟨rfl, hSt, hP⟩ := hv
  have hx := B.exec
  have hb := B.bytes
  have hr := B.returns
  have hts := atoms_spec (ws := .code yX11_seen cX11_seen 5 (some FieldType.int) :: gb_wA) B.pre
  have hq : ∀ w ∈ gb_wA, w.before _ s = true := fun w h => hts w (List.mem_cons_of_mem _ h)
  have hown : s.vm.findClass RX11 = some m.cls := findClass_of_methodNamed B.named
  have hlocks := B.notSynchronized
  clear B hts
  have hK := hSt.1
  have hS : va_S (gb_fr b 135) s.heap s.heap [] := va_S.rf
  have hl := lv_entry ([.ref (b + 0), .int p1, .int p2, .int p3]) (n := 5) (Nat.le_of_ble_eq_true rfl)
  rw [lg_entry_eq]
  generalize (lg_sl ([.ref (b + 0), .int p1, .int p2, .int p3]) ++ List.replicate (5 - (lg_sl ([.ref (b + 0), .int p1, .int p2, .int p3])).length) Slot.unset).toArray = ls at hl ⊢
  replace hl : lv_has ls 5 [(0, .ref (b + 0)), (1, .int p1), (2, .int p2), (3, .int p3)] := hl
  unfold cs_Face_seen at h
  refine lv_aload_n hx hb dX11_seen_0 rfl (lv_at hl 0 rfl) ?_
  refine lv_iload_n hx hb dX11_seen_1 rfl (lv_at hl 1 rfl) ?_
  obtain ⟨s_1, r_2, z_3, h⟩ := gb_cd_s h
  refine gb_callq (va_runV (C := RX11) (As := [.int p1]) (rest := []) ⟨hx, hb, hml, hown, hq⟩ (cc_Face_dawnAt l D cT tt b1 b hb1 n σ p1 s_1 r_2 z_3) (cwV 1 hq (gb_gV w_667 w_669 s_1_10 w_1 w_670) rfl rfl rfl (by decide +kernel) ⟨Nat.le_of_ble_eq_true rfl, Nat.le_of_ble_eq_true rfl⟩) (gb_preV (r := (RX11, TX11, 10)) (ci := 9) (q0 := 0) hSt hP rfl (gb_at b rfl) hS (fun q h => Nat.le_trans hb1 h.1) hP) rfl rfl hl.1 rfl (lv_room (Nat.le_of_ble_eq_true rfl)) dX11_seen_2 ⟨Nat.le_of_ble_eq_true rfl, Nat.le_of_ble_eq_true rfl⟩) hS (fun _ h => h) (fun _ h => h) (fun q_4 H locs hY hk hS => ?_)
  obtain ⟨hq_4, hP⟩ := hY
  subst hq_4
  rw [gb_onv]
  by_cases c_5 : r_2 = 0
  · rw [if_pos c_5] at h
    rw [gb_nv0 c_5]
    refine lv_astoreN (lv' := [(4, .null), (0, .ref (b + 0)), (1, .int p1), (2, .int p2), (3, .int p3)]) hx hb dX11_seen_5 hl (by decide) rfl (fun ls hl => ?_)
    refine lv_aloadN hx hb dX11_seen_7 (lv_at hl 0 rfl) ?_
    refine lv_ifnullN (tgt := 21) hx hb dX11_seen_9 (by decide) ?_
    refine lv_bipush (v := (-2)) hx hb dX11_seen_21 (by decide) ?_
    obtain ⟨e1, e2⟩ := gb_eq2 h
    exact W.iret (v := (-2)) hx hb hr (fun t ht hW => gb_ri ht ⟨e2, by rw [← e1]; exact hP⟩ hS) hS.2.2 dX11_seen_23
  rw [if_neg c_5] at h
  rw [gb_nv1 c_5]
  obtain ⟨z_6, h⟩ := gb_kk_s h
  refine lv_astore (lv' := [(4, .ref (b + r_2)), (0, .ref (b + 0)), (1, .int p1), (2, .int p2), (3, .int p3)]) hx hb dX11_seen_5 hl (by decide) rfl (fun ls hl => ?_)
  refine lv_aload hx hb dX11_seen_7 (lv_at hl 0 rfl) ?_
  refine lv_ifnull hx hb dX11_seen_9 ?_
  refine lv_iload_n hx hb dX11_seen_12 rfl (lv_at hl 4 rfl) ?_
  refine lv_if_lt (tgt := 21) hx hb dX11_seen_13 (by decide) (fun c_7 => ?_) (fun c_7 => ?_)
  · rw [if_pos c_7] at h
    refine lv_bipush (v := (-2)) hx hb dX11_seen_21 (by decide) ?_
    obtain ⟨e1, e2⟩ := gb_eq2 h
    exact W.iret (v := (-2)) hx hb hr (fun t ht hW => gb_ri ht ⟨e2, by rw [← e1]; exact hP⟩ hS) hS.2.2 dX11_seen_23
  · rw [if_neg c_7] at h
    refine lv_iload_n hx hb dX11_seen_16 rfl (lv_at hl 4 rfl) ?_
    refine lv_iconst (v := 1) hx hb dX11_seen_17 (by decide) ?_
    refine lv_icmp_le (tgt := 24) hx hb dX11_seen_18 (by decide) (fun c_8 => ?_) (fun c_8 => ?_)
    · rw [if_pos c_8] at h
      refine lv_aload hx hb dX11_seen_24 (lv_at hl 0 rfl) ?_
      refine lv_iload_n hx hb dX11_seen_26 rfl (lv_at hl 3 rfl) ?_
      refine lv_iload_n hx hb dX11_seen_27 rfl (lv_at hl 3 rfl) ?_
      refine lv_iconst (v := (-1)) hx hb dX11_seen_28 (by decide) ?_
      refine lv_icmp_ne (tgt := 36) hx hb dX11_seen_29 (by decide) (fun c_9 => ?_) (fun c_9 => ?_)
      · rw [if_neg c_9] at h
        refine lv_iload_n hx hb dX11_seen_36 rfl (lv_at hl 4 rfl) ?_
        refine lv_iconst (v := 1) hx hb dX11_seen_37 (by decide) ?_
        refine lv_iadd hx hb dX11_seen_38 ?_
        obtain ⟨s_10, r_11, z_12, h⟩ := gb_cd_s h
        refine gb_calli (va_runS (As := [.ref (b + r_2), .int p2, .int (p3 + 1)]) (rest := []) ⟨hx, hb, hml, hown, hq⟩ (cc_Face_lineOf_D l D cT tt b1 b hb1 n s_1 r_2 p2 (p3 + 1) s_10 r_11 z_12) (va_cwS 3 hq (gb_gS w_650 w_651 w_1 w_652) rfl rfl rfl (by decide +kernel) ⟨Nat.le_of_ble_eq_true rfl, Nat.le_of_ble_eq_true rfl⟩) (gb_preS hSt hS (fun q h => Nat.le_trans hb1 h.1) hP) rfl rfl hl.1 rfl (lv_room (Nat.le_of_ble_eq_true rfl)) dX11_seen_39 ⟨Nat.le_of_ble_eq_true rfl, Nat.le_of_ble_eq_true rfl⟩) hS (fun _ h => h) (fun _ h => h) (fun q_13 H locs hY hk hS => ?_)
        obtain ⟨hq_13, hP⟩ := hY
        replace hq_13 := hq_13.symm
        subst hq_13
        obtain ⟨e1, e2⟩ := gb_eq2 h
        exact W.iret (v := r_11) hx hb hr (fun t ht hW => gb_ri ht ⟨e2, by rw [← e1]; exact hP⟩ hS) hS.2.2 dX11_seen_42
      · rw [if_pos c_9] at h
        refine lv_iload_n hx hb dX11_seen_32 rfl (lv_at hl 4 rfl) ?_
        refine lv_goto (tgt := 39) hx hb dX11_seen_33 (by decide) ?_
        obtain ⟨s_14, r_15, z_16, h⟩ := gb_cd_s h
        refine gb_calli (va_runS (As := [.ref (b + r_2), .int p2, .int p3]) (rest := []) ⟨hx, hb, hml, hown, hq⟩ (cc_Face_lineOf_D l D cT tt b1 b hb1 n s_1 r_2 p2 p3 s_14 r_15 z_16) (va_cwS 3 hq (gb_gS w_650 w_651 w_1 w_652) rfl rfl rfl (by decide +kernel) ⟨Nat.le_of_ble_eq_true rfl, Nat.le_of_ble_eq_true rfl⟩) (gb_preS hSt hS (fun q h => Nat.le_trans hb1 h.1) hP) rfl rfl hl.1 rfl (lv_room (Nat.le_of_ble_eq_true rfl)) dX11_seen_39 ⟨Nat.le_of_ble_eq_true rfl, Nat.le_of_ble_eq_true rfl⟩) hS (fun _ h => h) (fun _ h => h) (fun q_17 H locs hY hk hS => ?_)
        obtain ⟨hq_17, hP⟩ := hY
        replace hq_17 := hq_17.symm
        subst hq_17
        obtain ⟨e1, e2⟩ := gb_eq2 h
        exact W.iret (v := r_15) hx hb hr (fun t ht hW => gb_ri ht ⟨e2, by rw [← e1]; exact hP⟩ hS) hS.2.2 dX11_seen_42
    · rw [if_neg c_8] at h
      refine lv_bipush (v := (-2)) hx hb dX11_seen_21 (by decide) ?_
      obtain ⟨e1, e2⟩ := gb_eq2 h
      exact W.iret (v := (-2)) hx hb hr (fun t ht hW => gb_ri ht ⟨e2, by rw [← e1]; exact hP⟩ hS) hS.2.2 dX11_seen_23
theorem dX11_pays_0 : decode cX11_pays 0 = .ok (.aload_n 0, 1) := dc_42 (show ((cX11_pays.data.toList.drop 0).take 1).map UInt8.toNat = [42] by decide +kernel)
theorem dX11_pays_1 : decode cX11_pays 1 = .ok (.iload_n 1, 1) := dc_27 (show ((cX11_pays.data.toList.drop 1).take 1).map UInt8.toNat = [27] by decide +kernel)
theorem dX11_pays_2 : decode cX11_pays 2 = .ok (.invokevirtual 156, 3) := dc_182 (show ((cX11_pays.data.toList.drop 2).take 3).map UInt8.toNat = [182, 0, 156] by decide +kernel) rfl
theorem dX11_pays_5 : decode cX11_pays 5 = .ok (.astore_n 3, 1) := dc_78 (show ((cX11_pays.data.toList.drop 5).take 1).map UInt8.toNat = [78] by decide +kernel)
theorem dX11_pays_6 : decode cX11_pays 6 = .ok (.aload_n 3, 1) := dc_45 (show ((cX11_pays.data.toList.drop 6).take 1).map UInt8.toNat = [45] by decide +kernel)
theorem dX11_pays_7 : decode cX11_pays 7 = .ok (.ifnull 14, 3) := dc_198 (show ((cX11_pays.data.toList.drop 7).take 3).map UInt8.toNat = [198, 0, 14] by decide +kernel) rfl
theorem dX11_pays_21 : decode cX11_pays 21 = .ok (.iconst (-1), 1) := dc_2 (show ((cX11_pays.data.toList.drop 21).take 1).map UInt8.toNat = [2] by decide +kernel)
theorem dX11_pays_22 : decode cX11_pays 22 = .ok (.ireturn, 1) := dc_172 (show ((cX11_pays.data.toList.drop 22).take 1).map UInt8.toNat = [172] by decide +kernel)
theorem dX11_pays_10 : decode cX11_pays 10 = .ok (.iload_n 2, 1) := dc_28 (show ((cX11_pays.data.toList.drop 10).take 1).map UInt8.toNat = [28] by decide +kernel)
theorem dX11_pays_11 : decode cX11_pays 11 = .ok (.ifCond .lt 10, 3) := dc_155 (show ((cX11_pays.data.toList.drop 11).take 3).map UInt8.toNat = [155, 0, 10] by decide +kernel) rfl
theorem dX11_pays_14 : decode cX11_pays 14 = .ok (.iload_n 2, 1) := dc_28 (show ((cX11_pays.data.toList.drop 14).take 1).map UInt8.toNat = [28] by decide +kernel)
theorem dX11_pays_15 : decode cX11_pays 15 = .ok (.sipush 9999, 3) := dc_17 (show ((cX11_pays.data.toList.drop 15).take 3).map UInt8.toNat = [17, 39, 15] by decide +kernel) rfl
theorem dX11_pays_18 : decode cX11_pays 18 = .ok (.if_icmp .le 5, 3) := dc_164 (show ((cX11_pays.data.toList.drop 18).take 3).map UInt8.toNat = [164, 0, 5] by decide +kernel) rfl
theorem dX11_pays_23 : decode cX11_pays 23 = .ok (.aload_n 3, 1) := dc_45 (show ((cX11_pays.data.toList.drop 23).take 1).map UInt8.toNat = [45] by decide +kernel)
theorem dX11_pays_24 : decode cX11_pays 24 = .ok (.iload_n 2, 1) := dc_28 (show ((cX11_pays.data.toList.drop 24).take 1).map UInt8.toNat = [28] by decide +kernel)
theorem dX11_pays_25 : decode cX11_pays 25 = .ok (.invokevirtual 164, 3) := dc_182 (show ((cX11_pays.data.toList.drop 25).take 3).map UInt8.toNat = [182, 0, 164] by decide +kernel) rfl
theorem dX3_payFor_0 : decode cX3_payFor 0 = .ok (.iconst 0, 1) := dc_3 (show ((cX3_payFor.data.toList.drop 0).take 1).map UInt8.toNat = [3] by decide +kernel)
theorem dX3_payFor_1 : decode cX3_payFor 1 = .ok (.istore_n 2, 1) := dc_61 (show ((cX3_payFor.data.toList.drop 1).take 1).map UInt8.toNat = [61] by decide +kernel)
theorem dX3_payFor_2 : decode cX3_payFor 2 = .ok (.iconst 0, 1) := dc_3 (show ((cX3_payFor.data.toList.drop 2).take 1).map UInt8.toNat = [3] by decide +kernel)
theorem dX3_payFor_3 : decode cX3_payFor 3 = .ok (.istore_n 3, 1) := dc_62 (show ((cX3_payFor.data.toList.drop 3).take 1).map UInt8.toNat = [62] by decide +kernel)
theorem dX3_payFor_4 : decode cX3_payFor 4 = .ok (.iload_n 3, 1) := dc_29 (show ((cX3_payFor.data.toList.drop 4).take 1).map UInt8.toNat = [29] by decide +kernel)
theorem dX3_payFor_5 : decode cX3_payFor 5 = .ok (.aload_n 0, 1) := dc_42 (show ((cX3_payFor.data.toList.drop 5).take 1).map UInt8.toNat = [42] by decide +kernel)
theorem dX3_payFor_6 : decode cX3_payFor 6 = .ok (.invokevirtual 13, 3) := dc_182 (show ((cX3_payFor.data.toList.drop 6).take 3).map UInt8.toNat = [182, 0, 13] by decide +kernel) rfl
theorem w_679 : (Cond.methodLink "GooseBorder$Law" (13 : Nat) ({ cls := "GooseBorder$Law", name := "size", desc := "()I" } : MethodName)) ∈ gb_wA := gb_t3 199 rfl rfl
theorem w_680 : (Cond.sameMethod "GooseBorder$Law" "GooseBorder$Lines" "size" "()I") ∈ gb_wA := gb_t3 200 rfl rfl
theorem w_681 : (Cond.selects "GooseBorder$Law" ({ cls := "GooseBorder$Law", name := "size", desc := "()I" } : MethodName) ({ cls := "GooseBorder$Lines", name := "size", desc := "()I" } : MethodName)) ∈ gb_wA := gb_t3 201 rfl rfl
theorem dX3_payFor_9 : decode cX3_payFor 9 = .ok (.if_icmp .ge 140, 3) := dc_162 (show ((cX3_payFor.data.toList.drop 9).take 3).map UInt8.toNat = [162, 0, 140] by decide +kernel) rfl
theorem dX3_payFor_149 : decode cX3_payFor 149 = .ok (.iload_n 2, 1) := dc_28 (show ((cX3_payFor.data.toList.drop 149).take 1).map UInt8.toNat = [28] by decide +kernel)
theorem dX3_payFor_150 : decode cX3_payFor 150 = .ok (.ireturn, 1) := dc_172 (show ((cX3_payFor.data.toList.drop 150).take 1).map UInt8.toNat = [172] by decide +kernel)
theorem dX3_payFor_12 : decode cX3_payFor 12 = .ok (.aload_n 0, 1) := dc_42 (show ((cX3_payFor.data.toList.drop 12).take 1).map UInt8.toNat = [42] by decide +kernel)
theorem dX3_payFor_13 : decode cX3_payFor 13 = .ok (.iload_n 3, 1) := dc_29 (show ((cX3_payFor.data.toList.drop 13).take 1).map UInt8.toNat = [29] by decide +kernel)
theorem dX3_payFor_14 : decode cX3_payFor 14 = .ok (.iconst 1, 1) := dc_4 (show ((cX3_payFor.data.toList.drop 14).take 1).map UInt8.toNat = [4] by decide +kernel)
theorem dX3_payFor_15 : decode cX3_payFor 15 = .ok (.invokevirtual 19, 3) := dc_182 (show ((cX3_payFor.data.toList.drop 15).take 3).map UInt8.toNat = [182, 0, 19] by decide +kernel) rfl
theorem w_682 : (Cond.methodLink "GooseBorder$Law" (19 : Nat) ({ cls := "GooseBorder$Law", name := "cell", desc := "(II)I" } : MethodName)) ∈ gb_wA := gb_t3 202 rfl rfl
theorem w_683 : (Cond.sameMethod "GooseBorder$Law" "GooseBorder$Lines" "cell" "(II)I") ∈ gb_wA := gb_t3 203 rfl rfl
theorem w_684 : (Cond.selects "GooseBorder$Law" ({ cls := "GooseBorder$Law", name := "cell", desc := "(II)I" } : MethodName) ({ cls := "GooseBorder$Lines", name := "cell", desc := "(II)I" } : MethodName)) ∈ gb_wA := gb_t3 204 rfl rfl
theorem dX3_payFor_18 : decode cX3_payFor 18 = .ok (.istore 4, 2) := dc_54 (show ((cX3_payFor.data.toList.drop 18).take 2).map UInt8.toNat = [54, 4] by decide +kernel) rfl
theorem dX3_payFor_20 : decode cX3_payFor 20 = .ok (.aload_n 0, 1) := dc_42 (show ((cX3_payFor.data.toList.drop 20).take 1).map UInt8.toNat = [42] by decide +kernel)
theorem dX3_payFor_21 : decode cX3_payFor 21 = .ok (.iload_n 3, 1) := dc_29 (show ((cX3_payFor.data.toList.drop 21).take 1).map UInt8.toNat = [29] by decide +kernel)
theorem dX3_payFor_22 : decode cX3_payFor 22 = .ok (.iconst 2, 1) := dc_5 (show ((cX3_payFor.data.toList.drop 22).take 1).map UInt8.toNat = [5] by decide +kernel)
theorem dX3_payFor_23 : decode cX3_payFor 23 = .ok (.invokevirtual 19, 3) := dc_182 (show ((cX3_payFor.data.toList.drop 23).take 3).map UInt8.toNat = [182, 0, 19] by decide +kernel) rfl
theorem dX3_payFor_26 : decode cX3_payFor 26 = .ok (.istore 5, 2) := dc_54 (show ((cX3_payFor.data.toList.drop 26).take 2).map UInt8.toNat = [54, 5] by decide +kernel) rfl
theorem dX3_payFor_28 : decode cX3_payFor 28 = .ok (.aload_n 0, 1) := dc_42 (show ((cX3_payFor.data.toList.drop 28).take 1).map UInt8.toNat = [42] by decide +kernel)
theorem dX3_payFor_29 : decode cX3_payFor 29 = .ok (.iload_n 3, 1) := dc_29 (show ((cX3_payFor.data.toList.drop 29).take 1).map UInt8.toNat = [29] by decide +kernel)
theorem dX3_payFor_30 : decode cX3_payFor 30 = .ok (.invokevirtual 23, 3) := dc_182 (show ((cX3_payFor.data.toList.drop 30).take 3).map UInt8.toNat = [182, 0, 23] by decide +kernel) rfl
theorem dX4_kind_0 : decode cX4_kind 0 = .ok (.aload_n 0, 1) := dc_42 (show ((cX4_kind.data.toList.drop 0).take 1).map UInt8.toNat = [42] by decide +kernel)
theorem dX4_kind_1 : decode cX4_kind 1 = .ok (.iload_n 1, 1) := dc_27 (show ((cX4_kind.data.toList.drop 1).take 1).map UInt8.toNat = [27] by decide +kernel)
theorem dX4_kind_2 : decode cX4_kind 2 = .ok (.iconst 0, 1) := dc_3 (show ((cX4_kind.data.toList.drop 2).take 1).map UInt8.toNat = [3] by decide +kernel)
theorem dX4_kind_3 : decode cX4_kind 3 = .ok (.invokevirtual 36, 3) := dc_182 (show ((cX4_kind.data.toList.drop 3).take 3).map UInt8.toNat = [182, 0, 36] by decide +kernel) rfl
theorem w_691 : (Cond.methodLink "GooseBorder$Lines" (36 : Nat) ({ cls := "GooseBorder$Lines", name := "cell", desc := "(II)I" } : MethodName)) ∈ gb_wA := gb_t3 211 rfl rfl
theorem dX4_kind_6 : decode cX4_kind 6 = .ok (.ireturn, 1) := dc_172 (show ((cX4_kind.data.toList.drop 6).take 1).map UInt8.toNat = [172] by decide +kernel)
def cs_Lines_kind_L (n : Nat) (σ : gb_S) (k0 : Nat) (p1 : Int32) : gb_CR Int32 := gb_kk (gb_kL k0) (gb_cd (cs_Lines_cell_L n σ k0 p1 0) (fun s_2 r_3 => some (s_2, r_3)))
set_option maxHeartbeats 8000000 in
set_option maxRecDepth 100000 in
theorem cc_Lines_kind_L (l : Launch) (D : va_G) (cT : Nat → ClassId) (tt : Nat → Nat) (b1 b : Nat) (hb1 : b1 ≤ b) (n : Nat) (σ : gb_S) (k0 : Nat) (p1 : Int32) (σE : gb_S) (rE : Int32) (h : cs_Lines_kind_L n σ k0 p1 = some (σE, rE)) : Met l yX4_kind (.code yX4_kind cX4_kind 2 (some FieldType.int) :: gb_wA) ({ frames := 1, cells := 0, slots := 0, locals := 22 }) (gb_Pc D cT tt b1 [.ref (b + k0), .int p1] (fun h => va_P D vwCl (gb_wl b (gb_CW cT b σ)) h)) (gb_Qi (fun r h => r = rE ∧ va_P D vwCl (gb_wl b (gb_CW cT b σE)) h) (gb_fr b 135)) 0 0 (gb_fr b 135) := by
  refine Met.ofW (cc := cX4_kind) (maxL := 2) (ret := (some FieldType.int)) (by decide) rfl ?_
  intro p e s m args below meth c s₁ B hml hv
  obtain ⟨rfl, hSt, hP⟩ := hv
  have hx := B.exec
  have hb := B.bytes
  have hr := B.returns
  have hts := atoms_spec (ws := .code yX4_kind cX4_kind 2 (some FieldType.int) :: gb_wA) B.pre
  have hq : ∀ w ∈ gb_wA, w.before _ s = true := fun w h => hts w (List.mem_cons_of_mem _ h)
  have hown : s.vm.findClass RX4 = some m.cls := findClass_of_methodNamed B.named
  have hlocks := B.notSynchronized
  clear B hts
  have hK := hSt.1
  have hS : va_S (gb_fr b 135) s.heap s.heap [] := va_S.rf
  have hl := lv_entry ([.ref (b + k0), .int p1]) (n := 2) (Nat.le_of_ble_eq_true rfl)
  rw [lg_entry_eq]
  generalize (lg_sl ([.ref (b + k0), .int p1]) ++ List.replicate (2 - (lg_sl ([.ref (b + k0), .int p1])).length) Slot.unset).toArray = ls at hl ⊢
  replace hl : lv_has ls 2 [(0, .ref (b + k0)), (1, .int p1)] := hl
  unfold cs_Lines_kind_L at h
  obtain ⟨z_1, h⟩ := gb_kk_s h
  refine lv_aload_n hx hb dX4_kind_0 rfl (lv_at hl 0 rfl) ?_
  refine lv_iload_n hx hb dX4_kind_1 rfl (lv_at hl 1 rfl) ?_
  refine lv_iconst (v := 0) hx hb dX4_kind_2 (by decide) ?_
  obtain ⟨s_2, r_3, z_4, h⟩ := gb_cd_s h
  refine gb_calli (va_runU (x := yX4_cell) (C := RX3) (owner := "GooseBorder$Lines") (As := [.int p1, .int 0]) (rest := []) ⟨hx, hb, hml, hown, hq⟩ (cc_Lines_cell_L l D cT tt b1 b hb1 n σ k0 p1 0 s_2 r_3 z_4) (va_cwU (owner := "GooseBorder$Lines") (C := RX3) 2 hq (gb_gU w_691 w_1730 w_1732 w_546 w_6 w_547) rfl rfl rfl rfl (by decide +kernel) ⟨Nat.le_of_ble_eq_true rfl, Nat.le_of_ble_eq_true rfl⟩) (gb_preV (r := (RX3, TX3, 4)) (ci := 3) (q0 := k0) hSt hP rfl (gb_at b (gb_cL z_1).1) hS (fun q h => Nat.le_trans hb1 h.1) hP) rfl rfl hl.1 rfl (lv_room (Nat.le_of_ble_eq_true rfl)) dX4_kind_3 ⟨Nat.le_of_ble_eq_true rfl, Nat.le_of_ble_eq_true rfl⟩) hS (fun _ h => h) (fun _ h => h) (fun q_5 H locs hY hk hS => ?_)
  obtain ⟨hq_5, hP⟩ := hY
  replace hq_5 := hq_5.symm
  subst hq_5
  obtain ⟨e1, e2⟩ := gb_eq2 h
  exact W.iret (v := r_3) hx hb hr (fun t ht hW => gb_ri ht ⟨e2, by rw [← e1]; exact hP⟩ hS) hS.2.2 dX4_kind_6
theorem w_690 : (Cond.code ({ cls := "GooseBorder$Lines", name := "kind", desc := "(I)I" } : MethodName) prog_6_method_7_code (2 : Nat) (Option.some FieldType.int)) ∈ gb_wA := gb_t3 210 rfl rfl
theorem w_685 : (Cond.methodLink "GooseBorder$Law" (23 : Nat) ({ cls := "GooseBorder$Law", name := "kind", desc := "(I)I" } : MethodName)) ∈ gb_wA := gb_t3 205 rfl rfl
theorem w_686 : (Cond.sameMethod "GooseBorder$Law" "GooseBorder$Lines" "kind" "(I)I") ∈ gb_wA := gb_t3 206 rfl rfl
theorem w_688 : (Cond.selects "GooseBorder$Law" ({ cls := "GooseBorder$Law", name := "kind", desc := "(I)I" } : MethodName) ({ cls := "GooseBorder$Lines", name := "kind", desc := "(I)I" } : MethodName)) ∈ gb_wA := gb_t3 208 rfl rfl
theorem w_689 : (Cond.instanceMethod ({ cls := "GooseBorder$Lines", name := "kind", desc := "(I)I" } : MethodName)) ∈ gb_wA := gb_t3 209 rfl rfl
theorem dX3_payFor_33 : decode cX3_payFor 33 = .ok (.tableswitch 110 0 4 #[35, 45, 63, 81, 100], 35) := by decide +kernel
theorem dX3_payFor_68 : decode cX3_payFor 68 = .ok (.iload_n 2, 1) := dc_28 (show ((cX3_payFor.data.toList.drop 68).take 1).map UInt8.toNat = [28] by decide +kernel)
theorem dX3_payFor_69 : decode cX3_payFor 69 = .ok (.iload 4, 2) := dc_21 (show ((cX3_payFor.data.toList.drop 69).take 2).map UInt8.toNat = [21, 4] by decide +kernel) rfl
theorem dX3_payFor_71 : decode cX3_payFor 71 = .ok (.iload_n 1, 1) := dc_27 (show ((cX3_payFor.data.toList.drop 71).take 1).map UInt8.toNat = [27] by decide +kernel)
theorem dX3_payFor_72 : decode cX3_payFor 72 = .ok (.imul, 1) := dc_104 (show ((cX3_payFor.data.toList.drop 72).take 1).map UInt8.toNat = [104] by decide +kernel)
theorem dX3_payFor_73 : decode cX3_payFor 73 = .ok (.iadd, 1) := dc_96 (show ((cX3_payFor.data.toList.drop 73).take 1).map UInt8.toNat = [96] by decide +kernel)
theorem dX3_payFor_74 : decode cX3_payFor 74 = .ok (.istore_n 2, 1) := dc_61 (show ((cX3_payFor.data.toList.drop 74).take 1).map UInt8.toNat = [61] by decide +kernel)
theorem dX3_payFor_75 : decode cX3_payFor 75 = .ok (.goto 68, 3) := dc_167 (show ((cX3_payFor.data.toList.drop 75).take 3).map UInt8.toNat = [167, 0, 68] by decide +kernel) rfl
theorem dX3_payFor_143 : decode cX3_payFor 143 = .ok (.iinc 3 1, 3) := dc_132 (show ((cX3_payFor.data.toList.drop 143).take 3).map UInt8.toNat = [132, 3, 1] by decide +kernel) rfl
theorem dX3_payFor_146 : decode cX3_payFor 146 = .ok (.goto (-142), 3) := dc_167 (show ((cX3_payFor.data.toList.drop 146).take 3).map UInt8.toNat = [167, 255, 114] by decide +kernel) rfl
theorem dX3_payFor_78 : decode cX3_payFor 78 = .ok (.iload_n 2, 1) := dc_28 (show ((cX3_payFor.data.toList.drop 78).take 1).map UInt8.toNat = [28] by decide +kernel)
theorem dX3_payFor_79 : decode cX3_payFor 79 = .ok (.iload_n 1, 1) := dc_27 (show ((cX3_payFor.data.toList.drop 79).take 1).map UInt8.toNat = [27] by decide +kernel)
theorem dX3_payFor_80 : decode cX3_payFor 80 = .ok (.iload 4, 2) := dc_21 (show ((cX3_payFor.data.toList.drop 80).take 2).map UInt8.toNat = [21, 4] by decide +kernel) rfl
theorem dX3_payFor_82 : decode cX3_payFor 82 = .ok (.if_icmp .le 8, 3) := dc_164 (show ((cX3_payFor.data.toList.drop 82).take 3).map UInt8.toNat = [164, 0, 8] by decide +kernel) rfl
theorem dX3_payFor_90 : decode cX3_payFor 90 = .ok (.iconst 0, 1) := dc_3 (show ((cX3_payFor.data.toList.drop 90).take 1).map UInt8.toNat = [3] by decide +kernel)
theorem dX3_payFor_91 : decode cX3_payFor 91 = .ok (.iadd, 1) := dc_96 (show ((cX3_payFor.data.toList.drop 91).take 1).map UInt8.toNat = [96] by decide +kernel)
theorem dX3_payFor_92 : decode cX3_payFor 92 = .ok (.istore_n 2, 1) := dc_61 (show ((cX3_payFor.data.toList.drop 92).take 1).map UInt8.toNat = [61] by decide +kernel)
theorem dX3_payFor_93 : decode cX3_payFor 93 = .ok (.goto 50, 3) := dc_167 (show ((cX3_payFor.data.toList.drop 93).take 3).map UInt8.toNat = [167, 0, 50] by decide +kernel) rfl
theorem dX3_payFor_85 : decode cX3_payFor 85 = .ok (.iload 5, 2) := dc_21 (show ((cX3_payFor.data.toList.drop 85).take 2).map UInt8.toNat = [21, 5] by decide +kernel) rfl
theorem dX3_payFor_87 : decode cX3_payFor 87 = .ok (.goto 4, 3) := dc_167 (show ((cX3_payFor.data.toList.drop 87).take 3).map UInt8.toNat = [167, 0, 4] by decide +kernel) rfl
theorem dX3_payFor_96 : decode cX3_payFor 96 = .ok (.iload_n 2, 1) := dc_28 (show ((cX3_payFor.data.toList.drop 96).take 1).map UInt8.toNat = [28] by decide +kernel)
theorem dX3_payFor_97 : decode cX3_payFor 97 = .ok (.iload_n 1, 1) := dc_27 (show ((cX3_payFor.data.toList.drop 97).take 1).map UInt8.toNat = [27] by decide +kernel)
theorem dX3_payFor_98 : decode cX3_payFor 98 = .ok (.iload 4, 2) := dc_21 (show ((cX3_payFor.data.toList.drop 98).take 2).map UInt8.toNat = [21, 4] by decide +kernel) rfl
theorem dX3_payFor_100 : decode cX3_payFor 100 = .ok (.if_icmp .ge 8, 3) := dc_162 (show ((cX3_payFor.data.toList.drop 100).take 3).map UInt8.toNat = [162, 0, 8] by decide +kernel) rfl
theorem dX3_payFor_108 : decode cX3_payFor 108 = .ok (.iconst 0, 1) := dc_3 (show ((cX3_payFor.data.toList.drop 108).take 1).map UInt8.toNat = [3] by decide +kernel)
theorem dX3_payFor_109 : decode cX3_payFor 109 = .ok (.iadd, 1) := dc_96 (show ((cX3_payFor.data.toList.drop 109).take 1).map UInt8.toNat = [96] by decide +kernel)
theorem dX3_payFor_110 : decode cX3_payFor 110 = .ok (.istore_n 2, 1) := dc_61 (show ((cX3_payFor.data.toList.drop 110).take 1).map UInt8.toNat = [61] by decide +kernel)
theorem dX3_payFor_111 : decode cX3_payFor 111 = .ok (.goto 32, 3) := dc_167 (show ((cX3_payFor.data.toList.drop 111).take 3).map UInt8.toNat = [167, 0, 32] by decide +kernel) rfl
theorem dX3_payFor_103 : decode cX3_payFor 103 = .ok (.iload 5, 2) := dc_21 (show ((cX3_payFor.data.toList.drop 103).take 2).map UInt8.toNat = [21, 5] by decide +kernel) rfl
theorem dX3_payFor_105 : decode cX3_payFor 105 = .ok (.goto 4, 3) := dc_167 (show ((cX3_payFor.data.toList.drop 105).take 3).map UInt8.toNat = [167, 0, 4] by decide +kernel) rfl
theorem dX3_payFor_114 : decode cX3_payFor 114 = .ok (.iload_n 2, 1) := dc_28 (show ((cX3_payFor.data.toList.drop 114).take 1).map UInt8.toNat = [28] by decide +kernel)
theorem dX3_payFor_115 : decode cX3_payFor 115 = .ok (.iload_n 1, 1) := dc_27 (show ((cX3_payFor.data.toList.drop 115).take 1).map UInt8.toNat = [27] by decide +kernel)
theorem dX3_payFor_116 : decode cX3_payFor 116 = .ok (.iconst 2, 1) := dc_5 (show ((cX3_payFor.data.toList.drop 116).take 1).map UInt8.toNat = [5] by decide +kernel)
theorem dX3_payFor_117 : decode cX3_payFor 117 = .ok (.irem, 1) := dc_112 (show ((cX3_payFor.data.toList.drop 117).take 1).map UInt8.toNat = [112] by decide +kernel)
theorem dX3_payFor_118 : decode cX3_payFor 118 = .ok (.iconst 1, 1) := dc_4 (show ((cX3_payFor.data.toList.drop 118).take 1).map UInt8.toNat = [4] by decide +kernel)
theorem dX3_payFor_119 : decode cX3_payFor 119 = .ok (.if_icmp .ne 8, 3) := dc_160 (show ((cX3_payFor.data.toList.drop 119).take 3).map UInt8.toNat = [160, 0, 8] by decide +kernel) rfl
theorem dX3_payFor_127 : decode cX3_payFor 127 = .ok (.iconst 0, 1) := dc_3 (show ((cX3_payFor.data.toList.drop 127).take 1).map UInt8.toNat = [3] by decide +kernel)
theorem dX3_payFor_128 : decode cX3_payFor 128 = .ok (.iadd, 1) := dc_96 (show ((cX3_payFor.data.toList.drop 128).take 1).map UInt8.toNat = [96] by decide +kernel)
theorem dX3_payFor_129 : decode cX3_payFor 129 = .ok (.istore_n 2, 1) := dc_61 (show ((cX3_payFor.data.toList.drop 129).take 1).map UInt8.toNat = [61] by decide +kernel)
theorem dX3_payFor_130 : decode cX3_payFor 130 = .ok (.goto 13, 3) := dc_167 (show ((cX3_payFor.data.toList.drop 130).take 3).map UInt8.toNat = [167, 0, 13] by decide +kernel) rfl
theorem dX3_payFor_122 : decode cX3_payFor 122 = .ok (.iload 4, 2) := dc_21 (show ((cX3_payFor.data.toList.drop 122).take 2).map UInt8.toNat = [21, 4] by decide +kernel) rfl
theorem dX3_payFor_124 : decode cX3_payFor 124 = .ok (.goto 4, 3) := dc_167 (show ((cX3_payFor.data.toList.drop 124).take 3).map UInt8.toNat = [167, 0, 4] by decide +kernel) rfl
theorem dX3_payFor_133 : decode cX3_payFor 133 = .ok (.iload_n 2, 1) := dc_28 (show ((cX3_payFor.data.toList.drop 133).take 1).map UInt8.toNat = [28] by decide +kernel)
theorem dX3_payFor_134 : decode cX3_payFor 134 = .ok (.iload 4, 2) := dc_21 (show ((cX3_payFor.data.toList.drop 134).take 2).map UInt8.toNat = [21, 4] by decide +kernel) rfl
theorem dX3_payFor_136 : decode cX3_payFor 136 = .ok (.invokestatic 27, 3) := dc_184 (show ((cX3_payFor.data.toList.drop 136).take 3).map UInt8.toNat = [184, 0, 27] by decide +kernel) rfl
theorem w_692 : (Cond.methodLink "GooseBorder$Law" (27 : Nat) ({ cls := "java/lang/Math", name := "min", desc := "(II)I" } : MethodName)) ∈ gb_wA := gb_t3 212 rfl rfl
theorem dX3_payFor_139 : decode cX3_payFor 139 = .ok (.istore_n 2, 1) := dc_61 (show ((cX3_payFor.data.toList.drop 139).take 1).map UInt8.toNat = [61] by decide +kernel)
theorem dX3_payFor_140 : decode cX3_payFor 140 = .ok (.goto 3, 3) := dc_167 (show ((cX3_payFor.data.toList.drop 140).take 3).map UInt8.toNat = [167, 0, 3] by decide +kernel) rfl
def cs_Law_payFor_L_4 (n : Nat) : Nat → gb_S → Nat → Int32 → Int32 → Int32 → gb_CR Int32
  | 0, _, _, _, _, _ => none
  | mm + 1, σ, v0, v1, v2, v3 => gb_kk (gb_kL v0) (gb_cd (cs_Lines_size_L n σ v0) (fun s_3 r_4 => (if r_4 ≤ v3 then some (s_3, v2) else gb_cd (cs_Lines_cell_L n s_3 v0 v3 1) (fun s_8 r_9 => gb_cd (cs_Lines_cell_L n s_8 v0 v3 2) (fun s_12 r_13 => gb_cd (cs_Lines_kind_L n s_12 v0 v3) (fun s_16 r_17 => (if r_17 = (0 : Int32) then gb_lt (v2 + (r_9 * v1)) (fun x_21 => gb_lt (v3 + 1) (fun x_22 => cs_Law_payFor_L_4 n mm s_16 v0 v1 x_21 x_22)) else (if r_17 = (1 : Int32) then (if v1 ≤ r_9 then gb_lt (v2 + 0) (fun x_25 => gb_lt (v3 + 1) (fun x_26 => cs_Law_payFor_L_4 n mm s_16 v0 v1 x_25 x_26)) else gb_lt (v2 + r_13) (fun x_27 => gb_lt (v3 + 1) (fun x_28 => cs_Law_payFor_L_4 n mm s_16 v0 v1 x_27 x_28))) else (if r_17 = (2 : Int32) then (if r_9 ≤ v1 then gb_lt (v2 + 0) (fun x_31 => gb_lt (v3 + 1) (fun x_32 => cs_Law_payFor_L_4 n mm s_16 v0 v1 x_31 x_32)) else gb_lt (v2 + r_13) (fun x_33 => gb_lt (v3 + 1) (fun x_34 => cs_Law_payFor_L_4 n mm s_16 v0 v1 x_33 x_34))) else (if r_17 = (3 : Int32) then gb_lt (v1 - v1 / 2 * 2) (fun x_36 => (if x_36 = 1 then gb_lt (v2 + r_9) (fun x_40 => gb_lt (v3 + 1) (fun x_41 => cs_Law_payFor_L_4 n mm s_16 v0 v1 x_40 x_41)) else gb_lt (v2 + 0) (fun x_38 => gb_lt (v3 + 1) (fun x_39 => cs_Law_payFor_L_4 n mm s_16 v0 v1 x_38 x_39)))) else (if r_17 = (4 : Int32) then gb_lt (if r_9 < v2 then r_9 else v2) (fun x_43 => gb_lt (v3 + 1) (fun x_44 => cs_Law_payFor_L_4 n mm s_16 v0 v1 x_43 x_44)) else gb_lt (v3 + 1) (fun x_45 => cs_Law_payFor_L_4 n mm s_16 v0 v1 v2 x_45))))))))))))
def cs_Law_payFor_L (n : Nat) (σ : gb_S) (k0 : Nat) (p1 : Int32) : gb_CR Int32 := gb_kk (gb_kL k0) (cs_Law_payFor_L_4 n n σ k0 p1 0 0)
set_option maxHeartbeats 8000000 in
set_option maxRecDepth 100000 in
theorem cc_Law_payFor_L (l : Launch) (D : va_G) (cT : Nat → ClassId) (tt : Nat → Nat) (b1 b : Nat) (hb1 : b1 ≤ b) (n : Nat) (σ : gb_S) (k0 : Nat) (p1 : Int32) (σE : gb_S) (rE : Int32) (h : cs_Law_payFor_L n σ k0 p1 = some (σE, rE)) : Met l yX3_payFor (.code yX3_payFor cX3_payFor 6 (some FieldType.int) :: gb_wA) ({ frames := 2, cells := 0, slots := 0, locals := 43 }) (gb_Pc D cT tt b1 [.ref (b + k0), .int p1] (fun h => va_P D vwCl (gb_wl b (gb_CW cT b σ)) h)) (gb_Qi (fun r h => r = rE ∧ va_P D vwCl (gb_wl b (gb_CW cT b σE)) h) (gb_fr b 135)) 0 0 (gb_fr b 135) := by
  refine Met.ofW (cc := cX3_payFor) (maxL := 6) (ret := (some FieldType.int)) (by decide) rfl ?_
  intro p e s m args below meth c s₁ B hml hv
  obtain ⟨rfl, hSt, hP⟩ := hv
  have hx := B.exec
  have hb := B.bytes
  have hr := B.returns
  have hts := atoms_spec (ws := .code yX3_payFor cX3_payFor 6 (some FieldType.int) :: gb_wA) B.pre
  have hq : ∀ w ∈ gb_wA, w.before _ s = true := fun w h => hts w (List.mem_cons_of_mem _ h)
  have hown : s.vm.findClass RX3 = some m.cls := findClass_of_methodNamed B.named
  have hlocks := B.notSynchronized
  clear B hts
  have hK := hSt.1
  have hS : va_S (gb_fr b 135) s.heap s.heap [] := va_S.rf
  have hl := lv_entry ([.ref (b + k0), .int p1]) (n := 6) (Nat.le_of_ble_eq_true rfl)
  rw [lg_entry_eq]
  generalize (lg_sl ([.ref (b + k0), .int p1]) ++ List.replicate (6 - (lg_sl ([.ref (b + k0), .int p1])).length) Slot.unset).toArray = ls at hl ⊢
  replace hl : lv_has ls 6 [(0, .ref (b + k0)), (1, .int p1)] := hl
  have L4_1 : ∀ (mm : Nat) (σ : gb_S) (v0 : Nat) (v1 : Int32) (v2 : Int32) (v3 : Int32) (H : Heap) (locs : List Loc) (ls : Array Slot), cs_Law_payFor_L_4 n mm σ v0 v1 v2 v3 = some (σE, rE) → va_P D vwCl (gb_wl b (gb_CW cT b σ)) H → va_S (gb_fr b 135) s.heap H locs → lv_has ls 6 [(0, .ref (b + v0)), (1, .int v1), (2, .int v2), (3, .int v3)] → W p l e (headSpec (.code yX3_payFor cX3_payFor 6 (some FieldType.int) :: gb_wA) ({ frames := 2, cells := 0, slots := 0, locals := 43 })).room s m ([.ref (b + k0), .int p1]).toArray below meth c H locs 0 0 (MQ below (gb_Qi (fun r h => r = rE ∧ va_P D vwCl (gb_wl b (gb_CW cT b σE)) h) (gb_fr b 135)) ([.ref (b + k0), .int p1]).toArray s 0 0 (gb_fr b 135)) (F0 m 4 ls []) := by
    clear h hP hS hl ls
    intro mm
    induction mm with
    | zero =>
      intro σ v0 v1 v2 v3 H locs ls h
      cases h
    | succ mm ih =>
      intro σ v0 v1 v2 v3 H locs ls h hP hS hl
      rw [cs_Law_payFor_L_4] at h
      obtain ⟨z_2, h⟩ := gb_kk_s h
      refine lv_iload_n hx hb dX3_payFor_4 rfl (lv_at hl 3 rfl) ?_
      refine lv_aload_n hx hb dX3_payFor_5 rfl (lv_at hl 0 rfl) ?_
      obtain ⟨s_3, r_4, z_5, h⟩ := gb_cd_s h
      refine gb_calli (va_runU (x := ⟨"GooseBorder$Law", "size", "()I"⟩) (C := RX3) (owner := "GooseBorder$Lines") (As := []) (rest := [.int v3]) ⟨hx, hb, hml, hown, hq⟩ (cc_Lines_size_L l D cT tt b1 b hb1 n σ v0 s_3 r_4 z_5) (va_cwU (owner := "GooseBorder$Lines") (C := RX3) 0 hq (gb_gU w_679 w_680 w_681 w_484 w_6 w_489) rfl rfl rfl rfl (by decide +kernel) ⟨Nat.le_of_ble_eq_true rfl, Nat.le_of_ble_eq_true rfl⟩) (gb_preV (r := (RX3, TX3, 4)) (ci := 3) (q0 := v0) hSt hP rfl (gb_at b (gb_cL z_2).1) hS (fun q h => Nat.le_trans hb1 h.1) hP) rfl rfl hl.1 rfl (lv_room (Nat.le_of_ble_eq_true rfl)) dX3_payFor_6 ⟨Nat.le_of_ble_eq_true rfl, Nat.le_of_ble_eq_true rfl⟩) hS (fun _ h => h) (fun _ h => h) (fun q_6 H locs hY hk hS => ?_)
      obtain ⟨hq_6, hP⟩ := hY
      replace hq_6 := hq_6.symm
      subst hq_6
      refine lv_icmp_ge (tgt := 149) hx hb dX3_payFor_9 (by decide) (fun c_7 => ?_) (fun c_7 => ?_)
      · rw [if_pos c_7] at h
        refine lv_iload_n hx hb dX3_payFor_149 rfl (lv_at hl 2 rfl) ?_
        obtain ⟨e1, e2⟩ := gb_eq2 h
        exact W.iret (v := v2) hx hb hr (fun t ht hW => gb_ri ht ⟨e2, by rw [← e1]; exact hP⟩ hS) hS.2.2 dX3_payFor_150
      · rw [if_neg c_7] at h
        refine lv_aload_n hx hb dX3_payFor_12 rfl (lv_at hl 0 rfl) ?_
        refine lv_iload_n hx hb dX3_payFor_13 rfl (lv_at hl 3 rfl) ?_
        refine lv_iconst (v := 1) hx hb dX3_payFor_14 (by decide) ?_
        obtain ⟨s_8, r_9, z_10, h⟩ := gb_cd_s h
        refine gb_calli (va_runU (x := ⟨"GooseBorder$Law", "cell", "(II)I"⟩) (C := RX3) (owner := "GooseBorder$Lines") (As := [.int v3, .int 1]) (rest := []) ⟨hx, hb, hml, hown, hq⟩ (cc_Lines_cell_L l D cT tt b1 b hb1 n s_3 v0 v3 1 s_8 r_9 z_10) (va_cwU (owner := "GooseBorder$Lines") (C := RX3) 2 hq (gb_gU w_682 w_683 w_684 w_546 w_6 w_547) rfl rfl rfl rfl (by decide +kernel) ⟨Nat.le_of_ble_eq_true rfl, Nat.le_of_ble_eq_true rfl⟩) (gb_preV (r := (RX3, TX3, 4)) (ci := 3) (q0 := v0) hSt hP rfl (gb_at b (gb_cL z_2).1) hS (fun q h => Nat.le_trans hb1 h.1) hP) rfl rfl hl.1 rfl (lv_room (Nat.le_of_ble_eq_true rfl)) dX3_payFor_15 ⟨Nat.le_of_ble_eq_true rfl, Nat.le_of_ble_eq_true rfl⟩) hS (fun _ h => h) (fun _ h => h) (fun q_11 H locs hY hk hS => ?_)
        obtain ⟨hq_11, hP⟩ := hY
        replace hq_11 := hq_11.symm
        subst hq_11
        refine lv_istore (lv' := [(4, .int r_9), (0, .ref (b + v0)), (1, .int v1), (2, .int v2), (3, .int v3)]) hx hb dX3_payFor_18 hl (by decide) rfl (fun ls hl => ?_)
        refine lv_aload_n hx hb dX3_payFor_20 rfl (lv_at hl 1 rfl) ?_
        refine lv_iload_n hx hb dX3_payFor_21 rfl (lv_at hl 4 rfl) ?_
        refine lv_iconst (v := 2) hx hb dX3_payFor_22 (by decide) ?_
        obtain ⟨s_12, r_13, z_14, h⟩ := gb_cd_s h
        refine gb_calli (va_runU (x := ⟨"GooseBorder$Law", "cell", "(II)I"⟩) (C := RX3) (owner := "GooseBorder$Lines") (As := [.int v3, .int 2]) (rest := []) ⟨hx, hb, hml, hown, hq⟩ (cc_Lines_cell_L l D cT tt b1 b hb1 n s_8 v0 v3 2 s_12 r_13 z_14) (va_cwU (owner := "GooseBorder$Lines") (C := RX3) 2 hq (gb_gU w_682 w_683 w_684 w_546 w_6 w_547) rfl rfl rfl rfl (by decide +kernel) ⟨Nat.le_of_ble_eq_true rfl, Nat.le_of_ble_eq_true rfl⟩) (gb_preV (r := (RX3, TX3, 4)) (ci := 3) (q0 := v0) hSt hP rfl (gb_at b (gb_cL z_2).1) hS (fun q h => Nat.le_trans hb1 h.1) hP) rfl rfl hl.1 rfl (lv_room (Nat.le_of_ble_eq_true rfl)) dX3_payFor_23 ⟨Nat.le_of_ble_eq_true rfl, Nat.le_of_ble_eq_true rfl⟩) hS (fun _ h => h) (fun _ h => h) (fun q_15 H locs hY hk hS => ?_)
        obtain ⟨hq_15, hP⟩ := hY
        replace hq_15 := hq_15.symm
        subst hq_15
        refine lv_istore (lv' := [(5, .int r_13), (4, .int r_9), (0, .ref (b + v0)), (1, .int v1), (2, .int v2), (3, .int v3)]) hx hb dX3_payFor_26 hl (by decide) rfl (fun ls hl => ?_)
        refine lv_aload_n hx hb dX3_payFor_28 rfl (lv_at hl 2 rfl) ?_
        refine lv_iload_n hx hb dX3_payFor_29 rfl (lv_at hl 5 rfl) ?_
        obtain ⟨s_16, r_17, z_18, h⟩ := gb_cd_s h
        refine gb_calli (va_runU (x := ⟨"GooseBorder$Law", "kind", "(I)I"⟩) (C := RX3) (owner := "GooseBorder$Lines") (As := [.int v3]) (rest := []) ⟨hx, hb, hml, hown, hq⟩ (cc_Lines_kind_L l D cT tt b1 b hb1 n s_12 v0 v3 s_16 r_17 z_18) (va_cwU (owner := "GooseBorder$Lines") (C := RX3) 1 hq (gb_gU w_685 w_686 w_688 w_689 w_6 w_690) rfl rfl rfl rfl (by decide +kernel) ⟨Nat.le_of_ble_eq_true rfl, Nat.le_of_ble_eq_true rfl⟩) (gb_preV (r := (RX3, TX3, 4)) (ci := 3) (q0 := v0) hSt hP rfl (gb_at b (gb_cL z_2).1) hS (fun q h => Nat.le_trans hb1 h.1) hP) rfl rfl hl.1 rfl (lv_room (Nat.le_of_ble_eq_true rfl)) dX3_payFor_30 ⟨Nat.le_of_ble_eq_true rfl, Nat.le_of_ble_eq_true rfl⟩) hS (fun _ h => h) (fun _ h => h) (fun q_19 H locs hY hk hS => ?_)
        obtain ⟨hq_19, hP⟩ := hY
        replace hq_19 := hq_19.symm
        subst hq_19
        by_cases c_20 : r_17 = (0 : Int32)
        · rw [if_pos c_20] at h
          refine lv_tableIn (off := 35) (tgt := 68) hx hb dX3_payFor_33 (by rw [c_20]; decide) (by rw [c_20]; decide) (by rw [c_20]; decide) (by decide) ?_
          refine lv_iload_n hx hb dX3_payFor_68 rfl (lv_at hl 4 rfl) ?_
          refine lv_iload hx hb dX3_payFor_69 (lv_at hl 1 rfl) ?_
          refine lv_iload_n hx hb dX3_payFor_71 rfl (lv_at hl 3 rfl) ?_
          refine lv_imul hx hb dX3_payFor_72 ?_
          refine lv_iadd hx hb dX3_payFor_73 ?_
          refine lv_topi (fun x_21 ex_21 => ?_)
          replace h := gb_lt_s ex_21 h
          refine lv_istore_n (lv' := [(2, .int x_21), (5, .int r_13), (4, .int r_9), (0, .ref (b + v0)), (1, .int v1), (3, .int v3)]) hx hb dX3_payFor_74 rfl hl (by decide) rfl (fun ls hl => ?_)
          refine lv_goto (tgt := 143) hx hb dX3_payFor_75 (by decide) ?_
          obtain ⟨x_22, ex_22⟩ : ∃ q, q = (v3 + 1) := ⟨_, rfl⟩
          replace h := gb_lt_s ex_22 h
          refine lv_iinc (v := x_22) (lv' := [(3, .int x_22), (2, .int x_21), (5, .int r_13), (4, .int r_9), (0, .ref (b + v0)), (1, .int v1)]) hx hb dX3_payFor_143 hl (k := 5) rfl (by rw [ex_22]; rfl) (by decide) rfl (fun ls hl => ?_)
          refine lv_goto (tgt := 4) hx hb dX3_payFor_146 (by decide) ?_
          exact ih _ _ _ _ _ _ _ _ h hP hS (lv_sub hl [4, 5, 1, 0] rfl)
        rw [if_neg c_20] at h
        by_cases c_23 : r_17 = (1 : Int32)
        · rw [if_pos c_23] at h
          refine lv_tableIn (off := 45) (tgt := 78) hx hb dX3_payFor_33 (by rw [c_23]; decide) (by rw [c_23]; decide) (by rw [c_23]; decide) (by decide) ?_
          refine lv_iload_n hx hb dX3_payFor_78 rfl (lv_at hl 4 rfl) ?_
          refine lv_iload_n hx hb dX3_payFor_79 rfl (lv_at hl 3 rfl) ?_
          refine lv_iload hx hb dX3_payFor_80 (lv_at hl 1 rfl) ?_
          refine lv_icmp_le (tgt := 90) hx hb dX3_payFor_82 (by decide) (fun c_24 => ?_) (fun c_24 => ?_)
          · rw [if_pos c_24] at h
            refine lv_iconst (v := 0) hx hb dX3_payFor_90 (by decide) ?_
            refine lv_iadd hx hb dX3_payFor_91 ?_
            refine lv_topi (fun x_25 ex_25 => ?_)
            replace h := gb_lt_s ex_25 h
            refine lv_istore_n (lv' := [(2, .int x_25), (5, .int r_13), (4, .int r_9), (0, .ref (b + v0)), (1, .int v1), (3, .int v3)]) hx hb dX3_payFor_92 rfl hl (by decide) rfl (fun ls hl => ?_)
            refine lv_goto (tgt := 143) hx hb dX3_payFor_93 (by decide) ?_
            obtain ⟨x_26, ex_26⟩ : ∃ q, q = (v3 + 1) := ⟨_, rfl⟩
            replace h := gb_lt_s ex_26 h
            refine lv_iinc (v := x_26) (lv' := [(3, .int x_26), (2, .int x_25), (5, .int r_13), (4, .int r_9), (0, .ref (b + v0)), (1, .int v1)]) hx hb dX3_payFor_143 hl (k := 5) rfl (by rw [ex_26]; rfl) (by decide) rfl (fun ls hl => ?_)
            refine lv_goto (tgt := 4) hx hb dX3_payFor_146 (by decide) ?_
            exact ih _ _ _ _ _ _ _ _ h hP hS (lv_sub hl [4, 5, 1, 0] rfl)
          · rw [if_neg c_24] at h
            refine lv_iload hx hb dX3_payFor_85 (lv_at hl 0 rfl) ?_
            refine lv_goto (tgt := 91) hx hb dX3_payFor_87 (by decide) ?_
            refine lv_iadd hx hb dX3_payFor_91 ?_
            refine lv_topi (fun x_27 ex_27 => ?_)
            replace h := gb_lt_s ex_27 h
            refine lv_istore_n (lv' := [(2, .int x_27), (5, .int r_13), (4, .int r_9), (0, .ref (b + v0)), (1, .int v1), (3, .int v3)]) hx hb dX3_payFor_92 rfl hl (by decide) rfl (fun ls hl => ?_)
            refine lv_goto (tgt := 143) hx hb dX3_payFor_93 (by decide) ?_
            obtain ⟨x_28, ex_28⟩ : ∃ q, q = (v3 + 1) := ⟨_, rfl⟩
            replace h := gb_lt_s ex_28 h
            refine lv_iinc (v := x_28) (lv' := [(3, .int x_28), (2, .int x_27), (5, .int r_13), (4, .int r_9), (0, .ref (b + v0)), (1, .int v1)]) hx hb dX3_payFor_143 hl (k := 5) rfl (by rw [ex_28]; rfl) (by decide) rfl (fun ls hl => ?_)
            refine lv_goto (tgt := 4) hx hb dX3_payFor_146 (by decide) ?_
            exact ih _ _ _ _ _ _ _ _ h hP hS (lv_sub hl [4, 5, 1, 0] rfl)
        rw [if_neg c_23] at h
        by_cases c_29 : r_17 = (2 : Int32)
        · rw [if_pos c_29] at h
          refine lv_tableIn (off := 63) (tgt := 96) hx hb dX3_payFor_33 (by rw [c_29]; decide) (by rw [c_29]; decide) (by rw [c_29]; decide) (by decide) ?_
          refine lv_iload_n hx hb dX3_payFor_96 rfl (lv_at hl 4 rfl) ?_
          refine lv_iload_n hx hb dX3_payFor_97 rfl (lv_at hl 3 rfl) ?_
          refine lv_iload hx hb dX3_payFor_98 (lv_at hl 1 rfl) ?_
          refine lv_icmp_ge (tgt := 108) hx hb dX3_payFor_100 (by decide) (fun c_30 => ?_) (fun c_30 => ?_)
          · rw [if_pos c_30] at h
            refine lv_iconst (v := 0) hx hb dX3_payFor_108 (by decide) ?_
            refine lv_iadd hx hb dX3_payFor_109 ?_
            refine lv_topi (fun x_31 ex_31 => ?_)
            replace h := gb_lt_s ex_31 h
            refine lv_istore_n (lv' := [(2, .int x_31), (5, .int r_13), (4, .int r_9), (0, .ref (b + v0)), (1, .int v1), (3, .int v3)]) hx hb dX3_payFor_110 rfl hl (by decide) rfl (fun ls hl => ?_)
            refine lv_goto (tgt := 143) hx hb dX3_payFor_111 (by decide) ?_
            obtain ⟨x_32, ex_32⟩ : ∃ q, q = (v3 + 1) := ⟨_, rfl⟩
            replace h := gb_lt_s ex_32 h
            refine lv_iinc (v := x_32) (lv' := [(3, .int x_32), (2, .int x_31), (5, .int r_13), (4, .int r_9), (0, .ref (b + v0)), (1, .int v1)]) hx hb dX3_payFor_143 hl (k := 5) rfl (by rw [ex_32]; rfl) (by decide) rfl (fun ls hl => ?_)
            refine lv_goto (tgt := 4) hx hb dX3_payFor_146 (by decide) ?_
            exact ih _ _ _ _ _ _ _ _ h hP hS (lv_sub hl [4, 5, 1, 0] rfl)
          · rw [if_neg c_30] at h
            refine lv_iload hx hb dX3_payFor_103 (lv_at hl 0 rfl) ?_
            refine lv_goto (tgt := 109) hx hb dX3_payFor_105 (by decide) ?_
            refine lv_iadd hx hb dX3_payFor_109 ?_
            refine lv_topi (fun x_33 ex_33 => ?_)
            replace h := gb_lt_s ex_33 h
            refine lv_istore_n (lv' := [(2, .int x_33), (5, .int r_13), (4, .int r_9), (0, .ref (b + v0)), (1, .int v1), (3, .int v3)]) hx hb dX3_payFor_110 rfl hl (by decide) rfl (fun ls hl => ?_)
            refine lv_goto (tgt := 143) hx hb dX3_payFor_111 (by decide) ?_
            obtain ⟨x_34, ex_34⟩ : ∃ q, q = (v3 + 1) := ⟨_, rfl⟩
            replace h := gb_lt_s ex_34 h
            refine lv_iinc (v := x_34) (lv' := [(3, .int x_34), (2, .int x_33), (5, .int r_13), (4, .int r_9), (0, .ref (b + v0)), (1, .int v1)]) hx hb dX3_payFor_143 hl (k := 5) rfl (by rw [ex_34]; rfl) (by decide) rfl (fun ls hl => ?_)
            refine lv_goto (tgt := 4) hx hb dX3_payFor_146 (by decide) ?_
            exact ih _ _ _ _ _ _ _ _ h hP hS (lv_sub hl [4, 5, 1, 0] rfl)
        rw [if_neg c_29] at h
        by_cases c_35 : r_17 = (3 : Int32)
        · rw [if_pos c_35] at h
          refine lv_tableIn (off := 81) (tgt := 114) hx hb dX3_payFor_33 (by rw [c_35]; decide) (by rw [c_35]; decide) (by rw [c_35]; decide) (by decide) ?_
          refine lv_iload_n hx hb dX3_payFor_114 rfl (lv_at hl 4 rfl) ?_
          refine lv_iload_n hx hb dX3_payFor_115 rfl (lv_at hl 3 rfl) ?_
          refine lv_iconst (v := 2) hx hb dX3_payFor_116 (by decide) ?_
          refine lv_irem hx hb dX3_payFor_117 (by decide) ?_
          refine lv_topi (fun x_36 ex_36 => ?_)
          replace h := gb_lt_s ex_36 h
          refine lv_iconst (v := 1) hx hb dX3_payFor_118 (by decide) ?_
          refine lv_icmp_ne (tgt := 127) hx hb dX3_payFor_119 (by decide) (fun c_37 => ?_) (fun c_37 => ?_)
          · rw [if_neg c_37] at h
            refine lv_iconst (v := 0) hx hb dX3_payFor_127 (by decide) ?_
            refine lv_iadd hx hb dX3_payFor_128 ?_
            refine lv_topi (fun x_38 ex_38 => ?_)
            replace h := gb_lt_s ex_38 h
            refine lv_istore_n (lv' := [(2, .int x_38), (5, .int r_13), (4, .int r_9), (0, .ref (b + v0)), (1, .int v1), (3, .int v3)]) hx hb dX3_payFor_129 rfl hl (by decide) rfl (fun ls hl => ?_)
            refine lv_goto (tgt := 143) hx hb dX3_payFor_130 (by decide) ?_
            obtain ⟨x_39, ex_39⟩ : ∃ q, q = (v3 + 1) := ⟨_, rfl⟩
            replace h := gb_lt_s ex_39 h
            refine lv_iinc (v := x_39) (lv' := [(3, .int x_39), (2, .int x_38), (5, .int r_13), (4, .int r_9), (0, .ref (b + v0)), (1, .int v1)]) hx hb dX3_payFor_143 hl (k := 5) rfl (by rw [ex_39]; rfl) (by decide) rfl (fun ls hl => ?_)
            refine lv_goto (tgt := 4) hx hb dX3_payFor_146 (by decide) ?_
            exact ih _ _ _ _ _ _ _ _ h hP hS (lv_sub hl [4, 5, 1, 0] rfl)
          · rw [if_pos c_37] at h
            refine lv_iload hx hb dX3_payFor_122 (lv_at hl 1 rfl) ?_
            refine lv_goto (tgt := 128) hx hb dX3_payFor_124 (by decide) ?_
            refine lv_iadd hx hb dX3_payFor_128 ?_
            refine lv_topi (fun x_40 ex_40 => ?_)
            replace h := gb_lt_s ex_40 h
            refine lv_istore_n (lv' := [(2, .int x_40), (5, .int r_13), (4, .int r_9), (0, .ref (b + v0)), (1, .int v1), (3, .int v3)]) hx hb dX3_payFor_129 rfl hl (by decide) rfl (fun ls hl => ?_)
            refine lv_goto (tgt := 143) hx hb dX3_payFor_130 (by decide) ?_
            obtain ⟨x_41, ex_41⟩ : ∃ q, q = (v3 + 1) := ⟨_, rfl⟩
            replace h := gb_lt_s ex_41 h
            refine lv_iinc (v := x_41) (lv' := [(3, .int x_41), (2, .int x_40), (5, .int r_13), (4, .int r_9), (0, .ref (b + v0)), (1, .int v1)]) hx hb dX3_payFor_143 hl (k := 5) rfl (by rw [ex_41]; rfl) (by decide) rfl (fun ls hl => ?_)
            refine lv_goto (tgt := 4) hx hb dX3_payFor_146 (by decide) ?_
            exact ih _ _ _ _ _ _ _ _ h hP hS (lv_sub hl [4, 5, 1, 0] rfl)
        rw [if_neg c_35] at h
        by_cases c_42 : r_17 = (4 : Int32)
        · rw [if_pos c_42] at h
          refine lv_tableIn (off := 100) (tgt := 133) hx hb dX3_payFor_33 (by rw [c_42]; decide) (by rw [c_42]; decide) (by rw [c_42]; decide) (by decide) ?_
          refine lv_iload_n hx hb dX3_payFor_133 rfl (lv_at hl 4 rfl) ?_
          refine lv_iload hx hb dX3_payFor_134 (lv_at hl 1 rfl) ?_
          refine va_mmin hx hb (hml.trans hl.1.symm) hown (hq _ w_692) (hq _ w_367) (hq _ w_5) (hq _ w_368) (Nat.le_of_ble_eq_true rfl) (Nat.le_of_ble_eq_true rfl) (Nat.le_of_ble_eq_true rfl) (Nat.le_of_ble_eq_true rfl) dX3_payFor_136 ?_
          refine lv_topi (fun x_43 ex_43 => ?_)
          replace h := gb_lt_s ex_43 h
          refine lv_istore_n (lv' := [(2, .int x_43), (5, .int r_13), (4, .int r_9), (0, .ref (b + v0)), (1, .int v1), (3, .int v3)]) hx hb dX3_payFor_139 rfl hl (by decide) rfl (fun ls hl => ?_)
          refine lv_goto (tgt := 143) hx hb dX3_payFor_140 (by decide) ?_
          obtain ⟨x_44, ex_44⟩ : ∃ q, q = (v3 + 1) := ⟨_, rfl⟩
          replace h := gb_lt_s ex_44 h
          refine lv_iinc (v := x_44) (lv' := [(3, .int x_44), (2, .int x_43), (5, .int r_13), (4, .int r_9), (0, .ref (b + v0)), (1, .int v1)]) hx hb dX3_payFor_143 hl (k := 5) rfl (by rw [ex_44]; rfl) (by decide) rfl (fun ls hl => ?_)
          refine lv_goto (tgt := 4) hx hb dX3_payFor_146 (by decide) ?_
          exact ih _ _ _ _ _ _ _ _ h hP hS (lv_sub hl [4, 5, 1, 0] rfl)
        rw [if_neg c_42] at h
        refine lv_tableOut (tgt := 143) hx hb dX3_payFor_33 (by have := lv_neT c_20 (a := 0) rfl; have := lv_neT c_23 (a := 1) rfl; have := lv_neT c_29 (a := 2) rfl; have := lv_neT c_35 (a := 3) rfl; have := lv_neT c_42 (a := 4) rfl; omega) (by decide) ?_
        obtain ⟨x_45, ex_45⟩ : ∃ q, q = (v3 + 1) := ⟨_, rfl⟩
        replace h := gb_lt_s ex_45 h
        refine lv_iinc (v := x_45) (lv' := [(3, .int x_45), (5, .int r_13), (4, .int r_9), (0, .ref (b + v0)), (1, .int v1), (2, .int v2)]) hx hb dX3_payFor_143 hl (k := 5) rfl (by rw [ex_45]; rfl) (by decide) rfl (fun ls hl => ?_)
        refine lv_goto (tgt := 4) hx hb dX3_payFor_146 (by decide) ?_
        exact ih _ _ _ _ _ _ _ _ h hP hS (lv_sub hl [3, 4, 5, 0] rfl)
  unfold cs_Law_payFor_L at h
  obtain ⟨z_1, h⟩ := gb_kk_s h
  refine lv_iconst (v := 0) hx hb dX3_payFor_0 (by decide) ?_
  refine lv_istore_n (lv' := [(2, .int 0), (0, .ref (b + k0)), (1, .int p1)]) hx hb dX3_payFor_1 rfl hl (by decide) rfl (fun ls hl => ?_)
  refine lv_iconst (v := 0) hx hb dX3_payFor_2 (by decide) ?_
  refine lv_istore_n (lv' := [(3, .int 0), (2, .int 0), (0, .ref (b + k0)), (1, .int p1)]) hx hb dX3_payFor_3 rfl hl (by decide) rfl (fun ls hl => ?_)
  exact L4_1 n _ _ _ _ _ _ _ _ h hP hS (lv_sub hl [2, 3, 1, 0] rfl)
theorem w_678 : (Cond.code ({ cls := "GooseBorder$Law", name := "payFor", desc := "(I)I" } : MethodName) prog_5_method_2_code (6 : Nat) (Option.some FieldType.int)) ∈ gb_wA := gb_t3 198 rfl rfl
theorem w_675 : (Cond.methodLink "GooseBorder" (164 : Nat) ({ cls := "GooseBorder$Law", name := "payFor", desc := "(I)I" } : MethodName)) ∈ gb_wA := gb_t3 195 rfl rfl
theorem w_676 : (Cond.instanceMethod ({ cls := "GooseBorder$Law", name := "payFor", desc := "(I)I" } : MethodName)) ∈ gb_wA := gb_t3 196 rfl rfl
theorem w_677 : (Cond.selects "GooseBorder$Law" ({ cls := "GooseBorder$Law", name := "payFor", desc := "(I)I" } : MethodName) ({ cls := "GooseBorder$Law", name := "payFor", desc := "(I)I" } : MethodName)) ∈ gb_wA := gb_t3 197 rfl rfl
theorem dX11_pays_28 : decode cX11_pays 28 = .ok (.ireturn, 1) := dc_172 (show ((cX11_pays.data.toList.drop 28).take 1).map UInt8.toNat = [172] by decide +kernel)
def cs_Face_pays (n : Nat) (σ : gb_S) (p1 : Int32) (p2 : Int32) : gb_CR Int32 := gb_cd (cs_Face_lawAt n σ p1) (fun s_1 r_2 => (if r_2 = 0 then some (s_1, (-1)) else gb_kk (gb_kL r_2) ((if p2 < 0 then some (s_1, (-1)) else (if p2 ≤ 9999 then gb_cd (cs_Law_payFor_L n s_1 r_2 p2) (fun s_9 r_10 => some (s_9, r_10)) else some (s_1, (-1)))))))
set_option maxHeartbeats 8000000 in
set_option maxRecDepth 100000 in
theorem cc_Face_pays (l : Launch) (D : va_G) (cT : Nat → ClassId) (tt : Nat → Nat) (b1 b : Nat) (hb1 : b1 ≤ b) (n : Nat) (σ : gb_S) (p1 : Int32) (p2 : Int32) (σE : gb_S) (rE : Int32) (h : cs_Face_pays n σ p1 p2 = some (σE, rE)) : Met l yX11_pays (.code yX11_pays cX11_pays 4 (some FieldType.int) :: gb_wA) ({ frames := 3, cells := 0, slots := 0, locals := 68 }) (gb_Pc D cT tt b1 [.ref (b + 0), .int p1, .int p2] (fun h => va_P D vwCl (gb_wl b (gb_CW cT b σ)) h)) (gb_Qi (fun r h => r = rE ∧ va_P D vwCl (gb_wl b (gb_CW cT b σE)) h) (gb_fr b 135)) 0 0 (gb_fr b 135) := by
  refine Met.ofW (cc := cX11_pays) (maxL := 4) (ret := (some FieldType.int)) (by decide) rfl ?_
  intro p e s m args below meth c s₁ B hml hv
  obtain ⟨rfl, hSt, hP⟩ := hv
  have hx := B.exec
  have hb := B.bytes
  have hr := B.returns
  have hts := atoms_spec (ws := .code yX11_pays cX11_pays 4 (some FieldType.int) :: gb_wA) B.pre
  have hq : ∀ w ∈ gb_wA, w.before _ s = true := fun w h => hts w (List.mem_cons_of_mem _ h)
  have hown : s.vm.findClass RX11 = some m.cls := findClass_of_methodNamed B.named
  have hlocks := B.notSynchronized
  clear B hts
  have hK := hSt.1
  have hS : va_S (gb_fr b 135) s.heap s.heap [] := va_S.rf
  have hl := lv_entry ([.ref (b + 0), .int p1, .int p2]) (n := 4) (Nat.le_of_ble_eq_true rfl)
  rw [lg_entry_eq]
  generalize (lg_sl ([.ref (b + 0), .int p1, .int p2]) ++ List.replicate (4 - (lg_sl ([.ref (b + 0), .int p1, .int p2])).length) Slot.unset).toArray = ls at hl ⊢
  replace hl : lv_has ls 4 [(0, .ref (b + 0)), (1, .int p1), (2, .int p2)] := hl
  unfold cs_Face_pays at h
  refine lv_aload_n hx hb dX11_pays_0 rfl (lv_at hl 0 rfl) ?_
  refine lv_iload_n hx hb dX11_pays_1 rfl (lv_at hl 1 rfl) ?_
  obtain ⟨s_1, r_2, z_3, h⟩ := gb_cd_s h
  refine gb_callq (va_runV (C := RX11) (As := [.int p1]) (rest := []) ⟨hx, hb, hml, hown, hq⟩ (cc_Face_lawAt l D cT tt b1 b hb1 n σ p1 s_1 r_2 z_3) (cwV 1 hq (gb_gV w_659 w_661 s_1_9 w_1 w_662) rfl rfl rfl (by decide +kernel) ⟨Nat.le_of_ble_eq_true rfl, Nat.le_of_ble_eq_true rfl⟩) (gb_preV (r := (RX11, TX11, 10)) (ci := 9) (q0 := 0) hSt hP rfl (gb_at b rfl) hS (fun q h => Nat.le_trans hb1 h.1) hP) rfl rfl hl.1 rfl (lv_room (Nat.le_of_ble_eq_true rfl)) dX11_pays_2 ⟨Nat.le_of_ble_eq_true rfl, Nat.le_of_ble_eq_true rfl⟩) hS (fun _ h => h) (fun _ h => h) (fun q_4 H locs hY hk hS => ?_)
  obtain ⟨hq_4, hP⟩ := hY
  subst hq_4
  rw [gb_onv]
  by_cases c_5 : r_2 = 0
  · rw [if_pos c_5] at h
    rw [gb_nv0 c_5]
    refine lv_astore_nN (lv' := [(3, .null), (0, .ref (b + 0)), (1, .int p1), (2, .int p2)]) hx hb dX11_pays_5 rfl hl (by decide) rfl (fun ls hl => ?_)
    refine lv_aload_nN hx hb dX11_pays_6 rfl (lv_at hl 0 rfl) ?_
    refine lv_ifnullN (tgt := 21) hx hb dX11_pays_7 (by decide) ?_
    refine lv_iconst (v := (-1)) hx hb dX11_pays_21 (by decide) ?_
    obtain ⟨e1, e2⟩ := gb_eq2 h
    exact W.iret (v := (-1)) hx hb hr (fun t ht hW => gb_ri ht ⟨e2, by rw [← e1]; exact hP⟩ hS) hS.2.2 dX11_pays_22
  rw [if_neg c_5] at h
  rw [gb_nv1 c_5]
  obtain ⟨z_6, h⟩ := gb_kk_s h
  refine lv_astore_n (lv' := [(3, .ref (b + r_2)), (0, .ref (b + 0)), (1, .int p1), (2, .int p2)]) hx hb dX11_pays_5 rfl hl (by decide) rfl (fun ls hl => ?_)
  refine lv_aload_n hx hb dX11_pays_6 rfl (lv_at hl 0 rfl) ?_
  refine lv_ifnull hx hb dX11_pays_7 ?_
  refine lv_iload_n hx hb dX11_pays_10 rfl (lv_at hl 3 rfl) ?_
  refine lv_if_lt (tgt := 21) hx hb dX11_pays_11 (by decide) (fun c_7 => ?_) (fun c_7 => ?_)
  · rw [if_pos c_7] at h
    refine lv_iconst (v := (-1)) hx hb dX11_pays_21 (by decide) ?_
    obtain ⟨e1, e2⟩ := gb_eq2 h
    exact W.iret (v := (-1)) hx hb hr (fun t ht hW => gb_ri ht ⟨e2, by rw [← e1]; exact hP⟩ hS) hS.2.2 dX11_pays_22
  · rw [if_neg c_7] at h
    refine lv_iload_n hx hb dX11_pays_14 rfl (lv_at hl 3 rfl) ?_
    refine lv_sipush (v := 9999) hx hb dX11_pays_15 (by decide) ?_
    refine lv_icmp_le (tgt := 23) hx hb dX11_pays_18 (by decide) (fun c_8 => ?_) (fun c_8 => ?_)
    · rw [if_pos c_8] at h
      refine lv_aload_n hx hb dX11_pays_23 rfl (lv_at hl 0 rfl) ?_
      refine lv_iload_n hx hb dX11_pays_24 rfl (lv_at hl 3 rfl) ?_
      obtain ⟨s_9, r_10, z_11, h⟩ := gb_cd_s h
      refine gb_calli (va_runV (C := RX3) (As := [.int p2]) (rest := []) ⟨hx, hb, hml, hown, hq⟩ (cc_Law_payFor_L l D cT tt b1 b hb1 n s_1 r_2 p2 s_9 r_10 z_11) (cwV 1 hq (gb_gV w_675 w_676 w_677 w_8 w_678) rfl rfl rfl (by decide +kernel) ⟨Nat.le_of_ble_eq_true rfl, Nat.le_of_ble_eq_true rfl⟩) (gb_preV (r := (RX3, TX3, 4)) (ci := 3) (q0 := r_2) hSt hP rfl (gb_at b (gb_cL z_6).1) hS (fun q h => Nat.le_trans hb1 h.1) hP) rfl rfl hl.1 rfl (lv_room (Nat.le_of_ble_eq_true rfl)) dX11_pays_25 ⟨Nat.le_of_ble_eq_true rfl, Nat.le_of_ble_eq_true rfl⟩) hS (fun _ h => h) (fun _ h => h) (fun q_12 H locs hY hk hS => ?_)
      obtain ⟨hq_12, hP⟩ := hY
      replace hq_12 := hq_12.symm
      subst hq_12
      obtain ⟨e1, e2⟩ := gb_eq2 h
      exact W.iret (v := r_10) hx hb hr (fun t ht hW => gb_ri ht ⟨e2, by rw [← e1]; exact hP⟩ hS) hS.2.2 dX11_pays_28
    · rw [if_neg c_8] at h
      refine lv_iconst (v := (-1)) hx hb dX11_pays_21 (by decide) ?_
      obtain ⟨e1, e2⟩ := gb_eq2 h
      exact W.iret (v := (-1)) hx hb hr (fun t ht hW => gb_ri ht ⟨e2, by rw [← e1]; exact hP⟩ hS) hS.2.2 dX11_pays_22
theorem dX11_stop_0 : decode cX11_stop 0 = .ok (.aload_n 0, 1) := dc_42 (show ((cX11_stop.data.toList.drop 0).take 1).map UInt8.toNat = [42] by decide +kernel)
theorem dX11_stop_1 : decode cX11_stop 1 = .ok (.aload_n 0, 1) := dc_42 (show ((cX11_stop.data.toList.drop 1).take 1).map UInt8.toNat = [42] by decide +kernel)
theorem dX11_stop_2 : decode cX11_stop 2 = .ok (.iload_n 1, 1) := dc_27 (show ((cX11_stop.data.toList.drop 2).take 1).map UInt8.toNat = [27] by decide +kernel)
theorem dX11_stop_3 : decode cX11_stop 3 = .ok (.invokevirtual 113, 3) := dc_182 (show ((cX11_stop.data.toList.drop 3).take 3).map UInt8.toNat = [182, 0, 113] by decide +kernel) rfl
theorem dX11_stop_6 : decode cX11_stop 6 = .ok (.aload_n 0, 1) := dc_42 (show ((cX11_stop.data.toList.drop 6).take 1).map UInt8.toNat = [42] by decide +kernel)
theorem dX11_stop_7 : decode cX11_stop 7 = .ok (.iload_n 2, 1) := dc_28 (show ((cX11_stop.data.toList.drop 7).take 1).map UInt8.toNat = [28] by decide +kernel)
theorem dX11_stop_8 : decode cX11_stop 8 = .ok (.invokevirtual 148, 3) := dc_182 (show ((cX11_stop.data.toList.drop 8).take 3).map UInt8.toNat = [182, 0, 148] by decide +kernel) rfl
theorem dX11_stop_11 : decode cX11_stop 11 = .ok (.invokevirtual 195, 3) := dc_182 (show ((cX11_stop.data.toList.drop 11).take 3).map UInt8.toNat = [182, 0, 195] by decide +kernel) rfl
theorem dX11_playedOut_0 : decode cX11_playedOut 0 = .ok (.aload_n 1, 1) := dc_43 (show ((cX11_playedOut.data.toList.drop 0).take 1).map UInt8.toNat = [43] by decide +kernel)
theorem dX11_playedOut_1 : decode cX11_playedOut 1 = .ok (.ifnull 7, 3) := dc_198 (show ((cX11_playedOut.data.toList.drop 1).take 3).map UInt8.toNat = [198, 0, 7] by decide +kernel) rfl
theorem dX11_playedOut_8 : decode cX11_playedOut 8 = .ok (.iconst 0, 1) := dc_3 (show ((cX11_playedOut.data.toList.drop 8).take 1).map UInt8.toNat = [3] by decide +kernel)
theorem dX11_playedOut_9 : decode cX11_playedOut 9 = .ok (.ireturn, 1) := dc_172 (show ((cX11_playedOut.data.toList.drop 9).take 1).map UInt8.toNat = [172] by decide +kernel)
def cs_Face_playedOut_n_n (n : Nat) (σ : gb_S) : gb_CR Int32 := some (σ, 0)
set_option maxHeartbeats 8000000 in
set_option maxRecDepth 100000 in
theorem cc_Face_playedOut_n_n (l : Launch) (D : va_G) (cT : Nat → ClassId) (tt : Nat → Nat) (b1 b : Nat) (hb1 : b1 ≤ b) (n : Nat) (σ : gb_S) (σE : gb_S) (rE : Int32) (h : cs_Face_playedOut_n_n n σ = some (σE, rE)) : Met l yX11_playedOut (.code yX11_playedOut cX11_playedOut 3 (some FieldType.boolean) :: gb_wA) ({ frames := 0, cells := 0, slots := 0, locals := 0 }) (gb_Pc D cT tt b1 [.ref (b + 0), .null, .null] (fun h => va_P D vwCl (gb_wl b (gb_CW cT b σ)) h)) (gb_Qi (fun r h => r = rE ∧ va_P D vwCl (gb_wl b (gb_CW cT b σE)) h) (gb_fr b 135)) 0 0 (gb_fr b 135) := by
  refine Met.ofW (cc := cX11_playedOut) (maxL := 3) (ret := (some FieldType.boolean)) (by decide) rfl ?_
  intro p e s m args below meth c s₁ B hml hv
  obtain ⟨rfl, hSt, hP⟩ := hv
  have hx := B.exec
  have hb := B.bytes
  have hr := B.returns
  have hts := atoms_spec (ws := .code yX11_playedOut cX11_playedOut 3 (some FieldType.boolean) :: gb_wA) B.pre
  have hq : ∀ w ∈ gb_wA, w.before _ s = true := fun w h => hts w (List.mem_cons_of_mem _ h)
  have hown : s.vm.findClass RX11 = some m.cls := findClass_of_methodNamed B.named
  have hlocks := B.notSynchronized
  clear B hts
  have hK := hSt.1
  have hS : va_S (gb_fr b 135) s.heap s.heap [] := va_S.rf
  have hl := lv_entry ([.ref (b + 0), .null, .null]) (n := 3) (Nat.le_of_ble_eq_true rfl)
  rw [lg_entry_eq]
  generalize (lg_sl ([.ref (b + 0), .null, .null]) ++ List.replicate (3 - (lg_sl ([.ref (b + 0), .null, .null])).length) Slot.unset).toArray = ls at hl ⊢
  replace hl : lv_has ls 3 [(0, .ref (b + 0)), (1, .null), (2, .null)] := hl
  unfold cs_Face_playedOut_n_n at h
  refine lv_aload_nN hx hb dX11_playedOut_0 rfl (lv_at hl 1 rfl) ?_
  refine lv_ifnullN (tgt := 8) hx hb dX11_playedOut_1 (by decide) ?_
  refine lv_iconst (v := 0) hx hb dX11_playedOut_8 (by decide) ?_
  obtain ⟨e1, e2⟩ := gb_eq2 h
  exact W.zret (v := 0) hx hb hr (by decide) (fun t ht hW => gb_ri ht ⟨e2, by rw [← e1]; exact hP⟩ hS) hS.2.2 dX11_playedOut_9
theorem w_700 : (Cond.code ({ cls := "GooseBorder", name := "playedOut", desc := "(LGooseBorder$Border;LGooseBorder$Night;)Z" } : MethodName) prog_1_method_24_code (3 : Nat) (Option.some FieldType.boolean)) ∈ gb_wA := gb_t3 220 rfl rfl
theorem w_697 : (Cond.methodLink "GooseBorder" (195 : Nat) ({ cls := "GooseBorder", name := "playedOut", desc := "(LGooseBorder$Border;LGooseBorder$Night;)Z" } : MethodName)) ∈ gb_wA := gb_t3 217 rfl rfl
theorem w_699 : (Cond.instanceMethod ({ cls := "GooseBorder", name := "playedOut", desc := "(LGooseBorder$Border;LGooseBorder$Night;)Z" } : MethodName)) ∈ gb_wA := gb_t3 219 rfl rfl
theorem s_1_11 : Cond.selects "GooseBorder" (⟨"GooseBorder", "playedOut", "(LGooseBorder$Border;LGooseBorder$Night;)Z"⟩ : MethodName) (⟨"GooseBorder", "playedOut", "(LGooseBorder$Border;LGooseBorder$Night;)Z"⟩ : MethodName) ∈ gb_wA := gb_s1 11 rfl rfl
theorem dX11_stop_14 : decode cX11_stop 14 = .ok (.ifCond .eq 13, 3) := dc_153 (show ((cX11_stop.data.toList.drop 14).take 3).map UInt8.toNat = [153, 0, 13] by decide +kernel) rfl
theorem dX11_stop_27 : decode cX11_stop 27 = .ok (.iconst (-1), 1) := dc_2 (show ((cX11_stop.data.toList.drop 27).take 1).map UInt8.toNat = [2] by decide +kernel)
theorem dX11_stop_28 : decode cX11_stop 28 = .ok (.ireturn, 1) := dc_172 (show ((cX11_stop.data.toList.drop 28).take 1).map UInt8.toNat = [172] by decide +kernel)
theorem dX11_stop_17 : decode cX11_stop 17 = .ok (.aload_n 0, 1) := dc_42 (show ((cX11_stop.data.toList.drop 17).take 1).map UInt8.toNat = [42] by decide +kernel)
theorem dX11_stop_18 : decode cX11_stop 18 = .ok (.getfield 56, 3) := dc_180 (show ((cX11_stop.data.toList.drop 18).take 3).map UInt8.toNat = [180, 0, 56] by decide +kernel) rfl
theorem dX11_stop_21 : decode cX11_stop 21 = .ok (.getfield 199, 3) := dc_180 (show ((cX11_stop.data.toList.drop 21).take 3).map UInt8.toNat = [180, 0, 199] by decide +kernel) rfl
theorem w_217 : (Cond.fieldLink "GooseBorder" (199 : Nat) "GooseBorder$Play" "done" "I") ∈ gb_wA := gb_t1 217 rfl rfl
theorem dX11_stop_24 : decode cX11_stop 24 = .ok (.goto 4, 3) := dc_167 (show ((cX11_stop.data.toList.drop 24).take 3).map UInt8.toNat = [167, 0, 4] by decide +kernel) rfl
def cs_Face_playedOut_n_N (n : Nat) (σ : gb_S) (p2 : Nat) : gb_CR Int32 := gb_kk (gb_kN p2) (some (σ, 0))
set_option maxHeartbeats 8000000 in
set_option maxRecDepth 100000 in
theorem cc_Face_playedOut_n_N (l : Launch) (D : va_G) (cT : Nat → ClassId) (tt : Nat → Nat) (b1 b : Nat) (hb1 : b1 ≤ b) (n : Nat) (σ : gb_S) (p2 : Nat) (σE : gb_S) (rE : Int32) (h : cs_Face_playedOut_n_N n σ p2 = some (σE, rE)) : Met l yX11_playedOut (.code yX11_playedOut cX11_playedOut 3 (some FieldType.boolean) :: gb_wA) ({ frames := 0, cells := 0, slots := 0, locals := 0 }) (gb_Pc D cT tt b1 [.ref (b + 0), .null, .ref (b + p2)] (fun h => va_P D vwCl (gb_wl b (gb_CW cT b σ)) h)) (gb_Qi (fun r h => r = rE ∧ va_P D vwCl (gb_wl b (gb_CW cT b σE)) h) (gb_fr b 135)) 0 0 (gb_fr b 135) := by
  refine Met.ofW (cc := cX11_playedOut) (maxL := 3) (ret := (some FieldType.boolean)) (by decide) rfl ?_
  intro p e s m args below meth c s₁ B hml hv
  obtain ⟨rfl, hSt, hP⟩ := hv
  have hx := B.exec
  have hb := B.bytes
  have hr := B.returns
  have hts := atoms_spec (ws := .code yX11_playedOut cX11_playedOut 3 (some FieldType.boolean) :: gb_wA) B.pre
  have hq : ∀ w ∈ gb_wA, w.before _ s = true := fun w h => hts w (List.mem_cons_of_mem _ h)
  have hown : s.vm.findClass RX11 = some m.cls := findClass_of_methodNamed B.named
  have hlocks := B.notSynchronized
  clear B hts
  have hK := hSt.1
  have hS : va_S (gb_fr b 135) s.heap s.heap [] := va_S.rf
  have hl := lv_entry ([.ref (b + 0), .null, .ref (b + p2)]) (n := 3) (Nat.le_of_ble_eq_true rfl)
  rw [lg_entry_eq]
  generalize (lg_sl ([.ref (b + 0), .null, .ref (b + p2)]) ++ List.replicate (3 - (lg_sl ([.ref (b + 0), .null, .ref (b + p2)])).length) Slot.unset).toArray = ls at hl ⊢
  replace hl : lv_has ls 3 [(0, .ref (b + 0)), (1, .null), (2, .ref (b + p2))] := hl
  unfold cs_Face_playedOut_n_N at h
  obtain ⟨z_1, h⟩ := gb_kk_s h
  refine lv_aload_nN hx hb dX11_playedOut_0 rfl (lv_at hl 1 rfl) ?_
  refine lv_ifnullN (tgt := 8) hx hb dX11_playedOut_1 (by decide) ?_
  refine lv_iconst (v := 0) hx hb dX11_playedOut_8 (by decide) ?_
  obtain ⟨e1, e2⟩ := gb_eq2 h
  exact W.zret (v := 0) hx hb hr (by decide) (fun t ht hW => gb_ri ht ⟨e2, by rw [← e1]; exact hP⟩ hS) hS.2.2 dX11_playedOut_9
theorem dX11_playedOut_4 : decode cX11_playedOut 4 = .ok (.aload_n 2, 1) := dc_44 (show ((cX11_playedOut.data.toList.drop 4).take 1).map UInt8.toNat = [44] by decide +kernel)
theorem dX11_playedOut_5 : decode cX11_playedOut 5 = .ok (.ifnonnull 5, 3) := dc_199 (show ((cX11_playedOut.data.toList.drop 5).take 3).map UInt8.toNat = [199, 0, 5] by decide +kernel) rfl
def cs_Face_playedOut_B_n (n : Nat) (σ : gb_S) (p1 : Nat) : gb_CR Int32 := gb_kk (gb_kB p1) (some (σ, 0))
set_option maxHeartbeats 8000000 in
set_option maxRecDepth 100000 in
theorem cc_Face_playedOut_B_n (l : Launch) (D : va_G) (cT : Nat → ClassId) (tt : Nat → Nat) (b1 b : Nat) (hb1 : b1 ≤ b) (n : Nat) (σ : gb_S) (p1 : Nat) (σE : gb_S) (rE : Int32) (h : cs_Face_playedOut_B_n n σ p1 = some (σE, rE)) : Met l yX11_playedOut (.code yX11_playedOut cX11_playedOut 3 (some FieldType.boolean) :: gb_wA) ({ frames := 0, cells := 0, slots := 0, locals := 0 }) (gb_Pc D cT tt b1 [.ref (b + 0), .ref (b + p1), .null] (fun h => va_P D vwCl (gb_wl b (gb_CW cT b σ)) h)) (gb_Qi (fun r h => r = rE ∧ va_P D vwCl (gb_wl b (gb_CW cT b σE)) h) (gb_fr b 135)) 0 0 (gb_fr b 135) := by
  refine Met.ofW (cc := cX11_playedOut) (maxL := 3) (ret := (some FieldType.boolean)) (by decide) rfl ?_
  intro p e s m args below meth c s₁ B hml hv
  obtain ⟨rfl, hSt, hP⟩ := hv
  have hx := B.exec
  have hb := B.bytes
  have hr := B.returns
  have hts := atoms_spec (ws := .code yX11_playedOut cX11_playedOut 3 (some FieldType.boolean) :: gb_wA) B.pre
  have hq : ∀ w ∈ gb_wA, w.before _ s = true := fun w h => hts w (List.mem_cons_of_mem _ h)
  have hown : s.vm.findClass RX11 = some m.cls := findClass_of_methodNamed B.named
  have hlocks := B.notSynchronized
  clear B hts
  have hK := hSt.1
  have hS : va_S (gb_fr b 135) s.heap s.heap [] := va_S.rf
  have hl := lv_entry ([.ref (b + 0), .ref (b + p1), .null]) (n := 3) (Nat.le_of_ble_eq_true rfl)
  rw [lg_entry_eq]
  generalize (lg_sl ([.ref (b + 0), .ref (b + p1), .null]) ++ List.replicate (3 - (lg_sl ([.ref (b + 0), .ref (b + p1), .null])).length) Slot.unset).toArray = ls at hl ⊢
  replace hl : lv_has ls 3 [(0, .ref (b + 0)), (1, .ref (b + p1)), (2, .null)] := hl
  unfold cs_Face_playedOut_B_n at h
  obtain ⟨z_1, h⟩ := gb_kk_s h
  refine lv_aload_n hx hb dX11_playedOut_0 rfl (lv_at hl 1 rfl) ?_
  refine lv_ifnull hx hb dX11_playedOut_1 ?_
  refine lv_aload_nN hx hb dX11_playedOut_4 rfl (lv_at hl 2 rfl) ?_
  refine lv_ifnonnullN hx hb dX11_playedOut_5 ?_
  refine lv_iconst (v := 0) hx hb dX11_playedOut_8 (by decide) ?_
  obtain ⟨e1, e2⟩ := gb_eq2 h
  exact W.zret (v := 0) hx hb hr (by decide) (fun t ht hW => gb_ri ht ⟨e2, by rw [← e1]; exact hP⟩ hS) hS.2.2 dX11_playedOut_9
theorem dX11_playedOut_10 : decode cX11_playedOut 10 = .ok (.aload_n 0, 1) := dc_42 (show ((cX11_playedOut.data.toList.drop 10).take 1).map UInt8.toNat = [42] by decide +kernel)
theorem dX11_playedOut_11 : decode cX11_playedOut 11 = .ok (.getfield 56, 3) := dc_180 (show ((cX11_playedOut.data.toList.drop 11).take 3).map UInt8.toNat = [180, 0, 56] by decide +kernel) rfl
theorem dX11_playedOut_14 : decode cX11_playedOut 14 = .ok (.aload_n 1, 1) := dc_43 (show ((cX11_playedOut.data.toList.drop 14).take 1).map UInt8.toNat = [43] by decide +kernel)
theorem dX11_playedOut_15 : decode cX11_playedOut 15 = .ok (.aload_n 2, 1) := dc_44 (show ((cX11_playedOut.data.toList.drop 15).take 1).map UInt8.toNat = [44] by decide +kernel)
theorem dX11_playedOut_16 : decode cX11_playedOut 16 = .ok (.aload_n 2, 1) := dc_44 (show ((cX11_playedOut.data.toList.drop 16).take 1).map UInt8.toNat = [44] by decide +kernel)
theorem dX11_playedOut_17 : decode cX11_playedOut 17 = .ok (.invokevirtual 251, 3) := dc_182 (show ((cX11_playedOut.data.toList.drop 17).take 3).map UInt8.toNat = [182, 0, 251] by decide +kernel) rfl
theorem w_701 : (Cond.methodLink "GooseBorder" (251 : Nat) ({ cls := "GooseBorder$Night", name := "size", desc := "()I" } : MethodName)) ∈ gb_wA := gb_t3 221 rfl rfl
theorem w_702 : (Cond.sameMethod "GooseBorder$Night" "GooseBorder$Lines" "size" "()I") ∈ gb_wA := gb_t3 222 rfl rfl
theorem w_703 : (Cond.selects "GooseBorder$Night" ({ cls := "GooseBorder$Night", name := "size", desc := "()I" } : MethodName) ({ cls := "GooseBorder$Lines", name := "size", desc := "()I" } : MethodName)) ∈ gb_wA := gb_t3 223 rfl rfl
theorem dX11_playedOut_20 : decode cX11_playedOut 20 = .ok (.iconst (-1), 1) := dc_2 (show ((cX11_playedOut.data.toList.drop 20).take 1).map UInt8.toNat = [2] by decide +kernel)
theorem dX11_playedOut_21 : decode cX11_playedOut 21 = .ok (.invokevirtual 252, 3) := dc_182 (show ((cX11_playedOut.data.toList.drop 21).take 3).map UInt8.toNat = [182, 0, 252] by decide +kernel) rfl
theorem dX6_run_0 : decode cX6_run 0 = .ok (.aload_n 0, 1) := dc_42 (show ((cX6_run.data.toList.drop 0).take 1).map UInt8.toNat = [42] by decide +kernel)
theorem dX6_run_1 : decode cX6_run 1 = .ok (.aload_n 1, 1) := dc_43 (show ((cX6_run.data.toList.drop 1).take 1).map UInt8.toNat = [43] by decide +kernel)
theorem dX6_run_2 : decode cX6_run 2 = .ok (.invokevirtual 67, 3) := dc_182 (show ((cX6_run.data.toList.drop 2).take 3).map UInt8.toNat = [182, 0, 67] by decide +kernel) rfl
theorem dX6_begin_0 : decode cX6_begin 0 = .ok (.aload_n 0, 1) := dc_42 (show ((cX6_begin.data.toList.drop 0).take 1).map UInt8.toNat = [42] by decide +kernel)
theorem dX6_begin_1 : decode cX6_begin 1 = .ok (.aload_n 1, 1) := dc_43 (show ((cX6_begin.data.toList.drop 1).take 1).map UInt8.toNat = [43] by decide +kernel)
theorem dX6_begin_2 : decode cX6_begin 2 = .ok (.putfield 12, 3) := dc_181 (show ((cX6_begin.data.toList.drop 2).take 3).map UInt8.toNat = [181, 0, 12] by decide +kernel) rfl
theorem dX6_begin_5 : decode cX6_begin 5 = .ok (.iconst 0, 1) := dc_3 (show ((cX6_begin.data.toList.drop 5).take 1).map UInt8.toNat = [3] by decide +kernel)
theorem dX6_begin_6 : decode cX6_begin 6 = .ok (.istore_n 2, 1) := dc_61 (show ((cX6_begin.data.toList.drop 6).take 1).map UInt8.toNat = [61] by decide +kernel)
theorem dX6_begin_7 : decode cX6_begin 7 = .ok (.iload_n 2, 1) := dc_28 (show ((cX6_begin.data.toList.drop 7).take 1).map UInt8.toNat = [28] by decide +kernel)
theorem dX6_begin_8 : decode cX6_begin 8 = .ok (.bipush 8, 2) := dc_16 (show ((cX6_begin.data.toList.drop 8).take 2).map UInt8.toNat = [16, 8] by decide +kernel) rfl
theorem dX6_begin_10 : decode cX6_begin 10 = .ok (.if_icmp .ge 53, 3) := dc_162 (show ((cX6_begin.data.toList.drop 10).take 3).map UInt8.toNat = [162, 0, 53] by decide +kernel) rfl
theorem dX6_begin_63 : decode cX6_begin 63 = .ok (.aload_n 0, 1) := dc_42 (show ((cX6_begin.data.toList.drop 63).take 1).map UInt8.toNat = [42] by decide +kernel)
theorem dX6_begin_64 : decode cX6_begin 64 = .ok (.getfield 31, 3) := dc_180 (show ((cX6_begin.data.toList.drop 64).take 3).map UInt8.toNat = [180, 0, 31] by decide +kernel) rfl
theorem dX6_begin_67 : decode cX6_begin 67 = .ok (.iconst 0, 1) := dc_3 (show ((cX6_begin.data.toList.drop 67).take 1).map UInt8.toNat = [3] by decide +kernel)
theorem dX6_begin_68 : decode cX6_begin 68 = .ok (.invokestatic 50, 3) := dc_184 (show ((cX6_begin.data.toList.drop 68).take 3).map UInt8.toNat = [184, 0, 50] by decide +kernel) rfl
theorem dJ7_fill_53178_0 : decode cJ7_fill_53178 0 = .ok (.iconst 0, 1) := dc_3 (show ((cJ7_fill_53178.data.toList.drop 0).take 1).map UInt8.toNat = [3] by decide +kernel)
theorem dJ7_fill_53178_1 : decode cJ7_fill_53178 1 = .ok (.istore_n 2, 1) := dc_61 (show ((cJ7_fill_53178.data.toList.drop 1).take 1).map UInt8.toNat = [61] by decide +kernel)
theorem dJ7_fill_53178_2 : decode cJ7_fill_53178 2 = .ok (.aload_n 0, 1) := dc_42 (show ((cJ7_fill_53178.data.toList.drop 2).take 1).map UInt8.toNat = [42] by decide +kernel)
theorem dJ7_fill_53178_3 : decode cJ7_fill_53178 3 = .ok (.arraylength, 1) := dc_190 (show ((cJ7_fill_53178.data.toList.drop 3).take 1).map UInt8.toNat = [190] by decide +kernel)
theorem dJ7_fill_53178_4 : decode cJ7_fill_53178 4 = .ok (.istore_n 3, 1) := dc_62 (show ((cJ7_fill_53178.data.toList.drop 4).take 1).map UInt8.toNat = [62] by decide +kernel)
theorem dJ7_fill_53178_5 : decode cJ7_fill_53178 5 = .ok (.iload_n 2, 1) := dc_28 (show ((cJ7_fill_53178.data.toList.drop 5).take 1).map UInt8.toNat = [28] by decide +kernel)
theorem dJ7_fill_53178_6 : decode cJ7_fill_53178 6 = .ok (.iload_n 3, 1) := dc_29 (show ((cJ7_fill_53178.data.toList.drop 6).take 1).map UInt8.toNat = [29] by decide +kernel)
theorem dJ7_fill_53178_7 : decode cJ7_fill_53178 7 = .ok (.if_icmp .ge 13, 3) := dc_162 (show ((cJ7_fill_53178.data.toList.drop 7).take 3).map UInt8.toNat = [162, 0, 13] by decide +kernel) rfl
theorem dJ7_fill_53178_20 : decode cJ7_fill_53178 20 = .ok (.return_, 1) := dc_177 (show ((cJ7_fill_53178.data.toList.drop 20).take 1).map UInt8.toNat = [177] by decide +kernel)
theorem dJ7_fill_53178_10 : decode cJ7_fill_53178 10 = .ok (.aload_n 0, 1) := dc_42 (show ((cJ7_fill_53178.data.toList.drop 10).take 1).map UInt8.toNat = [42] by decide +kernel)
theorem dJ7_fill_53178_11 : decode cJ7_fill_53178 11 = .ok (.iload_n 2, 1) := dc_28 (show ((cJ7_fill_53178.data.toList.drop 11).take 1).map UInt8.toNat = [28] by decide +kernel)
theorem dJ7_fill_53178_12 : decode cJ7_fill_53178 12 = .ok (.iload_n 1, 1) := dc_27 (show ((cJ7_fill_53178.data.toList.drop 12).take 1).map UInt8.toNat = [27] by decide +kernel)
theorem dJ7_fill_53178_13 : decode cJ7_fill_53178 13 = .ok (.iastore, 1) := dc_79 (show ((cJ7_fill_53178.data.toList.drop 13).take 1).map UInt8.toNat = [79] by decide +kernel)
theorem dJ7_fill_53178_14 : decode cJ7_fill_53178 14 = .ok (.iinc 2 1, 3) := dc_132 (show ((cJ7_fill_53178.data.toList.drop 14).take 3).map UInt8.toNat = [132, 2, 1] by decide +kernel) rfl
theorem dJ7_fill_53178_17 : decode cJ7_fill_53178 17 = .ok (.goto (-12), 3) := dc_167 (show ((cJ7_fill_53178.data.toList.drop 17).take 3).map UInt8.toNat = [167, 255, 244] by decide +kernel) rfl
def cs_java_util_Arrays_fill_c116_5 (n : Nat) : Nat → gb_S → Int32 → Int32 → Int32 → gb_CR Unit
  | 0, _, _, _, _ => none
  | mm + 1, σ, v1, v2, v3 => (if v3 ≤ v2 then some (σ, ()) else gb_ck v2 5 (gb_lt (gb_su σ 116 (upd (σ.1 116) (Int32.toNatClampNeg v2) v1)) (fun s_3 => gb_lt (v2 + 1) (fun x_4 => cs_java_util_Arrays_fill_c116_5 n mm s_3 v1 x_4 v3))))
def cs_java_util_Arrays_fill_c116 (n : Nat) (σ : gb_S) (p2 : Int32) : gb_CR Unit := cs_java_util_Arrays_fill_c116_5 n n σ p2 0 5
set_option maxHeartbeats 8000000 in
set_option maxRecDepth 100000 in
theorem cc_java_util_Arrays_fill_c116 (l : Launch) (D : va_G) (cT : Nat → ClassId) (tt : Nat → Nat) (b1 b : Nat) (hb1 : b1 ≤ b) (n : Nat) (σ : gb_S) (p2 : Int32) (σE : gb_S) (rE : Unit) (h : cs_java_util_Arrays_fill_c116 n σ p2 = some (σE, rE)) : Met l yJ7_fill_53178 (.code yJ7_fill_53178 cJ7_fill_53178 4 none :: gb_wA) ({ frames := 0, cells := 0, slots := 0, locals := 0 }) (gb_Pc D cT tt b1 [.ref (b + 116), .int p2] (fun h => va_P D vwCl (gb_wl b (gb_CW cT b σ)) h)) (gb_Qv (fun h => va_P D vwCl (gb_wl b (gb_CW cT b σE)) h) (gb_fr b 135)) 0 0 (gb_fr b 135) := by
  refine Met.ofW (cc := cJ7_fill_53178) (maxL := 4) (ret := none) (by decide) rfl ?_
  intro p e s m args below meth c s₁ B hml hv
  obtain ⟨rfl, hSt, hP⟩ := hv
  have hx := B.exec
  have hb := B.bytes
  have hr := B.returns
  have hts := atoms_spec (ws := .code yJ7_fill_53178 cJ7_fill_53178 4 none :: gb_wA) B.pre
  have hq : ∀ w ∈ gb_wA, w.before _ s = true := fun w h => hts w (List.mem_cons_of_mem _ h)
  have hown : s.vm.findClass RJ7 = some m.cls := findClass_of_methodNamed B.named
  have hlocks := B.notSynchronized
  clear B hts
  have hK := hSt.1
  have hS : va_S (gb_fr b 135) s.heap s.heap [] := va_S.rf
  have hl := lv_entry ([.ref (b + 116), .int p2]) (n := 4) (Nat.le_of_ble_eq_true rfl)
  rw [lg_entry_eq]
  generalize (lg_sl ([.ref (b + 116), .int p2]) ++ List.replicate (4 - (lg_sl ([.ref (b + 116), .int p2])).length) Slot.unset).toArray = ls at hl ⊢
  replace hl : lv_has ls 4 [(0, .ref (b + 116)), (1, .int p2)] := hl
  have L5_1 : ∀ (mm : Nat) (σ : gb_S) (v1 : Int32) (v2 : Int32) (v3 : Int32) (H : Heap) (locs : List Loc) (ls : Array Slot), cs_java_util_Arrays_fill_c116_5 n mm σ v1 v2 v3 = some (σE, rE) → va_P D vwCl (gb_wl b (gb_CW cT b σ)) H → va_S (gb_fr b 135) s.heap H locs → lv_has ls 4 [(0, .ref (b + 116)), (1, .int v1), (2, .int v2), (3, .int v3)] → W p l e (headSpec (.code yJ7_fill_53178 cJ7_fill_53178 4 none :: gb_wA) ({ frames := 0, cells := 0, slots := 0, locals := 0 })).room s m ([.ref (b + 116), .int p2]).toArray below meth c H locs 0 0 (MQ below (gb_Qv (fun h => va_P D vwCl (gb_wl b (gb_CW cT b σE)) h) (gb_fr b 135)) ([.ref (b + 116), .int p2]).toArray s 0 0 (gb_fr b 135)) (F0 m 5 ls []) := by
    clear h hP hS hl ls
    intro mm
    induction mm with
    | zero =>
      intro σ v1 v2 v3 H locs ls h
      cases h
    | succ mm ih =>
      intro σ v1 v2 v3 H locs ls h hP hS hl
      rw [cs_java_util_Arrays_fill_c116_5] at h
      refine lv_iload_n hx hb dJ7_fill_53178_5 rfl (lv_at hl 2 rfl) ?_
      refine lv_iload_n hx hb dJ7_fill_53178_6 rfl (lv_at hl 3 rfl) ?_
      refine lv_icmp_ge (tgt := 20) hx hb dJ7_fill_53178_7 (by decide) (fun c_1 => ?_) (fun c_1 => ?_)
      · rw [if_pos c_1] at h
        obtain ⟨e1, -⟩ := gb_eq2 h
        exact W.vret hx hb hr (fun t ht hW => gb_rv ht (by rw [← e1]; exact hP) hS) hS.2.2 dJ7_fill_53178_20
      · rw [if_neg c_1] at h
        refine lv_aload_n hx hb dJ7_fill_53178_10 rfl (lv_at hl 0 rfl) ?_
        refine lv_iload_n hx hb dJ7_fill_53178_11 rfl (lv_at hl 2 rfl) ?_
        refine lv_iload_n hx hb dJ7_fill_53178_12 rfl (lv_at hl 1 rfl) ?_
        obtain ⟨z_2, h⟩ := gb_ck_s h
        refine va_iast (x := v1) hx hb hK hP (gb_D (fun k h => ⟨Nat.le_add_right b k, Nat.add_lt_add_left h b⟩)) hS 116 0 (gb_at b rfl) rfl z_2 dJ7_fill_53178_13 (fun H locs hP hD hS => ?_)
        rw [gb_set] at hP
        obtain ⟨s_3, es_3⟩ : ∃ q, q = (gb_su σ 116 (upd (σ.1 116) (Int32.toNatClampNeg v2) v1)) := ⟨_, rfl⟩
        replace hP : va_P D vwCl (gb_wl b (gb_CW cT b s_3)) H := by rw [es_3]; exact hP
        replace h := gb_lt_s es_3 h
        obtain ⟨x_4, ex_4⟩ : ∃ q, q = (v2 + 1) := ⟨_, rfl⟩
        replace h := gb_lt_s ex_4 h
        refine lv_iinc (v := x_4) (lv' := [(2, .int x_4), (0, .ref (b + 116)), (1, .int v1), (3, .int v3)]) hx hb dJ7_fill_53178_14 hl (k := 2) rfl (by rw [ex_4]; rfl) (by decide) rfl (fun ls hl => ?_)
        refine lv_goto (tgt := 5) hx hb dJ7_fill_53178_17 (by decide) ?_
        exact ih _ _ _ _ _ _ _ h hP hS (lv_sub hl [1, 2, 0, 3] rfl)
  unfold cs_java_util_Arrays_fill_c116 at h
  refine lv_iconst (v := 0) hx hb dJ7_fill_53178_0 (by decide) ?_
  refine lv_istore_n (lv' := [(2, .int 0), (0, .ref (b + 116)), (1, .int p2)]) hx hb dJ7_fill_53178_1 rfl hl (by decide) rfl (fun ls hl => ?_)
  refine lv_aload_n hx hb dJ7_fill_53178_2 rfl (lv_at hl 1 rfl) ?_
  refine va_alen (v := 5) hx hb hK hP 116 0 (gb_at b rfl) rfl rfl dJ7_fill_53178_3 ?_
  refine lv_istore_n (lv' := [(3, .int 5), (2, .int 0), (0, .ref (b + 116)), (1, .int p2)]) hx hb dJ7_fill_53178_4 rfl hl (by decide) rfl (fun ls hl => ?_)
  exact L5_1 n _ _ _ _ _ _ _ h hP hS (lv_sub hl [2, 3, 1, 0] rfl)
theorem w_716 : (Cond.code ({ cls := "java/util/Arrays", name := "fill", desc := "([II)V" } : MethodName) prog_21_method_103_code (4 : Nat) (Option.none : Option FieldType)) ∈ gb_wA := gb_t3 236 rfl rfl
theorem w_714 : (Cond.methodLink "GooseBorder$Play" (50 : Nat) ({ cls := "java/util/Arrays", name := "fill", desc := "([II)V" } : MethodName)) ∈ gb_wA := gb_t3 234 rfl rfl
theorem w_715 : (Cond.static ({ cls := "java/util/Arrays", name := "fill", desc := "([II)V" } : MethodName)) ∈ gb_wA := gb_t3 235 rfl rfl
theorem w_20 : (Cond.initialized "java/util/Arrays") ∈ gb_wA := gb_t1 20 rfl rfl
theorem dX6_begin_71 : decode cX6_begin 71 = .ok (.aload_n 0, 1) := dc_42 (show ((cX6_begin.data.toList.drop 71).take 1).map UInt8.toNat = [42] by decide +kernel)
theorem dX6_begin_72 : decode cX6_begin 72 = .ok (.getfield 34, 3) := dc_180 (show ((cX6_begin.data.toList.drop 72).take 3).map UInt8.toNat = [180, 0, 34] by decide +kernel) rfl
theorem dX6_begin_75 : decode cX6_begin 75 = .ok (.iconst 0, 1) := dc_3 (show ((cX6_begin.data.toList.drop 75).take 1).map UInt8.toNat = [3] by decide +kernel)
theorem dX6_begin_76 : decode cX6_begin 76 = .ok (.invokestatic 50, 3) := dc_184 (show ((cX6_begin.data.toList.drop 76).take 3).map UInt8.toNat = [184, 0, 50] by decide +kernel) rfl
def cs_java_util_Arrays_fill_c117_5 (n : Nat) : Nat → gb_S → Int32 → Int32 → Int32 → gb_CR Unit
  | 0, _, _, _, _ => none
  | mm + 1, σ, v1, v2, v3 => (if v3 ≤ v2 then some (σ, ()) else gb_ck v2 5 (gb_lt (gb_su σ 117 (upd (σ.1 117) (Int32.toNatClampNeg v2) v1)) (fun s_3 => gb_lt (v2 + 1) (fun x_4 => cs_java_util_Arrays_fill_c117_5 n mm s_3 v1 x_4 v3))))
def cs_java_util_Arrays_fill_c117 (n : Nat) (σ : gb_S) (p2 : Int32) : gb_CR Unit := cs_java_util_Arrays_fill_c117_5 n n σ p2 0 5
set_option maxHeartbeats 8000000 in
set_option maxRecDepth 100000 in
theorem cc_java_util_Arrays_fill_c117 (l : Launch) (D : va_G) (cT : Nat → ClassId) (tt : Nat → Nat) (b1 b : Nat) (hb1 : b1 ≤ b) (n : Nat) (σ : gb_S) (p2 : Int32) (σE : gb_S) (rE : Unit) (h : cs_java_util_Arrays_fill_c117 n σ p2 = some (σE, rE)) : Met l yJ7_fill_53178 (.code yJ7_fill_53178 cJ7_fill_53178 4 none :: gb_wA) ({ frames := 0, cells := 0, slots := 0, locals := 0 }) (gb_Pc D cT tt b1 [.ref (b + 117), .int p2] (fun h => va_P D vwCl (gb_wl b (gb_CW cT b σ)) h)) (gb_Qv (fun h => va_P D vwCl (gb_wl b (gb_CW cT b σE)) h) (gb_fr b 135)) 0 0 (gb_fr b 135) := by
  refine Met.ofW (cc := cJ7_fill_53178) (maxL := 4) (ret := none) (by decide) rfl ?_
  intro p e s m args below meth c s₁ B hml hv
  obtain ⟨rfl, hSt, hP⟩ := hv
  have hx := B.exec
  have hb := B.bytes
  have hr := B.returns
  have hts := atoms_spec (ws := .code yJ7_fill_53178 cJ7_fill_53178 4 none :: gb_wA) B.pre
  have hq : ∀ w ∈ gb_wA, w.before _ s = true := fun w h => hts w (List.mem_cons_of_mem _ h)
  have hown : s.vm.findClass RJ7 = some m.cls := findClass_of_methodNamed B.named
  have hlocks := B.notSynchronized
  clear B hts
  have hK := hSt.1
  have hS : va_S (gb_fr b 135) s.heap s.heap [] := va_S.rf
  have hl := lv_entry ([.ref (b + 117), .int p2]) (n := 4) (Nat.le_of_ble_eq_true rfl)
  rw [lg_entry_eq]
  generalize (lg_sl ([.ref (b + 117), .int p2]) ++ List.replicate (4 - (lg_sl ([.ref (b + 117), .int p2])).length) Slot.unset).toArray = ls at hl ⊢
  replace hl : lv_has ls 4 [(0, .ref (b + 117)), (1, .int p2)] := hl
  have L5_1 : ∀ (mm : Nat) (σ : gb_S) (v1 : Int32) (v2 : Int32) (v3 : Int32) (H : Heap) (locs : List Loc) (ls : Array Slot), cs_java_util_Arrays_fill_c117_5 n mm σ v1 v2 v3 = some (σE, rE) → va_P D vwCl (gb_wl b (gb_CW cT b σ)) H → va_S (gb_fr b 135) s.heap H locs → lv_has ls 4 [(0, .ref (b + 117)), (1, .int v1), (2, .int v2), (3, .int v3)] → W p l e (headSpec (.code yJ7_fill_53178 cJ7_fill_53178 4 none :: gb_wA) ({ frames := 0, cells := 0, slots := 0, locals := 0 })).room s m ([.ref (b + 117), .int p2]).toArray below meth c H locs 0 0 (MQ below (gb_Qv (fun h => va_P D vwCl (gb_wl b (gb_CW cT b σE)) h) (gb_fr b 135)) ([.ref (b + 117), .int p2]).toArray s 0 0 (gb_fr b 135)) (F0 m 5 ls []) := by
    clear h hP hS hl ls
    intro mm
    induction mm with
    | zero =>
      intro σ v1 v2 v3 H locs ls h
      cases h
    | succ mm ih =>
      intro σ v1 v2 v3 H locs ls h hP hS hl
      rw [cs_java_util_Arrays_fill_c117_5] at h
      refine lv_iload_n hx hb dJ7_fill_53178_5 rfl (lv_at hl 2 rfl) ?_
      refine lv_iload_n hx hb dJ7_fill_53178_6 rfl (lv_at hl 3 rfl) ?_
      refine lv_icmp_ge (tgt := 20) hx hb dJ7_fill_53178_7 (by decide) (fun c_1 => ?_) (fun c_1 => ?_)
      · rw [if_pos c_1] at h
        obtain ⟨e1, -⟩ := gb_eq2 h
        exact W.vret hx hb hr (fun t ht hW => gb_rv ht (by rw [← e1]; exact hP) hS) hS.2.2 dJ7_fill_53178_20
      · rw [if_neg c_1] at h
        refine lv_aload_n hx hb dJ7_fill_53178_10 rfl (lv_at hl 0 rfl) ?_
        refine lv_iload_n hx hb dJ7_fill_53178_11 rfl (lv_at hl 2 rfl) ?_
        refine lv_iload_n hx hb dJ7_fill_53178_12 rfl (lv_at hl 1 rfl) ?_
        obtain ⟨z_2, h⟩ := gb_ck_s h
        refine va_iast (x := v1) hx hb hK hP (gb_D (fun k h => ⟨Nat.le_add_right b k, Nat.add_lt_add_left h b⟩)) hS 117 0 (gb_at b rfl) rfl z_2 dJ7_fill_53178_13 (fun H locs hP hD hS => ?_)
        rw [gb_set] at hP
        obtain ⟨s_3, es_3⟩ : ∃ q, q = (gb_su σ 117 (upd (σ.1 117) (Int32.toNatClampNeg v2) v1)) := ⟨_, rfl⟩
        replace hP : va_P D vwCl (gb_wl b (gb_CW cT b s_3)) H := by rw [es_3]; exact hP
        replace h := gb_lt_s es_3 h
        obtain ⟨x_4, ex_4⟩ : ∃ q, q = (v2 + 1) := ⟨_, rfl⟩
        replace h := gb_lt_s ex_4 h
        refine lv_iinc (v := x_4) (lv' := [(2, .int x_4), (0, .ref (b + 117)), (1, .int v1), (3, .int v3)]) hx hb dJ7_fill_53178_14 hl (k := 2) rfl (by rw [ex_4]; rfl) (by decide) rfl (fun ls hl => ?_)
        refine lv_goto (tgt := 5) hx hb dJ7_fill_53178_17 (by decide) ?_
        exact ih _ _ _ _ _ _ _ h hP hS (lv_sub hl [1, 2, 0, 3] rfl)
  unfold cs_java_util_Arrays_fill_c117 at h
  refine lv_iconst (v := 0) hx hb dJ7_fill_53178_0 (by decide) ?_
  refine lv_istore_n (lv' := [(2, .int 0), (0, .ref (b + 117)), (1, .int p2)]) hx hb dJ7_fill_53178_1 rfl hl (by decide) rfl (fun ls hl => ?_)
  refine lv_aload_n hx hb dJ7_fill_53178_2 rfl (lv_at hl 1 rfl) ?_
  refine va_alen (v := 5) hx hb hK hP 117 0 (gb_at b rfl) rfl rfl dJ7_fill_53178_3 ?_
  refine lv_istore_n (lv' := [(3, .int 5), (2, .int 0), (0, .ref (b + 117)), (1, .int p2)]) hx hb dJ7_fill_53178_4 rfl hl (by decide) rfl (fun ls hl => ?_)
  exact L5_1 n _ _ _ _ _ _ _ h hP hS (lv_sub hl [2, 3, 1, 0] rfl)
theorem dX6_begin_79 : decode cX6_begin 79 = .ok (.aload_n 0, 1) := dc_42 (show ((cX6_begin.data.toList.drop 79).take 1).map UInt8.toNat = [42] by decide +kernel)
theorem dX6_begin_80 : decode cX6_begin 80 = .ok (.getfield 37, 3) := dc_180 (show ((cX6_begin.data.toList.drop 80).take 3).map UInt8.toNat = [180, 0, 37] by decide +kernel) rfl
theorem dX6_begin_83 : decode cX6_begin 83 = .ok (.iconst 0, 1) := dc_3 (show ((cX6_begin.data.toList.drop 83).take 1).map UInt8.toNat = [3] by decide +kernel)
theorem dX6_begin_84 : decode cX6_begin 84 = .ok (.invokestatic 50, 3) := dc_184 (show ((cX6_begin.data.toList.drop 84).take 3).map UInt8.toNat = [184, 0, 50] by decide +kernel) rfl
def cs_java_util_Arrays_fill_c118_5 (n : Nat) : Nat → gb_S → Int32 → Int32 → Int32 → gb_CR Unit
  | 0, _, _, _, _ => none
  | mm + 1, σ, v1, v2, v3 => (if v3 ≤ v2 then some (σ, ()) else gb_ck v2 5 (gb_lt (gb_su σ 118 (upd (σ.1 118) (Int32.toNatClampNeg v2) v1)) (fun s_3 => gb_lt (v2 + 1) (fun x_4 => cs_java_util_Arrays_fill_c118_5 n mm s_3 v1 x_4 v3))))
def cs_java_util_Arrays_fill_c118 (n : Nat) (σ : gb_S) (p2 : Int32) : gb_CR Unit := cs_java_util_Arrays_fill_c118_5 n n σ p2 0 5
set_option maxHeartbeats 8000000 in
set_option maxRecDepth 100000 in
theorem cc_java_util_Arrays_fill_c118 (l : Launch) (D : va_G) (cT : Nat → ClassId) (tt : Nat → Nat) (b1 b : Nat) (hb1 : b1 ≤ b) (n : Nat) (σ : gb_S) (p2 : Int32) (σE : gb_S) (rE : Unit) (h : cs_java_util_Arrays_fill_c118 n σ p2 = some (σE, rE)) : Met l yJ7_fill_53178 (.code yJ7_fill_53178 cJ7_fill_53178 4 none :: gb_wA) ({ frames := 0, cells := 0, slots := 0, locals := 0 }) (gb_Pc D cT tt b1 [.ref (b + 118), .int p2] (fun h => va_P D vwCl (gb_wl b (gb_CW cT b σ)) h)) (gb_Qv (fun h => va_P D vwCl (gb_wl b (gb_CW cT b σE)) h) (gb_fr b 135)) 0 0 (gb_fr b 135) := by
  refine Met.ofW (cc := cJ7_fill_53178) (maxL := 4) (ret := none) (by decide) rfl ?_
  intro p e s m args below meth c s₁ B hml hv
  obtain ⟨rfl, hSt, hP⟩ := hv
  have hx := B.exec
  have hb := B.bytes
  have hr := B.returns
  have hts := atoms_spec (ws := .code yJ7_fill_53178 cJ7_fill_53178 4 none :: gb_wA) B.pre
  have hq : ∀ w ∈ gb_wA, w.before _ s = true := fun w h => hts w (List.mem_cons_of_mem _ h)
  have hown : s.vm.findClass RJ7 = some m.cls := findClass_of_methodNamed B.named
  have hlocks := B.notSynchronized
  clear B hts
  have hK := hSt.1
  have hS : va_S (gb_fr b 135) s.heap s.heap [] := va_S.rf
  have hl := lv_entry ([.ref (b + 118), .int p2]) (n := 4) (Nat.le_of_ble_eq_true rfl)
  rw [lg_entry_eq]
  generalize (lg_sl ([.ref (b + 118), .int p2]) ++ List.replicate (4 - (lg_sl ([.ref (b + 118), .int p2])).length) Slot.unset).toArray = ls at hl ⊢
  replace hl : lv_has ls 4 [(0, .ref (b + 118)), (1, .int p2)] := hl
  have L5_1 : ∀ (mm : Nat) (σ : gb_S) (v1 : Int32) (v2 : Int32) (v3 : Int32) (H : Heap) (locs : List Loc) (ls : Array Slot), cs_java_util_Arrays_fill_c118_5 n mm σ v1 v2 v3 = some (σE, rE) → va_P D vwCl (gb_wl b (gb_CW cT b σ)) H → va_S (gb_fr b 135) s.heap H locs → lv_has ls 4 [(0, .ref (b + 118)), (1, .int v1), (2, .int v2), (3, .int v3)] → W p l e (headSpec (.code yJ7_fill_53178 cJ7_fill_53178 4 none :: gb_wA) ({ frames := 0, cells := 0, slots := 0, locals := 0 })).room s m ([.ref (b + 118), .int p2]).toArray below meth c H locs 0 0 (MQ below (gb_Qv (fun h => va_P D vwCl (gb_wl b (gb_CW cT b σE)) h) (gb_fr b 135)) ([.ref (b + 118), .int p2]).toArray s 0 0 (gb_fr b 135)) (F0 m 5 ls []) := by
    clear h hP hS hl ls
    intro mm
    induction mm with
    | zero =>
      intro σ v1 v2 v3 H locs ls h
      cases h
    | succ mm ih =>
      intro σ v1 v2 v3 H locs ls h hP hS hl
      rw [cs_java_util_Arrays_fill_c118_5] at h
      refine lv_iload_n hx hb dJ7_fill_53178_5 rfl (lv_at hl 2 rfl) ?_
      refine lv_iload_n hx hb dJ7_fill_53178_6 rfl (lv_at hl 3 rfl) ?_
      refine lv_icmp_ge (tgt := 20) hx hb dJ7_fill_53178_7 (by decide) (fun c_1 => ?_) (fun c_1 => ?_)
      · rw [if_pos c_1] at h
        obtain ⟨e1, -⟩ := gb_eq2 h
        exact W.vret hx hb hr (fun t ht hW => gb_rv ht (by rw [← e1]; exact hP) hS) hS.2.2 dJ7_fill_53178_20
      · rw [if_neg c_1] at h
        refine lv_aload_n hx hb dJ7_fill_53178_10 rfl (lv_at hl 0 rfl) ?_
        refine lv_iload_n hx hb dJ7_fill_53178_11 rfl (lv_at hl 2 rfl) ?_
        refine lv_iload_n hx hb dJ7_fill_53178_12 rfl (lv_at hl 1 rfl) ?_
        obtain ⟨z_2, h⟩ := gb_ck_s h
        refine va_iast (x := v1) hx hb hK hP (gb_D (fun k h => ⟨Nat.le_add_right b k, Nat.add_lt_add_left h b⟩)) hS 118 0 (gb_at b rfl) rfl z_2 dJ7_fill_53178_13 (fun H locs hP hD hS => ?_)
        rw [gb_set] at hP
        obtain ⟨s_3, es_3⟩ : ∃ q, q = (gb_su σ 118 (upd (σ.1 118) (Int32.toNatClampNeg v2) v1)) := ⟨_, rfl⟩
        replace hP : va_P D vwCl (gb_wl b (gb_CW cT b s_3)) H := by rw [es_3]; exact hP
        replace h := gb_lt_s es_3 h
        obtain ⟨x_4, ex_4⟩ : ∃ q, q = (v2 + 1) := ⟨_, rfl⟩
        replace h := gb_lt_s ex_4 h
        refine lv_iinc (v := x_4) (lv' := [(2, .int x_4), (0, .ref (b + 118)), (1, .int v1), (3, .int v3)]) hx hb dJ7_fill_53178_14 hl (k := 2) rfl (by rw [ex_4]; rfl) (by decide) rfl (fun ls hl => ?_)
        refine lv_goto (tgt := 5) hx hb dJ7_fill_53178_17 (by decide) ?_
        exact ih _ _ _ _ _ _ _ h hP hS (lv_sub hl [1, 2, 0, 3] rfl)
  unfold cs_java_util_Arrays_fill_c118 at h
  refine lv_iconst (v := 0) hx hb dJ7_fill_53178_0 (by decide) ?_
  refine lv_istore_n (lv' := [(2, .int 0), (0, .ref (b + 118)), (1, .int p2)]) hx hb dJ7_fill_53178_1 rfl hl (by decide) rfl (fun ls hl => ?_)
  refine lv_aload_n hx hb dJ7_fill_53178_2 rfl (lv_at hl 1 rfl) ?_
  refine va_alen (v := 5) hx hb hK hP 118 0 (gb_at b rfl) rfl rfl dJ7_fill_53178_3 ?_
  refine lv_istore_n (lv' := [(3, .int 5), (2, .int 0), (0, .ref (b + 118)), (1, .int p2)]) hx hb dJ7_fill_53178_4 rfl hl (by decide) rfl (fun ls hl => ?_)
  exact L5_1 n _ _ _ _ _ _ _ h hP hS (lv_sub hl [2, 3, 1, 0] rfl)
theorem dX6_begin_87 : decode cX6_begin 87 = .ok (.aload_n 0, 1) := dc_42 (show ((cX6_begin.data.toList.drop 87).take 1).map UInt8.toNat = [42] by decide +kernel)
theorem dX6_begin_88 : decode cX6_begin 88 = .ok (.getfield 40, 3) := dc_180 (show ((cX6_begin.data.toList.drop 88).take 3).map UInt8.toNat = [180, 0, 40] by decide +kernel) rfl
theorem dX6_begin_91 : decode cX6_begin 91 = .ok (.iconst 0, 1) := dc_3 (show ((cX6_begin.data.toList.drop 91).take 1).map UInt8.toNat = [3] by decide +kernel)
theorem dX6_begin_92 : decode cX6_begin 92 = .ok (.invokestatic 50, 3) := dc_184 (show ((cX6_begin.data.toList.drop 92).take 3).map UInt8.toNat = [184, 0, 50] by decide +kernel) rfl
def cs_java_util_Arrays_fill_c119_5 (n : Nat) : Nat → gb_S → Int32 → Int32 → Int32 → gb_CR Unit
  | 0, _, _, _, _ => none
  | mm + 1, σ, v1, v2, v3 => (if v3 ≤ v2 then some (σ, ()) else gb_ck v2 40 (gb_lt (gb_su σ 119 (upd (σ.1 119) (Int32.toNatClampNeg v2) v1)) (fun s_3 => gb_lt (v2 + 1) (fun x_4 => cs_java_util_Arrays_fill_c119_5 n mm s_3 v1 x_4 v3))))
def cs_java_util_Arrays_fill_c119 (n : Nat) (σ : gb_S) (p2 : Int32) : gb_CR Unit := cs_java_util_Arrays_fill_c119_5 n n σ p2 0 40
set_option maxHeartbeats 8000000 in
set_option maxRecDepth 100000 in
theorem cc_java_util_Arrays_fill_c119 (l : Launch) (D : va_G) (cT : Nat → ClassId) (tt : Nat → Nat) (b1 b : Nat) (hb1 : b1 ≤ b) (n : Nat) (σ : gb_S) (p2 : Int32) (σE : gb_S) (rE : Unit) (h : cs_java_util_Arrays_fill_c119 n σ p2 = some (σE, rE)) : Met l yJ7_fill_53178 (.code yJ7_fill_53178 cJ7_fill_53178 4 none :: gb_wA) ({ frames := 0, cells := 0, slots := 0, locals := 0 }) (gb_Pc D cT tt b1 [.ref (b + 119), .int p2] (fun h => va_P D vwCl (gb_wl b (gb_CW cT b σ)) h)) (gb_Qv (fun h => va_P D vwCl (gb_wl b (gb_CW cT b σE)) h) (gb_fr b 135)) 0 0 (gb_fr b 135) := by
  refine Met.ofW (cc := cJ7_fill_53178) (maxL := 4) (ret := none) (by decide) rfl ?_
  intro p e s m args below meth c s₁ B hml hv
  obtain ⟨rfl, hSt, hP⟩ := hv
  have hx := B.exec
  have hb := B.bytes
  have hr := B.returns
  have hts := atoms_spec (ws := .code yJ7_fill_53178 cJ7_fill_53178 4 none :: gb_wA) B.pre
  have hq : ∀ w ∈ gb_wA, w.before _ s = true := fun w h => hts w (List.mem_cons_of_mem _ h)
  have hown : s.vm.findClass RJ7 = some m.cls := findClass_of_methodNamed B.named
  have hlocks := B.notSynchronized
  clear B hts
  have hK := hSt.1
  have hS : va_S (gb_fr b 135) s.heap s.heap [] := va_S.rf
  have hl := lv_entry ([.ref (b + 119), .int p2]) (n := 4) (Nat.le_of_ble_eq_true rfl)
  rw [lg_entry_eq]
  generalize (lg_sl ([.ref (b + 119), .int p2]) ++ List.replicate (4 - (lg_sl ([.ref (b + 119), .int p2])).length) Slot.unset).toArray = ls at hl ⊢
  replace hl : lv_has ls 4 [(0, .ref (b + 119)), (1, .int p2)] := hl
  have L5_1 : ∀ (mm : Nat) (σ : gb_S) (v1 : Int32) (v2 : Int32) (v3 : Int32) (H : Heap) (locs : List Loc) (ls : Array Slot), cs_java_util_Arrays_fill_c119_5 n mm σ v1 v2 v3 = some (σE, rE) → va_P D vwCl (gb_wl b (gb_CW cT b σ)) H → va_S (gb_fr b 135) s.heap H locs → lv_has ls 4 [(0, .ref (b + 119)), (1, .int v1), (2, .int v2), (3, .int v3)] → W p l e (headSpec (.code yJ7_fill_53178 cJ7_fill_53178 4 none :: gb_wA) ({ frames := 0, cells := 0, slots := 0, locals := 0 })).room s m ([.ref (b + 119), .int p2]).toArray below meth c H locs 0 0 (MQ below (gb_Qv (fun h => va_P D vwCl (gb_wl b (gb_CW cT b σE)) h) (gb_fr b 135)) ([.ref (b + 119), .int p2]).toArray s 0 0 (gb_fr b 135)) (F0 m 5 ls []) := by
    clear h hP hS hl ls
    intro mm
    induction mm with
    | zero =>
      intro σ v1 v2 v3 H locs ls h
      cases h
    | succ mm ih =>
      intro σ v1 v2 v3 H locs ls h hP hS hl
      rw [cs_java_util_Arrays_fill_c119_5] at h
      refine lv_iload_n hx hb dJ7_fill_53178_5 rfl (lv_at hl 2 rfl) ?_
      refine lv_iload_n hx hb dJ7_fill_53178_6 rfl (lv_at hl 3 rfl) ?_
      refine lv_icmp_ge (tgt := 20) hx hb dJ7_fill_53178_7 (by decide) (fun c_1 => ?_) (fun c_1 => ?_)
      · rw [if_pos c_1] at h
        obtain ⟨e1, -⟩ := gb_eq2 h
        exact W.vret hx hb hr (fun t ht hW => gb_rv ht (by rw [← e1]; exact hP) hS) hS.2.2 dJ7_fill_53178_20
      · rw [if_neg c_1] at h
        refine lv_aload_n hx hb dJ7_fill_53178_10 rfl (lv_at hl 0 rfl) ?_
        refine lv_iload_n hx hb dJ7_fill_53178_11 rfl (lv_at hl 2 rfl) ?_
        refine lv_iload_n hx hb dJ7_fill_53178_12 rfl (lv_at hl 1 rfl) ?_
        obtain ⟨z_2, h⟩ := gb_ck_s h
        refine va_iast (x := v1) hx hb hK hP (gb_D (fun k h => ⟨Nat.le_add_right b k, Nat.add_lt_add_left h b⟩)) hS 119 0 (gb_at b rfl) rfl z_2 dJ7_fill_53178_13 (fun H locs hP hD hS => ?_)
        rw [gb_set] at hP
        obtain ⟨s_3, es_3⟩ : ∃ q, q = (gb_su σ 119 (upd (σ.1 119) (Int32.toNatClampNeg v2) v1)) := ⟨_, rfl⟩
        replace hP : va_P D vwCl (gb_wl b (gb_CW cT b s_3)) H := by rw [es_3]; exact hP
        replace h := gb_lt_s es_3 h
        obtain ⟨x_4, ex_4⟩ : ∃ q, q = (v2 + 1) := ⟨_, rfl⟩
        replace h := gb_lt_s ex_4 h
        refine lv_iinc (v := x_4) (lv' := [(2, .int x_4), (0, .ref (b + 119)), (1, .int v1), (3, .int v3)]) hx hb dJ7_fill_53178_14 hl (k := 2) rfl (by rw [ex_4]; rfl) (by decide) rfl (fun ls hl => ?_)
        refine lv_goto (tgt := 5) hx hb dJ7_fill_53178_17 (by decide) ?_
        exact ih _ _ _ _ _ _ _ h hP hS (lv_sub hl [1, 2, 0, 3] rfl)
  unfold cs_java_util_Arrays_fill_c119 at h
  refine lv_iconst (v := 0) hx hb dJ7_fill_53178_0 (by decide) ?_
  refine lv_istore_n (lv' := [(2, .int 0), (0, .ref (b + 119)), (1, .int p2)]) hx hb dJ7_fill_53178_1 rfl hl (by decide) rfl (fun ls hl => ?_)
  refine lv_aload_n hx hb dJ7_fill_53178_2 rfl (lv_at hl 1 rfl) ?_
  refine va_alen (v := 40) hx hb hK hP 119 0 (gb_at b rfl) rfl rfl dJ7_fill_53178_3 ?_
  refine lv_istore_n (lv' := [(3, .int 40), (2, .int 0), (0, .ref (b + 119)), (1, .int p2)]) hx hb dJ7_fill_53178_4 rfl hl (by decide) rfl (fun ls hl => ?_)
  exact L5_1 n _ _ _ _ _ _ _ h hP hS (lv_sub hl [2, 3, 1, 0] rfl)
theorem dX6_begin_95 : decode cX6_begin 95 = .ok (.aload_n 0, 1) := dc_42 (show ((cX6_begin.data.toList.drop 95).take 1).map UInt8.toNat = [42] by decide +kernel)
theorem dX6_begin_96 : decode cX6_begin 96 = .ok (.iconst 0, 1) := dc_3 (show ((cX6_begin.data.toList.drop 96).take 1).map UInt8.toNat = [3] by decide +kernel)
theorem dX6_begin_97 : decode cX6_begin 97 = .ok (.putfield 56, 3) := dc_181 (show ((cX6_begin.data.toList.drop 97).take 3).map UInt8.toNat = [181, 0, 56] by decide +kernel) rfl
theorem w_213 : (Cond.fieldLink "GooseBorder$Play" (56 : Nat) "GooseBorder$Play" "recast" "I") ∈ gb_wA := gb_t1 213 rfl rfl
theorem dX6_begin_100 : decode cX6_begin 100 = .ok (.aload_n 0, 1) := dc_42 (show ((cX6_begin.data.toList.drop 100).take 1).map UInt8.toNat = [42] by decide +kernel)
theorem dX6_begin_101 : decode cX6_begin 101 = .ok (.iconst 0, 1) := dc_3 (show ((cX6_begin.data.toList.drop 101).take 1).map UInt8.toNat = [3] by decide +kernel)
theorem dX6_begin_102 : decode cX6_begin 102 = .ok (.putfield 60, 3) := dc_181 (show ((cX6_begin.data.toList.drop 102).take 3).map UInt8.toNat = [181, 0, 60] by decide +kernel) rfl
theorem w_214 : (Cond.fieldLink "GooseBorder$Play" (60 : Nat) "GooseBorder$Play" "frost" "Z") ∈ gb_wA := gb_t1 214 rfl rfl
theorem dX6_begin_105 : decode cX6_begin 105 = .ok (.aload_n 0, 1) := dc_42 (show ((cX6_begin.data.toList.drop 105).take 1).map UInt8.toNat = [42] by decide +kernel)
theorem dX6_begin_106 : decode cX6_begin 106 = .ok (.iconst 0, 1) := dc_3 (show ((cX6_begin.data.toList.drop 106).take 1).map UInt8.toNat = [3] by decide +kernel)
theorem dX6_begin_107 : decode cX6_begin 107 = .ok (.putfield 64, 3) := dc_181 (show ((cX6_begin.data.toList.drop 107).take 3).map UInt8.toNat = [181, 0, 64] by decide +kernel) rfl
theorem w_216 : (Cond.fieldLink "GooseBorder$Play" (64 : Nat) "GooseBorder$Play" "done" "I") ∈ gb_wA := gb_t1 216 rfl rfl
theorem dX6_begin_110 : decode cX6_begin 110 = .ok (.return_, 1) := dc_177 (show ((cX6_begin.data.toList.drop 110).take 1).map UInt8.toNat = [177] by decide +kernel)
theorem dX6_begin_13 : decode cX6_begin 13 = .ok (.aload_n 0, 1) := dc_42 (show ((cX6_begin.data.toList.drop 13).take 1).map UInt8.toNat = [42] by decide +kernel)
theorem dX6_begin_14 : decode cX6_begin 14 = .ok (.getfield 18, 3) := dc_180 (show ((cX6_begin.data.toList.drop 14).take 3).map UInt8.toNat = [180, 0, 18] by decide +kernel) rfl
theorem dX6_begin_17 : decode cX6_begin 17 = .ok (.iload_n 2, 1) := dc_28 (show ((cX6_begin.data.toList.drop 17).take 1).map UInt8.toNat = [28] by decide +kernel)
theorem dX6_begin_18 : decode cX6_begin 18 = .ok (.iconst 0, 1) := dc_3 (show ((cX6_begin.data.toList.drop 18).take 1).map UInt8.toNat = [3] by decide +kernel)
theorem dX6_begin_19 : decode cX6_begin 19 = .ok (.iastore, 1) := dc_79 (show ((cX6_begin.data.toList.drop 19).take 1).map UInt8.toNat = [79] by decide +kernel)
theorem dX6_begin_20 : decode cX6_begin 20 = .ok (.aload_n 0, 1) := dc_42 (show ((cX6_begin.data.toList.drop 20).take 1).map UInt8.toNat = [42] by decide +kernel)
theorem dX6_begin_21 : decode cX6_begin 21 = .ok (.getfield 22, 3) := dc_180 (show ((cX6_begin.data.toList.drop 21).take 3).map UInt8.toNat = [180, 0, 22] by decide +kernel) rfl
theorem dX6_begin_24 : decode cX6_begin 24 = .ok (.iload_n 2, 1) := dc_28 (show ((cX6_begin.data.toList.drop 24).take 1).map UInt8.toNat = [28] by decide +kernel)
theorem dX6_begin_25 : decode cX6_begin 25 = .ok (.aload_n 1, 1) := dc_43 (show ((cX6_begin.data.toList.drop 25).take 1).map UInt8.toNat = [43] by decide +kernel)
theorem dX6_begin_26 : decode cX6_begin 26 = .ok (.iload_n 2, 1) := dc_28 (show ((cX6_begin.data.toList.drop 26).take 1).map UInt8.toNat = [28] by decide +kernel)
theorem dX6_begin_27 : decode cX6_begin 27 = .ok (.invokevirtual 43, 3) := dc_182 (show ((cX6_begin.data.toList.drop 27).take 3).map UInt8.toNat = [182, 0, 43] by decide +kernel) rfl
theorem w_712 : (Cond.methodLink "GooseBorder$Play" (43 : Nat) ({ cls := "GooseBorder$Border", name := "hasGoose", desc := "(I)Z" } : MethodName)) ∈ gb_wA := gb_t3 232 rfl rfl
theorem dX6_begin_30 : decode cX6_begin 30 = .ok (.ifCond .eq 11, 3) := dc_153 (show ((cX6_begin.data.toList.drop 30).take 3).map UInt8.toNat = [153, 0, 11] by decide +kernel) rfl
theorem dX6_begin_41 : decode cX6_begin 41 = .ok (.iconst 0, 1) := dc_3 (show ((cX6_begin.data.toList.drop 41).take 1).map UInt8.toNat = [3] by decide +kernel)
theorem dX6_begin_42 : decode cX6_begin 42 = .ok (.iastore, 1) := dc_79 (show ((cX6_begin.data.toList.drop 42).take 1).map UInt8.toNat = [79] by decide +kernel)
theorem dX6_begin_43 : decode cX6_begin 43 = .ok (.aload_n 0, 1) := dc_42 (show ((cX6_begin.data.toList.drop 43).take 1).map UInt8.toNat = [42] by decide +kernel)
theorem dX6_begin_44 : decode cX6_begin 44 = .ok (.getfield 25, 3) := dc_180 (show ((cX6_begin.data.toList.drop 44).take 3).map UInt8.toNat = [180, 0, 25] by decide +kernel) rfl
theorem dX6_begin_47 : decode cX6_begin 47 = .ok (.iload_n 2, 1) := dc_28 (show ((cX6_begin.data.toList.drop 47).take 1).map UInt8.toNat = [28] by decide +kernel)
theorem dX6_begin_48 : decode cX6_begin 48 = .ok (.iconst 0, 1) := dc_3 (show ((cX6_begin.data.toList.drop 48).take 1).map UInt8.toNat = [3] by decide +kernel)
theorem dX6_begin_49 : decode cX6_begin 49 = .ok (.iastore, 1) := dc_79 (show ((cX6_begin.data.toList.drop 49).take 1).map UInt8.toNat = [79] by decide +kernel)
theorem dX6_begin_50 : decode cX6_begin 50 = .ok (.aload_n 0, 1) := dc_42 (show ((cX6_begin.data.toList.drop 50).take 1).map UInt8.toNat = [42] by decide +kernel)
theorem dX6_begin_51 : decode cX6_begin 51 = .ok (.getfield 28, 3) := dc_180 (show ((cX6_begin.data.toList.drop 51).take 3).map UInt8.toNat = [180, 0, 28] by decide +kernel) rfl
theorem dX6_begin_54 : decode cX6_begin 54 = .ok (.iload_n 2, 1) := dc_28 (show ((cX6_begin.data.toList.drop 54).take 1).map UInt8.toNat = [28] by decide +kernel)
theorem dX6_begin_55 : decode cX6_begin 55 = .ok (.iconst (-1), 1) := dc_2 (show ((cX6_begin.data.toList.drop 55).take 1).map UInt8.toNat = [2] by decide +kernel)
theorem dX6_begin_56 : decode cX6_begin 56 = .ok (.iastore, 1) := dc_79 (show ((cX6_begin.data.toList.drop 56).take 1).map UInt8.toNat = [79] by decide +kernel)
theorem dX6_begin_57 : decode cX6_begin 57 = .ok (.iinc 2 1, 3) := dc_132 (show ((cX6_begin.data.toList.drop 57).take 3).map UInt8.toNat = [132, 2, 1] by decide +kernel) rfl
theorem dX6_begin_60 : decode cX6_begin 60 = .ok (.goto (-53), 3) := dc_167 (show ((cX6_begin.data.toList.drop 60).take 3).map UInt8.toNat = [167, 255, 203] by decide +kernel) rfl
theorem dX6_begin_33 : decode cX6_begin 33 = .ok (.aload_n 1, 1) := dc_43 (show ((cX6_begin.data.toList.drop 33).take 1).map UInt8.toNat = [43] by decide +kernel)
theorem dX6_begin_34 : decode cX6_begin 34 = .ok (.iload_n 2, 1) := dc_28 (show ((cX6_begin.data.toList.drop 34).take 1).map UInt8.toNat = [28] by decide +kernel)
theorem dX6_begin_35 : decode cX6_begin 35 = .ok (.invokevirtual 47, 3) := dc_182 (show ((cX6_begin.data.toList.drop 35).take 3).map UInt8.toNat = [182, 0, 47] by decide +kernel) rfl
theorem w_713 : (Cond.methodLink "GooseBorder$Play" (47 : Nat) ({ cls := "GooseBorder$Border", name := "boots", desc := "(I)I" } : MethodName)) ∈ gb_wA := gb_t3 233 rfl rfl
theorem dX6_begin_38 : decode cX6_begin 38 = .ok (.goto 4, 3) := dc_167 (show ((cX6_begin.data.toList.drop 38).take 3).map UInt8.toNat = [167, 0, 4] by decide +kernel) rfl
def cs_Play_begin_B_7 (n : Nat) : Nat → gb_S → Nat → Int32 → gb_CR Unit
  | 0, _, _, _ => none
  | mm + 1, σ, v1, v2 => gb_kk (gb_kB v1) ((if (8 : Int32) ≤ v2 then gb_cd (cs_java_util_Arrays_fill_c116 n σ 0) (fun s_5 _ => gb_cd (cs_java_util_Arrays_fill_c117 n s_5 0) (fun s_9 _ => gb_cd (cs_java_util_Arrays_fill_c118 n s_9 0) (fun s_13 _ => gb_cd (cs_java_util_Arrays_fill_c119 n s_13 0) (fun s_17 _ => gb_lt (gb_su s_17 109 (upd (s_17.1 109) 9 0)) (fun s_21 => gb_lt (gb_su s_21 109 (upd (s_21.1 109) 10 0)) (fun s_22 => gb_lt (gb_su s_22 109 (upd (s_22.1 109) 11 0)) (fun s_23 => some (s_23, ())))))))) else gb_ck v2 8 (gb_lt (gb_su σ 112 (upd (σ.1 112) (Int32.toNatClampNeg v2) 0)) (fun s_25 => gb_cd (cs_Border_hasGoose_B n s_25 v1 v2) (fun s_26 r_27 => (if r_27 = 0 then gb_ck v2 8 (gb_lt (gb_su s_26 113 (upd (s_26.1 113) (Int32.toNatClampNeg v2) 0)) (fun s_32 => gb_ck v2 8 (gb_lt (gb_su s_32 114 (upd (s_32.1 114) (Int32.toNatClampNeg v2) 0)) (fun s_34 => gb_ck v2 8 (gb_lt (gb_su s_34 115 (upd (s_34.1 115) (Int32.toNatClampNeg v2) (-1))) (fun s_36 => gb_lt (v2 + 1) (fun x_37 => cs_Play_begin_B_7 n mm s_36 v1 x_37))))))) else gb_cd (cs_Border_boots_B n s_26 v1 v2) (fun s_38 r_39 => gb_ck v2 8 (gb_lt (gb_su s_38 113 (upd (s_38.1 113) (Int32.toNatClampNeg v2) r_39)) (fun s_43 => gb_ck v2 8 (gb_lt (gb_su s_43 114 (upd (s_43.1 114) (Int32.toNatClampNeg v2) 0)) (fun s_45 => gb_ck v2 8 (gb_lt (gb_su s_45 115 (upd (s_45.1 115) (Int32.toNatClampNeg v2) (-1))) (fun s_47 => gb_lt (v2 + 1) (fun x_48 => cs_Play_begin_B_7 n mm s_47 v1 x_48))))))))))))))
def cs_Play_begin_B (n : Nat) (σ : gb_S) (p1 : Nat) : gb_CR Unit := gb_kk (gb_kB p1) (gb_lt (gb_sq σ 1 p1) (fun s_2 => cs_Play_begin_B_7 n n s_2 p1 0))
set_option maxHeartbeats 8000000 in
set_option maxRecDepth 100000 in
theorem cc_Play_begin_B (l : Launch) (D : va_G) (cT : Nat → ClassId) (tt : Nat → Nat) (b1 b : Nat) (hb1 : b1 ≤ b) (n : Nat) (σ : gb_S) (p1 : Nat) (σE : gb_S) (rE : Unit) (h : cs_Play_begin_B n σ p1 = some (σE, rE)) : Met l yX6_begin (.code yX6_begin cX6_begin 3 none :: gb_wA) ({ frames := 2, cells := 0, slots := 0, locals := 41 }) (gb_Pc D cT tt b1 [.ref (b + 109), .ref (b + p1)] (fun h => va_P D vwCl (gb_wl b (gb_CW cT b σ)) h)) (gb_Qv (fun h => va_P D vwCl (gb_wl b (gb_CW cT b σE)) h) (gb_fr b 135)) 0 0 (gb_fr b 135) := by
  refine Met.ofW (cc := cX6_begin) (maxL := 3) (ret := none) (by decide) rfl ?_
  intro p e s m args below meth c s₁ B hml hv
  obtain ⟨rfl, hSt, hP⟩ := hv
  have hx := B.exec
  have hb := B.bytes
  have hr := B.returns
  have hts := atoms_spec (ws := .code yX6_begin cX6_begin 3 none :: gb_wA) B.pre
  have hq : ∀ w ∈ gb_wA, w.before _ s = true := fun w h => hts w (List.mem_cons_of_mem _ h)
  have hown : s.vm.findClass RX6 = some m.cls := findClass_of_methodNamed B.named
  have hlocks := B.notSynchronized
  clear B hts
  have hK := hSt.1
  have hS : va_S (gb_fr b 135) s.heap s.heap [] := va_S.rf
  have hl := lv_entry ([.ref (b + 109), .ref (b + p1)]) (n := 3) (Nat.le_of_ble_eq_true rfl)
  rw [lg_entry_eq]
  generalize (lg_sl ([.ref (b + 109), .ref (b + p1)]) ++ List.replicate (3 - (lg_sl ([.ref (b + 109), .ref (b + p1)])).length) Slot.unset).toArray = ls at hl ⊢
  replace hl : lv_has ls 3 [(0, .ref (b + 109)), (1, .ref (b + p1))] := hl
  have L7_1 : ∀ (mm : Nat) (σ : gb_S) (v1 : Nat) (v2 : Int32) (H : Heap) (locs : List Loc) (ls : Array Slot), cs_Play_begin_B_7 n mm σ v1 v2 = some (σE, rE) → va_P D vwCl (gb_wl b (gb_CW cT b σ)) H → va_S (gb_fr b 135) s.heap H locs → lv_has ls 3 [(0, .ref (b + 109)), (1, .ref (b + v1)), (2, .int v2)] → W p l e (headSpec (.code yX6_begin cX6_begin 3 none :: gb_wA) ({ frames := 2, cells := 0, slots := 0, locals := 41 })).room s m ([.ref (b + 109), .ref (b + p1)]).toArray below meth c H locs 0 0 (MQ below (gb_Qv (fun h => va_P D vwCl (gb_wl b (gb_CW cT b σE)) h) (gb_fr b 135)) ([.ref (b + 109), .ref (b + p1)]).toArray s 0 0 (gb_fr b 135)) (F0 m 7 ls []) := by
    clear h hP hS hl ls
    intro mm
    induction mm with
    | zero =>
      intro σ v1 v2 H locs ls h
      cases h
    | succ mm ih =>
      intro σ v1 v2 H locs ls h hP hS hl
      rw [cs_Play_begin_B_7] at h
      obtain ⟨z_3, h⟩ := gb_kk_s h
      refine lv_iload_n hx hb dX6_begin_7 rfl (lv_at hl 2 rfl) ?_
      refine lv_bipush (v := 8) hx hb dX6_begin_8 (by decide) ?_
      refine lv_icmp_ge (tgt := 63) hx hb dX6_begin_10 (by decide) (fun c_4 => ?_) (fun c_4 => ?_)
      · rw [if_pos c_4] at h
        refine lv_aload_n hx hb dX6_begin_63 rfl (lv_at hl 0 rfl) ?_
        refine va_get (ci := 5) (v := (.ref (b + 116))) (C := RX6) (T := TX6) (N := 12) hx hb hq i_X6 hown hK hP 109 (gb_at b rfl) rfl 5 (by decide) (hq _ w_206) (fun _ h9 => h9) rfl dX6_begin_64 ?_
        refine lv_iconst (v := 0) hx hb dX6_begin_67 (by decide) ?_
        obtain ⟨s_5, r_6, z_7, h⟩ := gb_cd_s h
        refine gb_callv (va_runS (As := [.ref (b + 116), .int 0]) (rest := []) ⟨hx, hb, hml, hown, hq⟩ (cc_java_util_Arrays_fill_c116 l D cT tt b1 b hb1 n σ 0 s_5 r_6 z_7) (va_cwS 2 hq (gb_gS w_714 w_715 w_20 w_716) rfl rfl rfl (by decide +kernel) ⟨Nat.le_of_ble_eq_true rfl, Nat.le_of_ble_eq_true rfl⟩) (gb_preS hSt hS (fun q h => Nat.le_trans hb1 h.1) hP) rfl rfl hl.1 rfl (lv_room (Nat.le_of_ble_eq_true rfl)) dX6_begin_68 ⟨Nat.le_of_ble_eq_true rfl, Nat.le_of_ble_eq_true rfl⟩) hS (fun _ h => h) (fun _ h => h) (fun H locs hY hk hS => ?_)
        have hP := hY
        refine lv_aload_n hx hb dX6_begin_71 rfl (lv_at hl 0 rfl) ?_
        refine va_get (ci := 5) (v := (.ref (b + 117))) (C := RX6) (T := TX6) (N := 12) hx hb hq i_X6 hown hK hP 109 (gb_at b rfl) rfl 6 (by decide) (hq _ w_208) (fun _ h9 => h9) rfl dX6_begin_72 ?_
        refine lv_iconst (v := 0) hx hb dX6_begin_75 (by decide) ?_
        obtain ⟨s_9, r_10, z_11, h⟩ := gb_cd_s h
        refine gb_callv (va_runS (As := [.ref (b + 117), .int 0]) (rest := []) ⟨hx, hb, hml, hown, hq⟩ (cc_java_util_Arrays_fill_c117 l D cT tt b1 b hb1 n s_5 0 s_9 r_10 z_11) (va_cwS 2 hq (gb_gS w_714 w_715 w_20 w_716) rfl rfl rfl (by decide +kernel) ⟨Nat.le_of_ble_eq_true rfl, Nat.le_of_ble_eq_true rfl⟩) (gb_preS hSt hS (fun q h => Nat.le_trans hb1 h.1) hP) rfl rfl hl.1 rfl (lv_room (Nat.le_of_ble_eq_true rfl)) dX6_begin_76 ⟨Nat.le_of_ble_eq_true rfl, Nat.le_of_ble_eq_true rfl⟩) hS (fun _ h => h) (fun _ h => h) (fun H locs hY hk hS => ?_)
        have hP := hY
        refine lv_aload_n hx hb dX6_begin_79 rfl (lv_at hl 0 rfl) ?_
        refine va_get (ci := 5) (v := (.ref (b + 118))) (C := RX6) (T := TX6) (N := 12) hx hb hq i_X6 hown hK hP 109 (gb_at b rfl) rfl 7 (by decide) (hq _ w_210) (fun _ h9 => h9) rfl dX6_begin_80 ?_
        refine lv_iconst (v := 0) hx hb dX6_begin_83 (by decide) ?_
        obtain ⟨s_13, r_14, z_15, h⟩ := gb_cd_s h
        refine gb_callv (va_runS (As := [.ref (b + 118), .int 0]) (rest := []) ⟨hx, hb, hml, hown, hq⟩ (cc_java_util_Arrays_fill_c118 l D cT tt b1 b hb1 n s_9 0 s_13 r_14 z_15) (va_cwS 2 hq (gb_gS w_714 w_715 w_20 w_716) rfl rfl rfl (by decide +kernel) ⟨Nat.le_of_ble_eq_true rfl, Nat.le_of_ble_eq_true rfl⟩) (gb_preS hSt hS (fun q h => Nat.le_trans hb1 h.1) hP) rfl rfl hl.1 rfl (lv_room (Nat.le_of_ble_eq_true rfl)) dX6_begin_84 ⟨Nat.le_of_ble_eq_true rfl, Nat.le_of_ble_eq_true rfl⟩) hS (fun _ h => h) (fun _ h => h) (fun H locs hY hk hS => ?_)
        have hP := hY
        refine lv_aload_n hx hb dX6_begin_87 rfl (lv_at hl 0 rfl) ?_
        refine va_get (ci := 5) (v := (.ref (b + 119))) (C := RX6) (T := TX6) (N := 12) hx hb hq i_X6 hown hK hP 109 (gb_at b rfl) rfl 8 (by decide) (hq _ w_212) (fun _ h9 => h9) rfl dX6_begin_88 ?_
        refine lv_iconst (v := 0) hx hb dX6_begin_91 (by decide) ?_
        obtain ⟨s_17, r_18, z_19, h⟩ := gb_cd_s h
        refine gb_callv (va_runS (As := [.ref (b + 119), .int 0]) (rest := []) ⟨hx, hb, hml, hown, hq⟩ (cc_java_util_Arrays_fill_c119 l D cT tt b1 b hb1 n s_13 0 s_17 r_18 z_19) (va_cwS 2 hq (gb_gS w_714 w_715 w_20 w_716) rfl rfl rfl (by decide +kernel) ⟨Nat.le_of_ble_eq_true rfl, Nat.le_of_ble_eq_true rfl⟩) (gb_preS hSt hS (fun q h => Nat.le_trans hb1 h.1) hP) rfl rfl hl.1 rfl (lv_room (Nat.le_of_ble_eq_true rfl)) dX6_begin_92 ⟨Nat.le_of_ble_eq_true rfl, Nat.le_of_ble_eq_true rfl⟩) hS (fun _ h => h) (fun _ h => h) (fun H locs hY hk hS => ?_)
        have hP := hY
        refine lv_aload_n hx hb dX6_begin_95 rfl (lv_at hl 0 rfl) ?_
        refine lv_iconst (v := 0) hx hb dX6_begin_96 (by decide) ?_
        refine gb_put (ci := 5) (v := (.int 0)) (ty := .int) (C := RX6) (T := TX6) (N := 12) hx hb hq i_X6 tyX6 tyX6_ok nmX6 hown hK hP (fun k h => ⟨Nat.le_add_right b k, Nat.add_lt_add_left h b⟩) hS rfl 109 rfl rfl 9 (by decide) (hq _ w_213) (fun _ h9 => h9) rfl (by decide +kernel) rfl rfl (Nat.le_of_ble_eq_true rfl) dX6_begin_97 (fun H locs hP hz_ hS => ?_)
        obtain ⟨s_21, es_21⟩ : ∃ q, q = (gb_su s_17 109 (upd (s_17.1 109) 9 0)) := ⟨_, rfl⟩
        replace hP : va_P D vwCl (gb_wl b (gb_CW cT b s_21)) H := by rw [es_21]; exact hP
        replace h := gb_lt_s es_21 h
        refine lv_aload_n hx hb dX6_begin_100 rfl (lv_at hl 0 rfl) ?_
        refine lv_iconst (v := 0) hx hb dX6_begin_101 (by decide) ?_
        refine gb_put (ci := 5) (v := (.int 0)) (ty := .boolean) (C := RX6) (T := TX6) (N := 12) hx hb hq i_X6 tyX6 tyX6_ok nmX6 hown hK hP (fun k h => ⟨Nat.le_add_right b k, Nat.add_lt_add_left h b⟩) hS rfl 109 rfl rfl 10 (by decide) (hq _ w_214) (fun _ h9 => h9) rfl (by decide +kernel) (by decide) (by decide) (Nat.le_of_ble_eq_true rfl) dX6_begin_102 (fun H locs hP hz_ hS => ?_)
        obtain ⟨s_22, es_22⟩ : ∃ q, q = (gb_su s_21 109 (upd (s_21.1 109) 10 0)) := ⟨_, rfl⟩
        replace hP : va_P D vwCl (gb_wl b (gb_CW cT b s_22)) H := by rw [es_22]; exact hP
        replace h := gb_lt_s es_22 h
        refine lv_aload_n hx hb dX6_begin_105 rfl (lv_at hl 0 rfl) ?_
        refine lv_iconst (v := 0) hx hb dX6_begin_106 (by decide) ?_
        refine gb_put (ci := 5) (v := (.int 0)) (ty := .int) (C := RX6) (T := TX6) (N := 12) hx hb hq i_X6 tyX6 tyX6_ok nmX6 hown hK hP (fun k h => ⟨Nat.le_add_right b k, Nat.add_lt_add_left h b⟩) hS rfl 109 rfl rfl 11 (by decide) (hq _ w_216) (fun _ h9 => h9) rfl (by decide +kernel) rfl rfl (Nat.le_of_ble_eq_true rfl) dX6_begin_107 (fun H locs hP hz_ hS => ?_)
        obtain ⟨s_23, es_23⟩ : ∃ q, q = (gb_su s_22 109 (upd (s_22.1 109) 11 0)) := ⟨_, rfl⟩
        replace hP : va_P D vwCl (gb_wl b (gb_CW cT b s_23)) H := by rw [es_23]; exact hP
        replace h := gb_lt_s es_23 h
        obtain ⟨e1, -⟩ := gb_eq2 h
        exact W.vret hx hb hr (fun t ht hW => gb_rv ht (by rw [← e1]; exact hP) hS) hS.2.2 dX6_begin_110
      · rw [if_neg c_4] at h
        refine lv_aload_n hx hb dX6_begin_13 rfl (lv_at hl 0 rfl) ?_
        refine va_get (ci := 5) (v := (.ref (b + 112))) (C := RX6) (T := TX6) (N := 12) hx hb hq i_X6 hown hK hP 109 (gb_at b rfl) rfl 1 (by decide) (hq _ w_198) (fun _ h9 => h9) rfl dX6_begin_14 ?_
        refine lv_iload_n hx hb dX6_begin_17 rfl (lv_at hl 2 rfl) ?_
        refine lv_iconst (v := 0) hx hb dX6_begin_18 (by decide) ?_
        obtain ⟨z_24, h⟩ := gb_ck_s h
        refine va_iast (x := 0) hx hb hK hP (gb_D (fun k h => ⟨Nat.le_add_right b k, Nat.add_lt_add_left h b⟩)) hS 112 0 (gb_at b rfl) rfl z_24 dX6_begin_19 (fun H locs hP hD hS => ?_)
        rw [gb_set] at hP
        obtain ⟨s_25, es_25⟩ : ∃ q, q = (gb_su σ 112 (upd (σ.1 112) (Int32.toNatClampNeg v2) 0)) := ⟨_, rfl⟩
        replace hP : va_P D vwCl (gb_wl b (gb_CW cT b s_25)) H := by rw [es_25]; exact hP
        replace h := gb_lt_s es_25 h
        refine lv_aload_n hx hb dX6_begin_20 rfl (lv_at hl 0 rfl) ?_
        refine va_get (ci := 5) (v := (.ref (b + 113))) (C := RX6) (T := TX6) (N := 12) hx hb hq i_X6 hown hK hP 109 (gb_at b rfl) rfl 2 (by decide) (hq _ w_200) (fun _ h9 => h9) rfl dX6_begin_21 ?_
        refine lv_iload_n hx hb dX6_begin_24 rfl (lv_at hl 2 rfl) ?_
        refine lv_aload_n hx hb dX6_begin_25 rfl (lv_at hl 1 rfl) ?_
        refine lv_iload_n hx hb dX6_begin_26 rfl (lv_at hl 2 rfl) ?_
        obtain ⟨s_26, r_27, z_28, h⟩ := gb_cd_s h
        refine gb_calli (va_runV (C := RX0) (As := [.int v2]) (rest := [.int v2, .ref (b + 113)]) ⟨hx, hb, hml, hown, hq⟩ (cc_Border_hasGoose_B l D cT tt b1 b hb1 n s_25 v1 v2 s_26 r_27 z_28) (cwV 1 hq (gb_gV w_712 w_612 w_613 w_4 w_614) rfl rfl rfl (by decide +kernel) ⟨Nat.le_of_ble_eq_true rfl, Nat.le_of_ble_eq_true rfl⟩) (gb_preV (r := (RX0, TX0, 1)) (ci := 0) (q0 := v1) hSt hP rfl (gb_at b (gb_cB z_3).1) hS (fun q h => Nat.le_trans hb1 h.1) hP) rfl rfl hl.1 rfl (lv_room (Nat.le_of_ble_eq_true rfl)) dX6_begin_27 ⟨Nat.le_of_ble_eq_true rfl, Nat.le_of_ble_eq_true rfl⟩) hS (fun _ h => h) (fun _ h => h) (fun q_29 H locs hY hk hS => ?_)
        obtain ⟨hq_29, hP⟩ := hY
        replace hq_29 := hq_29.symm
        subst hq_29
        refine lv_if_eq (tgt := 41) hx hb dX6_begin_30 (by decide) (fun c_30 => ?_) (fun c_30 => ?_)
        · rw [if_pos c_30] at h
          refine lv_iconst (v := 0) hx hb dX6_begin_41 (by decide) ?_
          obtain ⟨z_31, h⟩ := gb_ck_s h
          refine va_iast (x := 0) hx hb hK hP (gb_D (fun k h => ⟨Nat.le_add_right b k, Nat.add_lt_add_left h b⟩)) hS 113 0 (gb_at b rfl) rfl z_31 dX6_begin_42 (fun H locs hP hD hS => ?_)
          rw [gb_set] at hP
          obtain ⟨s_32, es_32⟩ : ∃ q, q = (gb_su s_26 113 (upd (s_26.1 113) (Int32.toNatClampNeg v2) 0)) := ⟨_, rfl⟩
          replace hP : va_P D vwCl (gb_wl b (gb_CW cT b s_32)) H := by rw [es_32]; exact hP
          replace h := gb_lt_s es_32 h
          refine lv_aload_n hx hb dX6_begin_43 rfl (lv_at hl 0 rfl) ?_
          refine va_get (ci := 5) (v := (.ref (b + 114))) (C := RX6) (T := TX6) (N := 12) hx hb hq i_X6 hown hK hP 109 (gb_at b rfl) rfl 3 (by decide) (hq _ w_202) (fun _ h9 => h9) rfl dX6_begin_44 ?_
          refine lv_iload_n hx hb dX6_begin_47 rfl (lv_at hl 2 rfl) ?_
          refine lv_iconst (v := 0) hx hb dX6_begin_48 (by decide) ?_
          obtain ⟨z_33, h⟩ := gb_ck_s h
          refine va_iast (x := 0) hx hb hK hP (gb_D (fun k h => ⟨Nat.le_add_right b k, Nat.add_lt_add_left h b⟩)) hS 114 0 (gb_at b rfl) rfl z_33 dX6_begin_49 (fun H locs hP hD hS => ?_)
          rw [gb_set] at hP
          obtain ⟨s_34, es_34⟩ : ∃ q, q = (gb_su s_32 114 (upd (s_32.1 114) (Int32.toNatClampNeg v2) 0)) := ⟨_, rfl⟩
          replace hP : va_P D vwCl (gb_wl b (gb_CW cT b s_34)) H := by rw [es_34]; exact hP
          replace h := gb_lt_s es_34 h
          refine lv_aload_n hx hb dX6_begin_50 rfl (lv_at hl 0 rfl) ?_
          refine va_get (ci := 5) (v := (.ref (b + 115))) (C := RX6) (T := TX6) (N := 12) hx hb hq i_X6 hown hK hP 109 (gb_at b rfl) rfl 4 (by decide) (hq _ w_204) (fun _ h9 => h9) rfl dX6_begin_51 ?_
          refine lv_iload_n hx hb dX6_begin_54 rfl (lv_at hl 2 rfl) ?_
          refine lv_iconst (v := (-1)) hx hb dX6_begin_55 (by decide) ?_
          obtain ⟨z_35, h⟩ := gb_ck_s h
          refine va_iast (x := (-1)) hx hb hK hP (gb_D (fun k h => ⟨Nat.le_add_right b k, Nat.add_lt_add_left h b⟩)) hS 115 0 (gb_at b rfl) rfl z_35 dX6_begin_56 (fun H locs hP hD hS => ?_)
          rw [gb_set] at hP
          obtain ⟨s_36, es_36⟩ : ∃ q, q = (gb_su s_34 115 (upd (s_34.1 115) (Int32.toNatClampNeg v2) (-1))) := ⟨_, rfl⟩
          replace hP : va_P D vwCl (gb_wl b (gb_CW cT b s_36)) H := by rw [es_36]; exact hP
          replace h := gb_lt_s es_36 h
          obtain ⟨x_37, ex_37⟩ : ∃ q, q = (v2 + 1) := ⟨_, rfl⟩
          replace h := gb_lt_s ex_37 h
          refine lv_iinc (v := x_37) (lv' := [(2, .int x_37), (0, .ref (b + 109)), (1, .ref (b + v1))]) hx hb dX6_begin_57 hl (k := 2) rfl (by rw [ex_37]; rfl) (by decide) rfl (fun ls hl => ?_)
          refine lv_goto (tgt := 7) hx hb dX6_begin_60 (by decide) ?_
          exact ih _ _ _ _ _ _ h hP hS (lv_sub hl [1, 2, 0] rfl)
        · rw [if_neg c_30] at h
          refine lv_aload_n hx hb dX6_begin_33 rfl (lv_at hl 1 rfl) ?_
          refine lv_iload_n hx hb dX6_begin_34 rfl (lv_at hl 2 rfl) ?_
          obtain ⟨s_38, r_39, z_40, h⟩ := gb_cd_s h
          refine gb_calli (va_runV (C := RX0) (As := [.int v2]) (rest := [.int v2, .ref (b + 113)]) ⟨hx, hb, hml, hown, hq⟩ (cc_Border_boots_B l D cT tt b1 b hb1 n s_26 v1 v2 s_38 r_39 z_40) (cwV 1 hq (gb_gV w_713 w_626 w_627 w_4 w_628) rfl rfl rfl (by decide +kernel) ⟨Nat.le_of_ble_eq_true rfl, Nat.le_of_ble_eq_true rfl⟩) (gb_preV (r := (RX0, TX0, 1)) (ci := 0) (q0 := v1) hSt hP rfl (gb_at b (gb_cB z_3).1) hS (fun q h => Nat.le_trans hb1 h.1) hP) rfl rfl hl.1 rfl (lv_room (Nat.le_of_ble_eq_true rfl)) dX6_begin_35 ⟨Nat.le_of_ble_eq_true rfl, Nat.le_of_ble_eq_true rfl⟩) hS (fun _ h => h) (fun _ h => h) (fun q_41 H locs hY hk hS => ?_)
          obtain ⟨hq_41, hP⟩ := hY
          replace hq_41 := hq_41.symm
          subst hq_41
          refine lv_goto (tgt := 42) hx hb dX6_begin_38 (by decide) ?_
          obtain ⟨z_42, h⟩ := gb_ck_s h
          refine va_iast (x := r_39) hx hb hK hP (gb_D (fun k h => ⟨Nat.le_add_right b k, Nat.add_lt_add_left h b⟩)) hS 113 0 (gb_at b rfl) rfl z_42 dX6_begin_42 (fun H locs hP hD hS => ?_)
          rw [gb_set] at hP
          obtain ⟨s_43, es_43⟩ : ∃ q, q = (gb_su s_38 113 (upd (s_38.1 113) (Int32.toNatClampNeg v2) r_39)) := ⟨_, rfl⟩
          replace hP : va_P D vwCl (gb_wl b (gb_CW cT b s_43)) H := by rw [es_43]; exact hP
          replace h := gb_lt_s es_43 h
          refine lv_aload_n hx hb dX6_begin_43 rfl (lv_at hl 0 rfl) ?_
          refine va_get (ci := 5) (v := (.ref (b + 114))) (C := RX6) (T := TX6) (N := 12) hx hb hq i_X6 hown hK hP 109 (gb_at b rfl) rfl 3 (by decide) (hq _ w_202) (fun _ h9 => h9) rfl dX6_begin_44 ?_
          refine lv_iload_n hx hb dX6_begin_47 rfl (lv_at hl 2 rfl) ?_
          refine lv_iconst (v := 0) hx hb dX6_begin_48 (by decide) ?_
          obtain ⟨z_44, h⟩ := gb_ck_s h
          refine va_iast (x := 0) hx hb hK hP (gb_D (fun k h => ⟨Nat.le_add_right b k, Nat.add_lt_add_left h b⟩)) hS 114 0 (gb_at b rfl) rfl z_44 dX6_begin_49 (fun H locs hP hD hS => ?_)
          rw [gb_set] at hP
          obtain ⟨s_45, es_45⟩ : ∃ q, q = (gb_su s_43 114 (upd (s_43.1 114) (Int32.toNatClampNeg v2) 0)) := ⟨_, rfl⟩
          replace hP : va_P D vwCl (gb_wl b (gb_CW cT b s_45)) H := by rw [es_45]; exact hP
          replace h := gb_lt_s es_45 h
          refine lv_aload_n hx hb dX6_begin_50 rfl (lv_at hl 0 rfl) ?_
          refine va_get (ci := 5) (v := (.ref (b + 115))) (C := RX6) (T := TX6) (N := 12) hx hb hq i_X6 hown hK hP 109 (gb_at b rfl) rfl 4 (by decide) (hq _ w_204) (fun _ h9 => h9) rfl dX6_begin_51 ?_
          refine lv_iload_n hx hb dX6_begin_54 rfl (lv_at hl 2 rfl) ?_
          refine lv_iconst (v := (-1)) hx hb dX6_begin_55 (by decide) ?_
          obtain ⟨z_46, h⟩ := gb_ck_s h
          refine va_iast (x := (-1)) hx hb hK hP (gb_D (fun k h => ⟨Nat.le_add_right b k, Nat.add_lt_add_left h b⟩)) hS 115 0 (gb_at b rfl) rfl z_46 dX6_begin_56 (fun H locs hP hD hS => ?_)
          rw [gb_set] at hP
          obtain ⟨s_47, es_47⟩ : ∃ q, q = (gb_su s_45 115 (upd (s_45.1 115) (Int32.toNatClampNeg v2) (-1))) := ⟨_, rfl⟩
          replace hP : va_P D vwCl (gb_wl b (gb_CW cT b s_47)) H := by rw [es_47]; exact hP
          replace h := gb_lt_s es_47 h
          obtain ⟨x_48, ex_48⟩ : ∃ q, q = (v2 + 1) := ⟨_, rfl⟩
          replace h := gb_lt_s ex_48 h
          refine lv_iinc (v := x_48) (lv' := [(2, .int x_48), (0, .ref (b + 109)), (1, .ref (b + v1))]) hx hb dX6_begin_57 hl (k := 2) rfl (by rw [ex_48]; rfl) (by decide) rfl (fun ls hl => ?_)
          refine lv_goto (tgt := 7) hx hb dX6_begin_60 (by decide) ?_
          exact ih _ _ _ _ _ _ h hP hS (lv_sub hl [1, 2, 0] rfl)
  unfold cs_Play_begin_B at h
  obtain ⟨z_1, h⟩ := gb_kk_s h
  refine lv_aload_n hx hb dX6_begin_0 rfl (lv_at hl 0 rfl) ?_
  refine lv_aload_n hx hb dX6_begin_1 rfl (lv_at hl 1 rfl) ?_
  refine gb_put (ci := 5) (v := (.ref (b + p1))) (ty := .object "GooseBorder$Border") (C := RX6) (T := TX6) (N := 12) hx hb hq i_X6 tyX6 tyX6_ok nmX6 hown hK hP (fun k h => ⟨Nat.le_add_right b k, Nat.add_lt_add_left h b⟩) hS rfl 109 rfl rfl 0 (by decide) (hq _ w_197) (fun _ h9 => h9) rfl (by decide +kernel) rfl rfl (Nat.le_of_ble_eq_true rfl) dX6_begin_2 (fun H locs hP hz_ hS => ?_)
  obtain ⟨s_2, es_2⟩ : ∃ q, q = (gb_sq σ 1 p1) := ⟨_, rfl⟩
  replace hP : va_P D vwCl (gb_wl b (gb_CW cT b s_2)) H := by rw [es_2]; exact hP
  replace h := gb_lt_s es_2 h
  refine lv_iconst (v := 0) hx hb dX6_begin_5 (by decide) ?_
  refine lv_istore_n (lv' := [(2, .int 0), (0, .ref (b + 109)), (1, .ref (b + p1))]) hx hb dX6_begin_6 rfl hl (by decide) rfl (fun ls hl => ?_)
  exact L7_1 n _ _ _ _ _ _ h hP hS (lv_sub hl [1, 2, 0] rfl)
theorem w_711 : (Cond.code ({ cls := "GooseBorder$Play", name := "begin", desc := "(LGooseBorder$Border;)V" } : MethodName) prog_8_method_2_code (3 : Nat) (Option.none : Option FieldType)) ∈ gb_wA := gb_t3 231 rfl rfl
theorem w_708 : (Cond.methodLink "GooseBorder$Play" (67 : Nat) ({ cls := "GooseBorder$Play", name := "begin", desc := "(LGooseBorder$Border;)V" } : MethodName)) ∈ gb_wA := gb_t3 228 rfl rfl
theorem w_709 : (Cond.instanceMethod ({ cls := "GooseBorder$Play", name := "begin", desc := "(LGooseBorder$Border;)V" } : MethodName)) ∈ gb_wA := gb_t3 229 rfl rfl
theorem w_710 : (Cond.selects "GooseBorder$Play" ({ cls := "GooseBorder$Play", name := "begin", desc := "(LGooseBorder$Border;)V" } : MethodName) ({ cls := "GooseBorder$Play", name := "begin", desc := "(LGooseBorder$Border;)V" } : MethodName)) ∈ gb_wA := gb_t3 230 rfl rfl
theorem dX6_run_5 : decode cX6_run 5 = .ok (.iload_n 3, 1) := dc_29 (show ((cX6_run.data.toList.drop 5).take 1).map UInt8.toNat = [29] by decide +kernel)
theorem dX6_run_6 : decode cX6_run 6 = .ok (.aload_n 2, 1) := dc_44 (show ((cX6_run.data.toList.drop 6).take 1).map UInt8.toNat = [44] by decide +kernel)
theorem dX6_run_7 : decode cX6_run 7 = .ok (.invokevirtual 71, 3) := dc_182 (show ((cX6_run.data.toList.drop 7).take 3).map UInt8.toNat = [182, 0, 71] by decide +kernel) rfl
theorem w_717 : (Cond.methodLink "GooseBorder$Play" (71 : Nat) ({ cls := "GooseBorder$Night", name := "size", desc := "()I" } : MethodName)) ∈ gb_wA := gb_t3 237 rfl rfl
theorem dX6_run_10 : decode cX6_run 10 = .ok (.invokestatic 77, 3) := dc_184 (show ((cX6_run.data.toList.drop 10).take 3).map UInt8.toNat = [184, 0, 77] by decide +kernel) rfl
theorem w_718 : (Cond.methodLink "GooseBorder$Play" (77 : Nat) ({ cls := "java/lang/Math", name := "min", desc := "(II)I" } : MethodName)) ∈ gb_wA := gb_t3 238 rfl rfl
theorem dX6_run_13 : decode cX6_run 13 = .ok (.istore 5, 2) := dc_54 (show ((cX6_run.data.toList.drop 13).take 2).map UInt8.toNat = [54, 5] by decide +kernel) rfl
theorem dX6_run_15 : decode cX6_run 15 = .ok (.iconst 0, 1) := dc_3 (show ((cX6_run.data.toList.drop 15).take 1).map UInt8.toNat = [3] by decide +kernel)
theorem dX6_run_16 : decode cX6_run 16 = .ok (.istore 6, 2) := dc_54 (show ((cX6_run.data.toList.drop 16).take 2).map UInt8.toNat = [54, 6] by decide +kernel) rfl
theorem dX6_run_18 : decode cX6_run 18 = .ok (.iload 6, 2) := dc_21 (show ((cX6_run.data.toList.drop 18).take 2).map UInt8.toNat = [21, 6] by decide +kernel) rfl
theorem dX6_run_20 : decode cX6_run 20 = .ok (.iload 5, 2) := dc_21 (show ((cX6_run.data.toList.drop 20).take 2).map UInt8.toNat = [21, 5] by decide +kernel) rfl
theorem dX6_run_22 : decode cX6_run 22 = .ok (.if_icmp .ge 47, 3) := dc_162 (show ((cX6_run.data.toList.drop 22).take 3).map UInt8.toNat = [162, 0, 47] by decide +kernel) rfl
theorem dX6_run_69 : decode cX6_run 69 = .ok (.return_, 1) := dc_177 (show ((cX6_run.data.toList.drop 69).take 1).map UInt8.toNat = [177] by decide +kernel)
theorem dX6_run_25 : decode cX6_run 25 = .ok (.aload_n 0, 1) := dc_42 (show ((cX6_run.data.toList.drop 25).take 1).map UInt8.toNat = [42] by decide +kernel)
theorem dX6_run_26 : decode cX6_run 26 = .ok (.aload_n 2, 1) := dc_44 (show ((cX6_run.data.toList.drop 26).take 1).map UInt8.toNat = [44] by decide +kernel)
theorem dX6_run_27 : decode cX6_run 27 = .ok (.iload 6, 2) := dc_21 (show ((cX6_run.data.toList.drop 27).take 2).map UInt8.toNat = [21, 6] by decide +kernel) rfl
theorem dX6_run_29 : decode cX6_run 29 = .ok (.invokevirtual 83, 3) := dc_182 (show ((cX6_run.data.toList.drop 29).take 3).map UInt8.toNat = [182, 0, 83] by decide +kernel) rfl
theorem dX6_canBe_0 : decode cX6_canBe 0 = .ok (.aload_n 1, 1) := dc_43 (show ((cX6_canBe.data.toList.drop 0).take 1).map UInt8.toNat = [43] by decide +kernel)
theorem dX6_canBe_1 : decode cX6_canBe 1 = .ok (.iload_n 2, 1) := dc_28 (show ((cX6_canBe.data.toList.drop 1).take 1).map UInt8.toNat = [28] by decide +kernel)
theorem dX6_canBe_2 : decode cX6_canBe 2 = .ok (.iconst 1, 1) := dc_4 (show ((cX6_canBe.data.toList.drop 2).take 1).map UInt8.toNat = [4] by decide +kernel)
theorem dX6_canBe_3 : decode cX6_canBe 3 = .ok (.invokevirtual 91, 3) := dc_182 (show ((cX6_canBe.data.toList.drop 3).take 3).map UInt8.toNat = [182, 0, 91] by decide +kernel) rfl
theorem w_723 : (Cond.methodLink "GooseBorder$Play" (91 : Nat) ({ cls := "GooseBorder$Night", name := "cell", desc := "(II)I" } : MethodName)) ∈ gb_wA := gb_t4 3 rfl rfl
theorem w_724 : (Cond.sameMethod "GooseBorder$Night" "GooseBorder$Lines" "cell" "(II)I") ∈ gb_wA := gb_t4 4 rfl rfl
theorem w_725 : (Cond.selects "GooseBorder$Night" ({ cls := "GooseBorder$Night", name := "cell", desc := "(II)I" } : MethodName) ({ cls := "GooseBorder$Lines", name := "cell", desc := "(II)I" } : MethodName)) ∈ gb_wA := gb_t4 5 rfl rfl
theorem dX6_canBe_6 : decode cX6_canBe 6 = .ok (.istore_n 3, 1) := dc_62 (show ((cX6_canBe.data.toList.drop 6).take 1).map UInt8.toNat = [62] by decide +kernel)
theorem dX6_canBe_7 : decode cX6_canBe 7 = .ok (.aload_n 1, 1) := dc_43 (show ((cX6_canBe.data.toList.drop 7).take 1).map UInt8.toNat = [43] by decide +kernel)
theorem dX6_canBe_8 : decode cX6_canBe 8 = .ok (.iload_n 2, 1) := dc_28 (show ((cX6_canBe.data.toList.drop 8).take 1).map UInt8.toNat = [28] by decide +kernel)
theorem dX6_canBe_9 : decode cX6_canBe 9 = .ok (.iconst 2, 1) := dc_5 (show ((cX6_canBe.data.toList.drop 9).take 1).map UInt8.toNat = [5] by decide +kernel)
theorem dX6_canBe_10 : decode cX6_canBe 10 = .ok (.invokevirtual 91, 3) := dc_182 (show ((cX6_canBe.data.toList.drop 10).take 3).map UInt8.toNat = [182, 0, 91] by decide +kernel) rfl
theorem dX6_canBe_13 : decode cX6_canBe 13 = .ok (.istore 4, 2) := dc_54 (show ((cX6_canBe.data.toList.drop 13).take 2).map UInt8.toNat = [54, 4] by decide +kernel) rfl
theorem dX6_canBe_15 : decode cX6_canBe 15 = .ok (.aload_n 1, 1) := dc_43 (show ((cX6_canBe.data.toList.drop 15).take 1).map UInt8.toNat = [43] by decide +kernel)
theorem dX6_canBe_16 : decode cX6_canBe 16 = .ok (.iload_n 2, 1) := dc_28 (show ((cX6_canBe.data.toList.drop 16).take 1).map UInt8.toNat = [28] by decide +kernel)
theorem dX6_canBe_17 : decode cX6_canBe 17 = .ok (.invokevirtual 94, 3) := dc_182 (show ((cX6_canBe.data.toList.drop 17).take 3).map UInt8.toNat = [182, 0, 94] by decide +kernel) rfl
def cs_Lines_kind_N (n : Nat) (σ : gb_S) (k0 : Nat) (p1 : Int32) : gb_CR Int32 := gb_kk (gb_kN k0) (gb_cd (cs_Lines_cell_N n σ k0 p1 0) (fun s_2 r_3 => some (s_2, r_3)))
set_option maxHeartbeats 8000000 in
set_option maxRecDepth 100000 in
theorem cc_Lines_kind_N (l : Launch) (D : va_G) (cT : Nat → ClassId) (tt : Nat → Nat) (b1 b : Nat) (hb1 : b1 ≤ b) (n : Nat) (σ : gb_S) (k0 : Nat) (p1 : Int32) (σE : gb_S) (rE : Int32) (h : cs_Lines_kind_N n σ k0 p1 = some (σE, rE)) : Met l yX4_kind (.code yX4_kind cX4_kind 2 (some FieldType.int) :: gb_wA) ({ frames := 1, cells := 0, slots := 0, locals := 22 }) (gb_Pc D cT tt b1 [.ref (b + k0), .int p1] (fun h => va_P D vwCl (gb_wl b (gb_CW cT b σ)) h)) (gb_Qi (fun r h => r = rE ∧ va_P D vwCl (gb_wl b (gb_CW cT b σE)) h) (gb_fr b 135)) 0 0 (gb_fr b 135) := by
  refine Met.ofW (cc := cX4_kind) (maxL := 2) (ret := (some FieldType.int)) (by decide) rfl ?_
  intro p e s m args below meth c s₁ B hml hv
  obtain ⟨rfl, hSt, hP⟩ := hv
  have hx := B.exec
  have hb := B.bytes
  have hr := B.returns
  have hts := atoms_spec (ws := .code yX4_kind cX4_kind 2 (some FieldType.int) :: gb_wA) B.pre
  have hq : ∀ w ∈ gb_wA, w.before _ s = true := fun w h => hts w (List.mem_cons_of_mem _ h)
  have hown : s.vm.findClass RX4 = some m.cls := findClass_of_methodNamed B.named
  have hlocks := B.notSynchronized
  clear B hts
  have hK := hSt.1
  have hS : va_S (gb_fr b 135) s.heap s.heap [] := va_S.rf
  have hl := lv_entry ([.ref (b + k0), .int p1]) (n := 2) (Nat.le_of_ble_eq_true rfl)
  rw [lg_entry_eq]
  generalize (lg_sl ([.ref (b + k0), .int p1]) ++ List.replicate (2 - (lg_sl ([.ref (b + k0), .int p1])).length) Slot.unset).toArray = ls at hl ⊢
  replace hl : lv_has ls 2 [(0, .ref (b + k0)), (1, .int p1)] := hl
  unfold cs_Lines_kind_N at h
  obtain ⟨z_1, h⟩ := gb_kk_s h
  refine lv_aload_n hx hb dX4_kind_0 rfl (lv_at hl 0 rfl) ?_
  refine lv_iload_n hx hb dX4_kind_1 rfl (lv_at hl 1 rfl) ?_
  refine lv_iconst (v := 0) hx hb dX4_kind_2 (by decide) ?_
  obtain ⟨s_2, r_3, z_4, h⟩ := gb_cd_s h
  refine gb_calli (va_runU (x := yX4_cell) (C := RX5) (owner := "GooseBorder$Lines") (As := [.int p1, .int 0]) (rest := []) ⟨hx, hb, hml, hown, hq⟩ (cc_Lines_cell_N l D cT tt b1 b hb1 n σ k0 p1 0 s_2 r_3 z_4) (va_cwU (owner := "GooseBorder$Lines") (C := RX5) 2 hq (gb_gU w_691 w_1730 w_1733 w_546 w_6 w_547) rfl rfl rfl rfl (by decide +kernel) ⟨Nat.le_of_ble_eq_true rfl, Nat.le_of_ble_eq_true rfl⟩) (gb_preV (r := (RX5, TX5, 4)) (ci := 4) (q0 := k0) hSt hP rfl (gb_at b (gb_cN z_1).1) hS (fun q h => Nat.le_trans hb1 h.1) hP) rfl rfl hl.1 rfl (lv_room (Nat.le_of_ble_eq_true rfl)) dX4_kind_3 ⟨Nat.le_of_ble_eq_true rfl, Nat.le_of_ble_eq_true rfl⟩) hS (fun _ h => h) (fun _ h => h) (fun q_5 H locs hY hk hS => ?_)
  obtain ⟨hq_5, hP⟩ := hY
  replace hq_5 := hq_5.symm
  subst hq_5
  obtain ⟨e1, e2⟩ := gb_eq2 h
  exact W.iret (v := r_3) hx hb hr (fun t ht hW => gb_ri ht ⟨e2, by rw [← e1]; exact hP⟩ hS) hS.2.2 dX4_kind_6
theorem w_726 : (Cond.methodLink "GooseBorder$Play" (94 : Nat) ({ cls := "GooseBorder$Night", name := "kind", desc := "(I)I" } : MethodName)) ∈ gb_wA := gb_t4 6 rfl rfl
theorem w_727 : (Cond.sameMethod "GooseBorder$Night" "GooseBorder$Lines" "kind" "(I)I") ∈ gb_wA := gb_t4 7 rfl rfl
theorem w_728 : (Cond.selects "GooseBorder$Night" ({ cls := "GooseBorder$Night", name := "kind", desc := "(I)I" } : MethodName) ({ cls := "GooseBorder$Lines", name := "kind", desc := "(I)I" } : MethodName)) ∈ gb_wA := gb_t4 8 rfl rfl
theorem dX6_canBe_20 : decode cX6_canBe 20 = .ok (.tableswitch 197 0 8 #[52, 52, 79, 106, 147, 197, 197, 197, 171], 52) := by decide +kernel
theorem dX6_canBe_72 : decode cX6_canBe 72 = .ok (.aload_n 0, 1) := dc_42 (show ((cX6_canBe.data.toList.drop 72).take 1).map UInt8.toNat = [42] by decide +kernel)
theorem dX6_canBe_73 : decode cX6_canBe 73 = .ok (.iload_n 3, 1) := dc_29 (show ((cX6_canBe.data.toList.drop 73).take 1).map UInt8.toNat = [29] by decide +kernel)
theorem dX6_canBe_74 : decode cX6_canBe 74 = .ok (.iconst 0, 1) := dc_3 (show ((cX6_canBe.data.toList.drop 74).take 1).map UInt8.toNat = [3] by decide +kernel)
theorem dX6_canBe_75 : decode cX6_canBe 75 = .ok (.invokevirtual 97, 3) := dc_182 (show ((cX6_canBe.data.toList.drop 75).take 3).map UInt8.toNat = [182, 0, 97] by decide +kernel) rfl
theorem dX6_stands_0 : decode cX6_stands 0 = .ok (.aload_n 0, 1) := dc_42 (show ((cX6_stands.data.toList.drop 0).take 1).map UInt8.toNat = [42] by decide +kernel)
theorem dX6_stands_1 : decode cX6_stands 1 = .ok (.getfield 12, 3) := dc_180 (show ((cX6_stands.data.toList.drop 1).take 3).map UInt8.toNat = [180, 0, 12] by decide +kernel) rfl
theorem dX6_stands_4 : decode cX6_stands 4 = .ok (.iload_n 1, 1) := dc_27 (show ((cX6_stands.data.toList.drop 4).take 1).map UInt8.toNat = [27] by decide +kernel)
theorem dX6_stands_5 : decode cX6_stands 5 = .ok (.invokevirtual 43, 3) := dc_182 (show ((cX6_stands.data.toList.drop 5).take 3).map UInt8.toNat = [182, 0, 43] by decide +kernel) rfl
theorem dX6_stands_8 : decode cX6_stands 8 = .ok (.ifCond .eq 17, 3) := dc_153 (show ((cX6_stands.data.toList.drop 8).take 3).map UInt8.toNat = [153, 0, 17] by decide +kernel) rfl
theorem dX6_stands_25 : decode cX6_stands 25 = .ok (.iconst 0, 1) := dc_3 (show ((cX6_stands.data.toList.drop 25).take 1).map UInt8.toNat = [3] by decide +kernel)
theorem dX6_stands_26 : decode cX6_stands 26 = .ok (.ireturn, 1) := dc_172 (show ((cX6_stands.data.toList.drop 26).take 1).map UInt8.toNat = [172] by decide +kernel)
theorem dX6_stands_11 : decode cX6_stands 11 = .ok (.aload_n 0, 1) := dc_42 (show ((cX6_stands.data.toList.drop 11).take 1).map UInt8.toNat = [42] by decide +kernel)
theorem dX6_stands_12 : decode cX6_stands 12 = .ok (.getfield 18, 3) := dc_180 (show ((cX6_stands.data.toList.drop 12).take 3).map UInt8.toNat = [180, 0, 18] by decide +kernel) rfl
theorem dX6_stands_15 : decode cX6_stands 15 = .ok (.iload_n 1, 1) := dc_27 (show ((cX6_stands.data.toList.drop 15).take 1).map UInt8.toNat = [27] by decide +kernel)
theorem dX6_stands_16 : decode cX6_stands 16 = .ok (.iaload, 1) := dc_46 (show ((cX6_stands.data.toList.drop 16).take 1).map UInt8.toNat = [46] by decide +kernel)
theorem dX6_stands_17 : decode cX6_stands 17 = .ok (.iload_n 2, 1) := dc_28 (show ((cX6_stands.data.toList.drop 17).take 1).map UInt8.toNat = [28] by decide +kernel)
theorem dX6_stands_18 : decode cX6_stands 18 = .ok (.if_icmp .ne 7, 3) := dc_160 (show ((cX6_stands.data.toList.drop 18).take 3).map UInt8.toNat = [160, 0, 7] by decide +kernel) rfl
theorem dX6_stands_21 : decode cX6_stands 21 = .ok (.iconst 1, 1) := dc_4 (show ((cX6_stands.data.toList.drop 21).take 1).map UInt8.toNat = [4] by decide +kernel)
theorem dX6_stands_22 : decode cX6_stands 22 = .ok (.goto 4, 3) := dc_167 (show ((cX6_stands.data.toList.drop 22).take 3).map UInt8.toNat = [167, 0, 4] by decide +kernel) rfl
def cs_Play_stands (n : Nat) (σ : gb_S) (p1 : Int32) (p2 : Int32) : gb_CR Int32 := gb_kk (gb_kB (σ.2.1 1)) (gb_cd (cs_Border_hasGoose_B n σ (σ.2.1 1) p1) (fun s_2 r_3 => (if r_3 = 0 then some (s_2, 0) else gb_ck p1 8 (gb_lt ((s_2.1 112) (Int32.toNatClampNeg p1)) (fun x_8 => (if x_8 = p2 then some (s_2, 1) else some (s_2, 0)))))))
set_option maxHeartbeats 8000000 in
set_option maxRecDepth 100000 in
theorem cc_Play_stands (l : Launch) (D : va_G) (cT : Nat → ClassId) (tt : Nat → Nat) (b1 b : Nat) (hb1 : b1 ≤ b) (n : Nat) (σ : gb_S) (p1 : Int32) (p2 : Int32) (σE : gb_S) (rE : Int32) (h : cs_Play_stands n σ p1 p2 = some (σE, rE)) : Met l yX6_stands (.code yX6_stands cX6_stands 3 (some FieldType.boolean) :: gb_wA) ({ frames := 2, cells := 0, slots := 0, locals := 41 }) (gb_Pc D cT tt b1 [.ref (b + 109), .int p1, .int p2] (fun h => va_P D vwCl (gb_wl b (gb_CW cT b σ)) h)) (gb_Qi (fun r h => r = rE ∧ va_P D vwCl (gb_wl b (gb_CW cT b σE)) h) (gb_fr b 135)) 0 0 (gb_fr b 135) := by
  refine Met.ofW (cc := cX6_stands) (maxL := 3) (ret := (some FieldType.boolean)) (by decide) rfl ?_
  intro p e s m args below meth c s₁ B hml hv
  obtain ⟨rfl, hSt, hP⟩ := hv
  have hx := B.exec
  have hb := B.bytes
  have hr := B.returns
  have hts := atoms_spec (ws := .code yX6_stands cX6_stands 3 (some FieldType.boolean) :: gb_wA) B.pre
  have hq : ∀ w ∈ gb_wA, w.before _ s = true := fun w h => hts w (List.mem_cons_of_mem _ h)
  have hown : s.vm.findClass RX6 = some m.cls := findClass_of_methodNamed B.named
  have hlocks := B.notSynchronized
  clear B hts
  have hK := hSt.1
  have hS : va_S (gb_fr b 135) s.heap s.heap [] := va_S.rf
  have hl := lv_entry ([.ref (b + 109), .int p1, .int p2]) (n := 3) (Nat.le_of_ble_eq_true rfl)
  rw [lg_entry_eq]
  generalize (lg_sl ([.ref (b + 109), .int p1, .int p2]) ++ List.replicate (3 - (lg_sl ([.ref (b + 109), .int p1, .int p2])).length) Slot.unset).toArray = ls at hl ⊢
  replace hl : lv_has ls 3 [(0, .ref (b + 109)), (1, .int p1), (2, .int p2)] := hl
  unfold cs_Play_stands at h
  refine lv_aload_n hx hb dX6_stands_0 rfl (lv_at hl 0 rfl) ?_
  obtain ⟨z_1, h⟩ := gb_kk_s h
  refine va_get (ci := 5) (v := (.ref (b + (σ.2.1 1)))) (C := RX6) (T := TX6) (N := 12) hx hb hq i_X6 hown hK hP 109 (gb_at b rfl) rfl 0 (by decide) (hq _ w_197) (fun _ h9 => h9) rfl dX6_stands_1 ?_
  refine lv_iload_n hx hb dX6_stands_4 rfl (lv_at hl 1 rfl) ?_
  obtain ⟨s_2, r_3, z_4, h⟩ := gb_cd_s h
  refine gb_calli (va_runV (C := RX0) (As := [.int p1]) (rest := []) ⟨hx, hb, hml, hown, hq⟩ (cc_Border_hasGoose_B l D cT tt b1 b hb1 n σ (σ.2.1 1) p1 s_2 r_3 z_4) (cwV 1 hq (gb_gV w_712 w_612 w_613 w_4 w_614) rfl rfl rfl (by decide +kernel) ⟨Nat.le_of_ble_eq_true rfl, Nat.le_of_ble_eq_true rfl⟩) (gb_preV (r := (RX0, TX0, 1)) (ci := 0) (q0 := (σ.2.1 1)) hSt hP rfl (gb_at b (gb_cB z_1).1) hS (fun q h => Nat.le_trans hb1 h.1) hP) rfl rfl hl.1 rfl (lv_room (Nat.le_of_ble_eq_true rfl)) dX6_stands_5 ⟨Nat.le_of_ble_eq_true rfl, Nat.le_of_ble_eq_true rfl⟩) hS (fun _ h => h) (fun _ h => h) (fun q_5 H locs hY hk hS => ?_)
  obtain ⟨hq_5, hP⟩ := hY
  replace hq_5 := hq_5.symm
  subst hq_5
  refine lv_if_eq (tgt := 25) hx hb dX6_stands_8 (by decide) (fun c_6 => ?_) (fun c_6 => ?_)
  · rw [if_pos c_6] at h
    refine lv_iconst (v := 0) hx hb dX6_stands_25 (by decide) ?_
    obtain ⟨e1, e2⟩ := gb_eq2 h
    exact W.zret (v := 0) hx hb hr (by decide) (fun t ht hW => gb_ri ht ⟨e2, by rw [← e1]; exact hP⟩ hS) hS.2.2 dX6_stands_26
  · rw [if_neg c_6] at h
    refine lv_aload_n hx hb dX6_stands_11 rfl (lv_at hl 0 rfl) ?_
    refine va_get (ci := 5) (v := (.ref (b + 112))) (C := RX6) (T := TX6) (N := 12) hx hb hq i_X6 hown hK hP 109 (gb_at b rfl) rfl 1 (by decide) (hq _ w_198) (fun _ h9 => h9) rfl dX6_stands_12 ?_
    refine lv_iload_n hx hb dX6_stands_15 rfl (lv_at hl 1 rfl) ?_
    obtain ⟨z_7, h⟩ := gb_ck_s h
    refine va_iald hx hb hK hP 112 0 (gb_at b rfl) rfl z_7 dX6_stands_16 ?_
    refine lv_topi (fun x_8 ex_8 => ?_)
    replace h := gb_lt_s ex_8 h
    refine lv_iload_n hx hb dX6_stands_17 rfl (lv_at hl 2 rfl) ?_
    refine lv_icmp_ne (tgt := 25) hx hb dX6_stands_18 (by decide) (fun c_9 => ?_) (fun c_9 => ?_)
    · rw [if_neg c_9] at h
      refine lv_iconst (v := 0) hx hb dX6_stands_25 (by decide) ?_
      obtain ⟨e1, e2⟩ := gb_eq2 h
      exact W.zret (v := 0) hx hb hr (by decide) (fun t ht hW => gb_ri ht ⟨e2, by rw [← e1]; exact hP⟩ hS) hS.2.2 dX6_stands_26
    · rw [if_pos c_9] at h
      refine lv_iconst (v := 1) hx hb dX6_stands_21 (by decide) ?_
      refine lv_goto (tgt := 26) hx hb dX6_stands_22 (by decide) ?_
      obtain ⟨e1, e2⟩ := gb_eq2 h
      exact W.zret (v := 1) hx hb hr (by decide) (fun t ht hW => gb_ri ht ⟨e2, by rw [← e1]; exact hP⟩ hS) hS.2.2 dX6_stands_26
theorem w_732 : (Cond.code ({ cls := "GooseBorder$Play", name := "stands", desc := "(II)Z" } : MethodName) prog_8_method_5_code (3 : Nat) (Option.some FieldType.boolean)) ∈ gb_wA := gb_t4 12 rfl rfl
theorem w_729 : (Cond.methodLink "GooseBorder$Play" (97 : Nat) ({ cls := "GooseBorder$Play", name := "stands", desc := "(II)Z" } : MethodName)) ∈ gb_wA := gb_t4 9 rfl rfl
theorem w_731 : (Cond.instanceMethod ({ cls := "GooseBorder$Play", name := "stands", desc := "(II)Z" } : MethodName)) ∈ gb_wA := gb_t4 11 rfl rfl
theorem s_1_13 : Cond.selects "GooseBorder$Play" (⟨"GooseBorder$Play", "stands", "(II)Z"⟩ : MethodName) (⟨"GooseBorder$Play", "stands", "(II)Z"⟩ : MethodName) ∈ gb_wA := gb_s1 13 rfl rfl
theorem dX6_canBe_78 : decode cX6_canBe 78 = .ok (.ifCond .eq 19, 3) := dc_153 (show ((cX6_canBe.data.toList.drop 78).take 3).map UInt8.toNat = [153, 0, 19] by decide +kernel) rfl
theorem dX6_canBe_97 : decode cX6_canBe 97 = .ok (.iconst 0, 1) := dc_3 (show ((cX6_canBe.data.toList.drop 97).take 1).map UInt8.toNat = [3] by decide +kernel)
theorem dX6_canBe_98 : decode cX6_canBe 98 = .ok (.ireturn, 1) := dc_172 (show ((cX6_canBe.data.toList.drop 98).take 1).map UInt8.toNat = [172] by decide +kernel)
theorem dX6_canBe_81 : decode cX6_canBe 81 = .ok (.aload_n 0, 1) := dc_42 (show ((cX6_canBe.data.toList.drop 81).take 1).map UInt8.toNat = [42] by decide +kernel)
theorem dX6_canBe_82 : decode cX6_canBe 82 = .ok (.getfield 12, 3) := dc_180 (show ((cX6_canBe.data.toList.drop 82).take 3).map UInt8.toNat = [180, 0, 12] by decide +kernel) rfl
theorem dX6_canBe_85 : decode cX6_canBe 85 = .ok (.iload 4, 2) := dc_21 (show ((cX6_canBe.data.toList.drop 85).take 2).map UInt8.toNat = [21, 4] by decide +kernel) rfl
theorem dX6_canBe_87 : decode cX6_canBe 87 = .ok (.invokevirtual 101, 3) := dc_182 (show ((cX6_canBe.data.toList.drop 87).take 3).map UInt8.toNat = [182, 0, 101] by decide +kernel) rfl
theorem w_733 : (Cond.methodLink "GooseBorder$Play" (101 : Nat) ({ cls := "GooseBorder$Border", name := "hasPath", desc := "(I)Z" } : MethodName)) ∈ gb_wA := gb_t4 13 rfl rfl
theorem dX6_canBe_90 : decode cX6_canBe 90 = .ok (.ifCond .eq 7, 3) := dc_153 (show ((cX6_canBe.data.toList.drop 90).take 3).map UInt8.toNat = [153, 0, 7] by decide +kernel) rfl
theorem dX6_canBe_93 : decode cX6_canBe 93 = .ok (.iconst 1, 1) := dc_4 (show ((cX6_canBe.data.toList.drop 93).take 1).map UInt8.toNat = [4] by decide +kernel)
theorem dX6_canBe_94 : decode cX6_canBe 94 = .ok (.goto 4, 3) := dc_167 (show ((cX6_canBe.data.toList.drop 94).take 3).map UInt8.toNat = [167, 0, 4] by decide +kernel) rfl
theorem dX6_canBe_99 : decode cX6_canBe 99 = .ok (.aload_n 0, 1) := dc_42 (show ((cX6_canBe.data.toList.drop 99).take 1).map UInt8.toNat = [42] by decide +kernel)
theorem dX6_canBe_100 : decode cX6_canBe 100 = .ok (.iload_n 3, 1) := dc_29 (show ((cX6_canBe.data.toList.drop 100).take 1).map UInt8.toNat = [29] by decide +kernel)
theorem dX6_canBe_101 : decode cX6_canBe 101 = .ok (.iconst 1, 1) := dc_4 (show ((cX6_canBe.data.toList.drop 101).take 1).map UInt8.toNat = [4] by decide +kernel)
theorem dX6_canBe_102 : decode cX6_canBe 102 = .ok (.invokevirtual 97, 3) := dc_182 (show ((cX6_canBe.data.toList.drop 102).take 3).map UInt8.toNat = [182, 0, 97] by decide +kernel) rfl
theorem dX6_canBe_105 : decode cX6_canBe 105 = .ok (.ifCond .eq 19, 3) := dc_153 (show ((cX6_canBe.data.toList.drop 105).take 3).map UInt8.toNat = [153, 0, 19] by decide +kernel) rfl
theorem dX6_canBe_124 : decode cX6_canBe 124 = .ok (.iconst 0, 1) := dc_3 (show ((cX6_canBe.data.toList.drop 124).take 1).map UInt8.toNat = [3] by decide +kernel)
theorem dX6_canBe_125 : decode cX6_canBe 125 = .ok (.ireturn, 1) := dc_172 (show ((cX6_canBe.data.toList.drop 125).take 1).map UInt8.toNat = [172] by decide +kernel)
theorem dX6_canBe_108 : decode cX6_canBe 108 = .ok (.aload_n 0, 1) := dc_42 (show ((cX6_canBe.data.toList.drop 108).take 1).map UInt8.toNat = [42] by decide +kernel)
theorem dX6_canBe_109 : decode cX6_canBe 109 = .ok (.getfield 12, 3) := dc_180 (show ((cX6_canBe.data.toList.drop 109).take 3).map UInt8.toNat = [180, 0, 12] by decide +kernel) rfl
theorem dX6_canBe_112 : decode cX6_canBe 112 = .ok (.iload 4, 2) := dc_21 (show ((cX6_canBe.data.toList.drop 112).take 2).map UInt8.toNat = [21, 4] by decide +kernel) rfl
theorem dX6_canBe_114 : decode cX6_canBe 114 = .ok (.invokevirtual 101, 3) := dc_182 (show ((cX6_canBe.data.toList.drop 114).take 3).map UInt8.toNat = [182, 0, 101] by decide +kernel) rfl
theorem dX6_canBe_117 : decode cX6_canBe 117 = .ok (.ifCond .eq 7, 3) := dc_153 (show ((cX6_canBe.data.toList.drop 117).take 3).map UInt8.toNat = [153, 0, 7] by decide +kernel) rfl
theorem dX6_canBe_120 : decode cX6_canBe 120 = .ok (.iconst 1, 1) := dc_4 (show ((cX6_canBe.data.toList.drop 120).take 1).map UInt8.toNat = [4] by decide +kernel)
theorem dX6_canBe_121 : decode cX6_canBe 121 = .ok (.goto 4, 3) := dc_167 (show ((cX6_canBe.data.toList.drop 121).take 3).map UInt8.toNat = [167, 0, 4] by decide +kernel) rfl
theorem dX6_canBe_126 : decode cX6_canBe 126 = .ok (.aload_n 0, 1) := dc_42 (show ((cX6_canBe.data.toList.drop 126).take 1).map UInt8.toNat = [42] by decide +kernel)
theorem dX6_canBe_127 : decode cX6_canBe 127 = .ok (.iload_n 3, 1) := dc_29 (show ((cX6_canBe.data.toList.drop 127).take 1).map UInt8.toNat = [29] by decide +kernel)
theorem dX6_canBe_128 : decode cX6_canBe 128 = .ok (.iconst 0, 1) := dc_3 (show ((cX6_canBe.data.toList.drop 128).take 1).map UInt8.toNat = [3] by decide +kernel)
theorem dX6_canBe_129 : decode cX6_canBe 129 = .ok (.invokevirtual 97, 3) := dc_182 (show ((cX6_canBe.data.toList.drop 129).take 3).map UInt8.toNat = [182, 0, 97] by decide +kernel) rfl
theorem dX6_canBe_132 : decode cX6_canBe 132 = .ok (.ifCond .eq 33, 3) := dc_153 (show ((cX6_canBe.data.toList.drop 132).take 3).map UInt8.toNat = [153, 0, 33] by decide +kernel) rfl
theorem dX6_canBe_165 : decode cX6_canBe 165 = .ok (.iconst 0, 1) := dc_3 (show ((cX6_canBe.data.toList.drop 165).take 1).map UInt8.toNat = [3] by decide +kernel)
theorem dX6_canBe_166 : decode cX6_canBe 166 = .ok (.ireturn, 1) := dc_172 (show ((cX6_canBe.data.toList.drop 166).take 1).map UInt8.toNat = [172] by decide +kernel)
theorem dX6_canBe_135 : decode cX6_canBe 135 = .ok (.aload_n 0, 1) := dc_42 (show ((cX6_canBe.data.toList.drop 135).take 1).map UInt8.toNat = [42] by decide +kernel)
theorem dX6_canBe_136 : decode cX6_canBe 136 = .ok (.iload 4, 2) := dc_21 (show ((cX6_canBe.data.toList.drop 136).take 2).map UInt8.toNat = [21, 4] by decide +kernel) rfl
theorem dX6_canBe_138 : decode cX6_canBe 138 = .ok (.iconst 0, 1) := dc_3 (show ((cX6_canBe.data.toList.drop 138).take 1).map UInt8.toNat = [3] by decide +kernel)
theorem dX6_canBe_139 : decode cX6_canBe 139 = .ok (.invokevirtual 97, 3) := dc_182 (show ((cX6_canBe.data.toList.drop 139).take 3).map UInt8.toNat = [182, 0, 97] by decide +kernel) rfl
theorem dX6_canBe_142 : decode cX6_canBe 142 = .ok (.ifCond .eq 23, 3) := dc_153 (show ((cX6_canBe.data.toList.drop 142).take 3).map UInt8.toNat = [153, 0, 23] by decide +kernel) rfl
theorem dX6_canBe_145 : decode cX6_canBe 145 = .ok (.aload_n 0, 1) := dc_42 (show ((cX6_canBe.data.toList.drop 145).take 1).map UInt8.toNat = [42] by decide +kernel)
theorem dX6_canBe_146 : decode cX6_canBe 146 = .ok (.getfield 12, 3) := dc_180 (show ((cX6_canBe.data.toList.drop 146).take 3).map UInt8.toNat = [180, 0, 12] by decide +kernel) rfl
theorem dX6_canBe_149 : decode cX6_canBe 149 = .ok (.aload_n 1, 1) := dc_43 (show ((cX6_canBe.data.toList.drop 149).take 1).map UInt8.toNat = [43] by decide +kernel)
theorem dX6_canBe_150 : decode cX6_canBe 150 = .ok (.iload_n 2, 1) := dc_28 (show ((cX6_canBe.data.toList.drop 150).take 1).map UInt8.toNat = [28] by decide +kernel)
theorem dX6_canBe_151 : decode cX6_canBe 151 = .ok (.iconst 3, 1) := dc_6 (show ((cX6_canBe.data.toList.drop 151).take 1).map UInt8.toNat = [6] by decide +kernel)
theorem dX6_canBe_152 : decode cX6_canBe 152 = .ok (.invokevirtual 91, 3) := dc_182 (show ((cX6_canBe.data.toList.drop 152).take 3).map UInt8.toNat = [182, 0, 91] by decide +kernel) rfl
theorem dX6_canBe_155 : decode cX6_canBe 155 = .ok (.invokevirtual 101, 3) := dc_182 (show ((cX6_canBe.data.toList.drop 155).take 3).map UInt8.toNat = [182, 0, 101] by decide +kernel) rfl
theorem dX6_canBe_158 : decode cX6_canBe 158 = .ok (.ifCond .eq 7, 3) := dc_153 (show ((cX6_canBe.data.toList.drop 158).take 3).map UInt8.toNat = [153, 0, 7] by decide +kernel) rfl
theorem dX6_canBe_161 : decode cX6_canBe 161 = .ok (.iconst 1, 1) := dc_4 (show ((cX6_canBe.data.toList.drop 161).take 1).map UInt8.toNat = [4] by decide +kernel)
theorem dX6_canBe_162 : decode cX6_canBe 162 = .ok (.goto 4, 3) := dc_167 (show ((cX6_canBe.data.toList.drop 162).take 3).map UInt8.toNat = [167, 0, 4] by decide +kernel) rfl
theorem dX6_canBe_167 : decode cX6_canBe 167 = .ok (.aload_n 0, 1) := dc_42 (show ((cX6_canBe.data.toList.drop 167).take 1).map UInt8.toNat = [42] by decide +kernel)
theorem dX6_canBe_168 : decode cX6_canBe 168 = .ok (.iload_n 3, 1) := dc_29 (show ((cX6_canBe.data.toList.drop 168).take 1).map UInt8.toNat = [29] by decide +kernel)
theorem dX6_canBe_169 : decode cX6_canBe 169 = .ok (.iconst 0, 1) := dc_3 (show ((cX6_canBe.data.toList.drop 169).take 1).map UInt8.toNat = [3] by decide +kernel)
theorem dX6_canBe_170 : decode cX6_canBe 170 = .ok (.invokevirtual 97, 3) := dc_182 (show ((cX6_canBe.data.toList.drop 170).take 3).map UInt8.toNat = [182, 0, 97] by decide +kernel) rfl
theorem dX6_canBe_173 : decode cX6_canBe 173 = .ok (.ifCond .ne 12, 3) := dc_154 (show ((cX6_canBe.data.toList.drop 173).take 3).map UInt8.toNat = [154, 0, 12] by decide +kernel) rfl
theorem dX6_canBe_185 : decode cX6_canBe 185 = .ok (.iconst 1, 1) := dc_4 (show ((cX6_canBe.data.toList.drop 185).take 1).map UInt8.toNat = [4] by decide +kernel)
theorem dX6_canBe_186 : decode cX6_canBe 186 = .ok (.goto 4, 3) := dc_167 (show ((cX6_canBe.data.toList.drop 186).take 3).map UInt8.toNat = [167, 0, 4] by decide +kernel) rfl
theorem dX6_canBe_190 : decode cX6_canBe 190 = .ok (.ireturn, 1) := dc_172 (show ((cX6_canBe.data.toList.drop 190).take 1).map UInt8.toNat = [172] by decide +kernel)
theorem dX6_canBe_176 : decode cX6_canBe 176 = .ok (.aload_n 0, 1) := dc_42 (show ((cX6_canBe.data.toList.drop 176).take 1).map UInt8.toNat = [42] by decide +kernel)
theorem dX6_canBe_177 : decode cX6_canBe 177 = .ok (.iload_n 3, 1) := dc_29 (show ((cX6_canBe.data.toList.drop 177).take 1).map UInt8.toNat = [29] by decide +kernel)
theorem dX6_canBe_178 : decode cX6_canBe 178 = .ok (.iconst 1, 1) := dc_4 (show ((cX6_canBe.data.toList.drop 178).take 1).map UInt8.toNat = [4] by decide +kernel)
theorem dX6_canBe_179 : decode cX6_canBe 179 = .ok (.invokevirtual 97, 3) := dc_182 (show ((cX6_canBe.data.toList.drop 179).take 3).map UInt8.toNat = [182, 0, 97] by decide +kernel) rfl
theorem dX6_canBe_182 : decode cX6_canBe 182 = .ok (.ifCond .eq 7, 3) := dc_153 (show ((cX6_canBe.data.toList.drop 182).take 3).map UInt8.toNat = [153, 0, 7] by decide +kernel) rfl
theorem dX6_canBe_189 : decode cX6_canBe 189 = .ok (.iconst 0, 1) := dc_3 (show ((cX6_canBe.data.toList.drop 189).take 1).map UInt8.toNat = [3] by decide +kernel)
theorem dX6_canBe_217 : decode cX6_canBe 217 = .ok (.iconst 1, 1) := dc_4 (show ((cX6_canBe.data.toList.drop 217).take 1).map UInt8.toNat = [4] by decide +kernel)
theorem dX6_canBe_218 : decode cX6_canBe 218 = .ok (.ireturn, 1) := dc_172 (show ((cX6_canBe.data.toList.drop 218).take 1).map UInt8.toNat = [172] by decide +kernel)
theorem dX6_canBe_191 : decode cX6_canBe 191 = .ok (.aload_n 0, 1) := dc_42 (show ((cX6_canBe.data.toList.drop 191).take 1).map UInt8.toNat = [42] by decide +kernel)
theorem dX6_canBe_192 : decode cX6_canBe 192 = .ok (.getfield 12, 3) := dc_180 (show ((cX6_canBe.data.toList.drop 192).take 3).map UInt8.toNat = [180, 0, 12] by decide +kernel) rfl
theorem dX6_canBe_195 : decode cX6_canBe 195 = .ok (.iload_n 3, 1) := dc_29 (show ((cX6_canBe.data.toList.drop 195).take 1).map UInt8.toNat = [29] by decide +kernel)
theorem dX6_canBe_196 : decode cX6_canBe 196 = .ok (.invokevirtual 101, 3) := dc_182 (show ((cX6_canBe.data.toList.drop 196).take 3).map UInt8.toNat = [182, 0, 101] by decide +kernel) rfl
theorem dX6_canBe_199 : decode cX6_canBe 199 = .ok (.ifCond .eq 16, 3) := dc_153 (show ((cX6_canBe.data.toList.drop 199).take 3).map UInt8.toNat = [153, 0, 16] by decide +kernel) rfl
theorem dX6_canBe_215 : decode cX6_canBe 215 = .ok (.iconst 0, 1) := dc_3 (show ((cX6_canBe.data.toList.drop 215).take 1).map UInt8.toNat = [3] by decide +kernel)
theorem dX6_canBe_216 : decode cX6_canBe 216 = .ok (.ireturn, 1) := dc_172 (show ((cX6_canBe.data.toList.drop 216).take 1).map UInt8.toNat = [172] by decide +kernel)
theorem dX6_canBe_202 : decode cX6_canBe 202 = .ok (.aload_n 0, 1) := dc_42 (show ((cX6_canBe.data.toList.drop 202).take 1).map UInt8.toNat = [42] by decide +kernel)
theorem dX6_canBe_203 : decode cX6_canBe 203 = .ok (.iload_n 3, 1) := dc_29 (show ((cX6_canBe.data.toList.drop 203).take 1).map UInt8.toNat = [29] by decide +kernel)
theorem dX6_canBe_204 : decode cX6_canBe 204 = .ok (.invokevirtual 104, 3) := dc_182 (show ((cX6_canBe.data.toList.drop 204).take 3).map UInt8.toNat = [182, 0, 104] by decide +kernel) rfl
theorem dX6_latestGoer_0 : decode cX6_latestGoer 0 = .ok (.iconst 0, 1) := dc_3 (show ((cX6_latestGoer.data.toList.drop 0).take 1).map UInt8.toNat = [3] by decide +kernel)
theorem dX6_latestGoer_1 : decode cX6_latestGoer 1 = .ok (.istore_n 2, 1) := dc_61 (show ((cX6_latestGoer.data.toList.drop 1).take 1).map UInt8.toNat = [61] by decide +kernel)
theorem dX6_latestGoer_2 : decode cX6_latestGoer 2 = .ok (.iconst (-1), 1) := dc_2 (show ((cX6_latestGoer.data.toList.drop 2).take 1).map UInt8.toNat = [2] by decide +kernel)
theorem dX6_latestGoer_3 : decode cX6_latestGoer 3 = .ok (.istore_n 3, 1) := dc_62 (show ((cX6_latestGoer.data.toList.drop 3).take 1).map UInt8.toNat = [62] by decide +kernel)
theorem dX6_latestGoer_4 : decode cX6_latestGoer 4 = .ok (.iconst 0, 1) := dc_3 (show ((cX6_latestGoer.data.toList.drop 4).take 1).map UInt8.toNat = [3] by decide +kernel)
theorem dX6_latestGoer_5 : decode cX6_latestGoer 5 = .ok (.istore 4, 2) := dc_54 (show ((cX6_latestGoer.data.toList.drop 5).take 2).map UInt8.toNat = [54, 4] by decide +kernel) rfl
theorem dX6_latestGoer_7 : decode cX6_latestGoer 7 = .ok (.iload 4, 2) := dc_21 (show ((cX6_latestGoer.data.toList.drop 7).take 2).map UInt8.toNat = [21, 4] by decide +kernel) rfl
theorem dX6_latestGoer_9 : decode cX6_latestGoer 9 = .ok (.aload_n 0, 1) := dc_42 (show ((cX6_latestGoer.data.toList.drop 9).take 1).map UInt8.toNat = [42] by decide +kernel)
theorem dX6_latestGoer_10 : decode cX6_latestGoer 10 = .ok (.getfield 12, 3) := dc_180 (show ((cX6_latestGoer.data.toList.drop 10).take 3).map UInt8.toNat = [180, 0, 12] by decide +kernel) rfl
theorem dX6_latestGoer_13 : decode cX6_latestGoer 13 = .ok (.invokevirtual 131, 3) := dc_182 (show ((cX6_latestGoer.data.toList.drop 13).take 3).map UInt8.toNat = [182, 0, 131] by decide +kernel) rfl
theorem w_738 : (Cond.methodLink "GooseBorder$Play" (131 : Nat) ({ cls := "GooseBorder$Border", name := "geese", desc := "()I" } : MethodName)) ∈ gb_wA := gb_t4 18 rfl rfl
theorem dX6_latestGoer_16 : decode cX6_latestGoer 16 = .ok (.if_icmp .ge 46, 3) := dc_162 (show ((cX6_latestGoer.data.toList.drop 16).take 3).map UInt8.toNat = [162, 0, 46] by decide +kernel) rfl
theorem dX6_latestGoer_62 : decode cX6_latestGoer 62 = .ok (.iload_n 3, 1) := dc_29 (show ((cX6_latestGoer.data.toList.drop 62).take 1).map UInt8.toNat = [29] by decide +kernel)
theorem dX6_latestGoer_63 : decode cX6_latestGoer 63 = .ok (.ireturn, 1) := dc_172 (show ((cX6_latestGoer.data.toList.drop 63).take 1).map UInt8.toNat = [172] by decide +kernel)
theorem dX6_latestGoer_19 : decode cX6_latestGoer 19 = .ok (.aload_n 0, 1) := dc_42 (show ((cX6_latestGoer.data.toList.drop 19).take 1).map UInt8.toNat = [42] by decide +kernel)
theorem dX6_latestGoer_20 : decode cX6_latestGoer 20 = .ok (.getfield 40, 3) := dc_180 (show ((cX6_latestGoer.data.toList.drop 20).take 3).map UInt8.toNat = [180, 0, 40] by decide +kernel) rfl
theorem dX6_latestGoer_23 : decode cX6_latestGoer 23 = .ok (.iload_n 1, 1) := dc_27 (show ((cX6_latestGoer.data.toList.drop 23).take 1).map UInt8.toNat = [27] by decide +kernel)
theorem dX6_latestGoer_24 : decode cX6_latestGoer 24 = .ok (.bipush 8, 2) := dc_16 (show ((cX6_latestGoer.data.toList.drop 24).take 2).map UInt8.toNat = [16, 8] by decide +kernel) rfl
theorem dX6_latestGoer_26 : decode cX6_latestGoer 26 = .ok (.imul, 1) := dc_104 (show ((cX6_latestGoer.data.toList.drop 26).take 1).map UInt8.toNat = [104] by decide +kernel)
theorem dX6_latestGoer_27 : decode cX6_latestGoer 27 = .ok (.iload 4, 2) := dc_21 (show ((cX6_latestGoer.data.toList.drop 27).take 2).map UInt8.toNat = [21, 4] by decide +kernel) rfl
theorem dX6_latestGoer_29 : decode cX6_latestGoer 29 = .ok (.iadd, 1) := dc_96 (show ((cX6_latestGoer.data.toList.drop 29).take 1).map UInt8.toNat = [96] by decide +kernel)
theorem dX6_latestGoer_30 : decode cX6_latestGoer 30 = .ok (.iaload, 1) := dc_46 (show ((cX6_latestGoer.data.toList.drop 30).take 1).map UInt8.toNat = [46] by decide +kernel)
theorem dX6_latestGoer_31 : decode cX6_latestGoer 31 = .ok (.istore 5, 2) := dc_54 (show ((cX6_latestGoer.data.toList.drop 31).take 2).map UInt8.toNat = [54, 5] by decide +kernel) rfl
theorem dX6_latestGoer_33 : decode cX6_latestGoer 33 = .ok (.iload 5, 2) := dc_21 (show ((cX6_latestGoer.data.toList.drop 33).take 2).map UInt8.toNat = [21, 5] by decide +kernel) rfl
theorem dX6_latestGoer_35 : decode cX6_latestGoer 35 = .ok (.iload_n 2, 1) := dc_28 (show ((cX6_latestGoer.data.toList.drop 35).take 1).map UInt8.toNat = [28] by decide +kernel)
theorem dX6_latestGoer_36 : decode cX6_latestGoer 36 = .ok (.if_icmp .le 20, 3) := dc_164 (show ((cX6_latestGoer.data.toList.drop 36).take 3).map UInt8.toNat = [164, 0, 20] by decide +kernel) rfl
theorem dX6_latestGoer_56 : decode cX6_latestGoer 56 = .ok (.iinc 4 1, 3) := dc_132 (show ((cX6_latestGoer.data.toList.drop 56).take 3).map UInt8.toNat = [132, 4, 1] by decide +kernel) rfl
theorem dX6_latestGoer_59 : decode cX6_latestGoer 59 = .ok (.goto (-52), 3) := dc_167 (show ((cX6_latestGoer.data.toList.drop 59).take 3).map UInt8.toNat = [167, 255, 204] by decide +kernel) rfl
theorem dX6_latestGoer_39 : decode cX6_latestGoer 39 = .ok (.aload_n 0, 1) := dc_42 (show ((cX6_latestGoer.data.toList.drop 39).take 1).map UInt8.toNat = [42] by decide +kernel)
theorem dX6_latestGoer_40 : decode cX6_latestGoer 40 = .ok (.getfield 18, 3) := dc_180 (show ((cX6_latestGoer.data.toList.drop 40).take 3).map UInt8.toNat = [180, 0, 18] by decide +kernel) rfl
theorem dX6_latestGoer_43 : decode cX6_latestGoer 43 = .ok (.iload 4, 2) := dc_21 (show ((cX6_latestGoer.data.toList.drop 43).take 2).map UInt8.toNat = [21, 4] by decide +kernel) rfl
theorem dX6_latestGoer_45 : decode cX6_latestGoer 45 = .ok (.iaload, 1) := dc_46 (show ((cX6_latestGoer.data.toList.drop 45).take 1).map UInt8.toNat = [46] by decide +kernel)
theorem dX6_latestGoer_46 : decode cX6_latestGoer 46 = .ok (.iconst 2, 1) := dc_5 (show ((cX6_latestGoer.data.toList.drop 46).take 1).map UInt8.toNat = [5] by decide +kernel)
theorem dX6_latestGoer_47 : decode cX6_latestGoer 47 = .ok (.if_icmp .eq 9, 3) := dc_159 (show ((cX6_latestGoer.data.toList.drop 47).take 3).map UInt8.toNat = [159, 0, 9] by decide +kernel) rfl
theorem dX6_latestGoer_50 : decode cX6_latestGoer 50 = .ok (.iload 5, 2) := dc_21 (show ((cX6_latestGoer.data.toList.drop 50).take 2).map UInt8.toNat = [21, 5] by decide +kernel) rfl
theorem dX6_latestGoer_52 : decode cX6_latestGoer 52 = .ok (.istore_n 2, 1) := dc_61 (show ((cX6_latestGoer.data.toList.drop 52).take 1).map UInt8.toNat = [61] by decide +kernel)
theorem dX6_latestGoer_53 : decode cX6_latestGoer 53 = .ok (.iload 4, 2) := dc_21 (show ((cX6_latestGoer.data.toList.drop 53).take 2).map UInt8.toNat = [21, 4] by decide +kernel) rfl
theorem dX6_latestGoer_55 : decode cX6_latestGoer 55 = .ok (.istore_n 3, 1) := dc_62 (show ((cX6_latestGoer.data.toList.drop 55).take 1).map UInt8.toNat = [62] by decide +kernel)
def cs_Play_latestGoer_7 (n : Nat) : Nat → gb_S → Int32 → Int32 → Int32 → Int32 → gb_CR Int32
  | 0, _, _, _, _, _ => none
  | mm + 1, σ, v1, v2, v3, v4 => gb_kk (gb_kB (σ.2.1 1)) (gb_cd (cs_Border_geese_B n σ (σ.2.1 1)) (fun s_2 r_3 => (if r_3 ≤ v4 then some (s_2, v3) else gb_ck ((v1 * 8) + v4) 40 (gb_lt ((s_2.1 119) (Int32.toNatClampNeg ((v1 * 8) + v4))) (fun x_8 => (if x_8 ≤ v2 then gb_lt (v4 + 1) (fun x_10 => cs_Play_latestGoer_7 n mm s_2 v1 v2 v3 x_10) else gb_ck v4 8 (gb_lt ((s_2.1 112) (Int32.toNatClampNeg v4)) (fun x_12 => (if x_12 = 2 then gb_lt (v4 + 1) (fun x_14 => cs_Play_latestGoer_7 n mm s_2 v1 v2 v3 x_14) else gb_lt (v4 + 1) (fun x_15 => cs_Play_latestGoer_7 n mm s_2 v1 x_8 v4 x_15))))))))))
def cs_Play_latestGoer (n : Nat) (σ : gb_S) (p1 : Int32) : gb_CR Int32 := cs_Play_latestGoer_7 n n σ p1 0 (-1) 0
set_option maxHeartbeats 8000000 in
set_option maxRecDepth 100000 in
theorem cc_Play_latestGoer (l : Launch) (D : va_G) (cT : Nat → ClassId) (tt : Nat → Nat) (b1 b : Nat) (hb1 : b1 ≤ b) (n : Nat) (σ : gb_S) (p1 : Int32) (σE : gb_S) (rE : Int32) (h : cs_Play_latestGoer n σ p1 = some (σE, rE)) : Met l yX6_latestGoer (.code yX6_latestGoer cX6_latestGoer 6 (some FieldType.int) :: gb_wA) ({ frames := 1, cells := 0, slots := 0, locals := 20 }) (gb_Pc D cT tt b1 [.ref (b + 109), .int p1] (fun h => va_P D vwCl (gb_wl b (gb_CW cT b σ)) h)) (gb_Qi (fun r h => r = rE ∧ va_P D vwCl (gb_wl b (gb_CW cT b σE)) h) (gb_fr b 135)) 0 0 (gb_fr b 135) := by
  refine Met.ofW (cc := cX6_latestGoer) (maxL := 6) (ret := (some FieldType.int)) (by decide) rfl ?_
  intro p e s m args below meth c s₁ B hml hv
  obtain ⟨rfl, hSt, hP⟩ := hv
  have hx := B.exec
  have hb := B.bytes
  have hr := B.returns
  have hts := atoms_spec (ws := .code yX6_latestGoer cX6_latestGoer 6 (some FieldType.int) :: gb_wA) B.pre
  have hq : ∀ w ∈ gb_wA, w.before _ s = true := fun w h => hts w (List.mem_cons_of_mem _ h)
  have hown : s.vm.findClass RX6 = some m.cls := findClass_of_methodNamed B.named
  have hlocks := B.notSynchronized
  clear B hts
  have hK := hSt.1
  have hS : va_S (gb_fr b 135) s.heap s.heap [] := va_S.rf
  have hl := lv_entry ([.ref (b + 109), .int p1]) (n := 6) (Nat.le_of_ble_eq_true rfl)
  rw [lg_entry_eq]
  generalize (lg_sl ([.ref (b + 109), .int p1]) ++ List.replicate (6 - (lg_sl ([.ref (b + 109), .int p1])).length) Slot.unset).toArray = ls at hl ⊢
  replace hl : lv_has ls 6 [(0, .ref (b + 109)), (1, .int p1)] := hl
  have L7_1 : ∀ (mm : Nat) (σ : gb_S) (v1 : Int32) (v2 : Int32) (v3 : Int32) (v4 : Int32) (H : Heap) (locs : List Loc) (ls : Array Slot), cs_Play_latestGoer_7 n mm σ v1 v2 v3 v4 = some (σE, rE) → va_P D vwCl (gb_wl b (gb_CW cT b σ)) H → va_S (gb_fr b 135) s.heap H locs → lv_has ls 6 [(0, .ref (b + 109)), (1, .int v1), (2, .int v2), (3, .int v3), (4, .int v4)] → W p l e (headSpec (.code yX6_latestGoer cX6_latestGoer 6 (some FieldType.int) :: gb_wA) ({ frames := 1, cells := 0, slots := 0, locals := 20 })).room s m ([.ref (b + 109), .int p1]).toArray below meth c H locs 0 0 (MQ below (gb_Qi (fun r h => r = rE ∧ va_P D vwCl (gb_wl b (gb_CW cT b σE)) h) (gb_fr b 135)) ([.ref (b + 109), .int p1]).toArray s 0 0 (gb_fr b 135)) (F0 m 7 ls []) := by
    clear h hP hS hl ls
    intro mm
    induction mm with
    | zero =>
      intro σ v1 v2 v3 v4 H locs ls h
      cases h
    | succ mm ih =>
      intro σ v1 v2 v3 v4 H locs ls h hP hS hl
      rw [cs_Play_latestGoer_7] at h
      refine lv_iload hx hb dX6_latestGoer_7 (lv_at hl 4 rfl) ?_
      refine lv_aload_n hx hb dX6_latestGoer_9 rfl (lv_at hl 0 rfl) ?_
      obtain ⟨z_1, h⟩ := gb_kk_s h
      refine va_get (ci := 5) (v := (.ref (b + (σ.2.1 1)))) (C := RX6) (T := TX6) (N := 12) hx hb hq i_X6 hown hK hP 109 (gb_at b rfl) rfl 0 (by decide) (hq _ w_197) (fun _ h9 => h9) rfl dX6_latestGoer_10 ?_
      obtain ⟨s_2, r_3, z_4, h⟩ := gb_cd_s h
      refine gb_calli (va_runV (C := RX0) (As := []) (rest := [.int v4]) ⟨hx, hb, hml, hown, hq⟩ (cc_Border_geese_B l D cT tt b1 b hb1 n σ (σ.2.1 1) s_2 r_3 z_4) (cwV 0 hq (gb_gV w_738 w_477 w_478 w_4 w_479) rfl rfl rfl (by decide +kernel) ⟨Nat.le_of_ble_eq_true rfl, Nat.le_of_ble_eq_true rfl⟩) (gb_preV (r := (RX0, TX0, 1)) (ci := 0) (q0 := (σ.2.1 1)) hSt hP rfl (gb_at b (gb_cB z_1).1) hS (fun q h => Nat.le_trans hb1 h.1) hP) rfl rfl hl.1 rfl (lv_room (Nat.le_of_ble_eq_true rfl)) dX6_latestGoer_13 ⟨Nat.le_of_ble_eq_true rfl, Nat.le_of_ble_eq_true rfl⟩) hS (fun _ h => h) (fun _ h => h) (fun q_5 H locs hY hk hS => ?_)
      obtain ⟨hq_5, hP⟩ := hY
      replace hq_5 := hq_5.symm
      subst hq_5
      refine lv_icmp_ge (tgt := 62) hx hb dX6_latestGoer_16 (by decide) (fun c_6 => ?_) (fun c_6 => ?_)
      · rw [if_pos c_6] at h
        refine lv_iload_n hx hb dX6_latestGoer_62 rfl (lv_at hl 3 rfl) ?_
        obtain ⟨e1, e2⟩ := gb_eq2 h
        exact W.iret (v := v3) hx hb hr (fun t ht hW => gb_ri ht ⟨e2, by rw [← e1]; exact hP⟩ hS) hS.2.2 dX6_latestGoer_63
      · rw [if_neg c_6] at h
        refine lv_aload_n hx hb dX6_latestGoer_19 rfl (lv_at hl 0 rfl) ?_
        refine va_get (ci := 5) (v := (.ref (b + 119))) (C := RX6) (T := TX6) (N := 12) hx hb hq i_X6 hown hK hP 109 (gb_at b rfl) rfl 8 (by decide) (hq _ w_212) (fun _ h9 => h9) rfl dX6_latestGoer_20 ?_
        refine lv_iload_n hx hb dX6_latestGoer_23 rfl (lv_at hl 1 rfl) ?_
        refine lv_bipush (v := 8) hx hb dX6_latestGoer_24 (by decide) ?_
        refine lv_imul hx hb dX6_latestGoer_26 ?_
        refine lv_iload hx hb dX6_latestGoer_27 (lv_at hl 4 rfl) ?_
        refine lv_iadd hx hb dX6_latestGoer_29 ?_
        obtain ⟨z_7, h⟩ := gb_ck_s h
        refine va_iald hx hb hK hP 119 0 (gb_at b rfl) rfl z_7 dX6_latestGoer_30 ?_
        refine lv_topi (fun x_8 ex_8 => ?_)
        replace h := gb_lt_s ex_8 h
        refine lv_istore (lv' := [(5, .int x_8), (0, .ref (b + 109)), (1, .int v1), (2, .int v2), (3, .int v3), (4, .int v4)]) hx hb dX6_latestGoer_31 hl (by decide) rfl (fun ls hl => ?_)
        refine lv_iload hx hb dX6_latestGoer_33 (lv_at hl 0 rfl) ?_
        refine lv_iload_n hx hb dX6_latestGoer_35 rfl (lv_at hl 3 rfl) ?_
        refine lv_icmp_le (tgt := 56) hx hb dX6_latestGoer_36 (by decide) (fun c_9 => ?_) (fun c_9 => ?_)
        · rw [if_pos c_9] at h
          obtain ⟨x_10, ex_10⟩ : ∃ q, q = (v4 + 1) := ⟨_, rfl⟩
          replace h := gb_lt_s ex_10 h
          refine lv_iinc (v := x_10) (lv' := [(4, .int x_10), (5, .int x_8), (0, .ref (b + 109)), (1, .int v1), (2, .int v2), (3, .int v3)]) hx hb dX6_latestGoer_56 hl (k := 5) rfl (by rw [ex_10]; rfl) (by decide) rfl (fun ls hl => ?_)
          refine lv_goto (tgt := 7) hx hb dX6_latestGoer_59 (by decide) ?_
          exact ih _ _ _ _ _ _ _ _ h hP hS (lv_sub hl [2, 3, 4, 5, 0] rfl)
        · rw [if_neg c_9] at h
          refine lv_aload_n hx hb dX6_latestGoer_39 rfl (lv_at hl 1 rfl) ?_
          refine va_get (ci := 5) (v := (.ref (b + 112))) (C := RX6) (T := TX6) (N := 12) hx hb hq i_X6 hown hK hP 109 (gb_at b rfl) rfl 1 (by decide) (hq _ w_198) (fun _ h9 => h9) rfl dX6_latestGoer_40 ?_
          refine lv_iload hx hb dX6_latestGoer_43 (lv_at hl 5 rfl) ?_
          obtain ⟨z_11, h⟩ := gb_ck_s h
          refine va_iald hx hb hK hP 112 0 (gb_at b rfl) rfl z_11 dX6_latestGoer_45 ?_
          refine lv_topi (fun x_12 ex_12 => ?_)
          replace h := gb_lt_s ex_12 h
          refine lv_iconst (v := 2) hx hb dX6_latestGoer_46 (by decide) ?_
          refine lv_icmp_eq (tgt := 56) hx hb dX6_latestGoer_47 (by decide) (fun c_13 => ?_) (fun c_13 => ?_)
          · rw [if_pos c_13] at h
            obtain ⟨x_14, ex_14⟩ : ∃ q, q = (v4 + 1) := ⟨_, rfl⟩
            replace h := gb_lt_s ex_14 h
            refine lv_iinc (v := x_14) (lv' := [(4, .int x_14), (5, .int x_8), (0, .ref (b + 109)), (1, .int v1), (2, .int v2), (3, .int v3)]) hx hb dX6_latestGoer_56 hl (k := 5) rfl (by rw [ex_14]; rfl) (by decide) rfl (fun ls hl => ?_)
            refine lv_goto (tgt := 7) hx hb dX6_latestGoer_59 (by decide) ?_
            exact ih _ _ _ _ _ _ _ _ h hP hS (lv_sub hl [2, 3, 4, 5, 0] rfl)
          · rw [if_neg c_13] at h
            refine lv_iload hx hb dX6_latestGoer_50 (lv_at hl 0 rfl) ?_
            refine lv_istore_n (lv' := [(2, .int x_8), (5, .int x_8), (0, .ref (b + 109)), (1, .int v1), (3, .int v3), (4, .int v4)]) hx hb dX6_latestGoer_52 rfl hl (by decide) rfl (fun ls hl => ?_)
            refine lv_iload hx hb dX6_latestGoer_53 (lv_at hl 5 rfl) ?_
            refine lv_istore_n (lv' := [(3, .int v4), (2, .int x_8), (5, .int x_8), (0, .ref (b + 109)), (1, .int v1), (4, .int v4)]) hx hb dX6_latestGoer_55 rfl hl (by decide) rfl (fun ls hl => ?_)
            obtain ⟨x_15, ex_15⟩ : ∃ q, q = (v4 + 1) := ⟨_, rfl⟩
            replace h := gb_lt_s ex_15 h
            refine lv_iinc (v := x_15) (lv' := [(4, .int x_15), (3, .int v4), (2, .int x_8), (5, .int x_8), (0, .ref (b + 109)), (1, .int v1)]) hx hb dX6_latestGoer_56 hl (k := 5) rfl (by rw [ex_15]; rfl) (by decide) rfl (fun ls hl => ?_)
            refine lv_goto (tgt := 7) hx hb dX6_latestGoer_59 (by decide) ?_
            exact ih _ _ _ _ _ _ _ _ h hP hS (lv_sub hl [4, 5, 2, 1, 0] rfl)
  unfold cs_Play_latestGoer at h
  refine lv_iconst (v := 0) hx hb dX6_latestGoer_0 (by decide) ?_
  refine lv_istore_n (lv' := [(2, .int 0), (0, .ref (b + 109)), (1, .int p1)]) hx hb dX6_latestGoer_1 rfl hl (by decide) rfl (fun ls hl => ?_)
  refine lv_iconst (v := (-1)) hx hb dX6_latestGoer_2 (by decide) ?_
  refine lv_istore_n (lv' := [(3, .int (-1)), (2, .int 0), (0, .ref (b + 109)), (1, .int p1)]) hx hb dX6_latestGoer_3 rfl hl (by decide) rfl (fun ls hl => ?_)
  refine lv_iconst (v := 0) hx hb dX6_latestGoer_4 (by decide) ?_
  refine lv_istore (lv' := [(4, .int 0), (3, .int (-1)), (2, .int 0), (0, .ref (b + 109)), (1, .int p1)]) hx hb dX6_latestGoer_5 hl (by decide) rfl (fun ls hl => ?_)
  exact L7_1 n _ _ _ _ _ _ _ _ h hP hS (lv_sub hl [3, 4, 2, 1, 0] rfl)
theorem w_737 : (Cond.code ({ cls := "GooseBorder$Play", name := "latestGoer", desc := "(I)I" } : MethodName) prog_8_method_10_code (6 : Nat) (Option.some FieldType.int)) ∈ gb_wA := gb_t4 17 rfl rfl
theorem w_734 : (Cond.methodLink "GooseBorder$Play" (104 : Nat) ({ cls := "GooseBorder$Play", name := "latestGoer", desc := "(I)I" } : MethodName)) ∈ gb_wA := gb_t4 14 rfl rfl
theorem w_736 : (Cond.instanceMethod ({ cls := "GooseBorder$Play", name := "latestGoer", desc := "(I)I" } : MethodName)) ∈ gb_wA := gb_t4 16 rfl rfl
theorem s_1_14 : Cond.selects "GooseBorder$Play" (⟨"GooseBorder$Play", "latestGoer", "(I)I"⟩ : MethodName) (⟨"GooseBorder$Play", "latestGoer", "(I)I"⟩ : MethodName) ∈ gb_wA := gb_s1 14 rfl rfl
theorem dX6_canBe_207 : decode cX6_canBe 207 = .ok (.iconst (-1), 1) := dc_2 (show ((cX6_canBe.data.toList.drop 207).take 1).map UInt8.toNat = [2] by decide +kernel)
theorem dX6_canBe_208 : decode cX6_canBe 208 = .ok (.if_icmp .eq 7, 3) := dc_159 (show ((cX6_canBe.data.toList.drop 208).take 3).map UInt8.toNat = [159, 0, 7] by decide +kernel) rfl
theorem dX6_canBe_211 : decode cX6_canBe 211 = .ok (.iconst 1, 1) := dc_4 (show ((cX6_canBe.data.toList.drop 211).take 1).map UInt8.toNat = [4] by decide +kernel)
theorem dX6_canBe_212 : decode cX6_canBe 212 = .ok (.goto 4, 3) := dc_167 (show ((cX6_canBe.data.toList.drop 212).take 3).map UInt8.toNat = [167, 0, 4] by decide +kernel) rfl
def cs_Play_canBe_N (n : Nat) (σ : gb_S) (p1 : Nat) (p2 : Int32) : gb_CR Int32 := gb_kk (gb_kN p1) (gb_cd (cs_Lines_cell_N n σ p1 p2 1) (fun s_2 r_3 => gb_cd (cs_Lines_cell_N n s_2 p1 p2 2) (fun s_6 r_7 => gb_cd (cs_Lines_kind_N n s_6 p1 p2) (fun s_10 r_11 => (if r_11 = (0 : Int32) then gb_cd (cs_Play_stands n s_10 r_3 0) (fun s_15 r_16 => (if r_16 = 0 then some (s_15, 0) else gb_kk (gb_kB (s_15.2.1 1)) (gb_cd (cs_Border_hasPath_B n s_15 (s_15.2.1 1) r_7) (fun s_21 r_22 => (if r_22 = 0 then some (s_21, 0) else some (s_21, 1)))))) else (if r_11 = (1 : Int32) then gb_cd (cs_Play_stands n s_10 r_3 0) (fun s_27 r_28 => (if r_28 = 0 then some (s_27, 0) else gb_kk (gb_kB (s_27.2.1 1)) (gb_cd (cs_Border_hasPath_B n s_27 (s_27.2.1 1) r_7) (fun s_33 r_34 => (if r_34 = 0 then some (s_33, 0) else some (s_33, 1)))))) else (if r_11 = (2 : Int32) then gb_cd (cs_Play_stands n s_10 r_3 1) (fun s_39 r_40 => (if r_40 = 0 then some (s_39, 0) else gb_kk (gb_kB (s_39.2.1 1)) (gb_cd (cs_Border_hasPath_B n s_39 (s_39.2.1 1) r_7) (fun s_45 r_46 => (if r_46 = 0 then some (s_45, 0) else some (s_45, 1)))))) else (if r_11 = (3 : Int32) then gb_cd (cs_Play_stands n s_10 r_3 0) (fun s_51 r_52 => (if r_52 = 0 then some (s_51, 0) else gb_cd (cs_Play_stands n s_51 r_7 0) (fun s_56 r_57 => (if r_57 = 0 then some (s_56, 0) else gb_kk (gb_kB (s_56.2.1 1)) (gb_cd (cs_Lines_cell_N n s_56 p1 p2 3) (fun s_62 r_63 => gb_cd (cs_Border_hasPath_B n s_62 (s_56.2.1 1) r_63) (fun s_66 r_67 => (if r_67 = 0 then some (s_66, 0) else some (s_66, 1))))))))) else (if r_11 = (4 : Int32) then gb_cd (cs_Play_stands n s_10 r_3 0) (fun s_72 r_73 => (if r_73 = 0 then gb_cd (cs_Play_stands n s_72 r_3 1) (fun s_77 r_78 => (if r_78 = 0 then some (s_77, 0) else some (s_77, 1))) else some (s_72, 1))) else (if r_11 = (5 : Int32) then some (s_10, 1) else (if r_11 = (6 : Int32) then some (s_10, 1) else (if r_11 = (7 : Int32) then some (s_10, 1) else (if r_11 = (8 : Int32) then gb_kk (gb_kB (s_10.2.1 1)) (gb_cd (cs_Border_hasPath_B n s_10 (s_10.2.1 1) r_3) (fun s_87 r_88 => (if r_88 = 0 then some (s_87, 0) else gb_cd (cs_Play_latestGoer n s_87 r_3) (fun s_92 r_93 => (if r_93 = (-1) then some (s_92, 0) else some (s_92, 1)))))) else some (s_10, 1))))))))))))))
set_option maxHeartbeats 8000000 in
set_option maxRecDepth 100000 in
theorem cc_Play_canBe_N (l : Launch) (D : va_G) (cT : Nat → ClassId) (tt : Nat → Nat) (b1 b : Nat) (hb1 : b1 ≤ b) (n : Nat) (σ : gb_S) (p1 : Nat) (p2 : Int32) (σE : gb_S) (rE : Int32) (h : cs_Play_canBe_N n σ p1 p2 = some (σE, rE)) : Met l yX6_canBe (.code yX6_canBe cX6_canBe 5 (some FieldType.boolean) :: gb_wA) ({ frames := 3, cells := 0, slots := 0, locals := 63 }) (gb_Pc D cT tt b1 [.ref (b + 109), .ref (b + p1), .int p2] (fun h => va_P D vwCl (gb_wl b (gb_CW cT b σ)) h)) (gb_Qi (fun r h => r = rE ∧ va_P D vwCl (gb_wl b (gb_CW cT b σE)) h) (gb_fr b 135)) 0 0 (gb_fr b 135) := by
  refine Met.ofW (cc := cX6_canBe) (maxL := 5) (ret := (some FieldType.boolean)) (by decide) rfl ?_
  intro p e s m args below meth c s₁ B hml hv
  obtain ⟨rfl, hSt, hP⟩ := hv
  have hx := B.exec
  have hb := B.bytes
  have hr := B.returns
  have hts := atoms_spec (ws := .code yX6_canBe cX6_canBe 5 (some FieldType.boolean) :: gb_wA) B.pre
  have hq : ∀ w ∈ gb_wA, w.before _ s = true := fun w h => hts w (List.mem_cons_of_mem _ h)
  have hown : s.vm.findClass RX6 = some m.cls := findClass_of_methodNamed B.named
  have hlocks := B.notSynchronized
  clear B hts
  have hK := hSt.1
  have hS : va_S (gb_fr b 135) s.heap s.heap [] := va_S.rf
  have hl := lv_entry ([.ref (b + 109), .ref (b + p1), .int p2]) (n := 5) (Nat.le_of_ble_eq_true rfl)
  rw [lg_entry_eq]
  generalize (lg_sl ([.ref (b + 109), .ref (b + p1), .int p2]) ++ List.replicate (5 - (lg_sl ([.ref (b + 109), .ref (b + p1), .int p2])).length) Slot.unset).toArray = ls at hl ⊢
  replace hl : lv_has ls 5 [(0, .ref (b + 109)), (1, .ref (b + p1)), (2, .int p2)] := hl
  unfold cs_Play_canBe_N at h
  obtain ⟨z_1, h⟩ := gb_kk_s h
  refine lv_aload_n hx hb dX6_canBe_0 rfl (lv_at hl 1 rfl) ?_
  refine lv_iload_n hx hb dX6_canBe_1 rfl (lv_at hl 2 rfl) ?_
  refine lv_iconst (v := 1) hx hb dX6_canBe_2 (by decide) ?_
  obtain ⟨s_2, r_3, z_4, h⟩ := gb_cd_s h
  refine gb_calli (va_runU (x := ⟨"GooseBorder$Night", "cell", "(II)I"⟩) (C := RX5) (owner := "GooseBorder$Lines") (As := [.int p2, .int 1]) (rest := []) ⟨hx, hb, hml, hown, hq⟩ (cc_Lines_cell_N l D cT tt b1 b hb1 n σ p1 p2 1 s_2 r_3 z_4) (va_cwU (owner := "GooseBorder$Lines") (C := RX5) 2 hq (gb_gU w_723 w_724 w_725 w_546 w_6 w_547) rfl rfl rfl rfl (by decide +kernel) ⟨Nat.le_of_ble_eq_true rfl, Nat.le_of_ble_eq_true rfl⟩) (gb_preV (r := (RX5, TX5, 4)) (ci := 4) (q0 := p1) hSt hP rfl (gb_at b (gb_cN z_1).1) hS (fun q h => Nat.le_trans hb1 h.1) hP) rfl rfl hl.1 rfl (lv_room (Nat.le_of_ble_eq_true rfl)) dX6_canBe_3 ⟨Nat.le_of_ble_eq_true rfl, Nat.le_of_ble_eq_true rfl⟩) hS (fun _ h => h) (fun _ h => h) (fun q_5 H locs hY hk hS => ?_)
  obtain ⟨hq_5, hP⟩ := hY
  replace hq_5 := hq_5.symm
  subst hq_5
  refine lv_istore_n (lv' := [(3, .int r_3), (0, .ref (b + 109)), (1, .ref (b + p1)), (2, .int p2)]) hx hb dX6_canBe_6 rfl hl (by decide) rfl (fun ls hl => ?_)
  refine lv_aload_n hx hb dX6_canBe_7 rfl (lv_at hl 2 rfl) ?_
  refine lv_iload_n hx hb dX6_canBe_8 rfl (lv_at hl 3 rfl) ?_
  refine lv_iconst (v := 2) hx hb dX6_canBe_9 (by decide) ?_
  obtain ⟨s_6, r_7, z_8, h⟩ := gb_cd_s h
  refine gb_calli (va_runU (x := ⟨"GooseBorder$Night", "cell", "(II)I"⟩) (C := RX5) (owner := "GooseBorder$Lines") (As := [.int p2, .int 2]) (rest := []) ⟨hx, hb, hml, hown, hq⟩ (cc_Lines_cell_N l D cT tt b1 b hb1 n s_2 p1 p2 2 s_6 r_7 z_8) (va_cwU (owner := "GooseBorder$Lines") (C := RX5) 2 hq (gb_gU w_723 w_724 w_725 w_546 w_6 w_547) rfl rfl rfl rfl (by decide +kernel) ⟨Nat.le_of_ble_eq_true rfl, Nat.le_of_ble_eq_true rfl⟩) (gb_preV (r := (RX5, TX5, 4)) (ci := 4) (q0 := p1) hSt hP rfl (gb_at b (gb_cN z_1).1) hS (fun q h => Nat.le_trans hb1 h.1) hP) rfl rfl hl.1 rfl (lv_room (Nat.le_of_ble_eq_true rfl)) dX6_canBe_10 ⟨Nat.le_of_ble_eq_true rfl, Nat.le_of_ble_eq_true rfl⟩) hS (fun _ h => h) (fun _ h => h) (fun q_9 H locs hY hk hS => ?_)
  obtain ⟨hq_9, hP⟩ := hY
  replace hq_9 := hq_9.symm
  subst hq_9
  refine lv_istore (lv' := [(4, .int r_7), (3, .int r_3), (0, .ref (b + 109)), (1, .ref (b + p1)), (2, .int p2)]) hx hb dX6_canBe_13 hl (by decide) rfl (fun ls hl => ?_)
  refine lv_aload_n hx hb dX6_canBe_15 rfl (lv_at hl 3 rfl) ?_
  refine lv_iload_n hx hb dX6_canBe_16 rfl (lv_at hl 4 rfl) ?_
  obtain ⟨s_10, r_11, z_12, h⟩ := gb_cd_s h
  refine gb_calli (va_runU (x := ⟨"GooseBorder$Night", "kind", "(I)I"⟩) (C := RX5) (owner := "GooseBorder$Lines") (As := [.int p2]) (rest := []) ⟨hx, hb, hml, hown, hq⟩ (cc_Lines_kind_N l D cT tt b1 b hb1 n s_6 p1 p2 s_10 r_11 z_12) (va_cwU (owner := "GooseBorder$Lines") (C := RX5) 1 hq (gb_gU w_726 w_727 w_728 w_689 w_6 w_690) rfl rfl rfl rfl (by decide +kernel) ⟨Nat.le_of_ble_eq_true rfl, Nat.le_of_ble_eq_true rfl⟩) (gb_preV (r := (RX5, TX5, 4)) (ci := 4) (q0 := p1) hSt hP rfl (gb_at b (gb_cN z_1).1) hS (fun q h => Nat.le_trans hb1 h.1) hP) rfl rfl hl.1 rfl (lv_room (Nat.le_of_ble_eq_true rfl)) dX6_canBe_17 ⟨Nat.le_of_ble_eq_true rfl, Nat.le_of_ble_eq_true rfl⟩) hS (fun _ h => h) (fun _ h => h) (fun q_13 H locs hY hk hS => ?_)
  obtain ⟨hq_13, hP⟩ := hY
  replace hq_13 := hq_13.symm
  subst hq_13
  by_cases c_14 : r_11 = (0 : Int32)
  · rw [if_pos c_14] at h
    refine lv_tableIn (off := 52) (tgt := 72) hx hb dX6_canBe_20 (by rw [c_14]; decide) (by rw [c_14]; decide) (by rw [c_14]; decide) (by decide) ?_
    refine lv_aload_n hx hb dX6_canBe_72 rfl (lv_at hl 2 rfl) ?_
    refine lv_iload_n hx hb dX6_canBe_73 rfl (lv_at hl 1 rfl) ?_
    refine lv_iconst (v := 0) hx hb dX6_canBe_74 (by decide) ?_
    obtain ⟨s_15, r_16, z_17, h⟩ := gb_cd_s h
    refine gb_calli (va_runV (C := RX6) (As := [.int r_3, .int 0]) (rest := []) ⟨hx, hb, hml, hown, hq⟩ (cc_Play_stands l D cT tt b1 b hb1 n s_10 r_3 0 s_15 r_16 z_17) (cwV 2 hq (gb_gV w_729 w_731 s_1_13 w_11 w_732) rfl rfl rfl (by decide +kernel) ⟨Nat.le_of_ble_eq_true rfl, Nat.le_of_ble_eq_true rfl⟩) (gb_preV (r := (RX6, TX6, 12)) (ci := 5) (q0 := 109) hSt hP rfl (gb_at b rfl) hS (fun q h => Nat.le_trans hb1 h.1) hP) rfl rfl hl.1 rfl (lv_room (Nat.le_of_ble_eq_true rfl)) dX6_canBe_75 ⟨Nat.le_of_ble_eq_true rfl, Nat.le_of_ble_eq_true rfl⟩) hS (fun _ h => h) (fun _ h => h) (fun q_18 H locs hY hk hS => ?_)
    obtain ⟨hq_18, hP⟩ := hY
    replace hq_18 := hq_18.symm
    subst hq_18
    refine lv_if_eq (tgt := 97) hx hb dX6_canBe_78 (by decide) (fun c_19 => ?_) (fun c_19 => ?_)
    · rw [if_pos c_19] at h
      refine lv_iconst (v := 0) hx hb dX6_canBe_97 (by decide) ?_
      obtain ⟨e1, e2⟩ := gb_eq2 h
      exact W.zret (v := 0) hx hb hr (by decide) (fun t ht hW => gb_ri ht ⟨e2, by rw [← e1]; exact hP⟩ hS) hS.2.2 dX6_canBe_98
    · rw [if_neg c_19] at h
      refine lv_aload_n hx hb dX6_canBe_81 rfl (lv_at hl 2 rfl) ?_
      obtain ⟨z_20, h⟩ := gb_kk_s h
      refine va_get (ci := 5) (v := (.ref (b + (s_15.2.1 1)))) (C := RX6) (T := TX6) (N := 12) hx hb hq i_X6 hown hK hP 109 (gb_at b rfl) rfl 0 (by decide) (hq _ w_197) (fun _ h9 => h9) rfl dX6_canBe_82 ?_
      refine lv_iload hx hb dX6_canBe_85 (lv_at hl 0 rfl) ?_
      obtain ⟨s_21, r_22, z_23, h⟩ := gb_cd_s h
      refine gb_calli (va_runV (C := RX0) (As := [.int r_7]) (rest := []) ⟨hx, hb, hml, hown, hq⟩ (cc_Border_hasPath_B l D cT tt b1 b hb1 n s_15 (s_15.2.1 1) r_7 s_21 r_22 z_23) (cwV 1 hq (gb_gV w_733 w_608 w_609 w_4 w_610) rfl rfl rfl (by decide +kernel) ⟨Nat.le_of_ble_eq_true rfl, Nat.le_of_ble_eq_true rfl⟩) (gb_preV (r := (RX0, TX0, 1)) (ci := 0) (q0 := (s_15.2.1 1)) hSt hP rfl (gb_at b (gb_cB z_20).1) hS (fun q h => Nat.le_trans hb1 h.1) hP) rfl rfl hl.1 rfl (lv_room (Nat.le_of_ble_eq_true rfl)) dX6_canBe_87 ⟨Nat.le_of_ble_eq_true rfl, Nat.le_of_ble_eq_true rfl⟩) hS (fun _ h => h) (fun _ h => h) (fun q_24 H locs hY hk hS => ?_)
      obtain ⟨hq_24, hP⟩ := hY
      replace hq_24 := hq_24.symm
      subst hq_24
      refine lv_if_eq (tgt := 97) hx hb dX6_canBe_90 (by decide) (fun c_25 => ?_) (fun c_25 => ?_)
      · rw [if_pos c_25] at h
        refine lv_iconst (v := 0) hx hb dX6_canBe_97 (by decide) ?_
        obtain ⟨e1, e2⟩ := gb_eq2 h
        exact W.zret (v := 0) hx hb hr (by decide) (fun t ht hW => gb_ri ht ⟨e2, by rw [← e1]; exact hP⟩ hS) hS.2.2 dX6_canBe_98
      · rw [if_neg c_25] at h
        refine lv_iconst (v := 1) hx hb dX6_canBe_93 (by decide) ?_
        refine lv_goto (tgt := 98) hx hb dX6_canBe_94 (by decide) ?_
        obtain ⟨e1, e2⟩ := gb_eq2 h
        exact W.zret (v := 1) hx hb hr (by decide) (fun t ht hW => gb_ri ht ⟨e2, by rw [← e1]; exact hP⟩ hS) hS.2.2 dX6_canBe_98
  rw [if_neg c_14] at h
  by_cases c_26 : r_11 = (1 : Int32)
  · rw [if_pos c_26] at h
    refine lv_tableIn (off := 52) (tgt := 72) hx hb dX6_canBe_20 (by rw [c_26]; decide) (by rw [c_26]; decide) (by rw [c_26]; decide) (by decide) ?_
    refine lv_aload_n hx hb dX6_canBe_72 rfl (lv_at hl 2 rfl) ?_
    refine lv_iload_n hx hb dX6_canBe_73 rfl (lv_at hl 1 rfl) ?_
    refine lv_iconst (v := 0) hx hb dX6_canBe_74 (by decide) ?_
    obtain ⟨s_27, r_28, z_29, h⟩ := gb_cd_s h
    refine gb_calli (va_runV (C := RX6) (As := [.int r_3, .int 0]) (rest := []) ⟨hx, hb, hml, hown, hq⟩ (cc_Play_stands l D cT tt b1 b hb1 n s_10 r_3 0 s_27 r_28 z_29) (cwV 2 hq (gb_gV w_729 w_731 s_1_13 w_11 w_732) rfl rfl rfl (by decide +kernel) ⟨Nat.le_of_ble_eq_true rfl, Nat.le_of_ble_eq_true rfl⟩) (gb_preV (r := (RX6, TX6, 12)) (ci := 5) (q0 := 109) hSt hP rfl (gb_at b rfl) hS (fun q h => Nat.le_trans hb1 h.1) hP) rfl rfl hl.1 rfl (lv_room (Nat.le_of_ble_eq_true rfl)) dX6_canBe_75 ⟨Nat.le_of_ble_eq_true rfl, Nat.le_of_ble_eq_true rfl⟩) hS (fun _ h => h) (fun _ h => h) (fun q_30 H locs hY hk hS => ?_)
    obtain ⟨hq_30, hP⟩ := hY
    replace hq_30 := hq_30.symm
    subst hq_30
    refine lv_if_eq (tgt := 97) hx hb dX6_canBe_78 (by decide) (fun c_31 => ?_) (fun c_31 => ?_)
    · rw [if_pos c_31] at h
      refine lv_iconst (v := 0) hx hb dX6_canBe_97 (by decide) ?_
      obtain ⟨e1, e2⟩ := gb_eq2 h
      exact W.zret (v := 0) hx hb hr (by decide) (fun t ht hW => gb_ri ht ⟨e2, by rw [← e1]; exact hP⟩ hS) hS.2.2 dX6_canBe_98
    · rw [if_neg c_31] at h
      refine lv_aload_n hx hb dX6_canBe_81 rfl (lv_at hl 2 rfl) ?_
      obtain ⟨z_32, h⟩ := gb_kk_s h
      refine va_get (ci := 5) (v := (.ref (b + (s_27.2.1 1)))) (C := RX6) (T := TX6) (N := 12) hx hb hq i_X6 hown hK hP 109 (gb_at b rfl) rfl 0 (by decide) (hq _ w_197) (fun _ h9 => h9) rfl dX6_canBe_82 ?_
      refine lv_iload hx hb dX6_canBe_85 (lv_at hl 0 rfl) ?_
      obtain ⟨s_33, r_34, z_35, h⟩ := gb_cd_s h
      refine gb_calli (va_runV (C := RX0) (As := [.int r_7]) (rest := []) ⟨hx, hb, hml, hown, hq⟩ (cc_Border_hasPath_B l D cT tt b1 b hb1 n s_27 (s_27.2.1 1) r_7 s_33 r_34 z_35) (cwV 1 hq (gb_gV w_733 w_608 w_609 w_4 w_610) rfl rfl rfl (by decide +kernel) ⟨Nat.le_of_ble_eq_true rfl, Nat.le_of_ble_eq_true rfl⟩) (gb_preV (r := (RX0, TX0, 1)) (ci := 0) (q0 := (s_27.2.1 1)) hSt hP rfl (gb_at b (gb_cB z_32).1) hS (fun q h => Nat.le_trans hb1 h.1) hP) rfl rfl hl.1 rfl (lv_room (Nat.le_of_ble_eq_true rfl)) dX6_canBe_87 ⟨Nat.le_of_ble_eq_true rfl, Nat.le_of_ble_eq_true rfl⟩) hS (fun _ h => h) (fun _ h => h) (fun q_36 H locs hY hk hS => ?_)
      obtain ⟨hq_36, hP⟩ := hY
      replace hq_36 := hq_36.symm
      subst hq_36
      refine lv_if_eq (tgt := 97) hx hb dX6_canBe_90 (by decide) (fun c_37 => ?_) (fun c_37 => ?_)
      · rw [if_pos c_37] at h
        refine lv_iconst (v := 0) hx hb dX6_canBe_97 (by decide) ?_
        obtain ⟨e1, e2⟩ := gb_eq2 h
        exact W.zret (v := 0) hx hb hr (by decide) (fun t ht hW => gb_ri ht ⟨e2, by rw [← e1]; exact hP⟩ hS) hS.2.2 dX6_canBe_98
      · rw [if_neg c_37] at h
        refine lv_iconst (v := 1) hx hb dX6_canBe_93 (by decide) ?_
        refine lv_goto (tgt := 98) hx hb dX6_canBe_94 (by decide) ?_
        obtain ⟨e1, e2⟩ := gb_eq2 h
        exact W.zret (v := 1) hx hb hr (by decide) (fun t ht hW => gb_ri ht ⟨e2, by rw [← e1]; exact hP⟩ hS) hS.2.2 dX6_canBe_98
  rw [if_neg c_26] at h
  by_cases c_38 : r_11 = (2 : Int32)
  · rw [if_pos c_38] at h
    refine lv_tableIn (off := 79) (tgt := 99) hx hb dX6_canBe_20 (by rw [c_38]; decide) (by rw [c_38]; decide) (by rw [c_38]; decide) (by decide) ?_
    refine lv_aload_n hx hb dX6_canBe_99 rfl (lv_at hl 2 rfl) ?_
    refine lv_iload_n hx hb dX6_canBe_100 rfl (lv_at hl 1 rfl) ?_
    refine lv_iconst (v := 1) hx hb dX6_canBe_101 (by decide) ?_
    obtain ⟨s_39, r_40, z_41, h⟩ := gb_cd_s h
    refine gb_calli (va_runV (C := RX6) (As := [.int r_3, .int 1]) (rest := []) ⟨hx, hb, hml, hown, hq⟩ (cc_Play_stands l D cT tt b1 b hb1 n s_10 r_3 1 s_39 r_40 z_41) (cwV 2 hq (gb_gV w_729 w_731 s_1_13 w_11 w_732) rfl rfl rfl (by decide +kernel) ⟨Nat.le_of_ble_eq_true rfl, Nat.le_of_ble_eq_true rfl⟩) (gb_preV (r := (RX6, TX6, 12)) (ci := 5) (q0 := 109) hSt hP rfl (gb_at b rfl) hS (fun q h => Nat.le_trans hb1 h.1) hP) rfl rfl hl.1 rfl (lv_room (Nat.le_of_ble_eq_true rfl)) dX6_canBe_102 ⟨Nat.le_of_ble_eq_true rfl, Nat.le_of_ble_eq_true rfl⟩) hS (fun _ h => h) (fun _ h => h) (fun q_42 H locs hY hk hS => ?_)
    obtain ⟨hq_42, hP⟩ := hY
    replace hq_42 := hq_42.symm
    subst hq_42
    refine lv_if_eq (tgt := 124) hx hb dX6_canBe_105 (by decide) (fun c_43 => ?_) (fun c_43 => ?_)
    · rw [if_pos c_43] at h
      refine lv_iconst (v := 0) hx hb dX6_canBe_124 (by decide) ?_
      obtain ⟨e1, e2⟩ := gb_eq2 h
      exact W.zret (v := 0) hx hb hr (by decide) (fun t ht hW => gb_ri ht ⟨e2, by rw [← e1]; exact hP⟩ hS) hS.2.2 dX6_canBe_125
    · rw [if_neg c_43] at h
      refine lv_aload_n hx hb dX6_canBe_108 rfl (lv_at hl 2 rfl) ?_
      obtain ⟨z_44, h⟩ := gb_kk_s h
      refine va_get (ci := 5) (v := (.ref (b + (s_39.2.1 1)))) (C := RX6) (T := TX6) (N := 12) hx hb hq i_X6 hown hK hP 109 (gb_at b rfl) rfl 0 (by decide) (hq _ w_197) (fun _ h9 => h9) rfl dX6_canBe_109 ?_
      refine lv_iload hx hb dX6_canBe_112 (lv_at hl 0 rfl) ?_
      obtain ⟨s_45, r_46, z_47, h⟩ := gb_cd_s h
      refine gb_calli (va_runV (C := RX0) (As := [.int r_7]) (rest := []) ⟨hx, hb, hml, hown, hq⟩ (cc_Border_hasPath_B l D cT tt b1 b hb1 n s_39 (s_39.2.1 1) r_7 s_45 r_46 z_47) (cwV 1 hq (gb_gV w_733 w_608 w_609 w_4 w_610) rfl rfl rfl (by decide +kernel) ⟨Nat.le_of_ble_eq_true rfl, Nat.le_of_ble_eq_true rfl⟩) (gb_preV (r := (RX0, TX0, 1)) (ci := 0) (q0 := (s_39.2.1 1)) hSt hP rfl (gb_at b (gb_cB z_44).1) hS (fun q h => Nat.le_trans hb1 h.1) hP) rfl rfl hl.1 rfl (lv_room (Nat.le_of_ble_eq_true rfl)) dX6_canBe_114 ⟨Nat.le_of_ble_eq_true rfl, Nat.le_of_ble_eq_true rfl⟩) hS (fun _ h => h) (fun _ h => h) (fun q_48 H locs hY hk hS => ?_)
      obtain ⟨hq_48, hP⟩ := hY
      replace hq_48 := hq_48.symm
      subst hq_48
      refine lv_if_eq (tgt := 124) hx hb dX6_canBe_117 (by decide) (fun c_49 => ?_) (fun c_49 => ?_)
      · rw [if_pos c_49] at h
        refine lv_iconst (v := 0) hx hb dX6_canBe_124 (by decide) ?_
        obtain ⟨e1, e2⟩ := gb_eq2 h
        exact W.zret (v := 0) hx hb hr (by decide) (fun t ht hW => gb_ri ht ⟨e2, by rw [← e1]; exact hP⟩ hS) hS.2.2 dX6_canBe_125
      · rw [if_neg c_49] at h
        refine lv_iconst (v := 1) hx hb dX6_canBe_120 (by decide) ?_
        refine lv_goto (tgt := 125) hx hb dX6_canBe_121 (by decide) ?_
        obtain ⟨e1, e2⟩ := gb_eq2 h
        exact W.zret (v := 1) hx hb hr (by decide) (fun t ht hW => gb_ri ht ⟨e2, by rw [← e1]; exact hP⟩ hS) hS.2.2 dX6_canBe_125
  rw [if_neg c_38] at h
  by_cases c_50 : r_11 = (3 : Int32)
  · rw [if_pos c_50] at h
    refine lv_tableIn (off := 106) (tgt := 126) hx hb dX6_canBe_20 (by rw [c_50]; decide) (by rw [c_50]; decide) (by rw [c_50]; decide) (by decide) ?_
    refine lv_aload_n hx hb dX6_canBe_126 rfl (lv_at hl 2 rfl) ?_
    refine lv_iload_n hx hb dX6_canBe_127 rfl (lv_at hl 1 rfl) ?_
    refine lv_iconst (v := 0) hx hb dX6_canBe_128 (by decide) ?_
    obtain ⟨s_51, r_52, z_53, h⟩ := gb_cd_s h
    refine gb_calli (va_runV (C := RX6) (As := [.int r_3, .int 0]) (rest := []) ⟨hx, hb, hml, hown, hq⟩ (cc_Play_stands l D cT tt b1 b hb1 n s_10 r_3 0 s_51 r_52 z_53) (cwV 2 hq (gb_gV w_729 w_731 s_1_13 w_11 w_732) rfl rfl rfl (by decide +kernel) ⟨Nat.le_of_ble_eq_true rfl, Nat.le_of_ble_eq_true rfl⟩) (gb_preV (r := (RX6, TX6, 12)) (ci := 5) (q0 := 109) hSt hP rfl (gb_at b rfl) hS (fun q h => Nat.le_trans hb1 h.1) hP) rfl rfl hl.1 rfl (lv_room (Nat.le_of_ble_eq_true rfl)) dX6_canBe_129 ⟨Nat.le_of_ble_eq_true rfl, Nat.le_of_ble_eq_true rfl⟩) hS (fun _ h => h) (fun _ h => h) (fun q_54 H locs hY hk hS => ?_)
    obtain ⟨hq_54, hP⟩ := hY
    replace hq_54 := hq_54.symm
    subst hq_54
    refine lv_if_eq (tgt := 165) hx hb dX6_canBe_132 (by decide) (fun c_55 => ?_) (fun c_55 => ?_)
    · rw [if_pos c_55] at h
      refine lv_iconst (v := 0) hx hb dX6_canBe_165 (by decide) ?_
      obtain ⟨e1, e2⟩ := gb_eq2 h
      exact W.zret (v := 0) hx hb hr (by decide) (fun t ht hW => gb_ri ht ⟨e2, by rw [← e1]; exact hP⟩ hS) hS.2.2 dX6_canBe_166
    · rw [if_neg c_55] at h
      refine lv_aload_n hx hb dX6_canBe_135 rfl (lv_at hl 2 rfl) ?_
      refine lv_iload hx hb dX6_canBe_136 (lv_at hl 0 rfl) ?_
      refine lv_iconst (v := 0) hx hb dX6_canBe_138 (by decide) ?_
      obtain ⟨s_56, r_57, z_58, h⟩ := gb_cd_s h
      refine gb_calli (va_runV (C := RX6) (As := [.int r_7, .int 0]) (rest := []) ⟨hx, hb, hml, hown, hq⟩ (cc_Play_stands l D cT tt b1 b hb1 n s_51 r_7 0 s_56 r_57 z_58) (cwV 2 hq (gb_gV w_729 w_731 s_1_13 w_11 w_732) rfl rfl rfl (by decide +kernel) ⟨Nat.le_of_ble_eq_true rfl, Nat.le_of_ble_eq_true rfl⟩) (gb_preV (r := (RX6, TX6, 12)) (ci := 5) (q0 := 109) hSt hP rfl (gb_at b rfl) hS (fun q h => Nat.le_trans hb1 h.1) hP) rfl rfl hl.1 rfl (lv_room (Nat.le_of_ble_eq_true rfl)) dX6_canBe_139 ⟨Nat.le_of_ble_eq_true rfl, Nat.le_of_ble_eq_true rfl⟩) hS (fun _ h => h) (fun _ h => h) (fun q_59 H locs hY hk hS => ?_)
      obtain ⟨hq_59, hP⟩ := hY
      replace hq_59 := hq_59.symm
      subst hq_59
      refine lv_if_eq (tgt := 165) hx hb dX6_canBe_142 (by decide) (fun c_60 => ?_) (fun c_60 => ?_)
      · rw [if_pos c_60] at h
        refine lv_iconst (v := 0) hx hb dX6_canBe_165 (by decide) ?_
        obtain ⟨e1, e2⟩ := gb_eq2 h
        exact W.zret (v := 0) hx hb hr (by decide) (fun t ht hW => gb_ri ht ⟨e2, by rw [← e1]; exact hP⟩ hS) hS.2.2 dX6_canBe_166
      · rw [if_neg c_60] at h
        refine lv_aload_n hx hb dX6_canBe_145 rfl (lv_at hl 2 rfl) ?_
        obtain ⟨z_61, h⟩ := gb_kk_s h
        refine va_get (ci := 5) (v := (.ref (b + (s_56.2.1 1)))) (C := RX6) (T := TX6) (N := 12) hx hb hq i_X6 hown hK hP 109 (gb_at b rfl) rfl 0 (by decide) (hq _ w_197) (fun _ h9 => h9) rfl dX6_canBe_146 ?_
        refine lv_aload_n hx hb dX6_canBe_149 rfl (lv_at hl 3 rfl) ?_
        refine lv_iload_n hx hb dX6_canBe_150 rfl (lv_at hl 4 rfl) ?_
        refine lv_iconst (v := 3) hx hb dX6_canBe_151 (by decide) ?_
        obtain ⟨s_62, r_63, z_64, h⟩ := gb_cd_s h
        refine gb_calli (va_runU (x := ⟨"GooseBorder$Night", "cell", "(II)I"⟩) (C := RX5) (owner := "GooseBorder$Lines") (As := [.int p2, .int 3]) (rest := [.ref (b + (s_56.2.1 1))]) ⟨hx, hb, hml, hown, hq⟩ (cc_Lines_cell_N l D cT tt b1 b hb1 n s_56 p1 p2 3 s_62 r_63 z_64) (va_cwU (owner := "GooseBorder$Lines") (C := RX5) 2 hq (gb_gU w_723 w_724 w_725 w_546 w_6 w_547) rfl rfl rfl rfl (by decide +kernel) ⟨Nat.le_of_ble_eq_true rfl, Nat.le_of_ble_eq_true rfl⟩) (gb_preV (r := (RX5, TX5, 4)) (ci := 4) (q0 := p1) hSt hP rfl (gb_at b (gb_cN z_1).1) hS (fun q h => Nat.le_trans hb1 h.1) hP) rfl rfl hl.1 rfl (lv_room (Nat.le_of_ble_eq_true rfl)) dX6_canBe_152 ⟨Nat.le_of_ble_eq_true rfl, Nat.le_of_ble_eq_true rfl⟩) hS (fun _ h => h) (fun _ h => h) (fun q_65 H locs hY hk hS => ?_)
        obtain ⟨hq_65, hP⟩ := hY
        replace hq_65 := hq_65.symm
        subst hq_65
        obtain ⟨s_66, r_67, z_68, h⟩ := gb_cd_s h
        refine gb_calli (va_runV (C := RX0) (As := [.int r_63]) (rest := []) ⟨hx, hb, hml, hown, hq⟩ (cc_Border_hasPath_B l D cT tt b1 b hb1 n s_62 (s_56.2.1 1) r_63 s_66 r_67 z_68) (cwV 1 hq (gb_gV w_733 w_608 w_609 w_4 w_610) rfl rfl rfl (by decide +kernel) ⟨Nat.le_of_ble_eq_true rfl, Nat.le_of_ble_eq_true rfl⟩) (gb_preV (r := (RX0, TX0, 1)) (ci := 0) (q0 := (s_56.2.1 1)) hSt hP rfl (gb_at b (gb_cB z_61).1) hS (fun q h => Nat.le_trans hb1 h.1) hP) rfl rfl hl.1 rfl (lv_room (Nat.le_of_ble_eq_true rfl)) dX6_canBe_155 ⟨Nat.le_of_ble_eq_true rfl, Nat.le_of_ble_eq_true rfl⟩) hS (fun _ h => h) (fun _ h => h) (fun q_69 H locs hY hk hS => ?_)
        obtain ⟨hq_69, hP⟩ := hY
        replace hq_69 := hq_69.symm
        subst hq_69
        refine lv_if_eq (tgt := 165) hx hb dX6_canBe_158 (by decide) (fun c_70 => ?_) (fun c_70 => ?_)
        · rw [if_pos c_70] at h
          refine lv_iconst (v := 0) hx hb dX6_canBe_165 (by decide) ?_
          obtain ⟨e1, e2⟩ := gb_eq2 h
          exact W.zret (v := 0) hx hb hr (by decide) (fun t ht hW => gb_ri ht ⟨e2, by rw [← e1]; exact hP⟩ hS) hS.2.2 dX6_canBe_166
        · rw [if_neg c_70] at h
          refine lv_iconst (v := 1) hx hb dX6_canBe_161 (by decide) ?_
          refine lv_goto (tgt := 166) hx hb dX6_canBe_162 (by decide) ?_
          obtain ⟨e1, e2⟩ := gb_eq2 h
          exact W.zret (v := 1) hx hb hr (by decide) (fun t ht hW => gb_ri ht ⟨e2, by rw [← e1]; exact hP⟩ hS) hS.2.2 dX6_canBe_166
  rw [if_neg c_50] at h
  by_cases c_71 : r_11 = (4 : Int32)
  · rw [if_pos c_71] at h
    refine lv_tableIn (off := 147) (tgt := 167) hx hb dX6_canBe_20 (by rw [c_71]; decide) (by rw [c_71]; decide) (by rw [c_71]; decide) (by decide) ?_
    refine lv_aload_n hx hb dX6_canBe_167 rfl (lv_at hl 2 rfl) ?_
    refine lv_iload_n hx hb dX6_canBe_168 rfl (lv_at hl 1 rfl) ?_
    refine lv_iconst (v := 0) hx hb dX6_canBe_169 (by decide) ?_
    obtain ⟨s_72, r_73, z_74, h⟩ := gb_cd_s h
    refine gb_calli (va_runV (C := RX6) (As := [.int r_3, .int 0]) (rest := []) ⟨hx, hb, hml, hown, hq⟩ (cc_Play_stands l D cT tt b1 b hb1 n s_10 r_3 0 s_72 r_73 z_74) (cwV 2 hq (gb_gV w_729 w_731 s_1_13 w_11 w_732) rfl rfl rfl (by decide +kernel) ⟨Nat.le_of_ble_eq_true rfl, Nat.le_of_ble_eq_true rfl⟩) (gb_preV (r := (RX6, TX6, 12)) (ci := 5) (q0 := 109) hSt hP rfl (gb_at b rfl) hS (fun q h => Nat.le_trans hb1 h.1) hP) rfl rfl hl.1 rfl (lv_room (Nat.le_of_ble_eq_true rfl)) dX6_canBe_170 ⟨Nat.le_of_ble_eq_true rfl, Nat.le_of_ble_eq_true rfl⟩) hS (fun _ h => h) (fun _ h => h) (fun q_75 H locs hY hk hS => ?_)
    obtain ⟨hq_75, hP⟩ := hY
    replace hq_75 := hq_75.symm
    subst hq_75
    refine lv_if_ne (tgt := 185) hx hb dX6_canBe_173 (by decide) (fun c_76 => ?_) (fun c_76 => ?_)
    · rw [if_neg c_76] at h
      refine lv_iconst (v := 1) hx hb dX6_canBe_185 (by decide) ?_
      refine lv_goto (tgt := 190) hx hb dX6_canBe_186 (by decide) ?_
      obtain ⟨e1, e2⟩ := gb_eq2 h
      exact W.zret (v := 1) hx hb hr (by decide) (fun t ht hW => gb_ri ht ⟨e2, by rw [← e1]; exact hP⟩ hS) hS.2.2 dX6_canBe_190
    · rw [if_pos c_76] at h
      refine lv_aload_n hx hb dX6_canBe_176 rfl (lv_at hl 2 rfl) ?_
      refine lv_iload_n hx hb dX6_canBe_177 rfl (lv_at hl 1 rfl) ?_
      refine lv_iconst (v := 1) hx hb dX6_canBe_178 (by decide) ?_
      obtain ⟨s_77, r_78, z_79, h⟩ := gb_cd_s h
      refine gb_calli (va_runV (C := RX6) (As := [.int r_3, .int 1]) (rest := []) ⟨hx, hb, hml, hown, hq⟩ (cc_Play_stands l D cT tt b1 b hb1 n s_72 r_3 1 s_77 r_78 z_79) (cwV 2 hq (gb_gV w_729 w_731 s_1_13 w_11 w_732) rfl rfl rfl (by decide +kernel) ⟨Nat.le_of_ble_eq_true rfl, Nat.le_of_ble_eq_true rfl⟩) (gb_preV (r := (RX6, TX6, 12)) (ci := 5) (q0 := 109) hSt hP rfl (gb_at b rfl) hS (fun q h => Nat.le_trans hb1 h.1) hP) rfl rfl hl.1 rfl (lv_room (Nat.le_of_ble_eq_true rfl)) dX6_canBe_179 ⟨Nat.le_of_ble_eq_true rfl, Nat.le_of_ble_eq_true rfl⟩) hS (fun _ h => h) (fun _ h => h) (fun q_80 H locs hY hk hS => ?_)
      obtain ⟨hq_80, hP⟩ := hY
      replace hq_80 := hq_80.symm
      subst hq_80
      refine lv_if_eq (tgt := 189) hx hb dX6_canBe_182 (by decide) (fun c_81 => ?_) (fun c_81 => ?_)
      · rw [if_pos c_81] at h
        refine lv_iconst (v := 0) hx hb dX6_canBe_189 (by decide) ?_
        obtain ⟨e1, e2⟩ := gb_eq2 h
        exact W.zret (v := 0) hx hb hr (by decide) (fun t ht hW => gb_ri ht ⟨e2, by rw [← e1]; exact hP⟩ hS) hS.2.2 dX6_canBe_190
      · rw [if_neg c_81] at h
        refine lv_iconst (v := 1) hx hb dX6_canBe_185 (by decide) ?_
        refine lv_goto (tgt := 190) hx hb dX6_canBe_186 (by decide) ?_
        obtain ⟨e1, e2⟩ := gb_eq2 h
        exact W.zret (v := 1) hx hb hr (by decide) (fun t ht hW => gb_ri ht ⟨e2, by rw [← e1]; exact hP⟩ hS) hS.2.2 dX6_canBe_190
  rw [if_neg c_71] at h
  by_cases c_82 : r_11 = (5 : Int32)
  · rw [if_pos c_82] at h
    refine lv_tableIn (off := 197) (tgt := 217) hx hb dX6_canBe_20 (by rw [c_82]; decide) (by rw [c_82]; decide) (by rw [c_82]; decide) (by decide) ?_
    refine lv_iconst (v := 1) hx hb dX6_canBe_217 (by decide) ?_
    obtain ⟨e1, e2⟩ := gb_eq2 h
    exact W.zret (v := 1) hx hb hr (by decide) (fun t ht hW => gb_ri ht ⟨e2, by rw [← e1]; exact hP⟩ hS) hS.2.2 dX6_canBe_218
  rw [if_neg c_82] at h
  by_cases c_83 : r_11 = (6 : Int32)
  · rw [if_pos c_83] at h
    refine lv_tableIn (off := 197) (tgt := 217) hx hb dX6_canBe_20 (by rw [c_83]; decide) (by rw [c_83]; decide) (by rw [c_83]; decide) (by decide) ?_
    refine lv_iconst (v := 1) hx hb dX6_canBe_217 (by decide) ?_
    obtain ⟨e1, e2⟩ := gb_eq2 h
    exact W.zret (v := 1) hx hb hr (by decide) (fun t ht hW => gb_ri ht ⟨e2, by rw [← e1]; exact hP⟩ hS) hS.2.2 dX6_canBe_218
  rw [if_neg c_83] at h
  by_cases c_84 : r_11 = (7 : Int32)
  · rw [if_pos c_84] at h
    refine lv_tableIn (off := 197) (tgt := 217) hx hb dX6_canBe_20 (by rw [c_84]; decide) (by rw [c_84]; decide) (by rw [c_84]; decide) (by decide) ?_
    refine lv_iconst (v := 1) hx hb dX6_canBe_217 (by decide) ?_
    obtain ⟨e1, e2⟩ := gb_eq2 h
    exact W.zret (v := 1) hx hb hr (by decide) (fun t ht hW => gb_ri ht ⟨e2, by rw [← e1]; exact hP⟩ hS) hS.2.2 dX6_canBe_218
  rw [if_neg c_84] at h
  by_cases c_85 : r_11 = (8 : Int32)
  · rw [if_pos c_85] at h
    refine lv_tableIn (off := 171) (tgt := 191) hx hb dX6_canBe_20 (by rw [c_85]; decide) (by rw [c_85]; decide) (by rw [c_85]; decide) (by decide) ?_
    refine lv_aload_n hx hb dX6_canBe_191 rfl (lv_at hl 2 rfl) ?_
    obtain ⟨z_86, h⟩ := gb_kk_s h
    refine va_get (ci := 5) (v := (.ref (b + (s_10.2.1 1)))) (C := RX6) (T := TX6) (N := 12) hx hb hq i_X6 hown hK hP 109 (gb_at b rfl) rfl 0 (by decide) (hq _ w_197) (fun _ h9 => h9) rfl dX6_canBe_192 ?_
    refine lv_iload_n hx hb dX6_canBe_195 rfl (lv_at hl 1 rfl) ?_
    obtain ⟨s_87, r_88, z_89, h⟩ := gb_cd_s h
    refine gb_calli (va_runV (C := RX0) (As := [.int r_3]) (rest := []) ⟨hx, hb, hml, hown, hq⟩ (cc_Border_hasPath_B l D cT tt b1 b hb1 n s_10 (s_10.2.1 1) r_3 s_87 r_88 z_89) (cwV 1 hq (gb_gV w_733 w_608 w_609 w_4 w_610) rfl rfl rfl (by decide +kernel) ⟨Nat.le_of_ble_eq_true rfl, Nat.le_of_ble_eq_true rfl⟩) (gb_preV (r := (RX0, TX0, 1)) (ci := 0) (q0 := (s_10.2.1 1)) hSt hP rfl (gb_at b (gb_cB z_86).1) hS (fun q h => Nat.le_trans hb1 h.1) hP) rfl rfl hl.1 rfl (lv_room (Nat.le_of_ble_eq_true rfl)) dX6_canBe_196 ⟨Nat.le_of_ble_eq_true rfl, Nat.le_of_ble_eq_true rfl⟩) hS (fun _ h => h) (fun _ h => h) (fun q_90 H locs hY hk hS => ?_)
    obtain ⟨hq_90, hP⟩ := hY
    replace hq_90 := hq_90.symm
    subst hq_90
    refine lv_if_eq (tgt := 215) hx hb dX6_canBe_199 (by decide) (fun c_91 => ?_) (fun c_91 => ?_)
    · rw [if_pos c_91] at h
      refine lv_iconst (v := 0) hx hb dX6_canBe_215 (by decide) ?_
      obtain ⟨e1, e2⟩ := gb_eq2 h
      exact W.zret (v := 0) hx hb hr (by decide) (fun t ht hW => gb_ri ht ⟨e2, by rw [← e1]; exact hP⟩ hS) hS.2.2 dX6_canBe_216
    · rw [if_neg c_91] at h
      refine lv_aload_n hx hb dX6_canBe_202 rfl (lv_at hl 2 rfl) ?_
      refine lv_iload_n hx hb dX6_canBe_203 rfl (lv_at hl 1 rfl) ?_
      obtain ⟨s_92, r_93, z_94, h⟩ := gb_cd_s h
      refine gb_calli (va_runV (C := RX6) (As := [.int r_3]) (rest := []) ⟨hx, hb, hml, hown, hq⟩ (cc_Play_latestGoer l D cT tt b1 b hb1 n s_87 r_3 s_92 r_93 z_94) (cwV 1 hq (gb_gV w_734 w_736 s_1_14 w_11 w_737) rfl rfl rfl (by decide +kernel) ⟨Nat.le_of_ble_eq_true rfl, Nat.le_of_ble_eq_true rfl⟩) (gb_preV (r := (RX6, TX6, 12)) (ci := 5) (q0 := 109) hSt hP rfl (gb_at b rfl) hS (fun q h => Nat.le_trans hb1 h.1) hP) rfl rfl hl.1 rfl (lv_room (Nat.le_of_ble_eq_true rfl)) dX6_canBe_204 ⟨Nat.le_of_ble_eq_true rfl, Nat.le_of_ble_eq_true rfl⟩) hS (fun _ h => h) (fun _ h => h) (fun q_95 H locs hY hk hS => ?_)
      obtain ⟨hq_95, hP⟩ := hY
      replace hq_95 := hq_95.symm
      subst hq_95
      refine lv_iconst (v := (-1)) hx hb dX6_canBe_207 (by decide) ?_
      refine lv_icmp_eq (tgt := 215) hx hb dX6_canBe_208 (by decide) (fun c_96 => ?_) (fun c_96 => ?_)
      · rw [if_pos c_96] at h
        refine lv_iconst (v := 0) hx hb dX6_canBe_215 (by decide) ?_
        obtain ⟨e1, e2⟩ := gb_eq2 h
        exact W.zret (v := 0) hx hb hr (by decide) (fun t ht hW => gb_ri ht ⟨e2, by rw [← e1]; exact hP⟩ hS) hS.2.2 dX6_canBe_216
      · rw [if_neg c_96] at h
        refine lv_iconst (v := 1) hx hb dX6_canBe_211 (by decide) ?_
        refine lv_goto (tgt := 216) hx hb dX6_canBe_212 (by decide) ?_
        obtain ⟨e1, e2⟩ := gb_eq2 h
        exact W.zret (v := 1) hx hb hr (by decide) (fun t ht hW => gb_ri ht ⟨e2, by rw [← e1]; exact hP⟩ hS) hS.2.2 dX6_canBe_216
  rw [if_neg c_85] at h
  refine lv_tableOut (tgt := 217) hx hb dX6_canBe_20 (by have := lv_neT c_14 (a := 0) rfl; have := lv_neT c_26 (a := 1) rfl; have := lv_neT c_38 (a := 2) rfl; have := lv_neT c_50 (a := 3) rfl; have := lv_neT c_71 (a := 4) rfl; have := lv_neT c_82 (a := 5) rfl; have := lv_neT c_83 (a := 6) rfl; have := lv_neT c_84 (a := 7) rfl; have := lv_neT c_85 (a := 8) rfl; omega) (by decide) ?_
  refine lv_iconst (v := 1) hx hb dX6_canBe_217 (by decide) ?_
  obtain ⟨e1, e2⟩ := gb_eq2 h
  exact W.zret (v := 1) hx hb hr (by decide) (fun t ht hW => gb_ri ht ⟨e2, by rw [← e1]; exact hP⟩ hS) hS.2.2 dX6_canBe_218
theorem w_722 : (Cond.code ({ cls := "GooseBorder$Play", name := "canBe", desc := "(LGooseBorder$Night;I)Z" } : MethodName) prog_8_method_4_code (5 : Nat) (Option.some FieldType.boolean)) ∈ gb_wA := gb_t4 2 rfl rfl
theorem w_719 : (Cond.methodLink "GooseBorder$Play" (83 : Nat) ({ cls := "GooseBorder$Play", name := "canBe", desc := "(LGooseBorder$Night;I)Z" } : MethodName)) ∈ gb_wA := gb_t3 239 rfl rfl
theorem w_721 : (Cond.instanceMethod ({ cls := "GooseBorder$Play", name := "canBe", desc := "(LGooseBorder$Night;I)Z" } : MethodName)) ∈ gb_wA := gb_t4 1 rfl rfl
theorem s_1_12 : Cond.selects "GooseBorder$Play" (⟨"GooseBorder$Play", "canBe", "(LGooseBorder$Night;I)Z"⟩ : MethodName) (⟨"GooseBorder$Play", "canBe", "(LGooseBorder$Night;I)Z"⟩ : MethodName) ∈ gb_wA := gb_s1 12 rfl rfl
theorem dX6_run_32 : decode cX6_run 32 = .ok (.ifCond .ne 4, 3) := dc_154 (show ((cX6_run.data.toList.drop 32).take 3).map UInt8.toNat = [154, 0, 4] by decide +kernel) rfl
theorem dX6_run_36 : decode cX6_run 36 = .ok (.aload_n 0, 1) := dc_42 (show ((cX6_run.data.toList.drop 36).take 1).map UInt8.toNat = [42] by decide +kernel)
theorem dX6_run_37 : decode cX6_run 37 = .ok (.aload_n 2, 1) := dc_44 (show ((cX6_run.data.toList.drop 37).take 1).map UInt8.toNat = [44] by decide +kernel)
theorem dX6_run_38 : decode cX6_run 38 = .ok (.iload 6, 2) := dc_21 (show ((cX6_run.data.toList.drop 38).take 2).map UInt8.toNat = [21, 6] by decide +kernel) rfl
theorem dX6_run_40 : decode cX6_run 40 = .ok (.iload 6, 2) := dc_21 (show ((cX6_run.data.toList.drop 40).take 2).map UInt8.toNat = [21, 6] by decide +kernel) rfl
theorem dX6_run_42 : decode cX6_run 42 = .ok (.iload 4, 2) := dc_21 (show ((cX6_run.data.toList.drop 42).take 2).map UInt8.toNat = [21, 4] by decide +kernel) rfl
theorem dX6_run_44 : decode cX6_run 44 = .ok (.if_icmp .eq 7, 3) := dc_159 (show ((cX6_run.data.toList.drop 44).take 3).map UInt8.toNat = [159, 0, 7] by decide +kernel) rfl
theorem dX6_run_51 : decode cX6_run 51 = .ok (.iconst 0, 1) := dc_3 (show ((cX6_run.data.toList.drop 51).take 1).map UInt8.toNat = [3] by decide +kernel)
theorem dX6_run_52 : decode cX6_run 52 = .ok (.invokevirtual 87, 3) := dc_182 (show ((cX6_run.data.toList.drop 52).take 3).map UInt8.toNat = [182, 0, 87] by decide +kernel) rfl
theorem dX6_doDeed_0 : decode cX6_doDeed 0 = .ok (.aload_n 1, 1) := dc_43 (show ((cX6_doDeed.data.toList.drop 0).take 1).map UInt8.toNat = [43] by decide +kernel)
theorem dX6_doDeed_1 : decode cX6_doDeed 1 = .ok (.iload_n 2, 1) := dc_28 (show ((cX6_doDeed.data.toList.drop 1).take 1).map UInt8.toNat = [28] by decide +kernel)
theorem dX6_doDeed_2 : decode cX6_doDeed 2 = .ok (.iconst 1, 1) := dc_4 (show ((cX6_doDeed.data.toList.drop 2).take 1).map UInt8.toNat = [4] by decide +kernel)
theorem dX6_doDeed_3 : decode cX6_doDeed 3 = .ok (.invokevirtual 91, 3) := dc_182 (show ((cX6_doDeed.data.toList.drop 3).take 3).map UInt8.toNat = [182, 0, 91] by decide +kernel) rfl
theorem dX6_doDeed_6 : decode cX6_doDeed 6 = .ok (.istore 4, 2) := dc_54 (show ((cX6_doDeed.data.toList.drop 6).take 2).map UInt8.toNat = [54, 4] by decide +kernel) rfl
theorem dX6_doDeed_8 : decode cX6_doDeed 8 = .ok (.aload_n 1, 1) := dc_43 (show ((cX6_doDeed.data.toList.drop 8).take 1).map UInt8.toNat = [43] by decide +kernel)
theorem dX6_doDeed_9 : decode cX6_doDeed 9 = .ok (.iload_n 2, 1) := dc_28 (show ((cX6_doDeed.data.toList.drop 9).take 1).map UInt8.toNat = [28] by decide +kernel)
theorem dX6_doDeed_10 : decode cX6_doDeed 10 = .ok (.iconst 2, 1) := dc_5 (show ((cX6_doDeed.data.toList.drop 10).take 1).map UInt8.toNat = [5] by decide +kernel)
theorem dX6_doDeed_11 : decode cX6_doDeed 11 = .ok (.invokevirtual 91, 3) := dc_182 (show ((cX6_doDeed.data.toList.drop 11).take 3).map UInt8.toNat = [182, 0, 91] by decide +kernel) rfl
theorem dX6_doDeed_14 : decode cX6_doDeed 14 = .ok (.istore 5, 2) := dc_54 (show ((cX6_doDeed.data.toList.drop 14).take 2).map UInt8.toNat = [54, 5] by decide +kernel) rfl
theorem dX6_doDeed_16 : decode cX6_doDeed 16 = .ok (.aload_n 1, 1) := dc_43 (show ((cX6_doDeed.data.toList.drop 16).take 1).map UInt8.toNat = [43] by decide +kernel)
theorem dX6_doDeed_17 : decode cX6_doDeed 17 = .ok (.iload_n 2, 1) := dc_28 (show ((cX6_doDeed.data.toList.drop 17).take 1).map UInt8.toNat = [28] by decide +kernel)
theorem dX6_doDeed_18 : decode cX6_doDeed 18 = .ok (.invokevirtual 94, 3) := dc_182 (show ((cX6_doDeed.data.toList.drop 18).take 3).map UInt8.toNat = [182, 0, 94] by decide +kernel) rfl
theorem dX6_doDeed_21 : decode cX6_doDeed 21 = .ok (.tableswitch 195 0 8 #[51, 75, 75, 91, 132, 157, 166, 174, 182], 51) := by decide +kernel
theorem dX6_doDeed_72 : decode cX6_doDeed 72 = .ok (.aload_n 0, 1) := dc_42 (show ((cX6_doDeed.data.toList.drop 72).take 1).map UInt8.toNat = [42] by decide +kernel)
theorem dX6_doDeed_73 : decode cX6_doDeed 73 = .ok (.iload 4, 2) := dc_21 (show ((cX6_doDeed.data.toList.drop 73).take 2).map UInt8.toNat = [21, 4] by decide +kernel) rfl
theorem dX6_doDeed_75 : decode cX6_doDeed 75 = .ok (.iload 5, 2) := dc_21 (show ((cX6_doDeed.data.toList.drop 75).take 2).map UInt8.toNat = [21, 5] by decide +kernel) rfl
theorem dX6_doDeed_77 : decode cX6_doDeed 77 = .ok (.iload_n 2, 1) := dc_28 (show ((cX6_doDeed.data.toList.drop 77).take 1).map UInt8.toNat = [28] by decide +kernel)
theorem dX6_doDeed_78 : decode cX6_doDeed 78 = .ok (.iload_n 3, 1) := dc_29 (show ((cX6_doDeed.data.toList.drop 78).take 1).map UInt8.toNat = [29] by decide +kernel)
theorem dX6_doDeed_79 : decode cX6_doDeed 79 = .ok (.ifCond .eq 10, 3) := dc_153 (show ((cX6_doDeed.data.toList.drop 79).take 3).map UInt8.toNat = [153, 0, 10] by decide +kernel) rfl
theorem dX6_doDeed_89 : decode cX6_doDeed 89 = .ok (.aconst_null, 1) := dc_1 (show ((cX6_doDeed.data.toList.drop 89).take 1).map UInt8.toNat = [1] by decide +kernel)
theorem dX6_doDeed_90 : decode cX6_doDeed 90 = .ok (.invokevirtual 107, 3) := dc_182 (show ((cX6_doDeed.data.toList.drop 90).take 3).map UInt8.toNat = [182, 0, 107] by decide +kernel) rfl
theorem dX6_go_0 : decode cX6_go 0 = .ok (.aload_n 0, 1) := dc_42 (show ((cX6_go.data.toList.drop 0).take 1).map UInt8.toNat = [42] by decide +kernel)
theorem dX6_go_1 : decode cX6_go 1 = .ok (.getfield 12, 3) := dc_180 (show ((cX6_go.data.toList.drop 1).take 3).map UInt8.toNat = [180, 0, 12] by decide +kernel) rfl
theorem dX6_go_4 : decode cX6_go 4 = .ok (.iload_n 2, 1) := dc_28 (show ((cX6_go.data.toList.drop 4).take 1).map UInt8.toNat = [28] by decide +kernel)
theorem dX6_go_5 : decode cX6_go 5 = .ok (.invokevirtual 118, 3) := dc_182 (show ((cX6_go.data.toList.drop 5).take 3).map UInt8.toNat = [182, 0, 118] by decide +kernel) rfl
theorem w_747 : (Cond.methodLink "GooseBorder$Play" (118 : Nat) ({ cls := "GooseBorder$Border", name := "miles", desc := "(I)I" } : MethodName)) ∈ gb_wA := gb_t4 27 rfl rfl
theorem dX6_go_8 : decode cX6_go 8 = .ok (.istore 5, 2) := dc_54 (show ((cX6_go.data.toList.drop 8).take 2).map UInt8.toNat = [54, 5] by decide +kernel) rfl
theorem dX6_go_10 : decode cX6_go 10 = .ok (.aload_n 0, 1) := dc_42 (show ((cX6_go.data.toList.drop 10).take 1).map UInt8.toNat = [42] by decide +kernel)
theorem dX6_go_11 : decode cX6_go 11 = .ok (.getfield 12, 3) := dc_180 (show ((cX6_go.data.toList.drop 11).take 3).map UInt8.toNat = [180, 0, 12] by decide +kernel) rfl
theorem dX6_go_14 : decode cX6_go 14 = .ok (.iload_n 1, 1) := dc_27 (show ((cX6_go.data.toList.drop 14).take 1).map UInt8.toNat = [27] by decide +kernel)
theorem dX6_go_15 : decode cX6_go 15 = .ok (.iload 5, 2) := dc_21 (show ((cX6_go.data.toList.drop 15).take 2).map UInt8.toNat = [21, 5] by decide +kernel) rfl
theorem dX6_go_17 : decode cX6_go 17 = .ok (.aload_n 0, 1) := dc_42 (show ((cX6_go.data.toList.drop 17).take 1).map UInt8.toNat = [42] by decide +kernel)
theorem dX6_go_18 : decode cX6_go 18 = .ok (.getfield 22, 3) := dc_180 (show ((cX6_go.data.toList.drop 18).take 3).map UInt8.toNat = [180, 0, 22] by decide +kernel) rfl
theorem dX6_go_21 : decode cX6_go 21 = .ok (.iload_n 1, 1) := dc_27 (show ((cX6_go.data.toList.drop 21).take 1).map UInt8.toNat = [27] by decide +kernel)
theorem dX6_go_22 : decode cX6_go 22 = .ok (.iaload, 1) := dc_46 (show ((cX6_go.data.toList.drop 22).take 1).map UInt8.toNat = [46] by decide +kernel)
theorem dX6_go_23 : decode cX6_go 23 = .ok (.aload_n 0, 1) := dc_42 (show ((cX6_go.data.toList.drop 23).take 1).map UInt8.toNat = [42] by decide +kernel)
theorem dX6_go_24 : decode cX6_go 24 = .ok (.getfield 60, 3) := dc_180 (show ((cX6_go.data.toList.drop 24).take 3).map UInt8.toNat = [180, 0, 60] by decide +kernel) rfl
theorem dX6_go_27 : decode cX6_go 27 = .ok (.invokevirtual 121, 3) := dc_182 (show ((cX6_go.data.toList.drop 27).take 3).map UInt8.toNat = [182, 0, 121] by decide +kernel) rfl
theorem w_748 : (Cond.methodLink "GooseBorder$Play" (121 : Nat) ({ cls := "GooseBorder$Border", name := "marksOver", desc := "(IIIZ)I" } : MethodName)) ∈ gb_wA := gb_t4 28 rfl rfl
theorem dX6_go_30 : decode cX6_go 30 = .ok (.istore 6, 2) := dc_54 (show ((cX6_go.data.toList.drop 30).take 2).map UInt8.toNat = [54, 6] by decide +kernel) rfl
theorem dX6_go_32 : decode cX6_go 32 = .ok (.aload 4, 2) := dc_25 (show ((cX6_go.data.toList.drop 32).take 2).map UInt8.toNat = [25, 4] by decide +kernel) rfl
theorem dX6_go_34 : decode cX6_go 34 = .ok (.ifnull 12, 3) := dc_198 (show ((cX6_go.data.toList.drop 34).take 3).map UInt8.toNat = [198, 0, 12] by decide +kernel) rfl
theorem dX6_go_46 : decode cX6_go 46 = .ok (.aload_n 0, 1) := dc_42 (show ((cX6_go.data.toList.drop 46).take 1).map UInt8.toNat = [42] by decide +kernel)
theorem dX6_go_47 : decode cX6_go 47 = .ok (.getfield 22, 3) := dc_180 (show ((cX6_go.data.toList.drop 47).take 3).map UInt8.toNat = [180, 0, 22] by decide +kernel) rfl
theorem dX6_go_50 : decode cX6_go 50 = .ok (.iload_n 1, 1) := dc_27 (show ((cX6_go.data.toList.drop 50).take 1).map UInt8.toNat = [27] by decide +kernel)
theorem dX6_go_51 : decode cX6_go 51 = .ok (.iconst 0, 1) := dc_3 (show ((cX6_go.data.toList.drop 51).take 1).map UInt8.toNat = [3] by decide +kernel)
theorem dX6_go_52 : decode cX6_go 52 = .ok (.aload_n 0, 1) := dc_42 (show ((cX6_go.data.toList.drop 52).take 1).map UInt8.toNat = [42] by decide +kernel)
theorem dX6_go_53 : decode cX6_go 53 = .ok (.getfield 22, 3) := dc_180 (show ((cX6_go.data.toList.drop 53).take 3).map UInt8.toNat = [180, 0, 22] by decide +kernel) rfl
theorem dX6_go_56 : decode cX6_go 56 = .ok (.iload_n 1, 1) := dc_27 (show ((cX6_go.data.toList.drop 56).take 1).map UInt8.toNat = [27] by decide +kernel)
theorem dX6_go_57 : decode cX6_go 57 = .ok (.iaload, 1) := dc_46 (show ((cX6_go.data.toList.drop 57).take 1).map UInt8.toNat = [46] by decide +kernel)
theorem dX6_go_58 : decode cX6_go 58 = .ok (.iload 5, 2) := dc_21 (show ((cX6_go.data.toList.drop 58).take 2).map UInt8.toNat = [21, 5] by decide +kernel) rfl
theorem dX6_go_60 : decode cX6_go 60 = .ok (.isub, 1) := dc_100 (show ((cX6_go.data.toList.drop 60).take 1).map UInt8.toNat = [100] by decide +kernel)
theorem dX6_go_61 : decode cX6_go 61 = .ok (.invokestatic 125, 3) := dc_184 (show ((cX6_go.data.toList.drop 61).take 3).map UInt8.toNat = [184, 0, 125] by decide +kernel) rfl
theorem w_749 : (Cond.methodLink "GooseBorder$Play" (125 : Nat) ({ cls := "java/lang/Math", name := "max", desc := "(II)I" } : MethodName)) ∈ gb_wA := gb_t4 29 rfl rfl
theorem dX6_go_64 : decode cX6_go 64 = .ok (.iastore, 1) := dc_79 (show ((cX6_go.data.toList.drop 64).take 1).map UInt8.toNat = [79] by decide +kernel)
theorem dX6_go_65 : decode cX6_go 65 = .ok (.aload_n 0, 1) := dc_42 (show ((cX6_go.data.toList.drop 65).take 1).map UInt8.toNat = [42] by decide +kernel)
theorem dX6_go_66 : decode cX6_go 66 = .ok (.getfield 25, 3) := dc_180 (show ((cX6_go.data.toList.drop 66).take 3).map UInt8.toNat = [180, 0, 25] by decide +kernel) rfl
theorem dX6_go_69 : decode cX6_go 69 = .ok (.iload_n 1, 1) := dc_27 (show ((cX6_go.data.toList.drop 69).take 1).map UInt8.toNat = [27] by decide +kernel)
theorem dX6_go_70 : decode cX6_go 70 = .ok (.dup2, 1) := dc_92 (show ((cX6_go.data.toList.drop 70).take 1).map UInt8.toNat = [92] by decide +kernel)
theorem dX6_go_71 : decode cX6_go 71 = .ok (.iaload, 1) := dc_46 (show ((cX6_go.data.toList.drop 71).take 1).map UInt8.toNat = [46] by decide +kernel)
theorem dX6_go_72 : decode cX6_go 72 = .ok (.iload 6, 2) := dc_21 (show ((cX6_go.data.toList.drop 72).take 2).map UInt8.toNat = [21, 6] by decide +kernel) rfl
theorem dX6_go_74 : decode cX6_go 74 = .ok (.iadd, 1) := dc_96 (show ((cX6_go.data.toList.drop 74).take 1).map UInt8.toNat = [96] by decide +kernel)
theorem dX6_go_75 : decode cX6_go 75 = .ok (.iastore, 1) := dc_79 (show ((cX6_go.data.toList.drop 75).take 1).map UInt8.toNat = [79] by decide +kernel)
theorem dX6_go_76 : decode cX6_go 76 = .ok (.aload_n 0, 1) := dc_42 (show ((cX6_go.data.toList.drop 76).take 1).map UInt8.toNat = [42] by decide +kernel)
theorem dX6_go_77 : decode cX6_go 77 = .ok (.getfield 18, 3) := dc_180 (show ((cX6_go.data.toList.drop 77).take 3).map UInt8.toNat = [180, 0, 18] by decide +kernel) rfl
theorem dX6_go_80 : decode cX6_go 80 = .ok (.iload_n 1, 1) := dc_27 (show ((cX6_go.data.toList.drop 80).take 1).map UInt8.toNat = [27] by decide +kernel)
theorem dX6_go_81 : decode cX6_go 81 = .ok (.aload_n 0, 1) := dc_42 (show ((cX6_go.data.toList.drop 81).take 1).map UInt8.toNat = [42] by decide +kernel)
theorem dX6_go_82 : decode cX6_go 82 = .ok (.getfield 18, 3) := dc_180 (show ((cX6_go.data.toList.drop 82).take 3).map UInt8.toNat = [180, 0, 18] by decide +kernel) rfl
theorem dX6_go_85 : decode cX6_go 85 = .ok (.iload_n 1, 1) := dc_27 (show ((cX6_go.data.toList.drop 85).take 1).map UInt8.toNat = [27] by decide +kernel)
theorem dX6_go_86 : decode cX6_go 86 = .ok (.iaload, 1) := dc_46 (show ((cX6_go.data.toList.drop 86).take 1).map UInt8.toNat = [46] by decide +kernel)
theorem dX6_go_87 : decode cX6_go 87 = .ok (.ifCond .ne 7, 3) := dc_154 (show ((cX6_go.data.toList.drop 87).take 3).map UInt8.toNat = [154, 0, 7] by decide +kernel) rfl
theorem dX6_go_94 : decode cX6_go 94 = .ok (.iconst 0, 1) := dc_3 (show ((cX6_go.data.toList.drop 94).take 1).map UInt8.toNat = [3] by decide +kernel)
theorem dX6_go_95 : decode cX6_go 95 = .ok (.iastore, 1) := dc_79 (show ((cX6_go.data.toList.drop 95).take 1).map UInt8.toNat = [79] by decide +kernel)
theorem dX6_go_96 : decode cX6_go 96 = .ok (.aload_n 0, 1) := dc_42 (show ((cX6_go.data.toList.drop 96).take 1).map UInt8.toNat = [42] by decide +kernel)
theorem dX6_go_97 : decode cX6_go 97 = .ok (.getfield 28, 3) := dc_180 (show ((cX6_go.data.toList.drop 97).take 3).map UInt8.toNat = [180, 0, 28] by decide +kernel) rfl
theorem dX6_go_100 : decode cX6_go 100 = .ok (.iload_n 1, 1) := dc_27 (show ((cX6_go.data.toList.drop 100).take 1).map UInt8.toNat = [27] by decide +kernel)
theorem dX6_go_101 : decode cX6_go 101 = .ok (.iload_n 2, 1) := dc_28 (show ((cX6_go.data.toList.drop 101).take 1).map UInt8.toNat = [28] by decide +kernel)
theorem dX6_go_102 : decode cX6_go 102 = .ok (.iastore, 1) := dc_79 (show ((cX6_go.data.toList.drop 102).take 1).map UInt8.toNat = [79] by decide +kernel)
theorem dX6_go_103 : decode cX6_go 103 = .ok (.aload_n 0, 1) := dc_42 (show ((cX6_go.data.toList.drop 103).take 1).map UInt8.toNat = [42] by decide +kernel)
theorem dX6_go_104 : decode cX6_go 104 = .ok (.getfield 40, 3) := dc_180 (show ((cX6_go.data.toList.drop 104).take 3).map UInt8.toNat = [180, 0, 40] by decide +kernel) rfl
theorem dX6_go_107 : decode cX6_go 107 = .ok (.iload_n 2, 1) := dc_28 (show ((cX6_go.data.toList.drop 107).take 1).map UInt8.toNat = [28] by decide +kernel)
theorem dX6_go_108 : decode cX6_go 108 = .ok (.bipush 8, 2) := dc_16 (show ((cX6_go.data.toList.drop 108).take 2).map UInt8.toNat = [16, 8] by decide +kernel) rfl
theorem dX6_go_110 : decode cX6_go 110 = .ok (.imul, 1) := dc_104 (show ((cX6_go.data.toList.drop 110).take 1).map UInt8.toNat = [104] by decide +kernel)
theorem dX6_go_111 : decode cX6_go 111 = .ok (.iload_n 1, 1) := dc_27 (show ((cX6_go.data.toList.drop 111).take 1).map UInt8.toNat = [27] by decide +kernel)
theorem dX6_go_112 : decode cX6_go 112 = .ok (.iadd, 1) := dc_96 (show ((cX6_go.data.toList.drop 112).take 1).map UInt8.toNat = [96] by decide +kernel)
theorem dX6_go_113 : decode cX6_go 113 = .ok (.iload_n 3, 1) := dc_29 (show ((cX6_go.data.toList.drop 113).take 1).map UInt8.toNat = [29] by decide +kernel)
theorem dX6_go_114 : decode cX6_go 114 = .ok (.iconst 1, 1) := dc_4 (show ((cX6_go.data.toList.drop 114).take 1).map UInt8.toNat = [4] by decide +kernel)
theorem dX6_go_115 : decode cX6_go 115 = .ok (.iadd, 1) := dc_96 (show ((cX6_go.data.toList.drop 115).take 1).map UInt8.toNat = [96] by decide +kernel)
theorem dX6_go_116 : decode cX6_go 116 = .ok (.iastore, 1) := dc_79 (show ((cX6_go.data.toList.drop 116).take 1).map UInt8.toNat = [79] by decide +kernel)
theorem dX6_go_117 : decode cX6_go 117 = .ok (.return_, 1) := dc_177 (show ((cX6_go.data.toList.drop 117).take 1).map UInt8.toNat = [177] by decide +kernel)
theorem dX6_go_90 : decode cX6_go 90 = .ok (.iconst 1, 1) := dc_4 (show ((cX6_go.data.toList.drop 90).take 1).map UInt8.toNat = [4] by decide +kernel)
theorem dX6_go_91 : decode cX6_go 91 = .ok (.goto 4, 3) := dc_167 (show ((cX6_go.data.toList.drop 91).take 3).map UInt8.toNat = [167, 0, 4] by decide +kernel) rfl
def cs_Play_go_n_95 (n : Nat) (σ : gb_S) (v1 : Int32) (v2 : Int32) (v3 : Int32) (t0 : Int32) (t1 : Int32) : gb_CR Unit := gb_ck t1 8 (gb_lt (gb_su σ 112 (upd (σ.1 112) (Int32.toNatClampNeg t1) t0)) (fun s_26 => gb_ck v1 8 (gb_lt (gb_su s_26 115 (upd (s_26.1 115) (Int32.toNatClampNeg v1) v2)) (fun s_28 => gb_ck ((v2 * 8) + v1) 40 (gb_lt (gb_su s_28 119 (upd (s_28.1 119) (Int32.toNatClampNeg ((v2 * 8) + v1)) (v3 + 1))) (fun s_30 => some (s_30, ())))))))
def cs_Play_go_n_46 (n : Nat) (σ : gb_S) (v1 : Int32) (v2 : Int32) (v3 : Int32) (v5 : Int32) (v6 : Int32) : gb_CR Unit := gb_ck v1 8 (gb_lt ((σ.1 113) (Int32.toNatClampNeg v1)) (fun x_14 => gb_lt (if (0 : Int32) < (x_14 - v5) then (x_14 - v5) else (0 : Int32)) (fun x_15 => gb_ck v1 8 (gb_lt (gb_su σ 113 (upd (σ.1 113) (Int32.toNatClampNeg v1) x_15)) (fun s_17 => gb_ck v1 8 (gb_lt ((s_17.1 114) (Int32.toNatClampNeg v1)) (fun x_19 => gb_ck v1 8 (gb_lt (gb_su s_17 114 (upd (s_17.1 114) (Int32.toNatClampNeg v1) (x_19 + v6))) (fun s_21 => gb_ck v1 8 (gb_lt ((s_21.1 112) (Int32.toNatClampNeg v1)) (fun x_23 => (if x_23 = 0 then cs_Play_go_n_95 n s_21 v1 v2 v3 1 v1 else cs_Play_go_n_95 n s_21 v1 v2 v3 0 v1))))))))))))
def cs_Play_go_n (n : Nat) (σ : gb_S) (p1 : Int32) (p2 : Int32) (p3 : Int32) : gb_CR Unit := gb_kk (gb_kB (σ.2.1 1)) (gb_cd (cs_Border_miles_B n σ (σ.2.1 1) p2) (fun s_2 r_3 => gb_kk (gb_kB (s_2.2.1 1)) (gb_ck p1 8 (gb_lt ((s_2.1 113) (Int32.toNatClampNeg p1)) (fun x_8 => gb_cd (cs_Border_marksOver_B n s_2 (s_2.2.1 1) p1 r_3 x_8 (s_2.1 109 10)) (fun s_9 r_10 => cs_Play_go_n_46 n s_9 p1 p2 p3 r_3 r_10))))))
set_option maxHeartbeats 8000000 in
set_option maxRecDepth 100000 in
theorem cc_Play_go_n (l : Launch) (D : va_G) (cT : Nat → ClassId) (tt : Nat → Nat) (b1 b : Nat) (hb1 : b1 ≤ b) (n : Nat) (σ : gb_S) (p1 : Int32) (p2 : Int32) (p3 : Int32) (σE : gb_S) (rE : Unit) (h : cs_Play_go_n n σ p1 p2 p3 = some (σE, rE)) : Met l yX6_go (.code yX6_go cX6_go 7 none :: gb_wA) ({ frames := 2, cells := 0, slots := 0, locals := 48 }) (gb_Pc D cT tt b1 [.ref (b + 109), .int p1, .int p2, .int p3, .null] (fun h => va_P D vwCl (gb_wl b (gb_CW cT b σ)) h)) (gb_Qv (fun h => va_P D vwCl (gb_wl b (gb_CW cT b σE)) h) (gb_fr b 135)) 0 0 (gb_fr b 135) := by
  refine Met.ofW (cc := cX6_go) (maxL := 7) (ret := none) (by decide) rfl ?_
  intro p e s m args below meth c s₁ B hml hv
  obtain ⟨rfl, hSt, hP⟩ := hv
  have hx := B.exec
  have hb := B.bytes
  have hr := B.returns
  have hts := atoms_spec (ws := .code yX6_go cX6_go 7 none :: gb_wA) B.pre
  have hq : ∀ w ∈ gb_wA, w.before _ s = true := fun w h => hts w (List.mem_cons_of_mem _ h)
  have hown : s.vm.findClass RX6 = some m.cls := findClass_of_methodNamed B.named
  have hlocks := B.notSynchronized
  clear B hts
  have hK := hSt.1
  have hS : va_S (gb_fr b 135) s.heap s.heap [] := va_S.rf
  have hl := lv_entry ([.ref (b + 109), .int p1, .int p2, .int p3, .null]) (n := 7) (Nat.le_of_ble_eq_true rfl)
  rw [lg_entry_eq]
  generalize (lg_sl ([.ref (b + 109), .int p1, .int p2, .int p3, .null]) ++ List.replicate (7 - (lg_sl ([.ref (b + 109), .int p1, .int p2, .int p3, .null])).length) Slot.unset).toArray = ls at hl ⊢
  replace hl : lv_has ls 7 [(0, .ref (b + 109)), (1, .int p1), (2, .int p2), (3, .int p3), (4, .null)] := hl
  have L95_2 : ∀ (σ : gb_S) (v1 : Int32) (v2 : Int32) (v3 : Int32) (t0 : Int32) (t1 : Int32) (H : Heap) (locs : List Loc) (ls : Array Slot), cs_Play_go_n_95 n σ v1 v2 v3 t0 t1 = some (σE, rE) → va_P D vwCl (gb_wl b (gb_CW cT b σ)) H → va_S (gb_fr b 135) s.heap H locs → lv_has ls 7 [(0, .ref (b + 109)), (1, .int v1), (2, .int v2), (3, .int v3)] → W p l e (headSpec (.code yX6_go cX6_go 7 none :: gb_wA) ({ frames := 2, cells := 0, slots := 0, locals := 48 })).room s m ([.ref (b + 109), .int p1, .int p2, .int p3, .null]).toArray below meth c H locs 0 0 (MQ below (gb_Qv (fun h => va_P D vwCl (gb_wl b (gb_CW cT b σE)) h) (gb_fr b 135)) ([.ref (b + 109), .int p1, .int p2, .int p3, .null]).toArray s 0 0 (gb_fr b 135)) (F0 m 95 ls [.int t0, .int t1, .ref (b + 112)]) := by
    clear h hP hS hl ls
    intro σ v1 v2 v3 t0 t1 H locs ls h hP hS hl
    unfold cs_Play_go_n_95 at h
    obtain ⟨z_25, h⟩ := gb_ck_s h
    refine va_iast (x := t0) hx hb hK hP (gb_D (fun k h => ⟨Nat.le_add_right b k, Nat.add_lt_add_left h b⟩)) hS 112 0 (gb_at b rfl) rfl z_25 dX6_go_95 (fun H locs hP hD hS => ?_)
    rw [gb_set] at hP
    obtain ⟨s_26, es_26⟩ : ∃ q, q = (gb_su σ 112 (upd (σ.1 112) (Int32.toNatClampNeg t1) t0)) := ⟨_, rfl⟩
    replace hP : va_P D vwCl (gb_wl b (gb_CW cT b s_26)) H := by rw [es_26]; exact hP
    replace h := gb_lt_s es_26 h
    refine lv_aload_n hx hb dX6_go_96 rfl (lv_at hl 0 rfl) ?_
    refine va_get (ci := 5) (v := (.ref (b + 115))) (C := RX6) (T := TX6) (N := 12) hx hb hq i_X6 hown hK hP 109 (gb_at b rfl) rfl 4 (by decide) (hq _ w_204) (fun _ h9 => h9) rfl dX6_go_97 ?_
    refine lv_iload_n hx hb dX6_go_100 rfl (lv_at hl 1 rfl) ?_
    refine lv_iload_n hx hb dX6_go_101 rfl (lv_at hl 2 rfl) ?_
    obtain ⟨z_27, h⟩ := gb_ck_s h
    refine va_iast (x := v2) hx hb hK hP (gb_D (fun k h => ⟨Nat.le_add_right b k, Nat.add_lt_add_left h b⟩)) hS 115 0 (gb_at b rfl) rfl z_27 dX6_go_102 (fun H locs hP hD hS => ?_)
    rw [gb_set] at hP
    obtain ⟨s_28, es_28⟩ : ∃ q, q = (gb_su s_26 115 (upd (s_26.1 115) (Int32.toNatClampNeg v1) v2)) := ⟨_, rfl⟩
    replace hP : va_P D vwCl (gb_wl b (gb_CW cT b s_28)) H := by rw [es_28]; exact hP
    replace h := gb_lt_s es_28 h
    refine lv_aload_n hx hb dX6_go_103 rfl (lv_at hl 0 rfl) ?_
    refine va_get (ci := 5) (v := (.ref (b + 119))) (C := RX6) (T := TX6) (N := 12) hx hb hq i_X6 hown hK hP 109 (gb_at b rfl) rfl 8 (by decide) (hq _ w_212) (fun _ h9 => h9) rfl dX6_go_104 ?_
    refine lv_iload_n hx hb dX6_go_107 rfl (lv_at hl 2 rfl) ?_
    refine lv_bipush (v := 8) hx hb dX6_go_108 (by decide) ?_
    refine lv_imul hx hb dX6_go_110 ?_
    refine lv_iload_n hx hb dX6_go_111 rfl (lv_at hl 1 rfl) ?_
    refine lv_iadd hx hb dX6_go_112 ?_
    refine lv_iload_n hx hb dX6_go_113 rfl (lv_at hl 3 rfl) ?_
    refine lv_iconst (v := 1) hx hb dX6_go_114 (by decide) ?_
    refine lv_iadd hx hb dX6_go_115 ?_
    obtain ⟨z_29, h⟩ := gb_ck_s h
    refine va_iast (x := (v3 + 1)) hx hb hK hP (gb_D (fun k h => ⟨Nat.le_add_right b k, Nat.add_lt_add_left h b⟩)) hS 119 0 (gb_at b rfl) rfl z_29 dX6_go_116 (fun H locs hP hD hS => ?_)
    rw [gb_set] at hP
    obtain ⟨s_30, es_30⟩ : ∃ q, q = (gb_su s_28 119 (upd (s_28.1 119) (Int32.toNatClampNeg ((v2 * 8) + v1)) (v3 + 1))) := ⟨_, rfl⟩
    replace hP : va_P D vwCl (gb_wl b (gb_CW cT b s_30)) H := by rw [es_30]; exact hP
    replace h := gb_lt_s es_30 h
    obtain ⟨e1, -⟩ := gb_eq2 h
    exact W.vret hx hb hr (fun t ht hW => gb_rv ht (by rw [← e1]; exact hP) hS) hS.2.2 dX6_go_117
  have L46_1 : ∀ (σ : gb_S) (v1 : Int32) (v2 : Int32) (v3 : Int32) (v5 : Int32) (v6 : Int32) (H : Heap) (locs : List Loc) (ls : Array Slot), cs_Play_go_n_46 n σ v1 v2 v3 v5 v6 = some (σE, rE) → va_P D vwCl (gb_wl b (gb_CW cT b σ)) H → va_S (gb_fr b 135) s.heap H locs → lv_has ls 7 [(0, .ref (b + 109)), (1, .int v1), (2, .int v2), (3, .int v3), (5, .int v5), (6, .int v6)] → W p l e (headSpec (.code yX6_go cX6_go 7 none :: gb_wA) ({ frames := 2, cells := 0, slots := 0, locals := 48 })).room s m ([.ref (b + 109), .int p1, .int p2, .int p3, .null]).toArray below meth c H locs 0 0 (MQ below (gb_Qv (fun h => va_P D vwCl (gb_wl b (gb_CW cT b σE)) h) (gb_fr b 135)) ([.ref (b + 109), .int p1, .int p2, .int p3, .null]).toArray s 0 0 (gb_fr b 135)) (F0 m 46 ls []) := by
    clear h hP hS hl ls
    intro σ v1 v2 v3 v5 v6 H locs ls h hP hS hl
    unfold cs_Play_go_n_46 at h
    refine lv_aload_n hx hb dX6_go_46 rfl (lv_at hl 0 rfl) ?_
    refine va_get (ci := 5) (v := (.ref (b + 113))) (C := RX6) (T := TX6) (N := 12) hx hb hq i_X6 hown hK hP 109 (gb_at b rfl) rfl 2 (by decide) (hq _ w_200) (fun _ h9 => h9) rfl dX6_go_47 ?_
    refine lv_iload_n hx hb dX6_go_50 rfl (lv_at hl 1 rfl) ?_
    refine lv_iconst (v := 0) hx hb dX6_go_51 (by decide) ?_
    refine lv_aload_n hx hb dX6_go_52 rfl (lv_at hl 0 rfl) ?_
    refine va_get (ci := 5) (v := (.ref (b + 113))) (C := RX6) (T := TX6) (N := 12) hx hb hq i_X6 hown hK hP 109 (gb_at b rfl) rfl 2 (by decide) (hq _ w_200) (fun _ h9 => h9) rfl dX6_go_53 ?_
    refine lv_iload_n hx hb dX6_go_56 rfl (lv_at hl 1 rfl) ?_
    obtain ⟨z_13, h⟩ := gb_ck_s h
    refine va_iald hx hb hK hP 113 0 (gb_at b rfl) rfl z_13 dX6_go_57 ?_
    refine lv_topi (fun x_14 ex_14 => ?_)
    replace h := gb_lt_s ex_14 h
    refine lv_iload hx hb dX6_go_58 (lv_at hl 4 rfl) ?_
    refine lv_isub hx hb dX6_go_60 ?_
    refine va_mmax hx hb (hml.trans hl.1.symm) hown (hq _ w_749) (hq _ w_47) (hq _ w_5) (hq _ w_48) (Nat.le_of_ble_eq_true rfl) (Nat.le_of_ble_eq_true rfl) (Nat.le_of_ble_eq_true rfl) (Nat.le_of_ble_eq_true rfl) dX6_go_61 ?_
    refine lv_topi (fun x_15 ex_15 => ?_)
    replace h := gb_lt_s ex_15 h
    obtain ⟨z_16, h⟩ := gb_ck_s h
    refine va_iast (x := x_15) hx hb hK hP (gb_D (fun k h => ⟨Nat.le_add_right b k, Nat.add_lt_add_left h b⟩)) hS 113 0 (gb_at b rfl) rfl z_16 dX6_go_64 (fun H locs hP hD hS => ?_)
    rw [gb_set] at hP
    obtain ⟨s_17, es_17⟩ : ∃ q, q = (gb_su σ 113 (upd (σ.1 113) (Int32.toNatClampNeg v1) x_15)) := ⟨_, rfl⟩
    replace hP : va_P D vwCl (gb_wl b (gb_CW cT b s_17)) H := by rw [es_17]; exact hP
    replace h := gb_lt_s es_17 h
    refine lv_aload_n hx hb dX6_go_65 rfl (lv_at hl 0 rfl) ?_
    refine va_get (ci := 5) (v := (.ref (b + 114))) (C := RX6) (T := TX6) (N := 12) hx hb hq i_X6 hown hK hP 109 (gb_at b rfl) rfl 3 (by decide) (hq _ w_202) (fun _ h9 => h9) rfl dX6_go_66 ?_
    refine lv_iload_n hx hb dX6_go_69 rfl (lv_at hl 1 rfl) ?_
    refine lv_dup2_11 hx hb dX6_go_70 rfl rfl ?_
    obtain ⟨z_18, h⟩ := gb_ck_s h
    refine va_iald hx hb hK hP 114 0 (gb_at b rfl) rfl z_18 dX6_go_71 ?_
    refine lv_topi (fun x_19 ex_19 => ?_)
    replace h := gb_lt_s ex_19 h
    refine lv_iload hx hb dX6_go_72 (lv_at hl 5 rfl) ?_
    refine lv_iadd hx hb dX6_go_74 ?_
    obtain ⟨z_20, h⟩ := gb_ck_s h
    refine va_iast (x := (x_19 + v6)) hx hb hK hP (gb_D (fun k h => ⟨Nat.le_add_right b k, Nat.add_lt_add_left h b⟩)) hS 114 0 (gb_at b rfl) rfl z_20 dX6_go_75 (fun H locs hP hD hS => ?_)
    rw [gb_set] at hP
    obtain ⟨s_21, es_21⟩ : ∃ q, q = (gb_su s_17 114 (upd (s_17.1 114) (Int32.toNatClampNeg v1) (x_19 + v6))) := ⟨_, rfl⟩
    replace hP : va_P D vwCl (gb_wl b (gb_CW cT b s_21)) H := by rw [es_21]; exact hP
    replace h := gb_lt_s es_21 h
    refine lv_aload_n hx hb dX6_go_76 rfl (lv_at hl 0 rfl) ?_
    refine va_get (ci := 5) (v := (.ref (b + 112))) (C := RX6) (T := TX6) (N := 12) hx hb hq i_X6 hown hK hP 109 (gb_at b rfl) rfl 1 (by decide) (hq _ w_198) (fun _ h9 => h9) rfl dX6_go_77 ?_
    refine lv_iload_n hx hb dX6_go_80 rfl (lv_at hl 1 rfl) ?_
    refine lv_aload_n hx hb dX6_go_81 rfl (lv_at hl 0 rfl) ?_
    refine va_get (ci := 5) (v := (.ref (b + 112))) (C := RX6) (T := TX6) (N := 12) hx hb hq i_X6 hown hK hP 109 (gb_at b rfl) rfl 1 (by decide) (hq _ w_198) (fun _ h9 => h9) rfl dX6_go_82 ?_
    refine lv_iload_n hx hb dX6_go_85 rfl (lv_at hl 1 rfl) ?_
    obtain ⟨z_22, h⟩ := gb_ck_s h
    refine va_iald hx hb hK hP 112 0 (gb_at b rfl) rfl z_22 dX6_go_86 ?_
    refine lv_topi (fun x_23 ex_23 => ?_)
    replace h := gb_lt_s ex_23 h
    refine lv_if_ne (tgt := 94) hx hb dX6_go_87 (by decide) (fun c_24 => ?_) (fun c_24 => ?_)
    · rw [if_neg c_24] at h
      refine lv_iconst (v := 0) hx hb dX6_go_94 (by decide) ?_
      exact L95_2 _ _ _ _ _ _ _ _ _ h hP hS (lv_sub hl [0, 1, 2, 3] rfl)
    · rw [if_pos c_24] at h
      refine lv_iconst (v := 1) hx hb dX6_go_90 (by decide) ?_
      refine lv_goto (tgt := 95) hx hb dX6_go_91 (by decide) ?_
      exact L95_2 _ _ _ _ _ _ _ _ _ h hP hS (lv_sub hl [0, 1, 2, 3] rfl)
  unfold cs_Play_go_n at h
  refine lv_aload_n hx hb dX6_go_0 rfl (lv_at hl 0 rfl) ?_
  obtain ⟨z_1, h⟩ := gb_kk_s h
  refine va_get (ci := 5) (v := (.ref (b + (σ.2.1 1)))) (C := RX6) (T := TX6) (N := 12) hx hb hq i_X6 hown hK hP 109 (gb_at b rfl) rfl 0 (by decide) (hq _ w_197) (fun _ h9 => h9) rfl dX6_go_1 ?_
  refine lv_iload_n hx hb dX6_go_4 rfl (lv_at hl 2 rfl) ?_
  obtain ⟨s_2, r_3, z_4, h⟩ := gb_cd_s h
  refine gb_calli (va_runV (C := RX0) (As := [.int p2]) (rest := []) ⟨hx, hb, hml, hown, hq⟩ (cc_Border_miles_B l D cT tt b1 b hb1 n σ (σ.2.1 1) p2 s_2 r_3 z_4) (cwV 1 hq (gb_gV w_747 w_622 w_623 w_4 w_624) rfl rfl rfl (by decide +kernel) ⟨Nat.le_of_ble_eq_true rfl, Nat.le_of_ble_eq_true rfl⟩) (gb_preV (r := (RX0, TX0, 1)) (ci := 0) (q0 := (σ.2.1 1)) hSt hP rfl (gb_at b (gb_cB z_1).1) hS (fun q h => Nat.le_trans hb1 h.1) hP) rfl rfl hl.1 rfl (lv_room (Nat.le_of_ble_eq_true rfl)) dX6_go_5 ⟨Nat.le_of_ble_eq_true rfl, Nat.le_of_ble_eq_true rfl⟩) hS (fun _ h => h) (fun _ h => h) (fun q_5 H locs hY hk hS => ?_)
  obtain ⟨hq_5, hP⟩ := hY
  replace hq_5 := hq_5.symm
  subst hq_5
  refine lv_istore (lv' := [(5, .int r_3), (0, .ref (b + 109)), (1, .int p1), (2, .int p2), (3, .int p3), (4, .null)]) hx hb dX6_go_8 hl (by decide) rfl (fun ls hl => ?_)
  refine lv_aload_n hx hb dX6_go_10 rfl (lv_at hl 1 rfl) ?_
  obtain ⟨z_6, h⟩ := gb_kk_s h
  refine va_get (ci := 5) (v := (.ref (b + (s_2.2.1 1)))) (C := RX6) (T := TX6) (N := 12) hx hb hq i_X6 hown hK hP 109 (gb_at b rfl) rfl 0 (by decide) (hq _ w_197) (fun _ h9 => h9) rfl dX6_go_11 ?_
  refine lv_iload_n hx hb dX6_go_14 rfl (lv_at hl 2 rfl) ?_
  refine lv_iload hx hb dX6_go_15 (lv_at hl 0 rfl) ?_
  refine lv_aload_n hx hb dX6_go_17 rfl (lv_at hl 1 rfl) ?_
  refine va_get (ci := 5) (v := (.ref (b + 113))) (C := RX6) (T := TX6) (N := 12) hx hb hq i_X6 hown hK hP 109 (gb_at b rfl) rfl 2 (by decide) (hq _ w_200) (fun _ h9 => h9) rfl dX6_go_18 ?_
  refine lv_iload_n hx hb dX6_go_21 rfl (lv_at hl 2 rfl) ?_
  obtain ⟨z_7, h⟩ := gb_ck_s h
  refine va_iald hx hb hK hP 113 0 (gb_at b rfl) rfl z_7 dX6_go_22 ?_
  refine lv_topi (fun x_8 ex_8 => ?_)
  replace h := gb_lt_s ex_8 h
  refine lv_aload_n hx hb dX6_go_23 rfl (lv_at hl 1 rfl) ?_
  refine va_get (ci := 5) (v := (.int (s_2.1 109 10))) (C := RX6) (T := TX6) (N := 12) hx hb hq i_X6 hown hK hP 109 (gb_at b rfl) rfl 10 (by decide) (hq _ w_214) (fun _ h9 => h9) rfl dX6_go_24 ?_
  obtain ⟨s_9, r_10, z_11, h⟩ := gb_cd_s h
  refine gb_calli (va_runV (C := RX0) (As := [.int p1, .int r_3, .int x_8, .int (s_2.1 109 10)]) (rest := []) ⟨hx, hb, hml, hown, hq⟩ (cc_Border_marksOver_B l D cT tt b1 b hb1 n s_2 (s_2.2.1 1) p1 r_3 x_8 (s_2.1 109 10) s_9 r_10 z_11) (cwV 4 hq (gb_gV w_748 w_630 w_631 w_4 w_632) rfl rfl rfl (by decide +kernel) ⟨Nat.le_of_ble_eq_true rfl, Nat.le_of_ble_eq_true rfl⟩) (gb_preV (r := (RX0, TX0, 1)) (ci := 0) (q0 := (s_2.2.1 1)) hSt hP rfl (gb_at b (gb_cB z_6).1) hS (fun q h => Nat.le_trans hb1 h.1) hP) rfl rfl hl.1 rfl (lv_room (Nat.le_of_ble_eq_true rfl)) dX6_go_27 ⟨Nat.le_of_ble_eq_true rfl, Nat.le_of_ble_eq_true rfl⟩) hS (fun _ h => h) (fun _ h => h) (fun q_12 H locs hY hk hS => ?_)
  obtain ⟨hq_12, hP⟩ := hY
  replace hq_12 := hq_12.symm
  subst hq_12
  refine lv_istore (lv' := [(6, .int r_10), (5, .int r_3), (0, .ref (b + 109)), (1, .int p1), (2, .int p2), (3, .int p3), (4, .null)]) hx hb dX6_go_30 hl (by decide) rfl (fun ls hl => ?_)
  refine lv_aloadN hx hb dX6_go_32 (lv_at hl 6 rfl) ?_
  refine lv_ifnullN (tgt := 46) hx hb dX6_go_34 (by decide) ?_
  exact L46_1 _ _ _ _ _ _ _ _ _ h hP hS (lv_sub hl [2, 3, 4, 5, 1, 0] rfl)
theorem w_746 : (Cond.code ({ cls := "GooseBorder$Play", name := "go", desc := "(III[I)V" } : MethodName) prog_8_method_7_code (7 : Nat) (Option.none : Option FieldType)) ∈ gb_wA := gb_t4 26 rfl rfl
theorem w_743 : (Cond.methodLink "GooseBorder$Play" (107 : Nat) ({ cls := "GooseBorder$Play", name := "go", desc := "(III[I)V" } : MethodName)) ∈ gb_wA := gb_t4 23 rfl rfl
theorem w_744 : (Cond.instanceMethod ({ cls := "GooseBorder$Play", name := "go", desc := "(III[I)V" } : MethodName)) ∈ gb_wA := gb_t4 24 rfl rfl
theorem w_745 : (Cond.selects "GooseBorder$Play" ({ cls := "GooseBorder$Play", name := "go", desc := "(III[I)V" } : MethodName) ({ cls := "GooseBorder$Play", name := "go", desc := "(III[I)V" } : MethodName)) ∈ gb_wA := gb_t4 25 rfl rfl
theorem dX6_doDeed_93 : decode cX6_doDeed 93 = .ok (.goto 123, 3) := dc_167 (show ((cX6_doDeed.data.toList.drop 93).take 3).map UInt8.toNat = [167, 0, 123] by decide +kernel) rfl
theorem dX6_doDeed_216 : decode cX6_doDeed 216 = .ok (.return_, 1) := dc_177 (show ((cX6_doDeed.data.toList.drop 216).take 1).map UInt8.toNat = [177] by decide +kernel)
theorem dX6_doDeed_82 : decode cX6_doDeed 82 = .ok (.aload_n 0, 1) := dc_42 (show ((cX6_doDeed.data.toList.drop 82).take 1).map UInt8.toNat = [42] by decide +kernel)
theorem dX6_doDeed_83 : decode cX6_doDeed 83 = .ok (.getfield 31, 3) := dc_180 (show ((cX6_doDeed.data.toList.drop 83).take 3).map UInt8.toNat = [180, 0, 31] by decide +kernel) rfl
theorem dX6_doDeed_86 : decode cX6_doDeed 86 = .ok (.goto 4, 3) := dc_167 (show ((cX6_doDeed.data.toList.drop 86).take 3).map UInt8.toNat = [167, 0, 4] by decide +kernel) rfl
theorem dX6_go_37 : decode cX6_go 37 = .ok (.aload 4, 2) := dc_25 (show ((cX6_go.data.toList.drop 37).take 2).map UInt8.toNat = [25, 4] by decide +kernel) rfl
theorem dX6_go_39 : decode cX6_go 39 = .ok (.iload_n 2, 1) := dc_28 (show ((cX6_go.data.toList.drop 39).take 1).map UInt8.toNat = [28] by decide +kernel)
theorem dX6_go_40 : decode cX6_go 40 = .ok (.dup2, 1) := dc_92 (show ((cX6_go.data.toList.drop 40).take 1).map UInt8.toNat = [92] by decide +kernel)
theorem dX6_go_41 : decode cX6_go 41 = .ok (.iaload, 1) := dc_46 (show ((cX6_go.data.toList.drop 41).take 1).map UInt8.toNat = [46] by decide +kernel)
theorem dX6_go_42 : decode cX6_go 42 = .ok (.iload 6, 2) := dc_21 (show ((cX6_go.data.toList.drop 42).take 2).map UInt8.toNat = [21, 6] by decide +kernel) rfl
theorem dX6_go_44 : decode cX6_go 44 = .ok (.iadd, 1) := dc_96 (show ((cX6_go.data.toList.drop 44).take 1).map UInt8.toNat = [96] by decide +kernel)
theorem dX6_go_45 : decode cX6_go 45 = .ok (.iastore, 1) := dc_79 (show ((cX6_go.data.toList.drop 45).take 1).map UInt8.toNat = [79] by decide +kernel)
def cs_Play_go_c116_95 (n : Nat) (σ : gb_S) (v1 : Int32) (v2 : Int32) (v3 : Int32) (t0 : Int32) (t1 : Int32) : gb_CR Unit := gb_ck t1 8 (gb_lt (gb_su σ 112 (upd (σ.1 112) (Int32.toNatClampNeg t1) t0)) (fun s_30 => gb_ck v1 8 (gb_lt (gb_su s_30 115 (upd (s_30.1 115) (Int32.toNatClampNeg v1) v2)) (fun s_32 => gb_ck ((v2 * 8) + v1) 40 (gb_lt (gb_su s_32 119 (upd (s_32.1 119) (Int32.toNatClampNeg ((v2 * 8) + v1)) (v3 + 1))) (fun s_34 => some (s_34, ())))))))
def cs_Play_go_c116_46 (n : Nat) (σ : gb_S) (v1 : Int32) (v2 : Int32) (v3 : Int32) (v5 : Int32) (v6 : Int32) : gb_CR Unit := gb_ck v1 8 (gb_lt ((σ.1 113) (Int32.toNatClampNeg v1)) (fun x_18 => gb_lt (if (0 : Int32) < (x_18 - v5) then (x_18 - v5) else (0 : Int32)) (fun x_19 => gb_ck v1 8 (gb_lt (gb_su σ 113 (upd (σ.1 113) (Int32.toNatClampNeg v1) x_19)) (fun s_21 => gb_ck v1 8 (gb_lt ((s_21.1 114) (Int32.toNatClampNeg v1)) (fun x_23 => gb_ck v1 8 (gb_lt (gb_su s_21 114 (upd (s_21.1 114) (Int32.toNatClampNeg v1) (x_23 + v6))) (fun s_25 => gb_ck v1 8 (gb_lt ((s_25.1 112) (Int32.toNatClampNeg v1)) (fun x_27 => (if x_27 = 0 then cs_Play_go_c116_95 n s_25 v1 v2 v3 1 v1 else cs_Play_go_c116_95 n s_25 v1 v2 v3 0 v1))))))))))))
def cs_Play_go_c116 (n : Nat) (σ : gb_S) (p1 : Int32) (p2 : Int32) (p3 : Int32) : gb_CR Unit := gb_kk (gb_kB (σ.2.1 1)) (gb_cd (cs_Border_miles_B n σ (σ.2.1 1) p2) (fun s_2 r_3 => gb_kk (gb_kB (s_2.2.1 1)) (gb_ck p1 8 (gb_lt ((s_2.1 113) (Int32.toNatClampNeg p1)) (fun x_8 => gb_cd (cs_Border_marksOver_B n s_2 (s_2.2.1 1) p1 r_3 x_8 (s_2.1 109 10)) (fun s_9 r_10 => gb_ck p2 5 (gb_lt ((s_9.1 116) (Int32.toNatClampNeg p2)) (fun x_14 => gb_ck p2 5 (gb_lt (gb_su s_9 116 (upd (s_9.1 116) (Int32.toNatClampNeg p2) (x_14 + r_10))) (fun s_16 => cs_Play_go_c116_46 n s_16 p1 p2 p3 r_3 r_10))))))))))
set_option maxHeartbeats 8000000 in
set_option maxRecDepth 100000 in
theorem cc_Play_go_c116 (l : Launch) (D : va_G) (cT : Nat → ClassId) (tt : Nat → Nat) (b1 b : Nat) (hb1 : b1 ≤ b) (n : Nat) (σ : gb_S) (p1 : Int32) (p2 : Int32) (p3 : Int32) (σE : gb_S) (rE : Unit) (h : cs_Play_go_c116 n σ p1 p2 p3 = some (σE, rE)) : Met l yX6_go (.code yX6_go cX6_go 7 none :: gb_wA) ({ frames := 2, cells := 0, slots := 0, locals := 48 }) (gb_Pc D cT tt b1 [.ref (b + 109), .int p1, .int p2, .int p3, .ref (b + 116)] (fun h => va_P D vwCl (gb_wl b (gb_CW cT b σ)) h)) (gb_Qv (fun h => va_P D vwCl (gb_wl b (gb_CW cT b σE)) h) (gb_fr b 135)) 0 0 (gb_fr b 135) := by
  refine Met.ofW (cc := cX6_go) (maxL := 7) (ret := none) (by decide) rfl ?_
  intro p e s m args below meth c s₁ B hml hv
  obtain ⟨rfl, hSt, hP⟩ := hv
  have hx := B.exec
  have hb := B.bytes
  have hr := B.returns
  have hts := atoms_spec (ws := .code yX6_go cX6_go 7 none :: gb_wA) B.pre
  have hq : ∀ w ∈ gb_wA, w.before _ s = true := fun w h => hts w (List.mem_cons_of_mem _ h)
  have hown : s.vm.findClass RX6 = some m.cls := findClass_of_methodNamed B.named
  have hlocks := B.notSynchronized
  clear B hts
  have hK := hSt.1
  have hS : va_S (gb_fr b 135) s.heap s.heap [] := va_S.rf
  have hl := lv_entry ([.ref (b + 109), .int p1, .int p2, .int p3, .ref (b + 116)]) (n := 7) (Nat.le_of_ble_eq_true rfl)
  rw [lg_entry_eq]
  generalize (lg_sl ([.ref (b + 109), .int p1, .int p2, .int p3, .ref (b + 116)]) ++ List.replicate (7 - (lg_sl ([.ref (b + 109), .int p1, .int p2, .int p3, .ref (b + 116)])).length) Slot.unset).toArray = ls at hl ⊢
  replace hl : lv_has ls 7 [(0, .ref (b + 109)), (1, .int p1), (2, .int p2), (3, .int p3), (4, .ref (b + 116))] := hl
  have L95_2 : ∀ (σ : gb_S) (v1 : Int32) (v2 : Int32) (v3 : Int32) (t0 : Int32) (t1 : Int32) (H : Heap) (locs : List Loc) (ls : Array Slot), cs_Play_go_c116_95 n σ v1 v2 v3 t0 t1 = some (σE, rE) → va_P D vwCl (gb_wl b (gb_CW cT b σ)) H → va_S (gb_fr b 135) s.heap H locs → lv_has ls 7 [(0, .ref (b + 109)), (1, .int v1), (2, .int v2), (3, .int v3)] → W p l e (headSpec (.code yX6_go cX6_go 7 none :: gb_wA) ({ frames := 2, cells := 0, slots := 0, locals := 48 })).room s m ([.ref (b + 109), .int p1, .int p2, .int p3, .ref (b + 116)]).toArray below meth c H locs 0 0 (MQ below (gb_Qv (fun h => va_P D vwCl (gb_wl b (gb_CW cT b σE)) h) (gb_fr b 135)) ([.ref (b + 109), .int p1, .int p2, .int p3, .ref (b + 116)]).toArray s 0 0 (gb_fr b 135)) (F0 m 95 ls [.int t0, .int t1, .ref (b + 112)]) := by
    clear h hP hS hl ls
    intro σ v1 v2 v3 t0 t1 H locs ls h hP hS hl
    unfold cs_Play_go_c116_95 at h
    obtain ⟨z_29, h⟩ := gb_ck_s h
    refine va_iast (x := t0) hx hb hK hP (gb_D (fun k h => ⟨Nat.le_add_right b k, Nat.add_lt_add_left h b⟩)) hS 112 0 (gb_at b rfl) rfl z_29 dX6_go_95 (fun H locs hP hD hS => ?_)
    rw [gb_set] at hP
    obtain ⟨s_30, es_30⟩ : ∃ q, q = (gb_su σ 112 (upd (σ.1 112) (Int32.toNatClampNeg t1) t0)) := ⟨_, rfl⟩
    replace hP : va_P D vwCl (gb_wl b (gb_CW cT b s_30)) H := by rw [es_30]; exact hP
    replace h := gb_lt_s es_30 h
    refine lv_aload_n hx hb dX6_go_96 rfl (lv_at hl 0 rfl) ?_
    refine va_get (ci := 5) (v := (.ref (b + 115))) (C := RX6) (T := TX6) (N := 12) hx hb hq i_X6 hown hK hP 109 (gb_at b rfl) rfl 4 (by decide) (hq _ w_204) (fun _ h9 => h9) rfl dX6_go_97 ?_
    refine lv_iload_n hx hb dX6_go_100 rfl (lv_at hl 1 rfl) ?_
    refine lv_iload_n hx hb dX6_go_101 rfl (lv_at hl 2 rfl) ?_
    obtain ⟨z_31, h⟩ := gb_ck_s h
    refine va_iast (x := v2) hx hb hK hP (gb_D (fun k h => ⟨Nat.le_add_right b k, Nat.add_lt_add_left h b⟩)) hS 115 0 (gb_at b rfl) rfl z_31 dX6_go_102 (fun H locs hP hD hS => ?_)
    rw [gb_set] at hP
    obtain ⟨s_32, es_32⟩ : ∃ q, q = (gb_su s_30 115 (upd (s_30.1 115) (Int32.toNatClampNeg v1) v2)) := ⟨_, rfl⟩
    replace hP : va_P D vwCl (gb_wl b (gb_CW cT b s_32)) H := by rw [es_32]; exact hP
    replace h := gb_lt_s es_32 h
    refine lv_aload_n hx hb dX6_go_103 rfl (lv_at hl 0 rfl) ?_
    refine va_get (ci := 5) (v := (.ref (b + 119))) (C := RX6) (T := TX6) (N := 12) hx hb hq i_X6 hown hK hP 109 (gb_at b rfl) rfl 8 (by decide) (hq _ w_212) (fun _ h9 => h9) rfl dX6_go_104 ?_
    refine lv_iload_n hx hb dX6_go_107 rfl (lv_at hl 2 rfl) ?_
    refine lv_bipush (v := 8) hx hb dX6_go_108 (by decide) ?_
    refine lv_imul hx hb dX6_go_110 ?_
    refine lv_iload_n hx hb dX6_go_111 rfl (lv_at hl 1 rfl) ?_
    refine lv_iadd hx hb dX6_go_112 ?_
    refine lv_iload_n hx hb dX6_go_113 rfl (lv_at hl 3 rfl) ?_
    refine lv_iconst (v := 1) hx hb dX6_go_114 (by decide) ?_
    refine lv_iadd hx hb dX6_go_115 ?_
    obtain ⟨z_33, h⟩ := gb_ck_s h
    refine va_iast (x := (v3 + 1)) hx hb hK hP (gb_D (fun k h => ⟨Nat.le_add_right b k, Nat.add_lt_add_left h b⟩)) hS 119 0 (gb_at b rfl) rfl z_33 dX6_go_116 (fun H locs hP hD hS => ?_)
    rw [gb_set] at hP
    obtain ⟨s_34, es_34⟩ : ∃ q, q = (gb_su s_32 119 (upd (s_32.1 119) (Int32.toNatClampNeg ((v2 * 8) + v1)) (v3 + 1))) := ⟨_, rfl⟩
    replace hP : va_P D vwCl (gb_wl b (gb_CW cT b s_34)) H := by rw [es_34]; exact hP
    replace h := gb_lt_s es_34 h
    obtain ⟨e1, -⟩ := gb_eq2 h
    exact W.vret hx hb hr (fun t ht hW => gb_rv ht (by rw [← e1]; exact hP) hS) hS.2.2 dX6_go_117
  have L46_1 : ∀ (σ : gb_S) (v1 : Int32) (v2 : Int32) (v3 : Int32) (v5 : Int32) (v6 : Int32) (H : Heap) (locs : List Loc) (ls : Array Slot), cs_Play_go_c116_46 n σ v1 v2 v3 v5 v6 = some (σE, rE) → va_P D vwCl (gb_wl b (gb_CW cT b σ)) H → va_S (gb_fr b 135) s.heap H locs → lv_has ls 7 [(0, .ref (b + 109)), (1, .int v1), (2, .int v2), (3, .int v3), (5, .int v5), (6, .int v6)] → W p l e (headSpec (.code yX6_go cX6_go 7 none :: gb_wA) ({ frames := 2, cells := 0, slots := 0, locals := 48 })).room s m ([.ref (b + 109), .int p1, .int p2, .int p3, .ref (b + 116)]).toArray below meth c H locs 0 0 (MQ below (gb_Qv (fun h => va_P D vwCl (gb_wl b (gb_CW cT b σE)) h) (gb_fr b 135)) ([.ref (b + 109), .int p1, .int p2, .int p3, .ref (b + 116)]).toArray s 0 0 (gb_fr b 135)) (F0 m 46 ls []) := by
    clear h hP hS hl ls
    intro σ v1 v2 v3 v5 v6 H locs ls h hP hS hl
    unfold cs_Play_go_c116_46 at h
    refine lv_aload_n hx hb dX6_go_46 rfl (lv_at hl 0 rfl) ?_
    refine va_get (ci := 5) (v := (.ref (b + 113))) (C := RX6) (T := TX6) (N := 12) hx hb hq i_X6 hown hK hP 109 (gb_at b rfl) rfl 2 (by decide) (hq _ w_200) (fun _ h9 => h9) rfl dX6_go_47 ?_
    refine lv_iload_n hx hb dX6_go_50 rfl (lv_at hl 1 rfl) ?_
    refine lv_iconst (v := 0) hx hb dX6_go_51 (by decide) ?_
    refine lv_aload_n hx hb dX6_go_52 rfl (lv_at hl 0 rfl) ?_
    refine va_get (ci := 5) (v := (.ref (b + 113))) (C := RX6) (T := TX6) (N := 12) hx hb hq i_X6 hown hK hP 109 (gb_at b rfl) rfl 2 (by decide) (hq _ w_200) (fun _ h9 => h9) rfl dX6_go_53 ?_
    refine lv_iload_n hx hb dX6_go_56 rfl (lv_at hl 1 rfl) ?_
    obtain ⟨z_17, h⟩ := gb_ck_s h
    refine va_iald hx hb hK hP 113 0 (gb_at b rfl) rfl z_17 dX6_go_57 ?_
    refine lv_topi (fun x_18 ex_18 => ?_)
    replace h := gb_lt_s ex_18 h
    refine lv_iload hx hb dX6_go_58 (lv_at hl 4 rfl) ?_
    refine lv_isub hx hb dX6_go_60 ?_
    refine va_mmax hx hb (hml.trans hl.1.symm) hown (hq _ w_749) (hq _ w_47) (hq _ w_5) (hq _ w_48) (Nat.le_of_ble_eq_true rfl) (Nat.le_of_ble_eq_true rfl) (Nat.le_of_ble_eq_true rfl) (Nat.le_of_ble_eq_true rfl) dX6_go_61 ?_
    refine lv_topi (fun x_19 ex_19 => ?_)
    replace h := gb_lt_s ex_19 h
    obtain ⟨z_20, h⟩ := gb_ck_s h
    refine va_iast (x := x_19) hx hb hK hP (gb_D (fun k h => ⟨Nat.le_add_right b k, Nat.add_lt_add_left h b⟩)) hS 113 0 (gb_at b rfl) rfl z_20 dX6_go_64 (fun H locs hP hD hS => ?_)
    rw [gb_set] at hP
    obtain ⟨s_21, es_21⟩ : ∃ q, q = (gb_su σ 113 (upd (σ.1 113) (Int32.toNatClampNeg v1) x_19)) := ⟨_, rfl⟩
    replace hP : va_P D vwCl (gb_wl b (gb_CW cT b s_21)) H := by rw [es_21]; exact hP
    replace h := gb_lt_s es_21 h
    refine lv_aload_n hx hb dX6_go_65 rfl (lv_at hl 0 rfl) ?_
    refine va_get (ci := 5) (v := (.ref (b + 114))) (C := RX6) (T := TX6) (N := 12) hx hb hq i_X6 hown hK hP 109 (gb_at b rfl) rfl 3 (by decide) (hq _ w_202) (fun _ h9 => h9) rfl dX6_go_66 ?_
    refine lv_iload_n hx hb dX6_go_69 rfl (lv_at hl 1 rfl) ?_
    refine lv_dup2_11 hx hb dX6_go_70 rfl rfl ?_
    obtain ⟨z_22, h⟩ := gb_ck_s h
    refine va_iald hx hb hK hP 114 0 (gb_at b rfl) rfl z_22 dX6_go_71 ?_
    refine lv_topi (fun x_23 ex_23 => ?_)
    replace h := gb_lt_s ex_23 h
    refine lv_iload hx hb dX6_go_72 (lv_at hl 5 rfl) ?_
    refine lv_iadd hx hb dX6_go_74 ?_
    obtain ⟨z_24, h⟩ := gb_ck_s h
    refine va_iast (x := (x_23 + v6)) hx hb hK hP (gb_D (fun k h => ⟨Nat.le_add_right b k, Nat.add_lt_add_left h b⟩)) hS 114 0 (gb_at b rfl) rfl z_24 dX6_go_75 (fun H locs hP hD hS => ?_)
    rw [gb_set] at hP
    obtain ⟨s_25, es_25⟩ : ∃ q, q = (gb_su s_21 114 (upd (s_21.1 114) (Int32.toNatClampNeg v1) (x_23 + v6))) := ⟨_, rfl⟩
    replace hP : va_P D vwCl (gb_wl b (gb_CW cT b s_25)) H := by rw [es_25]; exact hP
    replace h := gb_lt_s es_25 h
    refine lv_aload_n hx hb dX6_go_76 rfl (lv_at hl 0 rfl) ?_
    refine va_get (ci := 5) (v := (.ref (b + 112))) (C := RX6) (T := TX6) (N := 12) hx hb hq i_X6 hown hK hP 109 (gb_at b rfl) rfl 1 (by decide) (hq _ w_198) (fun _ h9 => h9) rfl dX6_go_77 ?_
    refine lv_iload_n hx hb dX6_go_80 rfl (lv_at hl 1 rfl) ?_
    refine lv_aload_n hx hb dX6_go_81 rfl (lv_at hl 0 rfl) ?_
    refine va_get (ci := 5) (v := (.ref (b + 112))) (C := RX6) (T := TX6) (N := 12) hx hb hq i_X6 hown hK hP 109 (gb_at b rfl) rfl 1 (by decide) (hq _ w_198) (fun _ h9 => h9) rfl dX6_go_82 ?_
    refine lv_iload_n hx hb dX6_go_85 rfl (lv_at hl 1 rfl) ?_
    obtain ⟨z_26, h⟩ := gb_ck_s h
    refine va_iald hx hb hK hP 112 0 (gb_at b rfl) rfl z_26 dX6_go_86 ?_
    refine lv_topi (fun x_27 ex_27 => ?_)
    replace h := gb_lt_s ex_27 h
    refine lv_if_ne (tgt := 94) hx hb dX6_go_87 (by decide) (fun c_28 => ?_) (fun c_28 => ?_)
    · rw [if_neg c_28] at h
      refine lv_iconst (v := 0) hx hb dX6_go_94 (by decide) ?_
      exact L95_2 _ _ _ _ _ _ _ _ _ h hP hS (lv_sub hl [0, 1, 2, 3] rfl)
    · rw [if_pos c_28] at h
      refine lv_iconst (v := 1) hx hb dX6_go_90 (by decide) ?_
      refine lv_goto (tgt := 95) hx hb dX6_go_91 (by decide) ?_
      exact L95_2 _ _ _ _ _ _ _ _ _ h hP hS (lv_sub hl [0, 1, 2, 3] rfl)
  unfold cs_Play_go_c116 at h
  refine lv_aload_n hx hb dX6_go_0 rfl (lv_at hl 0 rfl) ?_
  obtain ⟨z_1, h⟩ := gb_kk_s h
  refine va_get (ci := 5) (v := (.ref (b + (σ.2.1 1)))) (C := RX6) (T := TX6) (N := 12) hx hb hq i_X6 hown hK hP 109 (gb_at b rfl) rfl 0 (by decide) (hq _ w_197) (fun _ h9 => h9) rfl dX6_go_1 ?_
  refine lv_iload_n hx hb dX6_go_4 rfl (lv_at hl 2 rfl) ?_
  obtain ⟨s_2, r_3, z_4, h⟩ := gb_cd_s h
  refine gb_calli (va_runV (C := RX0) (As := [.int p2]) (rest := []) ⟨hx, hb, hml, hown, hq⟩ (cc_Border_miles_B l D cT tt b1 b hb1 n σ (σ.2.1 1) p2 s_2 r_3 z_4) (cwV 1 hq (gb_gV w_747 w_622 w_623 w_4 w_624) rfl rfl rfl (by decide +kernel) ⟨Nat.le_of_ble_eq_true rfl, Nat.le_of_ble_eq_true rfl⟩) (gb_preV (r := (RX0, TX0, 1)) (ci := 0) (q0 := (σ.2.1 1)) hSt hP rfl (gb_at b (gb_cB z_1).1) hS (fun q h => Nat.le_trans hb1 h.1) hP) rfl rfl hl.1 rfl (lv_room (Nat.le_of_ble_eq_true rfl)) dX6_go_5 ⟨Nat.le_of_ble_eq_true rfl, Nat.le_of_ble_eq_true rfl⟩) hS (fun _ h => h) (fun _ h => h) (fun q_5 H locs hY hk hS => ?_)
  obtain ⟨hq_5, hP⟩ := hY
  replace hq_5 := hq_5.symm
  subst hq_5
  refine lv_istore (lv' := [(5, .int r_3), (0, .ref (b + 109)), (1, .int p1), (2, .int p2), (3, .int p3), (4, .ref (b + 116))]) hx hb dX6_go_8 hl (by decide) rfl (fun ls hl => ?_)
  refine lv_aload_n hx hb dX6_go_10 rfl (lv_at hl 1 rfl) ?_
  obtain ⟨z_6, h⟩ := gb_kk_s h
  refine va_get (ci := 5) (v := (.ref (b + (s_2.2.1 1)))) (C := RX6) (T := TX6) (N := 12) hx hb hq i_X6 hown hK hP 109 (gb_at b rfl) rfl 0 (by decide) (hq _ w_197) (fun _ h9 => h9) rfl dX6_go_11 ?_
  refine lv_iload_n hx hb dX6_go_14 rfl (lv_at hl 2 rfl) ?_
  refine lv_iload hx hb dX6_go_15 (lv_at hl 0 rfl) ?_
  refine lv_aload_n hx hb dX6_go_17 rfl (lv_at hl 1 rfl) ?_
  refine va_get (ci := 5) (v := (.ref (b + 113))) (C := RX6) (T := TX6) (N := 12) hx hb hq i_X6 hown hK hP 109 (gb_at b rfl) rfl 2 (by decide) (hq _ w_200) (fun _ h9 => h9) rfl dX6_go_18 ?_
  refine lv_iload_n hx hb dX6_go_21 rfl (lv_at hl 2 rfl) ?_
  obtain ⟨z_7, h⟩ := gb_ck_s h
  refine va_iald hx hb hK hP 113 0 (gb_at b rfl) rfl z_7 dX6_go_22 ?_
  refine lv_topi (fun x_8 ex_8 => ?_)
  replace h := gb_lt_s ex_8 h
  refine lv_aload_n hx hb dX6_go_23 rfl (lv_at hl 1 rfl) ?_
  refine va_get (ci := 5) (v := (.int (s_2.1 109 10))) (C := RX6) (T := TX6) (N := 12) hx hb hq i_X6 hown hK hP 109 (gb_at b rfl) rfl 10 (by decide) (hq _ w_214) (fun _ h9 => h9) rfl dX6_go_24 ?_
  obtain ⟨s_9, r_10, z_11, h⟩ := gb_cd_s h
  refine gb_calli (va_runV (C := RX0) (As := [.int p1, .int r_3, .int x_8, .int (s_2.1 109 10)]) (rest := []) ⟨hx, hb, hml, hown, hq⟩ (cc_Border_marksOver_B l D cT tt b1 b hb1 n s_2 (s_2.2.1 1) p1 r_3 x_8 (s_2.1 109 10) s_9 r_10 z_11) (cwV 4 hq (gb_gV w_748 w_630 w_631 w_4 w_632) rfl rfl rfl (by decide +kernel) ⟨Nat.le_of_ble_eq_true rfl, Nat.le_of_ble_eq_true rfl⟩) (gb_preV (r := (RX0, TX0, 1)) (ci := 0) (q0 := (s_2.2.1 1)) hSt hP rfl (gb_at b (gb_cB z_6).1) hS (fun q h => Nat.le_trans hb1 h.1) hP) rfl rfl hl.1 rfl (lv_room (Nat.le_of_ble_eq_true rfl)) dX6_go_27 ⟨Nat.le_of_ble_eq_true rfl, Nat.le_of_ble_eq_true rfl⟩) hS (fun _ h => h) (fun _ h => h) (fun q_12 H locs hY hk hS => ?_)
  obtain ⟨hq_12, hP⟩ := hY
  replace hq_12 := hq_12.symm
  subst hq_12
  refine lv_istore (lv' := [(6, .int r_10), (5, .int r_3), (0, .ref (b + 109)), (1, .int p1), (2, .int p2), (3, .int p3), (4, .ref (b + 116))]) hx hb dX6_go_30 hl (by decide) rfl (fun ls hl => ?_)
  refine lv_aload hx hb dX6_go_32 (lv_at hl 6 rfl) ?_
  refine lv_ifnull hx hb dX6_go_34 ?_
  refine lv_aload hx hb dX6_go_37 (lv_at hl 6 rfl) ?_
  refine lv_iload_n hx hb dX6_go_39 rfl (lv_at hl 4 rfl) ?_
  refine lv_dup2_11 hx hb dX6_go_40 rfl rfl ?_
  obtain ⟨z_13, h⟩ := gb_ck_s h
  refine va_iald hx hb hK hP 116 0 (gb_at b rfl) rfl z_13 dX6_go_41 ?_
  refine lv_topi (fun x_14 ex_14 => ?_)
  replace h := gb_lt_s ex_14 h
  refine lv_iload hx hb dX6_go_42 (lv_at hl 0 rfl) ?_
  refine lv_iadd hx hb dX6_go_44 ?_
  obtain ⟨z_15, h⟩ := gb_ck_s h
  refine va_iast (x := (x_14 + r_10)) hx hb hK hP (gb_D (fun k h => ⟨Nat.le_add_right b k, Nat.add_lt_add_left h b⟩)) hS 116 0 (gb_at b rfl) rfl z_15 dX6_go_45 (fun H locs hP hD hS => ?_)
  rw [gb_set] at hP
  obtain ⟨s_16, es_16⟩ : ∃ q, q = (gb_su s_9 116 (upd (s_9.1 116) (Int32.toNatClampNeg p2) (x_14 + r_10))) := ⟨_, rfl⟩
  replace hP : va_P D vwCl (gb_wl b (gb_CW cT b s_16)) H := by rw [es_16]; exact hP
  replace h := gb_lt_s es_16 h
  exact L46_1 _ _ _ _ _ _ _ _ _ h hP hS (lv_sub hl [2, 3, 4, 5, 1, 0] rfl)
theorem dX6_doDeed_96 : decode cX6_doDeed 96 = .ok (.aload_n 0, 1) := dc_42 (show ((cX6_doDeed.data.toList.drop 96).take 1).map UInt8.toNat = [42] by decide +kernel)
theorem dX6_doDeed_97 : decode cX6_doDeed 97 = .ok (.iload 4, 2) := dc_21 (show ((cX6_doDeed.data.toList.drop 97).take 2).map UInt8.toNat = [21, 4] by decide +kernel) rfl
theorem dX6_doDeed_99 : decode cX6_doDeed 99 = .ok (.iload 5, 2) := dc_21 (show ((cX6_doDeed.data.toList.drop 99).take 2).map UInt8.toNat = [21, 5] by decide +kernel) rfl
theorem dX6_doDeed_101 : decode cX6_doDeed 101 = .ok (.iload_n 2, 1) := dc_28 (show ((cX6_doDeed.data.toList.drop 101).take 1).map UInt8.toNat = [28] by decide +kernel)
theorem dX6_doDeed_102 : decode cX6_doDeed 102 = .ok (.aload_n 0, 1) := dc_42 (show ((cX6_doDeed.data.toList.drop 102).take 1).map UInt8.toNat = [42] by decide +kernel)
theorem dX6_doDeed_103 : decode cX6_doDeed 103 = .ok (.getfield 34, 3) := dc_180 (show ((cX6_doDeed.data.toList.drop 103).take 3).map UInt8.toNat = [180, 0, 34] by decide +kernel) rfl
theorem dX6_doDeed_106 : decode cX6_doDeed 106 = .ok (.invokevirtual 107, 3) := dc_182 (show ((cX6_doDeed.data.toList.drop 106).take 3).map UInt8.toNat = [182, 0, 107] by decide +kernel) rfl
def cs_Play_go_c117_95 (n : Nat) (σ : gb_S) (v1 : Int32) (v2 : Int32) (v3 : Int32) (t0 : Int32) (t1 : Int32) : gb_CR Unit := gb_ck t1 8 (gb_lt (gb_su σ 112 (upd (σ.1 112) (Int32.toNatClampNeg t1) t0)) (fun s_30 => gb_ck v1 8 (gb_lt (gb_su s_30 115 (upd (s_30.1 115) (Int32.toNatClampNeg v1) v2)) (fun s_32 => gb_ck ((v2 * 8) + v1) 40 (gb_lt (gb_su s_32 119 (upd (s_32.1 119) (Int32.toNatClampNeg ((v2 * 8) + v1)) (v3 + 1))) (fun s_34 => some (s_34, ())))))))
def cs_Play_go_c117_46 (n : Nat) (σ : gb_S) (v1 : Int32) (v2 : Int32) (v3 : Int32) (v5 : Int32) (v6 : Int32) : gb_CR Unit := gb_ck v1 8 (gb_lt ((σ.1 113) (Int32.toNatClampNeg v1)) (fun x_18 => gb_lt (if (0 : Int32) < (x_18 - v5) then (x_18 - v5) else (0 : Int32)) (fun x_19 => gb_ck v1 8 (gb_lt (gb_su σ 113 (upd (σ.1 113) (Int32.toNatClampNeg v1) x_19)) (fun s_21 => gb_ck v1 8 (gb_lt ((s_21.1 114) (Int32.toNatClampNeg v1)) (fun x_23 => gb_ck v1 8 (gb_lt (gb_su s_21 114 (upd (s_21.1 114) (Int32.toNatClampNeg v1) (x_23 + v6))) (fun s_25 => gb_ck v1 8 (gb_lt ((s_25.1 112) (Int32.toNatClampNeg v1)) (fun x_27 => (if x_27 = 0 then cs_Play_go_c117_95 n s_25 v1 v2 v3 1 v1 else cs_Play_go_c117_95 n s_25 v1 v2 v3 0 v1))))))))))))
def cs_Play_go_c117 (n : Nat) (σ : gb_S) (p1 : Int32) (p2 : Int32) (p3 : Int32) : gb_CR Unit := gb_kk (gb_kB (σ.2.1 1)) (gb_cd (cs_Border_miles_B n σ (σ.2.1 1) p2) (fun s_2 r_3 => gb_kk (gb_kB (s_2.2.1 1)) (gb_ck p1 8 (gb_lt ((s_2.1 113) (Int32.toNatClampNeg p1)) (fun x_8 => gb_cd (cs_Border_marksOver_B n s_2 (s_2.2.1 1) p1 r_3 x_8 (s_2.1 109 10)) (fun s_9 r_10 => gb_ck p2 5 (gb_lt ((s_9.1 117) (Int32.toNatClampNeg p2)) (fun x_14 => gb_ck p2 5 (gb_lt (gb_su s_9 117 (upd (s_9.1 117) (Int32.toNatClampNeg p2) (x_14 + r_10))) (fun s_16 => cs_Play_go_c117_46 n s_16 p1 p2 p3 r_3 r_10))))))))))
set_option maxHeartbeats 8000000 in
set_option maxRecDepth 100000 in
theorem cc_Play_go_c117 (l : Launch) (D : va_G) (cT : Nat → ClassId) (tt : Nat → Nat) (b1 b : Nat) (hb1 : b1 ≤ b) (n : Nat) (σ : gb_S) (p1 : Int32) (p2 : Int32) (p3 : Int32) (σE : gb_S) (rE : Unit) (h : cs_Play_go_c117 n σ p1 p2 p3 = some (σE, rE)) : Met l yX6_go (.code yX6_go cX6_go 7 none :: gb_wA) ({ frames := 2, cells := 0, slots := 0, locals := 48 }) (gb_Pc D cT tt b1 [.ref (b + 109), .int p1, .int p2, .int p3, .ref (b + 117)] (fun h => va_P D vwCl (gb_wl b (gb_CW cT b σ)) h)) (gb_Qv (fun h => va_P D vwCl (gb_wl b (gb_CW cT b σE)) h) (gb_fr b 135)) 0 0 (gb_fr b 135) := by
  refine Met.ofW (cc := cX6_go) (maxL := 7) (ret := none) (by decide) rfl ?_
  intro p e s m args below meth c s₁ B hml hv
  obtain ⟨rfl, hSt, hP⟩ := hv
  have hx := B.exec
  have hb := B.bytes
  have hr := B.returns
  have hts := atoms_spec (ws := .code yX6_go cX6_go 7 none :: gb_wA) B.pre
  have hq : ∀ w ∈ gb_wA, w.before _ s = true := fun w h => hts w (List.mem_cons_of_mem _ h)
  have hown : s.vm.findClass RX6 = some m.cls := findClass_of_methodNamed B.named
  have hlocks := B.notSynchronized
  clear B hts
  have hK := hSt.1
  have hS : va_S (gb_fr b 135) s.heap s.heap [] := va_S.rf
  have hl := lv_entry ([.ref (b + 109), .int p1, .int p2, .int p3, .ref (b + 117)]) (n := 7) (Nat.le_of_ble_eq_true rfl)
  rw [lg_entry_eq]
  generalize (lg_sl ([.ref (b + 109), .int p1, .int p2, .int p3, .ref (b + 117)]) ++ List.replicate (7 - (lg_sl ([.ref (b + 109), .int p1, .int p2, .int p3, .ref (b + 117)])).length) Slot.unset).toArray = ls at hl ⊢
  replace hl : lv_has ls 7 [(0, .ref (b + 109)), (1, .int p1), (2, .int p2), (3, .int p3), (4, .ref (b + 117))] := hl
  have L95_2 : ∀ (σ : gb_S) (v1 : Int32) (v2 : Int32) (v3 : Int32) (t0 : Int32) (t1 : Int32) (H : Heap) (locs : List Loc) (ls : Array Slot), cs_Play_go_c117_95 n σ v1 v2 v3 t0 t1 = some (σE, rE) → va_P D vwCl (gb_wl b (gb_CW cT b σ)) H → va_S (gb_fr b 135) s.heap H locs → lv_has ls 7 [(0, .ref (b + 109)), (1, .int v1), (2, .int v2), (3, .int v3)] → W p l e (headSpec (.code yX6_go cX6_go 7 none :: gb_wA) ({ frames := 2, cells := 0, slots := 0, locals := 48 })).room s m ([.ref (b + 109), .int p1, .int p2, .int p3, .ref (b + 117)]).toArray below meth c H locs 0 0 (MQ below (gb_Qv (fun h => va_P D vwCl (gb_wl b (gb_CW cT b σE)) h) (gb_fr b 135)) ([.ref (b + 109), .int p1, .int p2, .int p3, .ref (b + 117)]).toArray s 0 0 (gb_fr b 135)) (F0 m 95 ls [.int t0, .int t1, .ref (b + 112)]) := by
    clear h hP hS hl ls
    intro σ v1 v2 v3 t0 t1 H locs ls h hP hS hl
    unfold cs_Play_go_c117_95 at h
    obtain ⟨z_29, h⟩ := gb_ck_s h
    refine va_iast (x := t0) hx hb hK hP (gb_D (fun k h => ⟨Nat.le_add_right b k, Nat.add_lt_add_left h b⟩)) hS 112 0 (gb_at b rfl) rfl z_29 dX6_go_95 (fun H locs hP hD hS => ?_)
    rw [gb_set] at hP
    obtain ⟨s_30, es_30⟩ : ∃ q, q = (gb_su σ 112 (upd (σ.1 112) (Int32.toNatClampNeg t1) t0)) := ⟨_, rfl⟩
    replace hP : va_P D vwCl (gb_wl b (gb_CW cT b s_30)) H := by rw [es_30]; exact hP
    replace h := gb_lt_s es_30 h
    refine lv_aload_n hx hb dX6_go_96 rfl (lv_at hl 0 rfl) ?_
    refine va_get (ci := 5) (v := (.ref (b + 115))) (C := RX6) (T := TX6) (N := 12) hx hb hq i_X6 hown hK hP 109 (gb_at b rfl) rfl 4 (by decide) (hq _ w_204) (fun _ h9 => h9) rfl dX6_go_97 ?_
    refine lv_iload_n hx hb dX6_go_100 rfl (lv_at hl 1 rfl) ?_
    refine lv_iload_n hx hb dX6_go_101 rfl (lv_at hl 2 rfl) ?_
    obtain ⟨z_31, h⟩ := gb_ck_s h
    refine va_iast (x := v2) hx hb hK hP (gb_D (fun k h => ⟨Nat.le_add_right b k, Nat.add_lt_add_left h b⟩)) hS 115 0 (gb_at b rfl) rfl z_31 dX6_go_102 (fun H locs hP hD hS => ?_)
    rw [gb_set] at hP
    obtain ⟨s_32, es_32⟩ : ∃ q, q = (gb_su s_30 115 (upd (s_30.1 115) (Int32.toNatClampNeg v1) v2)) := ⟨_, rfl⟩
    replace hP : va_P D vwCl (gb_wl b (gb_CW cT b s_32)) H := by rw [es_32]; exact hP
    replace h := gb_lt_s es_32 h
    refine lv_aload_n hx hb dX6_go_103 rfl (lv_at hl 0 rfl) ?_
    refine va_get (ci := 5) (v := (.ref (b + 119))) (C := RX6) (T := TX6) (N := 12) hx hb hq i_X6 hown hK hP 109 (gb_at b rfl) rfl 8 (by decide) (hq _ w_212) (fun _ h9 => h9) rfl dX6_go_104 ?_
    refine lv_iload_n hx hb dX6_go_107 rfl (lv_at hl 2 rfl) ?_
    refine lv_bipush (v := 8) hx hb dX6_go_108 (by decide) ?_
    refine lv_imul hx hb dX6_go_110 ?_
    refine lv_iload_n hx hb dX6_go_111 rfl (lv_at hl 1 rfl) ?_
    refine lv_iadd hx hb dX6_go_112 ?_
    refine lv_iload_n hx hb dX6_go_113 rfl (lv_at hl 3 rfl) ?_
    refine lv_iconst (v := 1) hx hb dX6_go_114 (by decide) ?_
    refine lv_iadd hx hb dX6_go_115 ?_
    obtain ⟨z_33, h⟩ := gb_ck_s h
    refine va_iast (x := (v3 + 1)) hx hb hK hP (gb_D (fun k h => ⟨Nat.le_add_right b k, Nat.add_lt_add_left h b⟩)) hS 119 0 (gb_at b rfl) rfl z_33 dX6_go_116 (fun H locs hP hD hS => ?_)
    rw [gb_set] at hP
    obtain ⟨s_34, es_34⟩ : ∃ q, q = (gb_su s_32 119 (upd (s_32.1 119) (Int32.toNatClampNeg ((v2 * 8) + v1)) (v3 + 1))) := ⟨_, rfl⟩
    replace hP : va_P D vwCl (gb_wl b (gb_CW cT b s_34)) H := by rw [es_34]; exact hP
    replace h := gb_lt_s es_34 h
    obtain ⟨e1, -⟩ := gb_eq2 h
    exact W.vret hx hb hr (fun t ht hW => gb_rv ht (by rw [← e1]; exact hP) hS) hS.2.2 dX6_go_117
  have L46_1 : ∀ (σ : gb_S) (v1 : Int32) (v2 : Int32) (v3 : Int32) (v5 : Int32) (v6 : Int32) (H : Heap) (locs : List Loc) (ls : Array Slot), cs_Play_go_c117_46 n σ v1 v2 v3 v5 v6 = some (σE, rE) → va_P D vwCl (gb_wl b (gb_CW cT b σ)) H → va_S (gb_fr b 135) s.heap H locs → lv_has ls 7 [(0, .ref (b + 109)), (1, .int v1), (2, .int v2), (3, .int v3), (5, .int v5), (6, .int v6)] → W p l e (headSpec (.code yX6_go cX6_go 7 none :: gb_wA) ({ frames := 2, cells := 0, slots := 0, locals := 48 })).room s m ([.ref (b + 109), .int p1, .int p2, .int p3, .ref (b + 117)]).toArray below meth c H locs 0 0 (MQ below (gb_Qv (fun h => va_P D vwCl (gb_wl b (gb_CW cT b σE)) h) (gb_fr b 135)) ([.ref (b + 109), .int p1, .int p2, .int p3, .ref (b + 117)]).toArray s 0 0 (gb_fr b 135)) (F0 m 46 ls []) := by
    clear h hP hS hl ls
    intro σ v1 v2 v3 v5 v6 H locs ls h hP hS hl
    unfold cs_Play_go_c117_46 at h
    refine lv_aload_n hx hb dX6_go_46 rfl (lv_at hl 0 rfl) ?_
    refine va_get (ci := 5) (v := (.ref (b + 113))) (C := RX6) (T := TX6) (N := 12) hx hb hq i_X6 hown hK hP 109 (gb_at b rfl) rfl 2 (by decide) (hq _ w_200) (fun _ h9 => h9) rfl dX6_go_47 ?_
    refine lv_iload_n hx hb dX6_go_50 rfl (lv_at hl 1 rfl) ?_
    refine lv_iconst (v := 0) hx hb dX6_go_51 (by decide) ?_
    refine lv_aload_n hx hb dX6_go_52 rfl (lv_at hl 0 rfl) ?_
    refine va_get (ci := 5) (v := (.ref (b + 113))) (C := RX6) (T := TX6) (N := 12) hx hb hq i_X6 hown hK hP 109 (gb_at b rfl) rfl 2 (by decide) (hq _ w_200) (fun _ h9 => h9) rfl dX6_go_53 ?_
    refine lv_iload_n hx hb dX6_go_56 rfl (lv_at hl 1 rfl) ?_
    obtain ⟨z_17, h⟩ := gb_ck_s h
    refine va_iald hx hb hK hP 113 0 (gb_at b rfl) rfl z_17 dX6_go_57 ?_
    refine lv_topi (fun x_18 ex_18 => ?_)
    replace h := gb_lt_s ex_18 h
    refine lv_iload hx hb dX6_go_58 (lv_at hl 4 rfl) ?_
    refine lv_isub hx hb dX6_go_60 ?_
    refine va_mmax hx hb (hml.trans hl.1.symm) hown (hq _ w_749) (hq _ w_47) (hq _ w_5) (hq _ w_48) (Nat.le_of_ble_eq_true rfl) (Nat.le_of_ble_eq_true rfl) (Nat.le_of_ble_eq_true rfl) (Nat.le_of_ble_eq_true rfl) dX6_go_61 ?_
    refine lv_topi (fun x_19 ex_19 => ?_)
    replace h := gb_lt_s ex_19 h
    obtain ⟨z_20, h⟩ := gb_ck_s h
    refine va_iast (x := x_19) hx hb hK hP (gb_D (fun k h => ⟨Nat.le_add_right b k, Nat.add_lt_add_left h b⟩)) hS 113 0 (gb_at b rfl) rfl z_20 dX6_go_64 (fun H locs hP hD hS => ?_)
    rw [gb_set] at hP
    obtain ⟨s_21, es_21⟩ : ∃ q, q = (gb_su σ 113 (upd (σ.1 113) (Int32.toNatClampNeg v1) x_19)) := ⟨_, rfl⟩
    replace hP : va_P D vwCl (gb_wl b (gb_CW cT b s_21)) H := by rw [es_21]; exact hP
    replace h := gb_lt_s es_21 h
    refine lv_aload_n hx hb dX6_go_65 rfl (lv_at hl 0 rfl) ?_
    refine va_get (ci := 5) (v := (.ref (b + 114))) (C := RX6) (T := TX6) (N := 12) hx hb hq i_X6 hown hK hP 109 (gb_at b rfl) rfl 3 (by decide) (hq _ w_202) (fun _ h9 => h9) rfl dX6_go_66 ?_
    refine lv_iload_n hx hb dX6_go_69 rfl (lv_at hl 1 rfl) ?_
    refine lv_dup2_11 hx hb dX6_go_70 rfl rfl ?_
    obtain ⟨z_22, h⟩ := gb_ck_s h
    refine va_iald hx hb hK hP 114 0 (gb_at b rfl) rfl z_22 dX6_go_71 ?_
    refine lv_topi (fun x_23 ex_23 => ?_)
    replace h := gb_lt_s ex_23 h
    refine lv_iload hx hb dX6_go_72 (lv_at hl 5 rfl) ?_
    refine lv_iadd hx hb dX6_go_74 ?_
    obtain ⟨z_24, h⟩ := gb_ck_s h
    refine va_iast (x := (x_23 + v6)) hx hb hK hP (gb_D (fun k h => ⟨Nat.le_add_right b k, Nat.add_lt_add_left h b⟩)) hS 114 0 (gb_at b rfl) rfl z_24 dX6_go_75 (fun H locs hP hD hS => ?_)
    rw [gb_set] at hP
    obtain ⟨s_25, es_25⟩ : ∃ q, q = (gb_su s_21 114 (upd (s_21.1 114) (Int32.toNatClampNeg v1) (x_23 + v6))) := ⟨_, rfl⟩
    replace hP : va_P D vwCl (gb_wl b (gb_CW cT b s_25)) H := by rw [es_25]; exact hP
    replace h := gb_lt_s es_25 h
    refine lv_aload_n hx hb dX6_go_76 rfl (lv_at hl 0 rfl) ?_
    refine va_get (ci := 5) (v := (.ref (b + 112))) (C := RX6) (T := TX6) (N := 12) hx hb hq i_X6 hown hK hP 109 (gb_at b rfl) rfl 1 (by decide) (hq _ w_198) (fun _ h9 => h9) rfl dX6_go_77 ?_
    refine lv_iload_n hx hb dX6_go_80 rfl (lv_at hl 1 rfl) ?_
    refine lv_aload_n hx hb dX6_go_81 rfl (lv_at hl 0 rfl) ?_
    refine va_get (ci := 5) (v := (.ref (b + 112))) (C := RX6) (T := TX6) (N := 12) hx hb hq i_X6 hown hK hP 109 (gb_at b rfl) rfl 1 (by decide) (hq _ w_198) (fun _ h9 => h9) rfl dX6_go_82 ?_
    refine lv_iload_n hx hb dX6_go_85 rfl (lv_at hl 1 rfl) ?_
    obtain ⟨z_26, h⟩ := gb_ck_s h
    refine va_iald hx hb hK hP 112 0 (gb_at b rfl) rfl z_26 dX6_go_86 ?_
    refine lv_topi (fun x_27 ex_27 => ?_)
    replace h := gb_lt_s ex_27 h
    refine lv_if_ne (tgt := 94) hx hb dX6_go_87 (by decide) (fun c_28 => ?_) (fun c_28 => ?_)
    · rw [if_neg c_28] at h
      refine lv_iconst (v := 0) hx hb dX6_go_94 (by decide) ?_
      exact L95_2 _ _ _ _ _ _ _ _ _ h hP hS (lv_sub hl [0, 1, 2, 3] rfl)
    · rw [if_pos c_28] at h
      refine lv_iconst (v := 1) hx hb dX6_go_90 (by decide) ?_
      refine lv_goto (tgt := 95) hx hb dX6_go_91 (by decide) ?_
      exact L95_2 _ _ _ _ _ _ _ _ _ h hP hS (lv_sub hl [0, 1, 2, 3] rfl)
  unfold cs_Play_go_c117 at h
  refine lv_aload_n hx hb dX6_go_0 rfl (lv_at hl 0 rfl) ?_
  obtain ⟨z_1, h⟩ := gb_kk_s h
  refine va_get (ci := 5) (v := (.ref (b + (σ.2.1 1)))) (C := RX6) (T := TX6) (N := 12) hx hb hq i_X6 hown hK hP 109 (gb_at b rfl) rfl 0 (by decide) (hq _ w_197) (fun _ h9 => h9) rfl dX6_go_1 ?_
  refine lv_iload_n hx hb dX6_go_4 rfl (lv_at hl 2 rfl) ?_
  obtain ⟨s_2, r_3, z_4, h⟩ := gb_cd_s h
  refine gb_calli (va_runV (C := RX0) (As := [.int p2]) (rest := []) ⟨hx, hb, hml, hown, hq⟩ (cc_Border_miles_B l D cT tt b1 b hb1 n σ (σ.2.1 1) p2 s_2 r_3 z_4) (cwV 1 hq (gb_gV w_747 w_622 w_623 w_4 w_624) rfl rfl rfl (by decide +kernel) ⟨Nat.le_of_ble_eq_true rfl, Nat.le_of_ble_eq_true rfl⟩) (gb_preV (r := (RX0, TX0, 1)) (ci := 0) (q0 := (σ.2.1 1)) hSt hP rfl (gb_at b (gb_cB z_1).1) hS (fun q h => Nat.le_trans hb1 h.1) hP) rfl rfl hl.1 rfl (lv_room (Nat.le_of_ble_eq_true rfl)) dX6_go_5 ⟨Nat.le_of_ble_eq_true rfl, Nat.le_of_ble_eq_true rfl⟩) hS (fun _ h => h) (fun _ h => h) (fun q_5 H locs hY hk hS => ?_)
  obtain ⟨hq_5, hP⟩ := hY
  replace hq_5 := hq_5.symm
  subst hq_5
  refine lv_istore (lv' := [(5, .int r_3), (0, .ref (b + 109)), (1, .int p1), (2, .int p2), (3, .int p3), (4, .ref (b + 117))]) hx hb dX6_go_8 hl (by decide) rfl (fun ls hl => ?_)
  refine lv_aload_n hx hb dX6_go_10 rfl (lv_at hl 1 rfl) ?_
  obtain ⟨z_6, h⟩ := gb_kk_s h
  refine va_get (ci := 5) (v := (.ref (b + (s_2.2.1 1)))) (C := RX6) (T := TX6) (N := 12) hx hb hq i_X6 hown hK hP 109 (gb_at b rfl) rfl 0 (by decide) (hq _ w_197) (fun _ h9 => h9) rfl dX6_go_11 ?_
  refine lv_iload_n hx hb dX6_go_14 rfl (lv_at hl 2 rfl) ?_
  refine lv_iload hx hb dX6_go_15 (lv_at hl 0 rfl) ?_
  refine lv_aload_n hx hb dX6_go_17 rfl (lv_at hl 1 rfl) ?_
  refine va_get (ci := 5) (v := (.ref (b + 113))) (C := RX6) (T := TX6) (N := 12) hx hb hq i_X6 hown hK hP 109 (gb_at b rfl) rfl 2 (by decide) (hq _ w_200) (fun _ h9 => h9) rfl dX6_go_18 ?_
  refine lv_iload_n hx hb dX6_go_21 rfl (lv_at hl 2 rfl) ?_
  obtain ⟨z_7, h⟩ := gb_ck_s h
  refine va_iald hx hb hK hP 113 0 (gb_at b rfl) rfl z_7 dX6_go_22 ?_
  refine lv_topi (fun x_8 ex_8 => ?_)
  replace h := gb_lt_s ex_8 h
  refine lv_aload_n hx hb dX6_go_23 rfl (lv_at hl 1 rfl) ?_
  refine va_get (ci := 5) (v := (.int (s_2.1 109 10))) (C := RX6) (T := TX6) (N := 12) hx hb hq i_X6 hown hK hP 109 (gb_at b rfl) rfl 10 (by decide) (hq _ w_214) (fun _ h9 => h9) rfl dX6_go_24 ?_
  obtain ⟨s_9, r_10, z_11, h⟩ := gb_cd_s h
  refine gb_calli (va_runV (C := RX0) (As := [.int p1, .int r_3, .int x_8, .int (s_2.1 109 10)]) (rest := []) ⟨hx, hb, hml, hown, hq⟩ (cc_Border_marksOver_B l D cT tt b1 b hb1 n s_2 (s_2.2.1 1) p1 r_3 x_8 (s_2.1 109 10) s_9 r_10 z_11) (cwV 4 hq (gb_gV w_748 w_630 w_631 w_4 w_632) rfl rfl rfl (by decide +kernel) ⟨Nat.le_of_ble_eq_true rfl, Nat.le_of_ble_eq_true rfl⟩) (gb_preV (r := (RX0, TX0, 1)) (ci := 0) (q0 := (s_2.2.1 1)) hSt hP rfl (gb_at b (gb_cB z_6).1) hS (fun q h => Nat.le_trans hb1 h.1) hP) rfl rfl hl.1 rfl (lv_room (Nat.le_of_ble_eq_true rfl)) dX6_go_27 ⟨Nat.le_of_ble_eq_true rfl, Nat.le_of_ble_eq_true rfl⟩) hS (fun _ h => h) (fun _ h => h) (fun q_12 H locs hY hk hS => ?_)
  obtain ⟨hq_12, hP⟩ := hY
  replace hq_12 := hq_12.symm
  subst hq_12
  refine lv_istore (lv' := [(6, .int r_10), (5, .int r_3), (0, .ref (b + 109)), (1, .int p1), (2, .int p2), (3, .int p3), (4, .ref (b + 117))]) hx hb dX6_go_30 hl (by decide) rfl (fun ls hl => ?_)
  refine lv_aload hx hb dX6_go_32 (lv_at hl 6 rfl) ?_
  refine lv_ifnull hx hb dX6_go_34 ?_
  refine lv_aload hx hb dX6_go_37 (lv_at hl 6 rfl) ?_
  refine lv_iload_n hx hb dX6_go_39 rfl (lv_at hl 4 rfl) ?_
  refine lv_dup2_11 hx hb dX6_go_40 rfl rfl ?_
  obtain ⟨z_13, h⟩ := gb_ck_s h
  refine va_iald hx hb hK hP 117 0 (gb_at b rfl) rfl z_13 dX6_go_41 ?_
  refine lv_topi (fun x_14 ex_14 => ?_)
  replace h := gb_lt_s ex_14 h
  refine lv_iload hx hb dX6_go_42 (lv_at hl 0 rfl) ?_
  refine lv_iadd hx hb dX6_go_44 ?_
  obtain ⟨z_15, h⟩ := gb_ck_s h
  refine va_iast (x := (x_14 + r_10)) hx hb hK hP (gb_D (fun k h => ⟨Nat.le_add_right b k, Nat.add_lt_add_left h b⟩)) hS 117 0 (gb_at b rfl) rfl z_15 dX6_go_45 (fun H locs hP hD hS => ?_)
  rw [gb_set] at hP
  obtain ⟨s_16, es_16⟩ : ∃ q, q = (gb_su s_9 117 (upd (s_9.1 117) (Int32.toNatClampNeg p2) (x_14 + r_10))) := ⟨_, rfl⟩
  replace hP : va_P D vwCl (gb_wl b (gb_CW cT b s_16)) H := by rw [es_16]; exact hP
  replace h := gb_lt_s es_16 h
  exact L46_1 _ _ _ _ _ _ _ _ _ h hP hS (lv_sub hl [2, 3, 4, 5, 1, 0] rfl)
theorem dX6_doDeed_109 : decode cX6_doDeed 109 = .ok (.goto 107, 3) := dc_167 (show ((cX6_doDeed.data.toList.drop 109).take 3).map UInt8.toNat = [167, 0, 107] by decide +kernel) rfl
theorem dX6_doDeed_112 : decode cX6_doDeed 112 = .ok (.aload_n 0, 1) := dc_42 (show ((cX6_doDeed.data.toList.drop 112).take 1).map UInt8.toNat = [42] by decide +kernel)
theorem dX6_doDeed_113 : decode cX6_doDeed 113 = .ok (.iload 4, 2) := dc_21 (show ((cX6_doDeed.data.toList.drop 113).take 2).map UInt8.toNat = [21, 4] by decide +kernel) rfl
theorem dX6_doDeed_115 : decode cX6_doDeed 115 = .ok (.aload_n 1, 1) := dc_43 (show ((cX6_doDeed.data.toList.drop 115).take 1).map UInt8.toNat = [43] by decide +kernel)
theorem dX6_doDeed_116 : decode cX6_doDeed 116 = .ok (.iload_n 2, 1) := dc_28 (show ((cX6_doDeed.data.toList.drop 116).take 1).map UInt8.toNat = [28] by decide +kernel)
theorem dX6_doDeed_117 : decode cX6_doDeed 117 = .ok (.iconst 3, 1) := dc_6 (show ((cX6_doDeed.data.toList.drop 117).take 1).map UInt8.toNat = [6] by decide +kernel)
theorem dX6_doDeed_118 : decode cX6_doDeed 118 = .ok (.invokevirtual 91, 3) := dc_182 (show ((cX6_doDeed.data.toList.drop 118).take 3).map UInt8.toNat = [182, 0, 91] by decide +kernel) rfl
theorem dX6_doDeed_121 : decode cX6_doDeed 121 = .ok (.iload_n 2, 1) := dc_28 (show ((cX6_doDeed.data.toList.drop 121).take 1).map UInt8.toNat = [28] by decide +kernel)
theorem dX6_doDeed_122 : decode cX6_doDeed 122 = .ok (.aload_n 0, 1) := dc_42 (show ((cX6_doDeed.data.toList.drop 122).take 1).map UInt8.toNat = [42] by decide +kernel)
theorem dX6_doDeed_123 : decode cX6_doDeed 123 = .ok (.getfield 31, 3) := dc_180 (show ((cX6_doDeed.data.toList.drop 123).take 3).map UInt8.toNat = [180, 0, 31] by decide +kernel) rfl
theorem dX6_doDeed_126 : decode cX6_doDeed 126 = .ok (.invokevirtual 107, 3) := dc_182 (show ((cX6_doDeed.data.toList.drop 126).take 3).map UInt8.toNat = [182, 0, 107] by decide +kernel) rfl
theorem dX6_doDeed_129 : decode cX6_doDeed 129 = .ok (.aload_n 0, 1) := dc_42 (show ((cX6_doDeed.data.toList.drop 129).take 1).map UInt8.toNat = [42] by decide +kernel)
theorem dX6_doDeed_130 : decode cX6_doDeed 130 = .ok (.getfield 18, 3) := dc_180 (show ((cX6_doDeed.data.toList.drop 130).take 3).map UInt8.toNat = [180, 0, 18] by decide +kernel) rfl
theorem dX6_doDeed_133 : decode cX6_doDeed 133 = .ok (.iload 5, 2) := dc_21 (show ((cX6_doDeed.data.toList.drop 133).take 2).map UInt8.toNat = [21, 5] by decide +kernel) rfl
theorem dX6_doDeed_135 : decode cX6_doDeed 135 = .ok (.iconst 1, 1) := dc_4 (show ((cX6_doDeed.data.toList.drop 135).take 1).map UInt8.toNat = [4] by decide +kernel)
theorem dX6_doDeed_136 : decode cX6_doDeed 136 = .ok (.iastore, 1) := dc_79 (show ((cX6_doDeed.data.toList.drop 136).take 1).map UInt8.toNat = [79] by decide +kernel)
theorem dX6_doDeed_137 : decode cX6_doDeed 137 = .ok (.aload_n 0, 1) := dc_42 (show ((cX6_doDeed.data.toList.drop 137).take 1).map UInt8.toNat = [42] by decide +kernel)
theorem dX6_doDeed_138 : decode cX6_doDeed 138 = .ok (.getfield 28, 3) := dc_180 (show ((cX6_doDeed.data.toList.drop 138).take 3).map UInt8.toNat = [180, 0, 28] by decide +kernel) rfl
theorem dX6_doDeed_141 : decode cX6_doDeed 141 = .ok (.iload 5, 2) := dc_21 (show ((cX6_doDeed.data.toList.drop 141).take 2).map UInt8.toNat = [21, 5] by decide +kernel) rfl
theorem dX6_doDeed_143 : decode cX6_doDeed 143 = .ok (.aload_n 1, 1) := dc_43 (show ((cX6_doDeed.data.toList.drop 143).take 1).map UInt8.toNat = [43] by decide +kernel)
theorem dX6_doDeed_144 : decode cX6_doDeed 144 = .ok (.iload_n 2, 1) := dc_28 (show ((cX6_doDeed.data.toList.drop 144).take 1).map UInt8.toNat = [28] by decide +kernel)
theorem dX6_doDeed_145 : decode cX6_doDeed 145 = .ok (.iconst 3, 1) := dc_6 (show ((cX6_doDeed.data.toList.drop 145).take 1).map UInt8.toNat = [6] by decide +kernel)
theorem dX6_doDeed_146 : decode cX6_doDeed 146 = .ok (.invokevirtual 91, 3) := dc_182 (show ((cX6_doDeed.data.toList.drop 146).take 3).map UInt8.toNat = [182, 0, 91] by decide +kernel) rfl
theorem dX6_doDeed_149 : decode cX6_doDeed 149 = .ok (.iastore, 1) := dc_79 (show ((cX6_doDeed.data.toList.drop 149).take 1).map UInt8.toNat = [79] by decide +kernel)
theorem dX6_doDeed_150 : decode cX6_doDeed 150 = .ok (.goto 66, 3) := dc_167 (show ((cX6_doDeed.data.toList.drop 150).take 3).map UInt8.toNat = [167, 0, 66] by decide +kernel) rfl
theorem dX6_doDeed_153 : decode cX6_doDeed 153 = .ok (.aload_n 0, 1) := dc_42 (show ((cX6_doDeed.data.toList.drop 153).take 1).map UInt8.toNat = [42] by decide +kernel)
theorem dX6_doDeed_154 : decode cX6_doDeed 154 = .ok (.getfield 22, 3) := dc_180 (show ((cX6_doDeed.data.toList.drop 154).take 3).map UInt8.toNat = [180, 0, 22] by decide +kernel) rfl
theorem dX6_doDeed_157 : decode cX6_doDeed 157 = .ok (.iload 4, 2) := dc_21 (show ((cX6_doDeed.data.toList.drop 157).take 2).map UInt8.toNat = [21, 4] by decide +kernel) rfl
theorem dX6_doDeed_159 : decode cX6_doDeed 159 = .ok (.iload 5, 2) := dc_21 (show ((cX6_doDeed.data.toList.drop 159).take 2).map UInt8.toNat = [21, 5] by decide +kernel) rfl
theorem dX6_doDeed_161 : decode cX6_doDeed 161 = .ok (.iastore, 1) := dc_79 (show ((cX6_doDeed.data.toList.drop 161).take 1).map UInt8.toNat = [79] by decide +kernel)
theorem dX6_doDeed_162 : decode cX6_doDeed 162 = .ok (.aload_n 0, 1) := dc_42 (show ((cX6_doDeed.data.toList.drop 162).take 1).map UInt8.toNat = [42] by decide +kernel)
theorem dX6_doDeed_163 : decode cX6_doDeed 163 = .ok (.dup, 1) := dc_89 (show ((cX6_doDeed.data.toList.drop 163).take 1).map UInt8.toNat = [89] by decide +kernel)
theorem dX6_doDeed_164 : decode cX6_doDeed 164 = .ok (.getfield 56, 3) := dc_180 (show ((cX6_doDeed.data.toList.drop 164).take 3).map UInt8.toNat = [180, 0, 56] by decide +kernel) rfl
theorem dX6_doDeed_167 : decode cX6_doDeed 167 = .ok (.iconst 1, 1) := dc_4 (show ((cX6_doDeed.data.toList.drop 167).take 1).map UInt8.toNat = [4] by decide +kernel)
theorem dX6_doDeed_168 : decode cX6_doDeed 168 = .ok (.iload 4, 2) := dc_21 (show ((cX6_doDeed.data.toList.drop 168).take 2).map UInt8.toNat = [21, 4] by decide +kernel) rfl
theorem dX6_doDeed_170 : decode cX6_doDeed 170 = .ok (.ishl, 1) := dc_120 (show ((cX6_doDeed.data.toList.drop 170).take 1).map UInt8.toNat = [120] by decide +kernel)
theorem dX6_doDeed_171 : decode cX6_doDeed 171 = .ok (.ior, 1) := dc_128 (show ((cX6_doDeed.data.toList.drop 171).take 1).map UInt8.toNat = [128] by decide +kernel)
theorem dX6_doDeed_172 : decode cX6_doDeed 172 = .ok (.putfield 56, 3) := dc_181 (show ((cX6_doDeed.data.toList.drop 172).take 3).map UInt8.toNat = [181, 0, 56] by decide +kernel) rfl
theorem dX6_doDeed_175 : decode cX6_doDeed 175 = .ok (.goto 41, 3) := dc_167 (show ((cX6_doDeed.data.toList.drop 175).take 3).map UInt8.toNat = [167, 0, 41] by decide +kernel) rfl
theorem dX6_doDeed_178 : decode cX6_doDeed 178 = .ok (.aload_n 0, 1) := dc_42 (show ((cX6_doDeed.data.toList.drop 178).take 1).map UInt8.toNat = [42] by decide +kernel)
theorem dX6_doDeed_179 : decode cX6_doDeed 179 = .ok (.iload 4, 2) := dc_21 (show ((cX6_doDeed.data.toList.drop 179).take 2).map UInt8.toNat = [21, 4] by decide +kernel) rfl
theorem dX6_doDeed_181 : decode cX6_doDeed 181 = .ok (.invokevirtual 111, 3) := dc_182 (show ((cX6_doDeed.data.toList.drop 181).take 3).map UInt8.toNat = [182, 0, 111] by decide +kernel) rfl
theorem dX6_rainDown_0 : decode cX6_rainDown 0 = .ok (.iconst 0, 1) := dc_3 (show ((cX6_rainDown.data.toList.drop 0).take 1).map UInt8.toNat = [3] by decide +kernel)
theorem dX6_rainDown_1 : decode cX6_rainDown 1 = .ok (.istore_n 2, 1) := dc_61 (show ((cX6_rainDown.data.toList.drop 1).take 1).map UInt8.toNat = [61] by decide +kernel)
theorem dX6_rainDown_2 : decode cX6_rainDown 2 = .ok (.iload_n 2, 1) := dc_28 (show ((cX6_rainDown.data.toList.drop 2).take 1).map UInt8.toNat = [28] by decide +kernel)
theorem dX6_rainDown_3 : decode cX6_rainDown 3 = .ok (.aload_n 0, 1) := dc_42 (show ((cX6_rainDown.data.toList.drop 3).take 1).map UInt8.toNat = [42] by decide +kernel)
theorem dX6_rainDown_4 : decode cX6_rainDown 4 = .ok (.getfield 12, 3) := dc_180 (show ((cX6_rainDown.data.toList.drop 4).take 3).map UInt8.toNat = [180, 0, 12] by decide +kernel) rfl
theorem dX6_rainDown_7 : decode cX6_rainDown 7 = .ok (.invokevirtual 128, 3) := dc_182 (show ((cX6_rainDown.data.toList.drop 7).take 3).map UInt8.toNat = [182, 0, 128] by decide +kernel) rfl
theorem w_754 : (Cond.methodLink "GooseBorder$Play" (128 : Nat) ({ cls := "GooseBorder$Border", name := "paths", desc := "()I" } : MethodName)) ∈ gb_wA := gb_t4 34 rfl rfl
theorem dX6_rainDown_10 : decode cX6_rainDown 10 = .ok (.if_icmp .ge 68, 3) := dc_162 (show ((cX6_rainDown.data.toList.drop 10).take 3).map UInt8.toNat = [162, 0, 68] by decide +kernel) rfl
theorem dX6_rainDown_78 : decode cX6_rainDown 78 = .ok (.return_, 1) := dc_177 (show ((cX6_rainDown.data.toList.drop 78).take 1).map UInt8.toNat = [177] by decide +kernel)
theorem dX6_rainDown_13 : decode cX6_rainDown 13 = .ok (.aload_n 0, 1) := dc_42 (show ((cX6_rainDown.data.toList.drop 13).take 1).map UInt8.toNat = [42] by decide +kernel)
theorem dX6_rainDown_14 : decode cX6_rainDown 14 = .ok (.getfield 31, 3) := dc_180 (show ((cX6_rainDown.data.toList.drop 14).take 3).map UInt8.toNat = [180, 0, 31] by decide +kernel) rfl
theorem dX6_rainDown_17 : decode cX6_rainDown 17 = .ok (.iload_n 2, 1) := dc_28 (show ((cX6_rainDown.data.toList.drop 17).take 1).map UInt8.toNat = [28] by decide +kernel)
theorem dX6_rainDown_18 : decode cX6_rainDown 18 = .ok (.iaload, 1) := dc_46 (show ((cX6_rainDown.data.toList.drop 18).take 1).map UInt8.toNat = [46] by decide +kernel)
theorem dX6_rainDown_19 : decode cX6_rainDown 19 = .ok (.iload_n 1, 1) := dc_27 (show ((cX6_rainDown.data.toList.drop 19).take 1).map UInt8.toNat = [27] by decide +kernel)
theorem dX6_rainDown_20 : decode cX6_rainDown 20 = .ok (.imul, 1) := dc_104 (show ((cX6_rainDown.data.toList.drop 20).take 1).map UInt8.toNat = [104] by decide +kernel)
theorem dX6_rainDown_21 : decode cX6_rainDown 21 = .ok (.bipush 10, 2) := dc_16 (show ((cX6_rainDown.data.toList.drop 21).take 2).map UInt8.toNat = [16, 10] by decide +kernel) rfl
theorem dX6_rainDown_23 : decode cX6_rainDown 23 = .ok (.idiv, 1) := dc_108 (show ((cX6_rainDown.data.toList.drop 23).take 1).map UInt8.toNat = [108] by decide +kernel)
theorem dX6_rainDown_24 : decode cX6_rainDown 24 = .ok (.istore_n 3, 1) := dc_62 (show ((cX6_rainDown.data.toList.drop 24).take 1).map UInt8.toNat = [62] by decide +kernel)
theorem dX6_rainDown_25 : decode cX6_rainDown 25 = .ok (.aload_n 0, 1) := dc_42 (show ((cX6_rainDown.data.toList.drop 25).take 1).map UInt8.toNat = [42] by decide +kernel)
theorem dX6_rainDown_26 : decode cX6_rainDown 26 = .ok (.getfield 34, 3) := dc_180 (show ((cX6_rainDown.data.toList.drop 26).take 3).map UInt8.toNat = [180, 0, 34] by decide +kernel) rfl
theorem dX6_rainDown_29 : decode cX6_rainDown 29 = .ok (.iload_n 2, 1) := dc_28 (show ((cX6_rainDown.data.toList.drop 29).take 1).map UInt8.toNat = [28] by decide +kernel)
theorem dX6_rainDown_30 : decode cX6_rainDown 30 = .ok (.iaload, 1) := dc_46 (show ((cX6_rainDown.data.toList.drop 30).take 1).map UInt8.toNat = [46] by decide +kernel)
theorem dX6_rainDown_31 : decode cX6_rainDown 31 = .ok (.iload_n 1, 1) := dc_27 (show ((cX6_rainDown.data.toList.drop 31).take 1).map UInt8.toNat = [27] by decide +kernel)
theorem dX6_rainDown_32 : decode cX6_rainDown 32 = .ok (.imul, 1) := dc_104 (show ((cX6_rainDown.data.toList.drop 32).take 1).map UInt8.toNat = [104] by decide +kernel)
theorem dX6_rainDown_33 : decode cX6_rainDown 33 = .ok (.bipush 10, 2) := dc_16 (show ((cX6_rainDown.data.toList.drop 33).take 2).map UInt8.toNat = [16, 10] by decide +kernel) rfl
theorem dX6_rainDown_35 : decode cX6_rainDown 35 = .ok (.idiv, 1) := dc_108 (show ((cX6_rainDown.data.toList.drop 35).take 1).map UInt8.toNat = [108] by decide +kernel)
theorem dX6_rainDown_36 : decode cX6_rainDown 36 = .ok (.istore 4, 2) := dc_54 (show ((cX6_rainDown.data.toList.drop 36).take 2).map UInt8.toNat = [54, 4] by decide +kernel) rfl
theorem dX6_rainDown_38 : decode cX6_rainDown 38 = .ok (.aload_n 0, 1) := dc_42 (show ((cX6_rainDown.data.toList.drop 38).take 1).map UInt8.toNat = [42] by decide +kernel)
theorem dX6_rainDown_39 : decode cX6_rainDown 39 = .ok (.getfield 31, 3) := dc_180 (show ((cX6_rainDown.data.toList.drop 39).take 3).map UInt8.toNat = [180, 0, 31] by decide +kernel) rfl
theorem dX6_rainDown_42 : decode cX6_rainDown 42 = .ok (.iload_n 2, 1) := dc_28 (show ((cX6_rainDown.data.toList.drop 42).take 1).map UInt8.toNat = [28] by decide +kernel)
theorem dX6_rainDown_43 : decode cX6_rainDown 43 = .ok (.dup2, 1) := dc_92 (show ((cX6_rainDown.data.toList.drop 43).take 1).map UInt8.toNat = [92] by decide +kernel)
theorem dX6_rainDown_44 : decode cX6_rainDown 44 = .ok (.iaload, 1) := dc_46 (show ((cX6_rainDown.data.toList.drop 44).take 1).map UInt8.toNat = [46] by decide +kernel)
theorem dX6_rainDown_45 : decode cX6_rainDown 45 = .ok (.iload_n 3, 1) := dc_29 (show ((cX6_rainDown.data.toList.drop 45).take 1).map UInt8.toNat = [29] by decide +kernel)
theorem dX6_rainDown_46 : decode cX6_rainDown 46 = .ok (.isub, 1) := dc_100 (show ((cX6_rainDown.data.toList.drop 46).take 1).map UInt8.toNat = [100] by decide +kernel)
theorem dX6_rainDown_47 : decode cX6_rainDown 47 = .ok (.iastore, 1) := dc_79 (show ((cX6_rainDown.data.toList.drop 47).take 1).map UInt8.toNat = [79] by decide +kernel)
theorem dX6_rainDown_48 : decode cX6_rainDown 48 = .ok (.aload_n 0, 1) := dc_42 (show ((cX6_rainDown.data.toList.drop 48).take 1).map UInt8.toNat = [42] by decide +kernel)
theorem dX6_rainDown_49 : decode cX6_rainDown 49 = .ok (.getfield 34, 3) := dc_180 (show ((cX6_rainDown.data.toList.drop 49).take 3).map UInt8.toNat = [180, 0, 34] by decide +kernel) rfl
theorem dX6_rainDown_52 : decode cX6_rainDown 52 = .ok (.iload_n 2, 1) := dc_28 (show ((cX6_rainDown.data.toList.drop 52).take 1).map UInt8.toNat = [28] by decide +kernel)
theorem dX6_rainDown_53 : decode cX6_rainDown 53 = .ok (.dup2, 1) := dc_92 (show ((cX6_rainDown.data.toList.drop 53).take 1).map UInt8.toNat = [92] by decide +kernel)
theorem dX6_rainDown_54 : decode cX6_rainDown 54 = .ok (.iaload, 1) := dc_46 (show ((cX6_rainDown.data.toList.drop 54).take 1).map UInt8.toNat = [46] by decide +kernel)
theorem dX6_rainDown_55 : decode cX6_rainDown 55 = .ok (.iload 4, 2) := dc_21 (show ((cX6_rainDown.data.toList.drop 55).take 2).map UInt8.toNat = [21, 4] by decide +kernel) rfl
theorem dX6_rainDown_57 : decode cX6_rainDown 57 = .ok (.isub, 1) := dc_100 (show ((cX6_rainDown.data.toList.drop 57).take 1).map UInt8.toNat = [100] by decide +kernel)
theorem dX6_rainDown_58 : decode cX6_rainDown 58 = .ok (.iastore, 1) := dc_79 (show ((cX6_rainDown.data.toList.drop 58).take 1).map UInt8.toNat = [79] by decide +kernel)
theorem dX6_rainDown_59 : decode cX6_rainDown 59 = .ok (.aload_n 0, 1) := dc_42 (show ((cX6_rainDown.data.toList.drop 59).take 1).map UInt8.toNat = [42] by decide +kernel)
theorem dX6_rainDown_60 : decode cX6_rainDown 60 = .ok (.getfield 37, 3) := dc_180 (show ((cX6_rainDown.data.toList.drop 60).take 3).map UInt8.toNat = [180, 0, 37] by decide +kernel) rfl
theorem dX6_rainDown_63 : decode cX6_rainDown 63 = .ok (.iload_n 2, 1) := dc_28 (show ((cX6_rainDown.data.toList.drop 63).take 1).map UInt8.toNat = [28] by decide +kernel)
theorem dX6_rainDown_64 : decode cX6_rainDown 64 = .ok (.dup2, 1) := dc_92 (show ((cX6_rainDown.data.toList.drop 64).take 1).map UInt8.toNat = [92] by decide +kernel)
theorem dX6_rainDown_65 : decode cX6_rainDown 65 = .ok (.iaload, 1) := dc_46 (show ((cX6_rainDown.data.toList.drop 65).take 1).map UInt8.toNat = [46] by decide +kernel)
theorem dX6_rainDown_66 : decode cX6_rainDown 66 = .ok (.iload_n 3, 1) := dc_29 (show ((cX6_rainDown.data.toList.drop 66).take 1).map UInt8.toNat = [29] by decide +kernel)
theorem dX6_rainDown_67 : decode cX6_rainDown 67 = .ok (.iload 4, 2) := dc_21 (show ((cX6_rainDown.data.toList.drop 67).take 2).map UInt8.toNat = [21, 4] by decide +kernel) rfl
theorem dX6_rainDown_69 : decode cX6_rainDown 69 = .ok (.iadd, 1) := dc_96 (show ((cX6_rainDown.data.toList.drop 69).take 1).map UInt8.toNat = [96] by decide +kernel)
theorem dX6_rainDown_70 : decode cX6_rainDown 70 = .ok (.iadd, 1) := dc_96 (show ((cX6_rainDown.data.toList.drop 70).take 1).map UInt8.toNat = [96] by decide +kernel)
theorem dX6_rainDown_71 : decode cX6_rainDown 71 = .ok (.iastore, 1) := dc_79 (show ((cX6_rainDown.data.toList.drop 71).take 1).map UInt8.toNat = [79] by decide +kernel)
theorem dX6_rainDown_72 : decode cX6_rainDown 72 = .ok (.iinc 2 1, 3) := dc_132 (show ((cX6_rainDown.data.toList.drop 72).take 3).map UInt8.toNat = [132, 2, 1] by decide +kernel) rfl
theorem dX6_rainDown_75 : decode cX6_rainDown 75 = .ok (.goto (-73), 3) := dc_167 (show ((cX6_rainDown.data.toList.drop 75).take 3).map UInt8.toNat = [167, 255, 183] by decide +kernel) rfl
def cs_Play_rainDown_2 (n : Nat) : Nat → gb_S → Int32 → Int32 → gb_CR Unit
  | 0, _, _, _ => none
  | mm + 1, σ, v1, v2 => gb_kk (gb_kB (σ.2.1 1)) (gb_cd (cs_Border_paths_B n σ (σ.2.1 1)) (fun s_2 r_3 => (if r_3 ≤ v2 then some (s_2, ()) else gb_ck v2 5 (gb_lt ((s_2.1 116) (Int32.toNatClampNeg v2)) (fun x_8 => gb_lt ((x_8 * v1) / 10) (fun x_9 => gb_ck v2 5 (gb_lt ((s_2.1 117) (Int32.toNatClampNeg v2)) (fun x_11 => gb_lt ((x_11 * v1) / 10) (fun x_12 => gb_ck v2 5 (gb_lt ((s_2.1 116) (Int32.toNatClampNeg v2)) (fun x_14 => gb_ck v2 5 (gb_lt (gb_su s_2 116 (upd (s_2.1 116) (Int32.toNatClampNeg v2) (x_14 - x_9))) (fun s_16 => gb_ck v2 5 (gb_lt ((s_16.1 117) (Int32.toNatClampNeg v2)) (fun x_18 => gb_ck v2 5 (gb_lt (gb_su s_16 117 (upd (s_16.1 117) (Int32.toNatClampNeg v2) (x_18 - x_12))) (fun s_20 => gb_ck v2 5 (gb_lt ((s_20.1 118) (Int32.toNatClampNeg v2)) (fun x_22 => gb_ck v2 5 (gb_lt (gb_su s_20 118 (upd (s_20.1 118) (Int32.toNatClampNeg v2) (x_22 + (x_9 + x_12)))) (fun s_24 => gb_lt (v2 + 1) (fun x_25 => cs_Play_rainDown_2 n mm s_24 v1 x_25))))))))))))))))))))))
def cs_Play_rainDown (n : Nat) (σ : gb_S) (p1 : Int32) : gb_CR Unit := cs_Play_rainDown_2 n n σ p1 0
set_option maxHeartbeats 8000000 in
set_option maxRecDepth 100000 in
theorem cc_Play_rainDown (l : Launch) (D : va_G) (cT : Nat → ClassId) (tt : Nat → Nat) (b1 b : Nat) (hb1 : b1 ≤ b) (n : Nat) (σ : gb_S) (p1 : Int32) (σE : gb_S) (rE : Unit) (h : cs_Play_rainDown n σ p1 = some (σE, rE)) : Met l yX6_rainDown (.code yX6_rainDown cX6_rainDown 5 none :: gb_wA) ({ frames := 1, cells := 0, slots := 0, locals := 20 }) (gb_Pc D cT tt b1 [.ref (b + 109), .int p1] (fun h => va_P D vwCl (gb_wl b (gb_CW cT b σ)) h)) (gb_Qv (fun h => va_P D vwCl (gb_wl b (gb_CW cT b σE)) h) (gb_fr b 135)) 0 0 (gb_fr b 135) := by
  refine Met.ofW (cc := cX6_rainDown) (maxL := 5) (ret := none) (by decide) rfl ?_
  intro p e s m args below meth c s₁ B hml hv
  obtain ⟨rfl, hSt, hP⟩ := hv
  have hx := B.exec
  have hb := B.bytes
  have hr := B.returns
  have hts := atoms_spec (ws := .code yX6_rainDown cX6_rainDown 5 none :: gb_wA) B.pre
  have hq : ∀ w ∈ gb_wA, w.before _ s = true := fun w h => hts w (List.mem_cons_of_mem _ h)
  have hown : s.vm.findClass RX6 = some m.cls := findClass_of_methodNamed B.named
  have hlocks := B.notSynchronized
  clear B hts
  have hK := hSt.1
  have hS : va_S (gb_fr b 135) s.heap s.heap [] := va_S.rf
  have hl := lv_entry ([.ref (b + 109), .int p1]) (n := 5) (Nat.le_of_ble_eq_true rfl)
  rw [lg_entry_eq]
  generalize (lg_sl ([.ref (b + 109), .int p1]) ++ List.replicate (5 - (lg_sl ([.ref (b + 109), .int p1])).length) Slot.unset).toArray = ls at hl ⊢
  replace hl : lv_has ls 5 [(0, .ref (b + 109)), (1, .int p1)] := hl
  have L2_1 : ∀ (mm : Nat) (σ : gb_S) (v1 : Int32) (v2 : Int32) (H : Heap) (locs : List Loc) (ls : Array Slot), cs_Play_rainDown_2 n mm σ v1 v2 = some (σE, rE) → va_P D vwCl (gb_wl b (gb_CW cT b σ)) H → va_S (gb_fr b 135) s.heap H locs → lv_has ls 5 [(0, .ref (b + 109)), (1, .int v1), (2, .int v2)] → W p l e (headSpec (.code yX6_rainDown cX6_rainDown 5 none :: gb_wA) ({ frames := 1, cells := 0, slots := 0, locals := 20 })).room s m ([.ref (b + 109), .int p1]).toArray below meth c H locs 0 0 (MQ below (gb_Qv (fun h => va_P D vwCl (gb_wl b (gb_CW cT b σE)) h) (gb_fr b 135)) ([.ref (b + 109), .int p1]).toArray s 0 0 (gb_fr b 135)) (F0 m 2 ls []) := by
    clear h hP hS hl ls
    intro mm
    induction mm with
    | zero =>
      intro σ v1 v2 H locs ls h
      cases h
    | succ mm ih =>
      intro σ v1 v2 H locs ls h hP hS hl
      rw [cs_Play_rainDown_2] at h
      refine lv_iload_n hx hb dX6_rainDown_2 rfl (lv_at hl 2 rfl) ?_
      refine lv_aload_n hx hb dX6_rainDown_3 rfl (lv_at hl 0 rfl) ?_
      obtain ⟨z_1, h⟩ := gb_kk_s h
      refine va_get (ci := 5) (v := (.ref (b + (σ.2.1 1)))) (C := RX6) (T := TX6) (N := 12) hx hb hq i_X6 hown hK hP 109 (gb_at b rfl) rfl 0 (by decide) (hq _ w_197) (fun _ h9 => h9) rfl dX6_rainDown_4 ?_
      obtain ⟨s_2, r_3, z_4, h⟩ := gb_cd_s h
      refine gb_calli (va_runV (C := RX0) (As := []) (rest := [.int v2]) ⟨hx, hb, hml, hown, hq⟩ (cc_Border_paths_B l D cT tt b1 b hb1 n σ (σ.2.1 1) s_2 r_3 z_4) (cwV 0 hq (gb_gV w_754 w_473 w_474 w_4 w_475) rfl rfl rfl (by decide +kernel) ⟨Nat.le_of_ble_eq_true rfl, Nat.le_of_ble_eq_true rfl⟩) (gb_preV (r := (RX0, TX0, 1)) (ci := 0) (q0 := (σ.2.1 1)) hSt hP rfl (gb_at b (gb_cB z_1).1) hS (fun q h => Nat.le_trans hb1 h.1) hP) rfl rfl hl.1 rfl (lv_room (Nat.le_of_ble_eq_true rfl)) dX6_rainDown_7 ⟨Nat.le_of_ble_eq_true rfl, Nat.le_of_ble_eq_true rfl⟩) hS (fun _ h => h) (fun _ h => h) (fun q_5 H locs hY hk hS => ?_)
      obtain ⟨hq_5, hP⟩ := hY
      replace hq_5 := hq_5.symm
      subst hq_5
      refine lv_icmp_ge (tgt := 78) hx hb dX6_rainDown_10 (by decide) (fun c_6 => ?_) (fun c_6 => ?_)
      · rw [if_pos c_6] at h
        obtain ⟨e1, -⟩ := gb_eq2 h
        exact W.vret hx hb hr (fun t ht hW => gb_rv ht (by rw [← e1]; exact hP) hS) hS.2.2 dX6_rainDown_78
      · rw [if_neg c_6] at h
        refine lv_aload_n hx hb dX6_rainDown_13 rfl (lv_at hl 0 rfl) ?_
        refine va_get (ci := 5) (v := (.ref (b + 116))) (C := RX6) (T := TX6) (N := 12) hx hb hq i_X6 hown hK hP 109 (gb_at b rfl) rfl 5 (by decide) (hq _ w_206) (fun _ h9 => h9) rfl dX6_rainDown_14 ?_
        refine lv_iload_n hx hb dX6_rainDown_17 rfl (lv_at hl 2 rfl) ?_
        obtain ⟨z_7, h⟩ := gb_ck_s h
        refine va_iald hx hb hK hP 116 0 (gb_at b rfl) rfl z_7 dX6_rainDown_18 ?_
        refine lv_topi (fun x_8 ex_8 => ?_)
        replace h := gb_lt_s ex_8 h
        refine lv_iload_n hx hb dX6_rainDown_19 rfl (lv_at hl 1 rfl) ?_
        refine lv_imul hx hb dX6_rainDown_20 ?_
        refine lv_bipush (v := 10) hx hb dX6_rainDown_21 (by decide) ?_
        refine lv_idiv hx hb dX6_rainDown_23 (by decide) ?_
        refine lv_topi (fun x_9 ex_9 => ?_)
        replace h := gb_lt_s ex_9 h
        refine lv_istore_n (lv' := [(3, .int x_9), (0, .ref (b + 109)), (1, .int v1), (2, .int v2)]) hx hb dX6_rainDown_24 rfl hl (by decide) rfl (fun ls hl => ?_)
        refine lv_aload_n hx hb dX6_rainDown_25 rfl (lv_at hl 1 rfl) ?_
        refine va_get (ci := 5) (v := (.ref (b + 117))) (C := RX6) (T := TX6) (N := 12) hx hb hq i_X6 hown hK hP 109 (gb_at b rfl) rfl 6 (by decide) (hq _ w_208) (fun _ h9 => h9) rfl dX6_rainDown_26 ?_
        refine lv_iload_n hx hb dX6_rainDown_29 rfl (lv_at hl 3 rfl) ?_
        obtain ⟨z_10, h⟩ := gb_ck_s h
        refine va_iald hx hb hK hP 117 0 (gb_at b rfl) rfl z_10 dX6_rainDown_30 ?_
        refine lv_topi (fun x_11 ex_11 => ?_)
        replace h := gb_lt_s ex_11 h
        refine lv_iload_n hx hb dX6_rainDown_31 rfl (lv_at hl 2 rfl) ?_
        refine lv_imul hx hb dX6_rainDown_32 ?_
        refine lv_bipush (v := 10) hx hb dX6_rainDown_33 (by decide) ?_
        refine lv_idiv hx hb dX6_rainDown_35 (by decide) ?_
        refine lv_topi (fun x_12 ex_12 => ?_)
        replace h := gb_lt_s ex_12 h
        refine lv_istore (lv' := [(4, .int x_12), (3, .int x_9), (0, .ref (b + 109)), (1, .int v1), (2, .int v2)]) hx hb dX6_rainDown_36 hl (by decide) rfl (fun ls hl => ?_)
        refine lv_aload_n hx hb dX6_rainDown_38 rfl (lv_at hl 2 rfl) ?_
        refine va_get (ci := 5) (v := (.ref (b + 116))) (C := RX6) (T := TX6) (N := 12) hx hb hq i_X6 hown hK hP 109 (gb_at b rfl) rfl 5 (by decide) (hq _ w_206) (fun _ h9 => h9) rfl dX6_rainDown_39 ?_
        refine lv_iload_n hx hb dX6_rainDown_42 rfl (lv_at hl 4 rfl) ?_
        refine lv_dup2_11 hx hb dX6_rainDown_43 rfl rfl ?_
        obtain ⟨z_13, h⟩ := gb_ck_s h
        refine va_iald hx hb hK hP 116 0 (gb_at b rfl) rfl z_13 dX6_rainDown_44 ?_
        refine lv_topi (fun x_14 ex_14 => ?_)
        replace h := gb_lt_s ex_14 h
        refine lv_iload_n hx hb dX6_rainDown_45 rfl (lv_at hl 1 rfl) ?_
        refine lv_isub hx hb dX6_rainDown_46 ?_
        obtain ⟨z_15, h⟩ := gb_ck_s h
        refine va_iast (x := (x_14 - x_9)) hx hb hK hP (gb_D (fun k h => ⟨Nat.le_add_right b k, Nat.add_lt_add_left h b⟩)) hS 116 0 (gb_at b rfl) rfl z_15 dX6_rainDown_47 (fun H locs hP hD hS => ?_)
        rw [gb_set] at hP
        obtain ⟨s_16, es_16⟩ : ∃ q, q = (gb_su s_2 116 (upd (s_2.1 116) (Int32.toNatClampNeg v2) (x_14 - x_9))) := ⟨_, rfl⟩
        replace hP : va_P D vwCl (gb_wl b (gb_CW cT b s_16)) H := by rw [es_16]; exact hP
        replace h := gb_lt_s es_16 h
        refine lv_aload_n hx hb dX6_rainDown_48 rfl (lv_at hl 2 rfl) ?_
        refine va_get (ci := 5) (v := (.ref (b + 117))) (C := RX6) (T := TX6) (N := 12) hx hb hq i_X6 hown hK hP 109 (gb_at b rfl) rfl 6 (by decide) (hq _ w_208) (fun _ h9 => h9) rfl dX6_rainDown_49 ?_
        refine lv_iload_n hx hb dX6_rainDown_52 rfl (lv_at hl 4 rfl) ?_
        refine lv_dup2_11 hx hb dX6_rainDown_53 rfl rfl ?_
        obtain ⟨z_17, h⟩ := gb_ck_s h
        refine va_iald hx hb hK hP 117 0 (gb_at b rfl) rfl z_17 dX6_rainDown_54 ?_
        refine lv_topi (fun x_18 ex_18 => ?_)
        replace h := gb_lt_s ex_18 h
        refine lv_iload hx hb dX6_rainDown_55 (lv_at hl 0 rfl) ?_
        refine lv_isub hx hb dX6_rainDown_57 ?_
        obtain ⟨z_19, h⟩ := gb_ck_s h
        refine va_iast (x := (x_18 - x_12)) hx hb hK hP (gb_D (fun k h => ⟨Nat.le_add_right b k, Nat.add_lt_add_left h b⟩)) hS 117 0 (gb_at b rfl) rfl z_19 dX6_rainDown_58 (fun H locs hP hD hS => ?_)
        rw [gb_set] at hP
        obtain ⟨s_20, es_20⟩ : ∃ q, q = (gb_su s_16 117 (upd (s_16.1 117) (Int32.toNatClampNeg v2) (x_18 - x_12))) := ⟨_, rfl⟩
        replace hP : va_P D vwCl (gb_wl b (gb_CW cT b s_20)) H := by rw [es_20]; exact hP
        replace h := gb_lt_s es_20 h
        refine lv_aload_n hx hb dX6_rainDown_59 rfl (lv_at hl 2 rfl) ?_
        refine va_get (ci := 5) (v := (.ref (b + 118))) (C := RX6) (T := TX6) (N := 12) hx hb hq i_X6 hown hK hP 109 (gb_at b rfl) rfl 7 (by decide) (hq _ w_210) (fun _ h9 => h9) rfl dX6_rainDown_60 ?_
        refine lv_iload_n hx hb dX6_rainDown_63 rfl (lv_at hl 4 rfl) ?_
        refine lv_dup2_11 hx hb dX6_rainDown_64 rfl rfl ?_
        obtain ⟨z_21, h⟩ := gb_ck_s h
        refine va_iald hx hb hK hP 118 0 (gb_at b rfl) rfl z_21 dX6_rainDown_65 ?_
        refine lv_topi (fun x_22 ex_22 => ?_)
        replace h := gb_lt_s ex_22 h
        refine lv_iload_n hx hb dX6_rainDown_66 rfl (lv_at hl 1 rfl) ?_
        refine lv_iload hx hb dX6_rainDown_67 (lv_at hl 0 rfl) ?_
        refine lv_iadd hx hb dX6_rainDown_69 ?_
        refine lv_iadd hx hb dX6_rainDown_70 ?_
        obtain ⟨z_23, h⟩ := gb_ck_s h
        refine va_iast (x := (x_22 + (x_9 + x_12))) hx hb hK hP (gb_D (fun k h => ⟨Nat.le_add_right b k, Nat.add_lt_add_left h b⟩)) hS 118 0 (gb_at b rfl) rfl z_23 dX6_rainDown_71 (fun H locs hP hD hS => ?_)
        rw [gb_set] at hP
        obtain ⟨s_24, es_24⟩ : ∃ q, q = (gb_su s_20 118 (upd (s_20.1 118) (Int32.toNatClampNeg v2) (x_22 + (x_9 + x_12)))) := ⟨_, rfl⟩
        replace hP : va_P D vwCl (gb_wl b (gb_CW cT b s_24)) H := by rw [es_24]; exact hP
        replace h := gb_lt_s es_24 h
        obtain ⟨x_25, ex_25⟩ : ∃ q, q = (v2 + 1) := ⟨_, rfl⟩
        replace h := gb_lt_s ex_25 h
        refine lv_iinc (v := x_25) (lv' := [(2, .int x_25), (4, .int x_12), (3, .int x_9), (0, .ref (b + 109)), (1, .int v1)]) hx hb dX6_rainDown_72 hl (k := 4) rfl (by rw [ex_25]; rfl) (by decide) rfl (fun ls hl => ?_)
        refine lv_goto (tgt := 2) hx hb dX6_rainDown_75 (by decide) ?_
        exact ih _ _ _ _ _ _ h hP hS (lv_sub hl [3, 4, 0] rfl)
  unfold cs_Play_rainDown at h
  refine lv_iconst (v := 0) hx hb dX6_rainDown_0 (by decide) ?_
  refine lv_istore_n (lv' := [(2, .int 0), (0, .ref (b + 109)), (1, .int p1)]) hx hb dX6_rainDown_1 rfl hl (by decide) rfl (fun ls hl => ?_)
  exact L2_1 n _ _ _ _ _ _ h hP hS (lv_sub hl [1, 2, 0] rfl)
theorem w_753 : (Cond.code ({ cls := "GooseBorder$Play", name := "rainDown", desc := "(I)V" } : MethodName) prog_8_method_8_code (5 : Nat) (Option.none : Option FieldType)) ∈ gb_wA := gb_t4 33 rfl rfl
theorem w_750 : (Cond.methodLink "GooseBorder$Play" (111 : Nat) ({ cls := "GooseBorder$Play", name := "rainDown", desc := "(I)V" } : MethodName)) ∈ gb_wA := gb_t4 30 rfl rfl
theorem w_751 : (Cond.instanceMethod ({ cls := "GooseBorder$Play", name := "rainDown", desc := "(I)V" } : MethodName)) ∈ gb_wA := gb_t4 31 rfl rfl
theorem w_752 : (Cond.selects "GooseBorder$Play" ({ cls := "GooseBorder$Play", name := "rainDown", desc := "(I)V" } : MethodName) ({ cls := "GooseBorder$Play", name := "rainDown", desc := "(I)V" } : MethodName)) ∈ gb_wA := gb_t4 32 rfl rfl
theorem dX6_doDeed_184 : decode cX6_doDeed 184 = .ok (.goto 32, 3) := dc_167 (show ((cX6_doDeed.data.toList.drop 184).take 3).map UInt8.toNat = [167, 0, 32] by decide +kernel) rfl
theorem dX6_doDeed_187 : decode cX6_doDeed 187 = .ok (.aload_n 0, 1) := dc_42 (show ((cX6_doDeed.data.toList.drop 187).take 1).map UInt8.toNat = [42] by decide +kernel)
theorem dX6_doDeed_188 : decode cX6_doDeed 188 = .ok (.iconst 1, 1) := dc_4 (show ((cX6_doDeed.data.toList.drop 188).take 1).map UInt8.toNat = [4] by decide +kernel)
theorem dX6_doDeed_189 : decode cX6_doDeed 189 = .ok (.putfield 60, 3) := dc_181 (show ((cX6_doDeed.data.toList.drop 189).take 3).map UInt8.toNat = [181, 0, 60] by decide +kernel) rfl
theorem dX6_doDeed_192 : decode cX6_doDeed 192 = .ok (.goto 24, 3) := dc_167 (show ((cX6_doDeed.data.toList.drop 192).take 3).map UInt8.toNat = [167, 0, 24] by decide +kernel) rfl
theorem dX6_doDeed_195 : decode cX6_doDeed 195 = .ok (.aload_n 0, 1) := dc_42 (show ((cX6_doDeed.data.toList.drop 195).take 1).map UInt8.toNat = [42] by decide +kernel)
theorem dX6_doDeed_196 : decode cX6_doDeed 196 = .ok (.iconst 0, 1) := dc_3 (show ((cX6_doDeed.data.toList.drop 196).take 1).map UInt8.toNat = [3] by decide +kernel)
theorem dX6_doDeed_197 : decode cX6_doDeed 197 = .ok (.putfield 60, 3) := dc_181 (show ((cX6_doDeed.data.toList.drop 197).take 3).map UInt8.toNat = [181, 0, 60] by decide +kernel) rfl
theorem dX6_doDeed_200 : decode cX6_doDeed 200 = .ok (.goto 16, 3) := dc_167 (show ((cX6_doDeed.data.toList.drop 200).take 3).map UInt8.toNat = [167, 0, 16] by decide +kernel) rfl
theorem dX6_doDeed_203 : decode cX6_doDeed 203 = .ok (.aload_n 0, 1) := dc_42 (show ((cX6_doDeed.data.toList.drop 203).take 1).map UInt8.toNat = [42] by decide +kernel)
theorem dX6_doDeed_204 : decode cX6_doDeed 204 = .ok (.aload_n 0, 1) := dc_42 (show ((cX6_doDeed.data.toList.drop 204).take 1).map UInt8.toNat = [42] by decide +kernel)
theorem dX6_doDeed_205 : decode cX6_doDeed 205 = .ok (.iload 4, 2) := dc_21 (show ((cX6_doDeed.data.toList.drop 205).take 2).map UInt8.toNat = [21, 4] by decide +kernel) rfl
theorem dX6_doDeed_207 : decode cX6_doDeed 207 = .ok (.invokevirtual 104, 3) := dc_182 (show ((cX6_doDeed.data.toList.drop 207).take 3).map UInt8.toNat = [182, 0, 104] by decide +kernel) rfl
theorem dX6_doDeed_210 : decode cX6_doDeed 210 = .ok (.invokevirtual 115, 3) := dc_182 (show ((cX6_doDeed.data.toList.drop 210).take 3).map UInt8.toNat = [182, 0, 115] by decide +kernel) rfl
theorem dX6_eat_0 : decode cX6_eat 0 = .ok (.aload_n 0, 1) := dc_42 (show ((cX6_eat.data.toList.drop 0).take 1).map UInt8.toNat = [42] by decide +kernel)
theorem dX6_eat_1 : decode cX6_eat 1 = .ok (.getfield 12, 3) := dc_180 (show ((cX6_eat.data.toList.drop 1).take 3).map UInt8.toNat = [180, 0, 12] by decide +kernel) rfl
theorem dX6_eat_4 : decode cX6_eat 4 = .ok (.iload_n 1, 1) := dc_27 (show ((cX6_eat.data.toList.drop 4).take 1).map UInt8.toNat = [27] by decide +kernel)
theorem dX6_eat_5 : decode cX6_eat 5 = .ok (.invokevirtual 43, 3) := dc_182 (show ((cX6_eat.data.toList.drop 5).take 3).map UInt8.toNat = [182, 0, 43] by decide +kernel) rfl
theorem dX6_eat_8 : decode cX6_eat 8 = .ok (.ifCond .eq 10, 3) := dc_153 (show ((cX6_eat.data.toList.drop 8).take 3).map UInt8.toNat = [153, 0, 10] by decide +kernel) rfl
theorem dX6_eat_18 : decode cX6_eat 18 = .ok (.return_, 1) := dc_177 (show ((cX6_eat.data.toList.drop 18).take 1).map UInt8.toNat = [177] by decide +kernel)
theorem dX6_eat_11 : decode cX6_eat 11 = .ok (.aload_n 0, 1) := dc_42 (show ((cX6_eat.data.toList.drop 11).take 1).map UInt8.toNat = [42] by decide +kernel)
theorem dX6_eat_12 : decode cX6_eat 12 = .ok (.getfield 18, 3) := dc_180 (show ((cX6_eat.data.toList.drop 12).take 3).map UInt8.toNat = [180, 0, 18] by decide +kernel) rfl
theorem dX6_eat_15 : decode cX6_eat 15 = .ok (.iload_n 1, 1) := dc_27 (show ((cX6_eat.data.toList.drop 15).take 1).map UInt8.toNat = [27] by decide +kernel)
theorem dX6_eat_16 : decode cX6_eat 16 = .ok (.iconst 2, 1) := dc_5 (show ((cX6_eat.data.toList.drop 16).take 1).map UInt8.toNat = [5] by decide +kernel)
theorem dX6_eat_17 : decode cX6_eat 17 = .ok (.iastore, 1) := dc_79 (show ((cX6_eat.data.toList.drop 17).take 1).map UInt8.toNat = [79] by decide +kernel)
def cs_Play_eat (n : Nat) (σ : gb_S) (p1 : Int32) : gb_CR Unit := gb_kk (gb_kB (σ.2.1 1)) (gb_cd (cs_Border_hasGoose_B n σ (σ.2.1 1) p1) (fun s_2 r_3 => (if r_3 = 0 then some (s_2, ()) else gb_ck p1 8 (gb_lt (gb_su s_2 112 (upd (s_2.1 112) (Int32.toNatClampNeg p1) 2)) (fun s_8 => some (s_8, ()))))))
set_option maxHeartbeats 8000000 in
set_option maxRecDepth 100000 in
theorem cc_Play_eat (l : Launch) (D : va_G) (cT : Nat → ClassId) (tt : Nat → Nat) (b1 b : Nat) (hb1 : b1 ≤ b) (n : Nat) (σ : gb_S) (p1 : Int32) (σE : gb_S) (rE : Unit) (h : cs_Play_eat n σ p1 = some (σE, rE)) : Met l yX6_eat (.code yX6_eat cX6_eat 2 none :: gb_wA) ({ frames := 2, cells := 0, slots := 0, locals := 41 }) (gb_Pc D cT tt b1 [.ref (b + 109), .int p1] (fun h => va_P D vwCl (gb_wl b (gb_CW cT b σ)) h)) (gb_Qv (fun h => va_P D vwCl (gb_wl b (gb_CW cT b σE)) h) (gb_fr b 135)) 0 0 (gb_fr b 135) := by
  refine Met.ofW (cc := cX6_eat) (maxL := 2) (ret := none) (by decide) rfl ?_
  intro p e s m args below meth c s₁ B hml hv
  obtain ⟨rfl, hSt, hP⟩ := hv
  have hx := B.exec
  have hb := B.bytes
  have hr := B.returns
  have hts := atoms_spec (ws := .code yX6_eat cX6_eat 2 none :: gb_wA) B.pre
  have hq : ∀ w ∈ gb_wA, w.before _ s = true := fun w h => hts w (List.mem_cons_of_mem _ h)
  have hown : s.vm.findClass RX6 = some m.cls := findClass_of_methodNamed B.named
  have hlocks := B.notSynchronized
  clear B hts
  have hK := hSt.1
  have hS : va_S (gb_fr b 135) s.heap s.heap [] := va_S.rf
  have hl := lv_entry ([.ref (b + 109), .int p1]) (n := 2) (Nat.le_of_ble_eq_true rfl)
  rw [lg_entry_eq]
  generalize (lg_sl ([.ref (b + 109), .int p1]) ++ List.replicate (2 - (lg_sl ([.ref (b + 109), .int p1])).length) Slot.unset).toArray = ls at hl ⊢
  replace hl : lv_has ls 2 [(0, .ref (b + 109)), (1, .int p1)] := hl
  unfold cs_Play_eat at h
  refine lv_aload_n hx hb dX6_eat_0 rfl (lv_at hl 0 rfl) ?_
  obtain ⟨z_1, h⟩ := gb_kk_s h
  refine va_get (ci := 5) (v := (.ref (b + (σ.2.1 1)))) (C := RX6) (T := TX6) (N := 12) hx hb hq i_X6 hown hK hP 109 (gb_at b rfl) rfl 0 (by decide) (hq _ w_197) (fun _ h9 => h9) rfl dX6_eat_1 ?_
  refine lv_iload_n hx hb dX6_eat_4 rfl (lv_at hl 1 rfl) ?_
  obtain ⟨s_2, r_3, z_4, h⟩ := gb_cd_s h
  refine gb_calli (va_runV (C := RX0) (As := [.int p1]) (rest := []) ⟨hx, hb, hml, hown, hq⟩ (cc_Border_hasGoose_B l D cT tt b1 b hb1 n σ (σ.2.1 1) p1 s_2 r_3 z_4) (cwV 1 hq (gb_gV w_712 w_612 w_613 w_4 w_614) rfl rfl rfl (by decide +kernel) ⟨Nat.le_of_ble_eq_true rfl, Nat.le_of_ble_eq_true rfl⟩) (gb_preV (r := (RX0, TX0, 1)) (ci := 0) (q0 := (σ.2.1 1)) hSt hP rfl (gb_at b (gb_cB z_1).1) hS (fun q h => Nat.le_trans hb1 h.1) hP) rfl rfl hl.1 rfl (lv_room (Nat.le_of_ble_eq_true rfl)) dX6_eat_5 ⟨Nat.le_of_ble_eq_true rfl, Nat.le_of_ble_eq_true rfl⟩) hS (fun _ h => h) (fun _ h => h) (fun q_5 H locs hY hk hS => ?_)
  obtain ⟨hq_5, hP⟩ := hY
  replace hq_5 := hq_5.symm
  subst hq_5
  refine lv_if_eq (tgt := 18) hx hb dX6_eat_8 (by decide) (fun c_6 => ?_) (fun c_6 => ?_)
  · rw [if_pos c_6] at h
    obtain ⟨e1, -⟩ := gb_eq2 h
    exact W.vret hx hb hr (fun t ht hW => gb_rv ht (by rw [← e1]; exact hP) hS) hS.2.2 dX6_eat_18
  · rw [if_neg c_6] at h
    refine lv_aload_n hx hb dX6_eat_11 rfl (lv_at hl 0 rfl) ?_
    refine va_get (ci := 5) (v := (.ref (b + 112))) (C := RX6) (T := TX6) (N := 12) hx hb hq i_X6 hown hK hP 109 (gb_at b rfl) rfl 1 (by decide) (hq _ w_198) (fun _ h9 => h9) rfl dX6_eat_12 ?_
    refine lv_iload_n hx hb dX6_eat_15 rfl (lv_at hl 1 rfl) ?_
    refine lv_iconst (v := 2) hx hb dX6_eat_16 (by decide) ?_
    obtain ⟨z_7, h⟩ := gb_ck_s h
    refine va_iast (x := 2) hx hb hK hP (gb_D (fun k h => ⟨Nat.le_add_right b k, Nat.add_lt_add_left h b⟩)) hS 112 0 (gb_at b rfl) rfl z_7 dX6_eat_17 (fun H locs hP hD hS => ?_)
    rw [gb_set] at hP
    obtain ⟨s_8, es_8⟩ : ∃ q, q = (gb_su s_2 112 (upd (s_2.1 112) (Int32.toNatClampNeg p1) 2)) := ⟨_, rfl⟩
    replace hP : va_P D vwCl (gb_wl b (gb_CW cT b s_8)) H := by rw [es_8]; exact hP
    replace h := gb_lt_s es_8 h
    obtain ⟨e1, -⟩ := gb_eq2 h
    exact W.vret hx hb hr (fun t ht hW => gb_rv ht (by rw [← e1]; exact hP) hS) hS.2.2 dX6_eat_18
theorem w_758 : (Cond.code ({ cls := "GooseBorder$Play", name := "eat", desc := "(I)V" } : MethodName) prog_8_method_9_code (2 : Nat) (Option.none : Option FieldType)) ∈ gb_wA := gb_t4 38 rfl rfl
theorem w_755 : (Cond.methodLink "GooseBorder$Play" (115 : Nat) ({ cls := "GooseBorder$Play", name := "eat", desc := "(I)V" } : MethodName)) ∈ gb_wA := gb_t4 35 rfl rfl
theorem w_757 : (Cond.instanceMethod ({ cls := "GooseBorder$Play", name := "eat", desc := "(I)V" } : MethodName)) ∈ gb_wA := gb_t4 37 rfl rfl
theorem s_2_0 : Cond.selects "GooseBorder$Play" (⟨"GooseBorder$Play", "eat", "(I)V"⟩ : MethodName) (⟨"GooseBorder$Play", "eat", "(I)V"⟩ : MethodName) ∈ gb_wA := gb_s2 0 rfl rfl
theorem dX6_doDeed_213 : decode cX6_doDeed 213 = .ok (.goto 3, 3) := dc_167 (show ((cX6_doDeed.data.toList.drop 213).take 3).map UInt8.toNat = [167, 0, 3] by decide +kernel) rfl
def cs_Play_doDeed_N (n : Nat) (σ : gb_S) (p1 : Nat) (p2 : Int32) (p3 : Int32) : gb_CR Unit := gb_kk (gb_kN p1) (gb_cd (cs_Lines_cell_N n σ p1 p2 1) (fun s_2 r_3 => gb_cd (cs_Lines_cell_N n s_2 p1 p2 2) (fun s_6 r_7 => gb_cd (cs_Lines_kind_N n s_6 p1 p2) (fun s_10 r_11 => (if r_11 = (0 : Int32) then (if p3 = 0 then gb_cd (cs_Play_go_n n s_10 r_3 r_7 p2) (fun s_16 _ => some (s_16, ())) else gb_cd (cs_Play_go_c116 n s_10 r_3 r_7 p2) (fun s_20 _ => some (s_20, ()))) else (if r_11 = (1 : Int32) then gb_cd (cs_Play_go_c117 n s_10 r_3 r_7 p2) (fun s_25 _ => some (s_25, ())) else (if r_11 = (2 : Int32) then gb_cd (cs_Play_go_c117 n s_10 r_3 r_7 p2) (fun s_30 _ => some (s_30, ())) else (if r_11 = (3 : Int32) then gb_cd (cs_Lines_cell_N n s_10 p1 p2 3) (fun s_35 r_36 => gb_cd (cs_Play_go_c116 n s_35 r_3 r_36 p2) (fun s_39 _ => gb_ck r_7 8 (gb_lt (gb_su s_39 112 (upd (s_39.1 112) (Int32.toNatClampNeg r_7) 1)) (fun s_44 => gb_cd (cs_Lines_cell_N n s_44 p1 p2 3) (fun s_45 r_46 => gb_ck r_7 8 (gb_lt (gb_su s_45 115 (upd (s_45.1 115) (Int32.toNatClampNeg r_7) r_46)) (fun s_50 => some (s_50, ())))))))) else (if r_11 = (4 : Int32) then gb_ck r_3 8 (gb_lt (gb_su s_10 113 (upd (s_10.1 113) (Int32.toNatClampNeg r_3) r_7)) (fun s_53 => gb_lt (gb_su s_53 109 (upd (s_53.1 109) 9 ((s_53.1 109 9) ||| ((1 : Int32) <<< (r_3 &&& 31))))) (fun s_54 => some (s_54, ())))) else (if r_11 = (5 : Int32) then gb_cd (cs_Play_rainDown n s_10 r_3) (fun s_56 _ => some (s_56, ())) else (if r_11 = (6 : Int32) then gb_lt (gb_su s_10 109 (upd (s_10.1 109) 10 1)) (fun s_61 => some (s_61, ())) else (if r_11 = (7 : Int32) then gb_lt (gb_su s_10 109 (upd (s_10.1 109) 10 0)) (fun s_63 => some (s_63, ())) else (if r_11 = (8 : Int32) then gb_cd (cs_Play_latestGoer n s_10 r_3) (fun s_65 r_66 => gb_cd (cs_Play_eat n s_65 r_66) (fun s_69 _ => some (s_69, ()))) else some (s_10, ()))))))))))))))
set_option maxHeartbeats 8000000 in
set_option maxRecDepth 100000 in
theorem cc_Play_doDeed_N (l : Launch) (D : va_G) (cT : Nat → ClassId) (tt : Nat → Nat) (b1 b : Nat) (hb1 : b1 ≤ b) (n : Nat) (σ : gb_S) (p1 : Nat) (p2 : Int32) (p3 : Int32) (σE : gb_S) (rE : Unit) (h : cs_Play_doDeed_N n σ p1 p2 p3 = some (σE, rE)) : Met l yX6_doDeed (.code yX6_doDeed cX6_doDeed 6 none :: gb_wA) ({ frames := 3, cells := 0, slots := 0, locals := 74 }) (gb_Pc D cT tt b1 [.ref (b + 109), .ref (b + p1), .int p2, .int p3] (fun h => va_P D vwCl (gb_wl b (gb_CW cT b σ)) h)) (gb_Qv (fun h => va_P D vwCl (gb_wl b (gb_CW cT b σE)) h) (gb_fr b 135)) 0 0 (gb_fr b 135) := by
  refine Met.ofW (cc := cX6_doDeed) (maxL := 6) (ret := none) (by decide) rfl ?_
  intro p e s m args below meth c s₁ B hml hv
  obtain ⟨rfl, hSt, hP⟩ := hv
  have hx := B.exec
  have hb := B.bytes
  have hr := B.returns
  have hts := atoms_spec (ws := .code yX6_doDeed cX6_doDeed 6 none :: gb_wA) B.pre
  have hq : ∀ w ∈ gb_wA, w.before _ s = true := fun w h => hts w (List.mem_cons_of_mem _ h)
  have hown : s.vm.findClass RX6 = some m.cls := findClass_of_methodNamed B.named
  have hlocks := B.notSynchronized
  clear B hts
  have hK := hSt.1
  have hS : va_S (gb_fr b 135) s.heap s.heap [] := va_S.rf
  have hl := lv_entry ([.ref (b + 109), .ref (b + p1), .int p2, .int p3]) (n := 6) (Nat.le_of_ble_eq_true rfl)
  rw [lg_entry_eq]
  generalize (lg_sl ([.ref (b + 109), .ref (b + p1), .int p2, .int p3]) ++ List.replicate (6 - (lg_sl ([.ref (b + 109), .ref (b + p1), .int p2, .int p3])).length) Slot.unset).toArray = ls at hl ⊢
  replace hl : lv_has ls 6 [(0, .ref (b + 109)), (1, .ref (b + p1)), (2, .int p2), (3, .int p3)] := hl
  unfold cs_Play_doDeed_N at h
  obtain ⟨z_1, h⟩ := gb_kk_s h
  refine lv_aload_n hx hb dX6_doDeed_0 rfl (lv_at hl 1 rfl) ?_
  refine lv_iload_n hx hb dX6_doDeed_1 rfl (lv_at hl 2 rfl) ?_
  refine lv_iconst (v := 1) hx hb dX6_doDeed_2 (by decide) ?_
  obtain ⟨s_2, r_3, z_4, h⟩ := gb_cd_s h
  refine gb_calli (va_runU (x := ⟨"GooseBorder$Night", "cell", "(II)I"⟩) (C := RX5) (owner := "GooseBorder$Lines") (As := [.int p2, .int 1]) (rest := []) ⟨hx, hb, hml, hown, hq⟩ (cc_Lines_cell_N l D cT tt b1 b hb1 n σ p1 p2 1 s_2 r_3 z_4) (va_cwU (owner := "GooseBorder$Lines") (C := RX5) 2 hq (gb_gU w_723 w_724 w_725 w_546 w_6 w_547) rfl rfl rfl rfl (by decide +kernel) ⟨Nat.le_of_ble_eq_true rfl, Nat.le_of_ble_eq_true rfl⟩) (gb_preV (r := (RX5, TX5, 4)) (ci := 4) (q0 := p1) hSt hP rfl (gb_at b (gb_cN z_1).1) hS (fun q h => Nat.le_trans hb1 h.1) hP) rfl rfl hl.1 rfl (lv_room (Nat.le_of_ble_eq_true rfl)) dX6_doDeed_3 ⟨Nat.le_of_ble_eq_true rfl, Nat.le_of_ble_eq_true rfl⟩) hS (fun _ h => h) (fun _ h => h) (fun q_5 H locs hY hk hS => ?_)
  obtain ⟨hq_5, hP⟩ := hY
  replace hq_5 := hq_5.symm
  subst hq_5
  refine lv_istore (lv' := [(4, .int r_3), (0, .ref (b + 109)), (1, .ref (b + p1)), (2, .int p2), (3, .int p3)]) hx hb dX6_doDeed_6 hl (by decide) rfl (fun ls hl => ?_)
  refine lv_aload_n hx hb dX6_doDeed_8 rfl (lv_at hl 2 rfl) ?_
  refine lv_iload_n hx hb dX6_doDeed_9 rfl (lv_at hl 3 rfl) ?_
  refine lv_iconst (v := 2) hx hb dX6_doDeed_10 (by decide) ?_
  obtain ⟨s_6, r_7, z_8, h⟩ := gb_cd_s h
  refine gb_calli (va_runU (x := ⟨"GooseBorder$Night", "cell", "(II)I"⟩) (C := RX5) (owner := "GooseBorder$Lines") (As := [.int p2, .int 2]) (rest := []) ⟨hx, hb, hml, hown, hq⟩ (cc_Lines_cell_N l D cT tt b1 b hb1 n s_2 p1 p2 2 s_6 r_7 z_8) (va_cwU (owner := "GooseBorder$Lines") (C := RX5) 2 hq (gb_gU w_723 w_724 w_725 w_546 w_6 w_547) rfl rfl rfl rfl (by decide +kernel) ⟨Nat.le_of_ble_eq_true rfl, Nat.le_of_ble_eq_true rfl⟩) (gb_preV (r := (RX5, TX5, 4)) (ci := 4) (q0 := p1) hSt hP rfl (gb_at b (gb_cN z_1).1) hS (fun q h => Nat.le_trans hb1 h.1) hP) rfl rfl hl.1 rfl (lv_room (Nat.le_of_ble_eq_true rfl)) dX6_doDeed_11 ⟨Nat.le_of_ble_eq_true rfl, Nat.le_of_ble_eq_true rfl⟩) hS (fun _ h => h) (fun _ h => h) (fun q_9 H locs hY hk hS => ?_)
  obtain ⟨hq_9, hP⟩ := hY
  replace hq_9 := hq_9.symm
  subst hq_9
  refine lv_istore (lv' := [(5, .int r_7), (4, .int r_3), (0, .ref (b + 109)), (1, .ref (b + p1)), (2, .int p2), (3, .int p3)]) hx hb dX6_doDeed_14 hl (by decide) rfl (fun ls hl => ?_)
  refine lv_aload_n hx hb dX6_doDeed_16 rfl (lv_at hl 3 rfl) ?_
  refine lv_iload_n hx hb dX6_doDeed_17 rfl (lv_at hl 4 rfl) ?_
  obtain ⟨s_10, r_11, z_12, h⟩ := gb_cd_s h
  refine gb_calli (va_runU (x := ⟨"GooseBorder$Night", "kind", "(I)I"⟩) (C := RX5) (owner := "GooseBorder$Lines") (As := [.int p2]) (rest := []) ⟨hx, hb, hml, hown, hq⟩ (cc_Lines_kind_N l D cT tt b1 b hb1 n s_6 p1 p2 s_10 r_11 z_12) (va_cwU (owner := "GooseBorder$Lines") (C := RX5) 1 hq (gb_gU w_726 w_727 w_728 w_689 w_6 w_690) rfl rfl rfl rfl (by decide +kernel) ⟨Nat.le_of_ble_eq_true rfl, Nat.le_of_ble_eq_true rfl⟩) (gb_preV (r := (RX5, TX5, 4)) (ci := 4) (q0 := p1) hSt hP rfl (gb_at b (gb_cN z_1).1) hS (fun q h => Nat.le_trans hb1 h.1) hP) rfl rfl hl.1 rfl (lv_room (Nat.le_of_ble_eq_true rfl)) dX6_doDeed_18 ⟨Nat.le_of_ble_eq_true rfl, Nat.le_of_ble_eq_true rfl⟩) hS (fun _ h => h) (fun _ h => h) (fun q_13 H locs hY hk hS => ?_)
  obtain ⟨hq_13, hP⟩ := hY
  replace hq_13 := hq_13.symm
  subst hq_13
  by_cases c_14 : r_11 = (0 : Int32)
  · rw [if_pos c_14] at h
    refine lv_tableIn (off := 51) (tgt := 72) hx hb dX6_doDeed_21 (by rw [c_14]; decide) (by rw [c_14]; decide) (by rw [c_14]; decide) (by decide) ?_
    refine lv_aload_n hx hb dX6_doDeed_72 rfl (lv_at hl 2 rfl) ?_
    refine lv_iload hx hb dX6_doDeed_73 (lv_at hl 1 rfl) ?_
    refine lv_iload hx hb dX6_doDeed_75 (lv_at hl 0 rfl) ?_
    refine lv_iload_n hx hb dX6_doDeed_77 rfl (lv_at hl 4 rfl) ?_
    refine lv_iload_n hx hb dX6_doDeed_78 rfl (lv_at hl 5 rfl) ?_
    refine lv_if_eq (tgt := 89) hx hb dX6_doDeed_79 (by decide) (fun c_15 => ?_) (fun c_15 => ?_)
    · rw [if_pos c_15] at h
      refine lv_null hx hb dX6_doDeed_89 ?_
      obtain ⟨s_16, r_17, z_18, h⟩ := gb_cd_s h
      refine gb_callv (va_runV (C := RX6) (As := [.int r_3, .int r_7, .int p2, .null]) (rest := []) ⟨hx, hb, hml, hown, hq⟩ (cc_Play_go_n l D cT tt b1 b hb1 n s_10 r_3 r_7 p2 s_16 r_17 z_18) (cwV 4 hq (gb_gV w_743 w_744 w_745 w_11 w_746) rfl rfl rfl (by decide +kernel) ⟨Nat.le_of_ble_eq_true rfl, Nat.le_of_ble_eq_true rfl⟩) (gb_preV (r := (RX6, TX6, 12)) (ci := 5) (q0 := 109) hSt hP rfl (gb_at b rfl) hS (fun q h => Nat.le_trans hb1 h.1) hP) rfl rfl hl.1 rfl (lv_room (Nat.le_of_ble_eq_true rfl)) dX6_doDeed_90 ⟨Nat.le_of_ble_eq_true rfl, Nat.le_of_ble_eq_true rfl⟩) hS (fun _ h => h) (fun _ h => h) (fun H locs hY hk hS => ?_)
      have hP := hY
      refine lv_goto (tgt := 216) hx hb dX6_doDeed_93 (by decide) ?_
      obtain ⟨e1, -⟩ := gb_eq2 h
      exact W.vret hx hb hr (fun t ht hW => gb_rv ht (by rw [← e1]; exact hP) hS) hS.2.2 dX6_doDeed_216
    · rw [if_neg c_15] at h
      refine lv_aload_n hx hb dX6_doDeed_82 rfl (lv_at hl 2 rfl) ?_
      refine va_get (ci := 5) (v := (.ref (b + 116))) (C := RX6) (T := TX6) (N := 12) hx hb hq i_X6 hown hK hP 109 (gb_at b rfl) rfl 5 (by decide) (hq _ w_206) (fun _ h9 => h9) rfl dX6_doDeed_83 ?_
      refine lv_goto (tgt := 90) hx hb dX6_doDeed_86 (by decide) ?_
      obtain ⟨s_20, r_21, z_22, h⟩ := gb_cd_s h
      refine gb_callv (va_runV (C := RX6) (As := [.int r_3, .int r_7, .int p2, .ref (b + 116)]) (rest := []) ⟨hx, hb, hml, hown, hq⟩ (cc_Play_go_c116 l D cT tt b1 b hb1 n s_10 r_3 r_7 p2 s_20 r_21 z_22) (cwV 4 hq (gb_gV w_743 w_744 w_745 w_11 w_746) rfl rfl rfl (by decide +kernel) ⟨Nat.le_of_ble_eq_true rfl, Nat.le_of_ble_eq_true rfl⟩) (gb_preV (r := (RX6, TX6, 12)) (ci := 5) (q0 := 109) hSt hP rfl (gb_at b rfl) hS (fun q h => Nat.le_trans hb1 h.1) hP) rfl rfl hl.1 rfl (lv_room (Nat.le_of_ble_eq_true rfl)) dX6_doDeed_90 ⟨Nat.le_of_ble_eq_true rfl, Nat.le_of_ble_eq_true rfl⟩) hS (fun _ h => h) (fun _ h => h) (fun H locs hY hk hS => ?_)
      have hP := hY
      refine lv_goto (tgt := 216) hx hb dX6_doDeed_93 (by decide) ?_
      obtain ⟨e1, -⟩ := gb_eq2 h
      exact W.vret hx hb hr (fun t ht hW => gb_rv ht (by rw [← e1]; exact hP) hS) hS.2.2 dX6_doDeed_216
  rw [if_neg c_14] at h
  by_cases c_24 : r_11 = (1 : Int32)
  · rw [if_pos c_24] at h
    refine lv_tableIn (off := 75) (tgt := 96) hx hb dX6_doDeed_21 (by rw [c_24]; decide) (by rw [c_24]; decide) (by rw [c_24]; decide) (by decide) ?_
    refine lv_aload_n hx hb dX6_doDeed_96 rfl (lv_at hl 2 rfl) ?_
    refine lv_iload hx hb dX6_doDeed_97 (lv_at hl 1 rfl) ?_
    refine lv_iload hx hb dX6_doDeed_99 (lv_at hl 0 rfl) ?_
    refine lv_iload_n hx hb dX6_doDeed_101 rfl (lv_at hl 4 rfl) ?_
    refine lv_aload_n hx hb dX6_doDeed_102 rfl (lv_at hl 2 rfl) ?_
    refine va_get (ci := 5) (v := (.ref (b + 117))) (C := RX6) (T := TX6) (N := 12) hx hb hq i_X6 hown hK hP 109 (gb_at b rfl) rfl 6 (by decide) (hq _ w_208) (fun _ h9 => h9) rfl dX6_doDeed_103 ?_
    obtain ⟨s_25, r_26, z_27, h⟩ := gb_cd_s h
    refine gb_callv (va_runV (C := RX6) (As := [.int r_3, .int r_7, .int p2, .ref (b + 117)]) (rest := []) ⟨hx, hb, hml, hown, hq⟩ (cc_Play_go_c117 l D cT tt b1 b hb1 n s_10 r_3 r_7 p2 s_25 r_26 z_27) (cwV 4 hq (gb_gV w_743 w_744 w_745 w_11 w_746) rfl rfl rfl (by decide +kernel) ⟨Nat.le_of_ble_eq_true rfl, Nat.le_of_ble_eq_true rfl⟩) (gb_preV (r := (RX6, TX6, 12)) (ci := 5) (q0 := 109) hSt hP rfl (gb_at b rfl) hS (fun q h => Nat.le_trans hb1 h.1) hP) rfl rfl hl.1 rfl (lv_room (Nat.le_of_ble_eq_true rfl)) dX6_doDeed_106 ⟨Nat.le_of_ble_eq_true rfl, Nat.le_of_ble_eq_true rfl⟩) hS (fun _ h => h) (fun _ h => h) (fun H locs hY hk hS => ?_)
    have hP := hY
    refine lv_goto (tgt := 216) hx hb dX6_doDeed_109 (by decide) ?_
    obtain ⟨e1, -⟩ := gb_eq2 h
    exact W.vret hx hb hr (fun t ht hW => gb_rv ht (by rw [← e1]; exact hP) hS) hS.2.2 dX6_doDeed_216
  rw [if_neg c_24] at h
  by_cases c_29 : r_11 = (2 : Int32)
  · rw [if_pos c_29] at h
    refine lv_tableIn (off := 75) (tgt := 96) hx hb dX6_doDeed_21 (by rw [c_29]; decide) (by rw [c_29]; decide) (by rw [c_29]; decide) (by decide) ?_
    refine lv_aload_n hx hb dX6_doDeed_96 rfl (lv_at hl 2 rfl) ?_
    refine lv_iload hx hb dX6_doDeed_97 (lv_at hl 1 rfl) ?_
    refine lv_iload hx hb dX6_doDeed_99 (lv_at hl 0 rfl) ?_
    refine lv_iload_n hx hb dX6_doDeed_101 rfl (lv_at hl 4 rfl) ?_
    refine lv_aload_n hx hb dX6_doDeed_102 rfl (lv_at hl 2 rfl) ?_
    refine va_get (ci := 5) (v := (.ref (b + 117))) (C := RX6) (T := TX6) (N := 12) hx hb hq i_X6 hown hK hP 109 (gb_at b rfl) rfl 6 (by decide) (hq _ w_208) (fun _ h9 => h9) rfl dX6_doDeed_103 ?_
    obtain ⟨s_30, r_31, z_32, h⟩ := gb_cd_s h
    refine gb_callv (va_runV (C := RX6) (As := [.int r_3, .int r_7, .int p2, .ref (b + 117)]) (rest := []) ⟨hx, hb, hml, hown, hq⟩ (cc_Play_go_c117 l D cT tt b1 b hb1 n s_10 r_3 r_7 p2 s_30 r_31 z_32) (cwV 4 hq (gb_gV w_743 w_744 w_745 w_11 w_746) rfl rfl rfl (by decide +kernel) ⟨Nat.le_of_ble_eq_true rfl, Nat.le_of_ble_eq_true rfl⟩) (gb_preV (r := (RX6, TX6, 12)) (ci := 5) (q0 := 109) hSt hP rfl (gb_at b rfl) hS (fun q h => Nat.le_trans hb1 h.1) hP) rfl rfl hl.1 rfl (lv_room (Nat.le_of_ble_eq_true rfl)) dX6_doDeed_106 ⟨Nat.le_of_ble_eq_true rfl, Nat.le_of_ble_eq_true rfl⟩) hS (fun _ h => h) (fun _ h => h) (fun H locs hY hk hS => ?_)
    have hP := hY
    refine lv_goto (tgt := 216) hx hb dX6_doDeed_109 (by decide) ?_
    obtain ⟨e1, -⟩ := gb_eq2 h
    exact W.vret hx hb hr (fun t ht hW => gb_rv ht (by rw [← e1]; exact hP) hS) hS.2.2 dX6_doDeed_216
  rw [if_neg c_29] at h
  by_cases c_34 : r_11 = (3 : Int32)
  · rw [if_pos c_34] at h
    refine lv_tableIn (off := 91) (tgt := 112) hx hb dX6_doDeed_21 (by rw [c_34]; decide) (by rw [c_34]; decide) (by rw [c_34]; decide) (by decide) ?_
    refine lv_aload_n hx hb dX6_doDeed_112 rfl (lv_at hl 2 rfl) ?_
    refine lv_iload hx hb dX6_doDeed_113 (lv_at hl 1 rfl) ?_
    refine lv_aload_n hx hb dX6_doDeed_115 rfl (lv_at hl 3 rfl) ?_
    refine lv_iload_n hx hb dX6_doDeed_116 rfl (lv_at hl 4 rfl) ?_
    refine lv_iconst (v := 3) hx hb dX6_doDeed_117 (by decide) ?_
    obtain ⟨s_35, r_36, z_37, h⟩ := gb_cd_s h
    refine gb_calli (va_runU (x := ⟨"GooseBorder$Night", "cell", "(II)I"⟩) (C := RX5) (owner := "GooseBorder$Lines") (As := [.int p2, .int 3]) (rest := [.int r_3, .ref (b + 109)]) ⟨hx, hb, hml, hown, hq⟩ (cc_Lines_cell_N l D cT tt b1 b hb1 n s_10 p1 p2 3 s_35 r_36 z_37) (va_cwU (owner := "GooseBorder$Lines") (C := RX5) 2 hq (gb_gU w_723 w_724 w_725 w_546 w_6 w_547) rfl rfl rfl rfl (by decide +kernel) ⟨Nat.le_of_ble_eq_true rfl, Nat.le_of_ble_eq_true rfl⟩) (gb_preV (r := (RX5, TX5, 4)) (ci := 4) (q0 := p1) hSt hP rfl (gb_at b (gb_cN z_1).1) hS (fun q h => Nat.le_trans hb1 h.1) hP) rfl rfl hl.1 rfl (lv_room (Nat.le_of_ble_eq_true rfl)) dX6_doDeed_118 ⟨Nat.le_of_ble_eq_true rfl, Nat.le_of_ble_eq_true rfl⟩) hS (fun _ h => h) (fun _ h => h) (fun q_38 H locs hY hk hS => ?_)
    obtain ⟨hq_38, hP⟩ := hY
    replace hq_38 := hq_38.symm
    subst hq_38
    refine lv_iload_n hx hb dX6_doDeed_121 rfl (lv_at hl 4 rfl) ?_
    refine lv_aload_n hx hb dX6_doDeed_122 rfl (lv_at hl 2 rfl) ?_
    refine va_get (ci := 5) (v := (.ref (b + 116))) (C := RX6) (T := TX6) (N := 12) hx hb hq i_X6 hown hK hP 109 (gb_at b rfl) rfl 5 (by decide) (hq _ w_206) (fun _ h9 => h9) rfl dX6_doDeed_123 ?_
    obtain ⟨s_39, r_40, z_41, h⟩ := gb_cd_s h
    refine gb_callv (va_runV (C := RX6) (As := [.int r_3, .int r_36, .int p2, .ref (b + 116)]) (rest := []) ⟨hx, hb, hml, hown, hq⟩ (cc_Play_go_c116 l D cT tt b1 b hb1 n s_35 r_3 r_36 p2 s_39 r_40 z_41) (cwV 4 hq (gb_gV w_743 w_744 w_745 w_11 w_746) rfl rfl rfl (by decide +kernel) ⟨Nat.le_of_ble_eq_true rfl, Nat.le_of_ble_eq_true rfl⟩) (gb_preV (r := (RX6, TX6, 12)) (ci := 5) (q0 := 109) hSt hP rfl (gb_at b rfl) hS (fun q h => Nat.le_trans hb1 h.1) hP) rfl rfl hl.1 rfl (lv_room (Nat.le_of_ble_eq_true rfl)) dX6_doDeed_126 ⟨Nat.le_of_ble_eq_true rfl, Nat.le_of_ble_eq_true rfl⟩) hS (fun _ h => h) (fun _ h => h) (fun H locs hY hk hS => ?_)
    have hP := hY
    refine lv_aload_n hx hb dX6_doDeed_129 rfl (lv_at hl 2 rfl) ?_
    refine va_get (ci := 5) (v := (.ref (b + 112))) (C := RX6) (T := TX6) (N := 12) hx hb hq i_X6 hown hK hP 109 (gb_at b rfl) rfl 1 (by decide) (hq _ w_198) (fun _ h9 => h9) rfl dX6_doDeed_130 ?_
    refine lv_iload hx hb dX6_doDeed_133 (lv_at hl 0 rfl) ?_
    refine lv_iconst (v := 1) hx hb dX6_doDeed_135 (by decide) ?_
    obtain ⟨z_43, h⟩ := gb_ck_s h
    refine va_iast (x := 1) hx hb hK hP (gb_D (fun k h => ⟨Nat.le_add_right b k, Nat.add_lt_add_left h b⟩)) hS 112 0 (gb_at b rfl) rfl z_43 dX6_doDeed_136 (fun H locs hP hD hS => ?_)
    rw [gb_set] at hP
    obtain ⟨s_44, es_44⟩ : ∃ q, q = (gb_su s_39 112 (upd (s_39.1 112) (Int32.toNatClampNeg r_7) 1)) := ⟨_, rfl⟩
    replace hP : va_P D vwCl (gb_wl b (gb_CW cT b s_44)) H := by rw [es_44]; exact hP
    replace h := gb_lt_s es_44 h
    refine lv_aload_n hx hb dX6_doDeed_137 rfl (lv_at hl 2 rfl) ?_
    refine va_get (ci := 5) (v := (.ref (b + 115))) (C := RX6) (T := TX6) (N := 12) hx hb hq i_X6 hown hK hP 109 (gb_at b rfl) rfl 4 (by decide) (hq _ w_204) (fun _ h9 => h9) rfl dX6_doDeed_138 ?_
    refine lv_iload hx hb dX6_doDeed_141 (lv_at hl 0 rfl) ?_
    refine lv_aload_n hx hb dX6_doDeed_143 rfl (lv_at hl 3 rfl) ?_
    refine lv_iload_n hx hb dX6_doDeed_144 rfl (lv_at hl 4 rfl) ?_
    refine lv_iconst (v := 3) hx hb dX6_doDeed_145 (by decide) ?_
    obtain ⟨s_45, r_46, z_47, h⟩ := gb_cd_s h
    refine gb_calli (va_runU (x := ⟨"GooseBorder$Night", "cell", "(II)I"⟩) (C := RX5) (owner := "GooseBorder$Lines") (As := [.int p2, .int 3]) (rest := [.int r_7, .ref (b + 115)]) ⟨hx, hb, hml, hown, hq⟩ (cc_Lines_cell_N l D cT tt b1 b hb1 n s_44 p1 p2 3 s_45 r_46 z_47) (va_cwU (owner := "GooseBorder$Lines") (C := RX5) 2 hq (gb_gU w_723 w_724 w_725 w_546 w_6 w_547) rfl rfl rfl rfl (by decide +kernel) ⟨Nat.le_of_ble_eq_true rfl, Nat.le_of_ble_eq_true rfl⟩) (gb_preV (r := (RX5, TX5, 4)) (ci := 4) (q0 := p1) hSt hP rfl (gb_at b (gb_cN z_1).1) hS (fun q h => Nat.le_trans hb1 h.1) hP) rfl rfl hl.1 rfl (lv_room (Nat.le_of_ble_eq_true rfl)) dX6_doDeed_146 ⟨Nat.le_of_ble_eq_true rfl, Nat.le_of_ble_eq_true rfl⟩) hS (fun _ h => h) (fun _ h => h) (fun q_48 H locs hY hk hS => ?_)
    obtain ⟨hq_48, hP⟩ := hY
    replace hq_48 := hq_48.symm
    subst hq_48
    obtain ⟨z_49, h⟩ := gb_ck_s h
    refine va_iast (x := r_46) hx hb hK hP (gb_D (fun k h => ⟨Nat.le_add_right b k, Nat.add_lt_add_left h b⟩)) hS 115 0 (gb_at b rfl) rfl z_49 dX6_doDeed_149 (fun H locs hP hD hS => ?_)
    rw [gb_set] at hP
    obtain ⟨s_50, es_50⟩ : ∃ q, q = (gb_su s_45 115 (upd (s_45.1 115) (Int32.toNatClampNeg r_7) r_46)) := ⟨_, rfl⟩
    replace hP : va_P D vwCl (gb_wl b (gb_CW cT b s_50)) H := by rw [es_50]; exact hP
    replace h := gb_lt_s es_50 h
    refine lv_goto (tgt := 216) hx hb dX6_doDeed_150 (by decide) ?_
    obtain ⟨e1, -⟩ := gb_eq2 h
    exact W.vret hx hb hr (fun t ht hW => gb_rv ht (by rw [← e1]; exact hP) hS) hS.2.2 dX6_doDeed_216
  rw [if_neg c_34] at h
  by_cases c_51 : r_11 = (4 : Int32)
  · rw [if_pos c_51] at h
    refine lv_tableIn (off := 132) (tgt := 153) hx hb dX6_doDeed_21 (by rw [c_51]; decide) (by rw [c_51]; decide) (by rw [c_51]; decide) (by decide) ?_
    refine lv_aload_n hx hb dX6_doDeed_153 rfl (lv_at hl 2 rfl) ?_
    refine va_get (ci := 5) (v := (.ref (b + 113))) (C := RX6) (T := TX6) (N := 12) hx hb hq i_X6 hown hK hP 109 (gb_at b rfl) rfl 2 (by decide) (hq _ w_200) (fun _ h9 => h9) rfl dX6_doDeed_154 ?_
    refine lv_iload hx hb dX6_doDeed_157 (lv_at hl 1 rfl) ?_
    refine lv_iload hx hb dX6_doDeed_159 (lv_at hl 0 rfl) ?_
    obtain ⟨z_52, h⟩ := gb_ck_s h
    refine va_iast (x := r_7) hx hb hK hP (gb_D (fun k h => ⟨Nat.le_add_right b k, Nat.add_lt_add_left h b⟩)) hS 113 0 (gb_at b rfl) rfl z_52 dX6_doDeed_161 (fun H locs hP hD hS => ?_)
    rw [gb_set] at hP
    obtain ⟨s_53, es_53⟩ : ∃ q, q = (gb_su s_10 113 (upd (s_10.1 113) (Int32.toNatClampNeg r_3) r_7)) := ⟨_, rfl⟩
    replace hP : va_P D vwCl (gb_wl b (gb_CW cT b s_53)) H := by rw [es_53]; exact hP
    replace h := gb_lt_s es_53 h
    refine lv_aload_n hx hb dX6_doDeed_162 rfl (lv_at hl 2 rfl) ?_
    refine lv_dup hx hb dX6_doDeed_163 rfl ?_
    refine va_get (ci := 5) (v := (.int (s_53.1 109 9))) (C := RX6) (T := TX6) (N := 12) hx hb hq i_X6 hown hK hP 109 (gb_at b rfl) rfl 9 (by decide) (hq _ w_213) (fun _ h9 => h9) rfl dX6_doDeed_164 ?_
    refine lv_iconst (v := 1) hx hb dX6_doDeed_167 (by decide) ?_
    refine lv_iload hx hb dX6_doDeed_168 (lv_at hl 1 rfl) ?_
    refine lv_ishl hx hb dX6_doDeed_170 ?_
    refine lv_ior hx hb dX6_doDeed_171 ?_
    refine gb_put (ci := 5) (v := (.int ((s_53.1 109 9) ||| ((1 : Int32) <<< (r_3 &&& 31))))) (ty := .int) (C := RX6) (T := TX6) (N := 12) hx hb hq i_X6 tyX6 tyX6_ok nmX6 hown hK hP (fun k h => ⟨Nat.le_add_right b k, Nat.add_lt_add_left h b⟩) hS rfl 109 rfl rfl 9 (by decide) (hq _ w_213) (fun _ h9 => h9) rfl (by decide +kernel) rfl rfl (Nat.le_of_ble_eq_true rfl) dX6_doDeed_172 (fun H locs hP hz_ hS => ?_)
    obtain ⟨s_54, es_54⟩ : ∃ q, q = (gb_su s_53 109 (upd (s_53.1 109) 9 ((s_53.1 109 9) ||| ((1 : Int32) <<< (r_3 &&& 31))))) := ⟨_, rfl⟩
    replace hP : va_P D vwCl (gb_wl b (gb_CW cT b s_54)) H := by rw [es_54]; exact hP
    replace h := gb_lt_s es_54 h
    refine lv_goto (tgt := 216) hx hb dX6_doDeed_175 (by decide) ?_
    obtain ⟨e1, -⟩ := gb_eq2 h
    exact W.vret hx hb hr (fun t ht hW => gb_rv ht (by rw [← e1]; exact hP) hS) hS.2.2 dX6_doDeed_216
  rw [if_neg c_51] at h
  by_cases c_55 : r_11 = (5 : Int32)
  · rw [if_pos c_55] at h
    refine lv_tableIn (off := 157) (tgt := 178) hx hb dX6_doDeed_21 (by rw [c_55]; decide) (by rw [c_55]; decide) (by rw [c_55]; decide) (by decide) ?_
    refine lv_aload_n hx hb dX6_doDeed_178 rfl (lv_at hl 2 rfl) ?_
    refine lv_iload hx hb dX6_doDeed_179 (lv_at hl 1 rfl) ?_
    obtain ⟨s_56, r_57, z_58, h⟩ := gb_cd_s h
    refine gb_callv (va_runV (C := RX6) (As := [.int r_3]) (rest := []) ⟨hx, hb, hml, hown, hq⟩ (cc_Play_rainDown l D cT tt b1 b hb1 n s_10 r_3 s_56 r_57 z_58) (cwV 1 hq (gb_gV w_750 w_751 w_752 w_11 w_753) rfl rfl rfl (by decide +kernel) ⟨Nat.le_of_ble_eq_true rfl, Nat.le_of_ble_eq_true rfl⟩) (gb_preV (r := (RX6, TX6, 12)) (ci := 5) (q0 := 109) hSt hP rfl (gb_at b rfl) hS (fun q h => Nat.le_trans hb1 h.1) hP) rfl rfl hl.1 rfl (lv_room (Nat.le_of_ble_eq_true rfl)) dX6_doDeed_181 ⟨Nat.le_of_ble_eq_true rfl, Nat.le_of_ble_eq_true rfl⟩) hS (fun _ h => h) (fun _ h => h) (fun H locs hY hk hS => ?_)
    have hP := hY
    refine lv_goto (tgt := 216) hx hb dX6_doDeed_184 (by decide) ?_
    obtain ⟨e1, -⟩ := gb_eq2 h
    exact W.vret hx hb hr (fun t ht hW => gb_rv ht (by rw [← e1]; exact hP) hS) hS.2.2 dX6_doDeed_216
  rw [if_neg c_55] at h
  by_cases c_60 : r_11 = (6 : Int32)
  · rw [if_pos c_60] at h
    refine lv_tableIn (off := 166) (tgt := 187) hx hb dX6_doDeed_21 (by rw [c_60]; decide) (by rw [c_60]; decide) (by rw [c_60]; decide) (by decide) ?_
    refine lv_aload_n hx hb dX6_doDeed_187 rfl (lv_at hl 2 rfl) ?_
    refine lv_iconst (v := 1) hx hb dX6_doDeed_188 (by decide) ?_
    refine gb_put (ci := 5) (v := (.int 1)) (ty := .boolean) (C := RX6) (T := TX6) (N := 12) hx hb hq i_X6 tyX6 tyX6_ok nmX6 hown hK hP (fun k h => ⟨Nat.le_add_right b k, Nat.add_lt_add_left h b⟩) hS rfl 109 rfl rfl 10 (by decide) (hq _ w_214) (fun _ h9 => h9) rfl (by decide +kernel) (by decide) (by decide) (Nat.le_of_ble_eq_true rfl) dX6_doDeed_189 (fun H locs hP hz_ hS => ?_)
    obtain ⟨s_61, es_61⟩ : ∃ q, q = (gb_su s_10 109 (upd (s_10.1 109) 10 1)) := ⟨_, rfl⟩
    replace hP : va_P D vwCl (gb_wl b (gb_CW cT b s_61)) H := by rw [es_61]; exact hP
    replace h := gb_lt_s es_61 h
    refine lv_goto (tgt := 216) hx hb dX6_doDeed_192 (by decide) ?_
    obtain ⟨e1, -⟩ := gb_eq2 h
    exact W.vret hx hb hr (fun t ht hW => gb_rv ht (by rw [← e1]; exact hP) hS) hS.2.2 dX6_doDeed_216
  rw [if_neg c_60] at h
  by_cases c_62 : r_11 = (7 : Int32)
  · rw [if_pos c_62] at h
    refine lv_tableIn (off := 174) (tgt := 195) hx hb dX6_doDeed_21 (by rw [c_62]; decide) (by rw [c_62]; decide) (by rw [c_62]; decide) (by decide) ?_
    refine lv_aload_n hx hb dX6_doDeed_195 rfl (lv_at hl 2 rfl) ?_
    refine lv_iconst (v := 0) hx hb dX6_doDeed_196 (by decide) ?_
    refine gb_put (ci := 5) (v := (.int 0)) (ty := .boolean) (C := RX6) (T := TX6) (N := 12) hx hb hq i_X6 tyX6 tyX6_ok nmX6 hown hK hP (fun k h => ⟨Nat.le_add_right b k, Nat.add_lt_add_left h b⟩) hS rfl 109 rfl rfl 10 (by decide) (hq _ w_214) (fun _ h9 => h9) rfl (by decide +kernel) (by decide) (by decide) (Nat.le_of_ble_eq_true rfl) dX6_doDeed_197 (fun H locs hP hz_ hS => ?_)
    obtain ⟨s_63, es_63⟩ : ∃ q, q = (gb_su s_10 109 (upd (s_10.1 109) 10 0)) := ⟨_, rfl⟩
    replace hP : va_P D vwCl (gb_wl b (gb_CW cT b s_63)) H := by rw [es_63]; exact hP
    replace h := gb_lt_s es_63 h
    refine lv_goto (tgt := 216) hx hb dX6_doDeed_200 (by decide) ?_
    obtain ⟨e1, -⟩ := gb_eq2 h
    exact W.vret hx hb hr (fun t ht hW => gb_rv ht (by rw [← e1]; exact hP) hS) hS.2.2 dX6_doDeed_216
  rw [if_neg c_62] at h
  by_cases c_64 : r_11 = (8 : Int32)
  · rw [if_pos c_64] at h
    refine lv_tableIn (off := 182) (tgt := 203) hx hb dX6_doDeed_21 (by rw [c_64]; decide) (by rw [c_64]; decide) (by rw [c_64]; decide) (by decide) ?_
    refine lv_aload_n hx hb dX6_doDeed_203 rfl (lv_at hl 2 rfl) ?_
    refine lv_aload_n hx hb dX6_doDeed_204 rfl (lv_at hl 2 rfl) ?_
    refine lv_iload hx hb dX6_doDeed_205 (lv_at hl 1 rfl) ?_
    obtain ⟨s_65, r_66, z_67, h⟩ := gb_cd_s h
    refine gb_calli (va_runV (C := RX6) (As := [.int r_3]) (rest := [.ref (b + 109)]) ⟨hx, hb, hml, hown, hq⟩ (cc_Play_latestGoer l D cT tt b1 b hb1 n s_10 r_3 s_65 r_66 z_67) (cwV 1 hq (gb_gV w_734 w_736 s_1_14 w_11 w_737) rfl rfl rfl (by decide +kernel) ⟨Nat.le_of_ble_eq_true rfl, Nat.le_of_ble_eq_true rfl⟩) (gb_preV (r := (RX6, TX6, 12)) (ci := 5) (q0 := 109) hSt hP rfl (gb_at b rfl) hS (fun q h => Nat.le_trans hb1 h.1) hP) rfl rfl hl.1 rfl (lv_room (Nat.le_of_ble_eq_true rfl)) dX6_doDeed_207 ⟨Nat.le_of_ble_eq_true rfl, Nat.le_of_ble_eq_true rfl⟩) hS (fun _ h => h) (fun _ h => h) (fun q_68 H locs hY hk hS => ?_)
    obtain ⟨hq_68, hP⟩ := hY
    replace hq_68 := hq_68.symm
    subst hq_68
    obtain ⟨s_69, r_70, z_71, h⟩ := gb_cd_s h
    refine gb_callv (va_runV (C := RX6) (As := [.int r_66]) (rest := []) ⟨hx, hb, hml, hown, hq⟩ (cc_Play_eat l D cT tt b1 b hb1 n s_65 r_66 s_69 r_70 z_71) (cwV 1 hq (gb_gV w_755 w_757 s_2_0 w_11 w_758) rfl rfl rfl (by decide +kernel) ⟨Nat.le_of_ble_eq_true rfl, Nat.le_of_ble_eq_true rfl⟩) (gb_preV (r := (RX6, TX6, 12)) (ci := 5) (q0 := 109) hSt hP rfl (gb_at b rfl) hS (fun q h => Nat.le_trans hb1 h.1) hP) rfl rfl hl.1 rfl (lv_room (Nat.le_of_ble_eq_true rfl)) dX6_doDeed_210 ⟨Nat.le_of_ble_eq_true rfl, Nat.le_of_ble_eq_true rfl⟩) hS (fun _ h => h) (fun _ h => h) (fun H locs hY hk hS => ?_)
    have hP := hY
    refine lv_goto (tgt := 216) hx hb dX6_doDeed_213 (by decide) ?_
    obtain ⟨e1, -⟩ := gb_eq2 h
    exact W.vret hx hb hr (fun t ht hW => gb_rv ht (by rw [← e1]; exact hP) hS) hS.2.2 dX6_doDeed_216
  rw [if_neg c_64] at h
  refine lv_tableOut (tgt := 216) hx hb dX6_doDeed_21 (by have := lv_neT c_14 (a := 0) rfl; have := lv_neT c_24 (a := 1) rfl; have := lv_neT c_29 (a := 2) rfl; have := lv_neT c_34 (a := 3) rfl; have := lv_neT c_51 (a := 4) rfl; have := lv_neT c_55 (a := 5) rfl; have := lv_neT c_60 (a := 6) rfl; have := lv_neT c_62 (a := 7) rfl; have := lv_neT c_64 (a := 8) rfl; omega) (by decide) ?_
  obtain ⟨e1, -⟩ := gb_eq2 h
  exact W.vret hx hb hr (fun t ht hW => gb_rv ht (by rw [← e1]; exact hP) hS) hS.2.2 dX6_doDeed_216
theorem w_742 : (Cond.code ({ cls := "GooseBorder$Play", name := "doDeed", desc := "(LGooseBorder$Night;IZ)V" } : MethodName) prog_8_method_6_code (6 : Nat) (Option.none : Option FieldType)) ∈ gb_wA := gb_t4 22 rfl rfl
theorem w_739 : (Cond.methodLink "GooseBorder$Play" (87 : Nat) ({ cls := "GooseBorder$Play", name := "doDeed", desc := "(LGooseBorder$Night;IZ)V" } : MethodName)) ∈ gb_wA := gb_t4 19 rfl rfl
theorem w_741 : (Cond.instanceMethod ({ cls := "GooseBorder$Play", name := "doDeed", desc := "(LGooseBorder$Night;IZ)V" } : MethodName)) ∈ gb_wA := gb_t4 21 rfl rfl
theorem s_1_15 : Cond.selects "GooseBorder$Play" (⟨"GooseBorder$Play", "doDeed", "(LGooseBorder$Night;IZ)V"⟩ : MethodName) (⟨"GooseBorder$Play", "doDeed", "(LGooseBorder$Night;IZ)V"⟩ : MethodName) ∈ gb_wA := gb_s1 15 rfl rfl
theorem dX6_run_55 : decode cX6_run 55 = .ok (.aload_n 0, 1) := dc_42 (show ((cX6_run.data.toList.drop 55).take 1).map UInt8.toNat = [42] by decide +kernel)
theorem dX6_run_56 : decode cX6_run 56 = .ok (.iload 6, 2) := dc_21 (show ((cX6_run.data.toList.drop 56).take 2).map UInt8.toNat = [21, 6] by decide +kernel) rfl
theorem dX6_run_58 : decode cX6_run 58 = .ok (.iconst 1, 1) := dc_4 (show ((cX6_run.data.toList.drop 58).take 1).map UInt8.toNat = [4] by decide +kernel)
theorem dX6_run_59 : decode cX6_run 59 = .ok (.iadd, 1) := dc_96 (show ((cX6_run.data.toList.drop 59).take 1).map UInt8.toNat = [96] by decide +kernel)
theorem dX6_run_60 : decode cX6_run 60 = .ok (.putfield 64, 3) := dc_181 (show ((cX6_run.data.toList.drop 60).take 3).map UInt8.toNat = [181, 0, 64] by decide +kernel) rfl
theorem dX6_run_63 : decode cX6_run 63 = .ok (.iinc 6 1, 3) := dc_132 (show ((cX6_run.data.toList.drop 63).take 3).map UInt8.toNat = [132, 6, 1] by decide +kernel) rfl
theorem dX6_run_66 : decode cX6_run 66 = .ok (.goto (-48), 3) := dc_167 (show ((cX6_run.data.toList.drop 66).take 3).map UInt8.toNat = [167, 255, 208] by decide +kernel) rfl
theorem dX6_run_47 : decode cX6_run 47 = .ok (.iconst 1, 1) := dc_4 (show ((cX6_run.data.toList.drop 47).take 1).map UInt8.toNat = [4] by decide +kernel)
theorem dX6_run_48 : decode cX6_run 48 = .ok (.goto 4, 3) := dc_167 (show ((cX6_run.data.toList.drop 48).take 3).map UInt8.toNat = [167, 0, 4] by decide +kernel) rfl
theorem dX6_run_35 : decode cX6_run 35 = .ok (.return_, 1) := dc_177 (show ((cX6_run.data.toList.drop 35).take 1).map UInt8.toNat = [177] by decide +kernel)
def cs_Play_run_B_N_18 (n : Nat) : Nat → gb_S → Nat → Int32 → Int32 → Int32 → gb_CR Unit
  | 0, _, _, _, _, _ => none
  | mm + 1, σ, v2, v4, v5, v6 => gb_kk (gb_kN v2) ((if v5 ≤ v6 then some (σ, ()) else gb_cd (cs_Play_canBe_N n σ v2 v6) (fun s_14 r_15 => (if r_15 = 0 then some (s_14, ()) else (if v6 = v4 then gb_cd (cs_Play_doDeed_N n s_14 v2 v6 0) (fun s_20 _ => gb_lt (gb_su s_20 109 (upd (s_20.1 109) 11 (v6 + 1))) (fun s_24 => gb_lt (v6 + 1) (fun x_25 => cs_Play_run_B_N_18 n mm s_24 v2 v4 v5 x_25))) else gb_cd (cs_Play_doDeed_N n s_14 v2 v6 1) (fun s_26 _ => gb_lt (gb_su s_26 109 (upd (s_26.1 109) 11 (v6 + 1))) (fun s_30 => gb_lt (v6 + 1) (fun x_31 => cs_Play_run_B_N_18 n mm s_30 v2 v4 v5 x_31))))))))
def cs_Play_run_B_N (n : Nat) (σ : gb_S) (p1 : Nat) (p2 : Nat) (p3 : Int32) (p4 : Int32) : gb_CR Unit := gb_kk (gb_kB p1) (gb_kk (gb_kN p2) (gb_cd (cs_Play_begin_B n σ p1) (fun s_3 _ => gb_cd (cs_Lines_size_N n s_3 p2) (fun s_7 r_8 => gb_lt (if r_8 < p3 then r_8 else p3) (fun x_11 => cs_Play_run_B_N_18 n n s_7 p2 p4 x_11 0)))))
set_option maxHeartbeats 8000000 in
set_option maxRecDepth 100000 in
theorem cc_Play_run_B_N (l : Launch) (D : va_G) (cT : Nat → ClassId) (tt : Nat → Nat) (b1 b : Nat) (hb1 : b1 ≤ b) (n : Nat) (σ : gb_S) (p1 : Nat) (p2 : Nat) (p3 : Int32) (p4 : Int32) (σE : gb_S) (rE : Unit) (h : cs_Play_run_B_N n σ p1 p2 p3 p4 = some (σE, rE)) : Met l yX6_run (.code yX6_run cX6_run 7 none :: gb_wA) ({ frames := 4, cells := 0, slots := 0, locals := 99 }) (gb_Pc D cT tt b1 [.ref (b + 109), .ref (b + p1), .ref (b + p2), .int p3, .int p4] (fun h => va_P D vwCl (gb_wl b (gb_CW cT b σ)) h)) (gb_Qv (fun h => va_P D vwCl (gb_wl b (gb_CW cT b σE)) h) (gb_fr b 135)) 0 0 (gb_fr b 135) := by
  refine Met.ofW (cc := cX6_run) (maxL := 7) (ret := none) (by decide) rfl ?_
  intro p e s m args below meth c s₁ B hml hv
  obtain ⟨rfl, hSt, hP⟩ := hv
  have hx := B.exec
  have hb := B.bytes
  have hr := B.returns
  have hts := atoms_spec (ws := .code yX6_run cX6_run 7 none :: gb_wA) B.pre
  have hq : ∀ w ∈ gb_wA, w.before _ s = true := fun w h => hts w (List.mem_cons_of_mem _ h)
  have hown : s.vm.findClass RX6 = some m.cls := findClass_of_methodNamed B.named
  have hlocks := B.notSynchronized
  clear B hts
  have hK := hSt.1
  have hS : va_S (gb_fr b 135) s.heap s.heap [] := va_S.rf
  have hl := lv_entry ([.ref (b + 109), .ref (b + p1), .ref (b + p2), .int p3, .int p4]) (n := 7) (Nat.le_of_ble_eq_true rfl)
  rw [lg_entry_eq]
  generalize (lg_sl ([.ref (b + 109), .ref (b + p1), .ref (b + p2), .int p3, .int p4]) ++ List.replicate (7 - (lg_sl ([.ref (b + 109), .ref (b + p1), .ref (b + p2), .int p3, .int p4])).length) Slot.unset).toArray = ls at hl ⊢
  replace hl : lv_has ls 7 [(0, .ref (b + 109)), (1, .ref (b + p1)), (2, .ref (b + p2)), (3, .int p3), (4, .int p4)] := hl
  have L18_1 : ∀ (mm : Nat) (σ : gb_S) (v2 : Nat) (v4 : Int32) (v5 : Int32) (v6 : Int32) (H : Heap) (locs : List Loc) (ls : Array Slot), cs_Play_run_B_N_18 n mm σ v2 v4 v5 v6 = some (σE, rE) → va_P D vwCl (gb_wl b (gb_CW cT b σ)) H → va_S (gb_fr b 135) s.heap H locs → lv_has ls 7 [(0, .ref (b + 109)), (2, .ref (b + v2)), (4, .int v4), (5, .int v5), (6, .int v6)] → W p l e (headSpec (.code yX6_run cX6_run 7 none :: gb_wA) ({ frames := 4, cells := 0, slots := 0, locals := 99 })).room s m ([.ref (b + 109), .ref (b + p1), .ref (b + p2), .int p3, .int p4]).toArray below meth c H locs 0 0 (MQ below (gb_Qv (fun h => va_P D vwCl (gb_wl b (gb_CW cT b σE)) h) (gb_fr b 135)) ([.ref (b + 109), .ref (b + p1), .ref (b + p2), .int p3, .int p4]).toArray s 0 0 (gb_fr b 135)) (F0 m 18 ls []) := by
    clear h hP hS hl ls
    intro mm
    induction mm with
    | zero =>
      intro σ v2 v4 v5 v6 H locs ls h
      cases h
    | succ mm ih =>
      intro σ v2 v4 v5 v6 H locs ls h hP hS hl
      rw [cs_Play_run_B_N_18] at h
      obtain ⟨z_12, h⟩ := gb_kk_s h
      refine lv_iload hx hb dX6_run_18 (lv_at hl 4 rfl) ?_
      refine lv_iload hx hb dX6_run_20 (lv_at hl 3 rfl) ?_
      refine lv_icmp_ge (tgt := 69) hx hb dX6_run_22 (by decide) (fun c_13 => ?_) (fun c_13 => ?_)
      · rw [if_pos c_13] at h
        obtain ⟨e1, -⟩ := gb_eq2 h
        exact W.vret hx hb hr (fun t ht hW => gb_rv ht (by rw [← e1]; exact hP) hS) hS.2.2 dX6_run_69
      · rw [if_neg c_13] at h
        refine lv_aload_n hx hb dX6_run_25 rfl (lv_at hl 0 rfl) ?_
        refine lv_aload_n hx hb dX6_run_26 rfl (lv_at hl 1 rfl) ?_
        refine lv_iload hx hb dX6_run_27 (lv_at hl 4 rfl) ?_
        obtain ⟨s_14, r_15, z_16, h⟩ := gb_cd_s h
        refine gb_calli (va_runV (C := RX6) (As := [.ref (b + v2), .int v6]) (rest := []) ⟨hx, hb, hml, hown, hq⟩ (cc_Play_canBe_N l D cT tt b1 b hb1 n σ v2 v6 s_14 r_15 z_16) (cwV 2 hq (gb_gV w_719 w_721 s_1_12 w_11 w_722) rfl rfl rfl (by decide +kernel) ⟨Nat.le_of_ble_eq_true rfl, Nat.le_of_ble_eq_true rfl⟩) (gb_preV (r := (RX6, TX6, 12)) (ci := 5) (q0 := 109) hSt hP rfl (gb_at b rfl) hS (fun q h => Nat.le_trans hb1 h.1) hP) rfl rfl hl.1 rfl (lv_room (Nat.le_of_ble_eq_true rfl)) dX6_run_29 ⟨Nat.le_of_ble_eq_true rfl, Nat.le_of_ble_eq_true rfl⟩) hS (fun _ h => h) (fun _ h => h) (fun q_17 H locs hY hk hS => ?_)
        obtain ⟨hq_17, hP⟩ := hY
        replace hq_17 := hq_17.symm
        subst hq_17
        refine lv_if_ne (tgt := 36) hx hb dX6_run_32 (by decide) (fun c_18 => ?_) (fun c_18 => ?_)
        · rw [if_neg c_18] at h
          refine lv_aload_n hx hb dX6_run_36 rfl (lv_at hl 0 rfl) ?_
          refine lv_aload_n hx hb dX6_run_37 rfl (lv_at hl 1 rfl) ?_
          refine lv_iload hx hb dX6_run_38 (lv_at hl 4 rfl) ?_
          refine lv_iload hx hb dX6_run_40 (lv_at hl 4 rfl) ?_
          refine lv_iload hx hb dX6_run_42 (lv_at hl 2 rfl) ?_
          refine lv_icmp_eq (tgt := 51) hx hb dX6_run_44 (by decide) (fun c_19 => ?_) (fun c_19 => ?_)
          · rw [if_pos c_19] at h
            refine lv_iconst (v := 0) hx hb dX6_run_51 (by decide) ?_
            obtain ⟨s_20, r_21, z_22, h⟩ := gb_cd_s h
            refine gb_callv (va_runV (C := RX6) (As := [.ref (b + v2), .int v6, .int 0]) (rest := []) ⟨hx, hb, hml, hown, hq⟩ (cc_Play_doDeed_N l D cT tt b1 b hb1 n s_14 v2 v6 0 s_20 r_21 z_22) (cwV 3 hq (gb_gV w_739 w_741 s_1_15 w_11 w_742) rfl rfl rfl (by decide +kernel) ⟨Nat.le_of_ble_eq_true rfl, Nat.le_of_ble_eq_true rfl⟩) (gb_preV (r := (RX6, TX6, 12)) (ci := 5) (q0 := 109) hSt hP rfl (gb_at b rfl) hS (fun q h => Nat.le_trans hb1 h.1) hP) rfl rfl hl.1 rfl (lv_room (Nat.le_of_ble_eq_true rfl)) dX6_run_52 ⟨Nat.le_of_ble_eq_true rfl, Nat.le_of_ble_eq_true rfl⟩) hS (fun _ h => h) (fun _ h => h) (fun H locs hY hk hS => ?_)
            have hP := hY
            refine lv_aload_n hx hb dX6_run_55 rfl (lv_at hl 0 rfl) ?_
            refine lv_iload hx hb dX6_run_56 (lv_at hl 4 rfl) ?_
            refine lv_iconst (v := 1) hx hb dX6_run_58 (by decide) ?_
            refine lv_iadd hx hb dX6_run_59 ?_
            refine gb_put (ci := 5) (v := (.int (v6 + 1))) (ty := .int) (C := RX6) (T := TX6) (N := 12) hx hb hq i_X6 tyX6 tyX6_ok nmX6 hown hK hP (fun k h => ⟨Nat.le_add_right b k, Nat.add_lt_add_left h b⟩) hS rfl 109 rfl rfl 11 (by decide) (hq _ w_216) (fun _ h9 => h9) rfl (by decide +kernel) rfl rfl (Nat.le_of_ble_eq_true rfl) dX6_run_60 (fun H locs hP hz_ hS => ?_)
            obtain ⟨s_24, es_24⟩ : ∃ q, q = (gb_su s_20 109 (upd (s_20.1 109) 11 (v6 + 1))) := ⟨_, rfl⟩
            replace hP : va_P D vwCl (gb_wl b (gb_CW cT b s_24)) H := by rw [es_24]; exact hP
            replace h := gb_lt_s es_24 h
            obtain ⟨x_25, ex_25⟩ : ∃ q, q = (v6 + 1) := ⟨_, rfl⟩
            replace h := gb_lt_s ex_25 h
            refine lv_iinc (v := x_25) (lv' := [(6, .int x_25), (0, .ref (b + 109)), (2, .ref (b + v2)), (4, .int v4), (5, .int v5)]) hx hb dX6_run_63 hl (k := 4) rfl (by rw [ex_25]; rfl) (by decide) rfl (fun ls hl => ?_)
            refine lv_goto (tgt := 18) hx hb dX6_run_66 (by decide) ?_
            exact ih _ _ _ _ _ _ _ _ h hP hS (lv_sub hl [1, 2, 3, 4, 0] rfl)
          · rw [if_neg c_19] at h
            refine lv_iconst (v := 1) hx hb dX6_run_47 (by decide) ?_
            refine lv_goto (tgt := 52) hx hb dX6_run_48 (by decide) ?_
            obtain ⟨s_26, r_27, z_28, h⟩ := gb_cd_s h
            refine gb_callv (va_runV (C := RX6) (As := [.ref (b + v2), .int v6, .int 1]) (rest := []) ⟨hx, hb, hml, hown, hq⟩ (cc_Play_doDeed_N l D cT tt b1 b hb1 n s_14 v2 v6 1 s_26 r_27 z_28) (cwV 3 hq (gb_gV w_739 w_741 s_1_15 w_11 w_742) rfl rfl rfl (by decide +kernel) ⟨Nat.le_of_ble_eq_true rfl, Nat.le_of_ble_eq_true rfl⟩) (gb_preV (r := (RX6, TX6, 12)) (ci := 5) (q0 := 109) hSt hP rfl (gb_at b rfl) hS (fun q h => Nat.le_trans hb1 h.1) hP) rfl rfl hl.1 rfl (lv_room (Nat.le_of_ble_eq_true rfl)) dX6_run_52 ⟨Nat.le_of_ble_eq_true rfl, Nat.le_of_ble_eq_true rfl⟩) hS (fun _ h => h) (fun _ h => h) (fun H locs hY hk hS => ?_)
            have hP := hY
            refine lv_aload_n hx hb dX6_run_55 rfl (lv_at hl 0 rfl) ?_
            refine lv_iload hx hb dX6_run_56 (lv_at hl 4 rfl) ?_
            refine lv_iconst (v := 1) hx hb dX6_run_58 (by decide) ?_
            refine lv_iadd hx hb dX6_run_59 ?_
            refine gb_put (ci := 5) (v := (.int (v6 + 1))) (ty := .int) (C := RX6) (T := TX6) (N := 12) hx hb hq i_X6 tyX6 tyX6_ok nmX6 hown hK hP (fun k h => ⟨Nat.le_add_right b k, Nat.add_lt_add_left h b⟩) hS rfl 109 rfl rfl 11 (by decide) (hq _ w_216) (fun _ h9 => h9) rfl (by decide +kernel) rfl rfl (Nat.le_of_ble_eq_true rfl) dX6_run_60 (fun H locs hP hz_ hS => ?_)
            obtain ⟨s_30, es_30⟩ : ∃ q, q = (gb_su s_26 109 (upd (s_26.1 109) 11 (v6 + 1))) := ⟨_, rfl⟩
            replace hP : va_P D vwCl (gb_wl b (gb_CW cT b s_30)) H := by rw [es_30]; exact hP
            replace h := gb_lt_s es_30 h
            obtain ⟨x_31, ex_31⟩ : ∃ q, q = (v6 + 1) := ⟨_, rfl⟩
            replace h := gb_lt_s ex_31 h
            refine lv_iinc (v := x_31) (lv' := [(6, .int x_31), (0, .ref (b + 109)), (2, .ref (b + v2)), (4, .int v4), (5, .int v5)]) hx hb dX6_run_63 hl (k := 4) rfl (by rw [ex_31]; rfl) (by decide) rfl (fun ls hl => ?_)
            refine lv_goto (tgt := 18) hx hb dX6_run_66 (by decide) ?_
            exact ih _ _ _ _ _ _ _ _ h hP hS (lv_sub hl [1, 2, 3, 4, 0] rfl)
        · rw [if_pos c_18] at h
          obtain ⟨e1, -⟩ := gb_eq2 h
          exact W.vret hx hb hr (fun t ht hW => gb_rv ht (by rw [← e1]; exact hP) hS) hS.2.2 dX6_run_35
  unfold cs_Play_run_B_N at h
  obtain ⟨z_1, h⟩ := gb_kk_s h
  obtain ⟨z_2, h⟩ := gb_kk_s h
  refine lv_aload_n hx hb dX6_run_0 rfl (lv_at hl 0 rfl) ?_
  refine lv_aload_n hx hb dX6_run_1 rfl (lv_at hl 1 rfl) ?_
  obtain ⟨s_3, r_4, z_5, h⟩ := gb_cd_s h
  refine gb_callv (va_runV (C := RX6) (As := [.ref (b + p1)]) (rest := []) ⟨hx, hb, hml, hown, hq⟩ (cc_Play_begin_B l D cT tt b1 b hb1 n σ p1 s_3 r_4 z_5) (cwV 1 hq (gb_gV w_708 w_709 w_710 w_11 w_711) rfl rfl rfl (by decide +kernel) ⟨Nat.le_of_ble_eq_true rfl, Nat.le_of_ble_eq_true rfl⟩) (gb_preV (r := (RX6, TX6, 12)) (ci := 5) (q0 := 109) hSt hP rfl (gb_at b rfl) hS (fun q h => Nat.le_trans hb1 h.1) hP) rfl rfl hl.1 rfl (lv_room (Nat.le_of_ble_eq_true rfl)) dX6_run_2 ⟨Nat.le_of_ble_eq_true rfl, Nat.le_of_ble_eq_true rfl⟩) hS (fun _ h => h) (fun _ h => h) (fun H locs hY hk hS => ?_)
  have hP := hY
  refine lv_iload_n hx hb dX6_run_5 rfl (lv_at hl 3 rfl) ?_
  refine lv_aload_n hx hb dX6_run_6 rfl (lv_at hl 2 rfl) ?_
  obtain ⟨s_7, r_8, z_9, h⟩ := gb_cd_s h
  refine gb_calli (va_runU (x := ⟨"GooseBorder$Night", "size", "()I"⟩) (C := RX5) (owner := "GooseBorder$Lines") (As := []) (rest := [.int p3]) ⟨hx, hb, hml, hown, hq⟩ (cc_Lines_size_N l D cT tt b1 b hb1 n s_3 p2 s_7 r_8 z_9) (va_cwU (owner := "GooseBorder$Lines") (C := RX5) 0 hq (gb_gU w_717 w_702 w_703 w_484 w_6 w_489) rfl rfl rfl rfl (by decide +kernel) ⟨Nat.le_of_ble_eq_true rfl, Nat.le_of_ble_eq_true rfl⟩) (gb_preV (r := (RX5, TX5, 4)) (ci := 4) (q0 := p2) hSt hP rfl (gb_at b (gb_cN z_2).1) hS (fun q h => Nat.le_trans hb1 h.1) hP) rfl rfl hl.1 rfl (lv_room (Nat.le_of_ble_eq_true rfl)) dX6_run_7 ⟨Nat.le_of_ble_eq_true rfl, Nat.le_of_ble_eq_true rfl⟩) hS (fun _ h => h) (fun _ h => h) (fun q_10 H locs hY hk hS => ?_)
  obtain ⟨hq_10, hP⟩ := hY
  replace hq_10 := hq_10.symm
  subst hq_10
  refine va_mmin hx hb (hml.trans hl.1.symm) hown (hq _ w_718) (hq _ w_367) (hq _ w_5) (hq _ w_368) (Nat.le_of_ble_eq_true rfl) (Nat.le_of_ble_eq_true rfl) (Nat.le_of_ble_eq_true rfl) (Nat.le_of_ble_eq_true rfl) dX6_run_10 ?_
  refine lv_topi (fun x_11 ex_11 => ?_)
  replace h := gb_lt_s ex_11 h
  refine lv_istore (lv' := [(5, .int x_11), (0, .ref (b + 109)), (1, .ref (b + p1)), (2, .ref (b + p2)), (3, .int p3), (4, .int p4)]) hx hb dX6_run_13 hl (by decide) rfl (fun ls hl => ?_)
  refine lv_iconst (v := 0) hx hb dX6_run_15 (by decide) ?_
  refine lv_istore (lv' := [(6, .int 0), (5, .int x_11), (0, .ref (b + 109)), (1, .ref (b + p1)), (2, .ref (b + p2)), (3, .int p3), (4, .int p4)]) hx hb dX6_run_16 hl (by decide) rfl (fun ls hl => ?_)
  exact L18_1 n _ _ _ _ _ _ _ _ h hP hS (lv_sub hl [2, 4, 6, 1, 0] rfl)
theorem w_707 : (Cond.code ({ cls := "GooseBorder$Play", name := "run", desc := "(LGooseBorder$Border;LGooseBorder$Night;II)V" } : MethodName) prog_8_method_3_code (7 : Nat) (Option.none : Option FieldType)) ∈ gb_wA := gb_t3 227 rfl rfl
theorem w_704 : (Cond.methodLink "GooseBorder" (252 : Nat) ({ cls := "GooseBorder$Play", name := "run", desc := "(LGooseBorder$Border;LGooseBorder$Night;II)V" } : MethodName)) ∈ gb_wA := gb_t3 224 rfl rfl
theorem w_705 : (Cond.instanceMethod ({ cls := "GooseBorder$Play", name := "run", desc := "(LGooseBorder$Border;LGooseBorder$Night;II)V" } : MethodName)) ∈ gb_wA := gb_t3 225 rfl rfl
theorem w_706 : (Cond.selects "GooseBorder$Play" ({ cls := "GooseBorder$Play", name := "run", desc := "(LGooseBorder$Border;LGooseBorder$Night;II)V" } : MethodName) ({ cls := "GooseBorder$Play", name := "run", desc := "(LGooseBorder$Border;LGooseBorder$Night;II)V" } : MethodName)) ∈ gb_wA := gb_t3 226 rfl rfl
theorem dX11_playedOut_24 : decode cX11_playedOut 24 = .ok (.iconst 1, 1) := dc_4 (show ((cX11_playedOut.data.toList.drop 24).take 1).map UInt8.toNat = [4] by decide +kernel)
theorem dX11_playedOut_25 : decode cX11_playedOut 25 = .ok (.ireturn, 1) := dc_172 (show ((cX11_playedOut.data.toList.drop 25).take 1).map UInt8.toNat = [172] by decide +kernel)
def cs_Face_playedOut_B_N (n : Nat) (σ : gb_S) (p1 : Nat) (p2 : Nat) : gb_CR Int32 := gb_kk (gb_kB p1) (gb_kk (gb_kN p2) (gb_cd (cs_Lines_size_N n σ p2) (fun s_3 r_4 => gb_cd (cs_Play_run_B_N n s_3 p1 p2 r_4 (-1)) (fun s_7 _ => some (s_7, 1)))))
set_option maxHeartbeats 8000000 in
set_option maxRecDepth 100000 in
theorem cc_Face_playedOut_B_N (l : Launch) (D : va_G) (cT : Nat → ClassId) (tt : Nat → Nat) (b1 b : Nat) (hb1 : b1 ≤ b) (n : Nat) (σ : gb_S) (p1 : Nat) (p2 : Nat) (σE : gb_S) (rE : Int32) (h : cs_Face_playedOut_B_N n σ p1 p2 = some (σE, rE)) : Met l yX11_playedOut (.code yX11_playedOut cX11_playedOut 3 (some FieldType.boolean) :: gb_wA) ({ frames := 5, cells := 0, slots := 0, locals := 125 }) (gb_Pc D cT tt b1 [.ref (b + 0), .ref (b + p1), .ref (b + p2)] (fun h => va_P D vwCl (gb_wl b (gb_CW cT b σ)) h)) (gb_Qi (fun r h => r = rE ∧ va_P D vwCl (gb_wl b (gb_CW cT b σE)) h) (gb_fr b 135)) 0 0 (gb_fr b 135) := by
  refine Met.ofW (cc := cX11_playedOut) (maxL := 3) (ret := (some FieldType.boolean)) (by decide) rfl ?_
  intro p e s m args below meth c s₁ B hml hv
  obtain ⟨rfl, hSt, hP⟩ := hv
  have hx := B.exec
  have hb := B.bytes
  have hr := B.returns
  have hts := atoms_spec (ws := .code yX11_playedOut cX11_playedOut 3 (some FieldType.boolean) :: gb_wA) B.pre
  have hq : ∀ w ∈ gb_wA, w.before _ s = true := fun w h => hts w (List.mem_cons_of_mem _ h)
  have hown : s.vm.findClass RX11 = some m.cls := findClass_of_methodNamed B.named
  have hlocks := B.notSynchronized
  clear B hts
  have hK := hSt.1
  have hS : va_S (gb_fr b 135) s.heap s.heap [] := va_S.rf
  have hl := lv_entry ([.ref (b + 0), .ref (b + p1), .ref (b + p2)]) (n := 3) (Nat.le_of_ble_eq_true rfl)
  rw [lg_entry_eq]
  generalize (lg_sl ([.ref (b + 0), .ref (b + p1), .ref (b + p2)]) ++ List.replicate (3 - (lg_sl ([.ref (b + 0), .ref (b + p1), .ref (b + p2)])).length) Slot.unset).toArray = ls at hl ⊢
  replace hl : lv_has ls 3 [(0, .ref (b + 0)), (1, .ref (b + p1)), (2, .ref (b + p2))] := hl
  unfold cs_Face_playedOut_B_N at h
  obtain ⟨z_1, h⟩ := gb_kk_s h
  obtain ⟨z_2, h⟩ := gb_kk_s h
  refine lv_aload_n hx hb dX11_playedOut_0 rfl (lv_at hl 1 rfl) ?_
  refine lv_ifnull hx hb dX11_playedOut_1 ?_
  refine lv_aload_n hx hb dX11_playedOut_4 rfl (lv_at hl 2 rfl) ?_
  refine lv_ifnonnull (tgt := 10) hx hb dX11_playedOut_5 (by decide) ?_
  refine lv_aload_n hx hb dX11_playedOut_10 rfl (lv_at hl 0 rfl) ?_
  refine va_get (ci := 9) (v := (.ref (b + 109))) (C := RX11) (T := TX11) (N := 10) hx hb hq i_X11 hown hK hP 0 (gb_at b rfl) rfl 6 (by decide) (hq _ w_321) (fun _ h9 => h9) rfl dX11_playedOut_11 ?_
  refine lv_aload_n hx hb dX11_playedOut_14 rfl (lv_at hl 1 rfl) ?_
  refine lv_aload_n hx hb dX11_playedOut_15 rfl (lv_at hl 2 rfl) ?_
  refine lv_aload_n hx hb dX11_playedOut_16 rfl (lv_at hl 2 rfl) ?_
  obtain ⟨s_3, r_4, z_5, h⟩ := gb_cd_s h
  refine gb_calli (va_runU (x := ⟨"GooseBorder$Night", "size", "()I"⟩) (C := RX5) (owner := "GooseBorder$Lines") (As := []) (rest := [.ref (b + p2), .ref (b + p1), .ref (b + 109)]) ⟨hx, hb, hml, hown, hq⟩ (cc_Lines_size_N l D cT tt b1 b hb1 n σ p2 s_3 r_4 z_5) (va_cwU (owner := "GooseBorder$Lines") (C := RX5) 0 hq (gb_gU w_701 w_702 w_703 w_484 w_6 w_489) rfl rfl rfl rfl (by decide +kernel) ⟨Nat.le_of_ble_eq_true rfl, Nat.le_of_ble_eq_true rfl⟩) (gb_preV (r := (RX5, TX5, 4)) (ci := 4) (q0 := p2) hSt hP rfl (gb_at b (gb_cN z_2).1) hS (fun q h => Nat.le_trans hb1 h.1) hP) rfl rfl hl.1 rfl (lv_room (Nat.le_of_ble_eq_true rfl)) dX11_playedOut_17 ⟨Nat.le_of_ble_eq_true rfl, Nat.le_of_ble_eq_true rfl⟩) hS (fun _ h => h) (fun _ h => h) (fun q_6 H locs hY hk hS => ?_)
  obtain ⟨hq_6, hP⟩ := hY
  replace hq_6 := hq_6.symm
  subst hq_6
  refine lv_iconst (v := (-1)) hx hb dX11_playedOut_20 (by decide) ?_
  obtain ⟨s_7, r_8, z_9, h⟩ := gb_cd_s h
  refine gb_callv (va_runV (C := RX6) (As := [.ref (b + p1), .ref (b + p2), .int r_4, .int (-1)]) (rest := []) ⟨hx, hb, hml, hown, hq⟩ (cc_Play_run_B_N l D cT tt b1 b hb1 n s_3 p1 p2 r_4 (-1) s_7 r_8 z_9) (cwV 4 hq (gb_gV w_704 w_705 w_706 w_11 w_707) rfl rfl rfl (by decide +kernel) ⟨Nat.le_of_ble_eq_true rfl, Nat.le_of_ble_eq_true rfl⟩) (gb_preV (r := (RX6, TX6, 12)) (ci := 5) (q0 := 109) hSt hP rfl (gb_at b rfl) hS (fun q h => Nat.le_trans hb1 h.1) hP) rfl rfl hl.1 rfl (lv_room (Nat.le_of_ble_eq_true rfl)) dX11_playedOut_21 ⟨Nat.le_of_ble_eq_true rfl, Nat.le_of_ble_eq_true rfl⟩) hS (fun _ h => h) (fun _ h => h) (fun H locs hY hk hS => ?_)
  have hP := hY
  refine lv_iconst (v := 1) hx hb dX11_playedOut_24 (by decide) ?_
  obtain ⟨e1, e2⟩ := gb_eq2 h
  exact W.zret (v := 1) hx hb hr (by decide) (fun t ht hW => gb_ri ht ⟨e2, by rw [← e1]; exact hP⟩ hS) hS.2.2 dX11_playedOut_25
def cs_Face_stop (n : Nat) (σ : gb_S) (p1 : Int32) (p2 : Int32) : gb_CR Int32 := gb_cd (cs_Face_borderAt n σ p1) (fun s_1 r_2 => (if r_2 = 0 then gb_cd (cs_Face_nightAt n s_1 p2) (fun s_6 r_7 => (if r_7 = 0 then gb_cd (cs_Face_playedOut_n_n n s_6) (fun s_11 r_12 => (if r_12 = 0 then some (s_11, (-1)) else some (s_11, (s_11.1 109 11)))) else gb_kk (gb_kN r_7) (gb_cd (cs_Face_playedOut_n_N n s_6 r_7) (fun s_17 r_18 => (if r_18 = 0 then some (s_17, (-1)) else some (s_17, (s_17.1 109 11))))))) else gb_kk (gb_kB r_2) (gb_cd (cs_Face_nightAt n s_1 p2) (fun s_23 r_24 => (if r_24 = 0 then gb_cd (cs_Face_playedOut_B_n n s_23 r_2) (fun s_28 r_29 => (if r_29 = 0 then some (s_28, (-1)) else some (s_28, (s_28.1 109 11)))) else gb_kk (gb_kN r_24) (gb_cd (cs_Face_playedOut_B_N n s_23 r_2 r_24) (fun s_34 r_35 => (if r_35 = 0 then some (s_34, (-1)) else some (s_34, (s_34.1 109 11))))))))))
set_option maxHeartbeats 8000000 in
set_option maxRecDepth 100000 in
theorem cc_Face_stop (l : Launch) (D : va_G) (cT : Nat → ClassId) (tt : Nat → Nat) (b1 b : Nat) (hb1 : b1 ≤ b) (n : Nat) (σ : gb_S) (p1 : Int32) (p2 : Int32) (σE : gb_S) (rE : Int32) (h : cs_Face_stop n σ p1 p2 = some (σE, rE)) : Met l yX11_stop (.code yX11_stop cX11_stop 3 (some FieldType.int) :: gb_wA) ({ frames := 6, cells := 0, slots := 0, locals := 147 }) (gb_Pc D cT tt b1 [.ref (b + 0), .int p1, .int p2] (fun h => va_P D vwCl (gb_wl b (gb_CW cT b σ)) h)) (gb_Qi (fun r h => r = rE ∧ va_P D vwCl (gb_wl b (gb_CW cT b σE)) h) (gb_fr b 135)) 0 0 (gb_fr b 135) := by
  refine Met.ofW (cc := cX11_stop) (maxL := 3) (ret := (some FieldType.int)) (by decide) rfl ?_
  intro p e s m args below meth c s₁ B hml hv
  obtain ⟨rfl, hSt, hP⟩ := hv
  have hx := B.exec
  have hb := B.bytes
  have hr := B.returns
  have hts := atoms_spec (ws := .code yX11_stop cX11_stop 3 (some FieldType.int) :: gb_wA) B.pre
  have hq : ∀ w ∈ gb_wA, w.before _ s = true := fun w h => hts w (List.mem_cons_of_mem _ h)
  have hown : s.vm.findClass RX11 = some m.cls := findClass_of_methodNamed B.named
  have hlocks := B.notSynchronized
  clear B hts
  have hK := hSt.1
  have hS : va_S (gb_fr b 135) s.heap s.heap [] := va_S.rf
  have hl := lv_entry ([.ref (b + 0), .int p1, .int p2]) (n := 3) (Nat.le_of_ble_eq_true rfl)
  rw [lg_entry_eq]
  generalize (lg_sl ([.ref (b + 0), .int p1, .int p2]) ++ List.replicate (3 - (lg_sl ([.ref (b + 0), .int p1, .int p2])).length) Slot.unset).toArray = ls at hl ⊢
  replace hl : lv_has ls 3 [(0, .ref (b + 0)), (1, .int p1), (2, .int p2)] := hl
  unfold cs_Face_stop at h
  refine lv_aload_n hx hb dX11_stop_0 rfl (lv_at hl 0 rfl) ?_
  refine lv_aload_n hx hb dX11_stop_1 rfl (lv_at hl 0 rfl) ?_
  refine lv_iload_n hx hb dX11_stop_2 rfl (lv_at hl 1 rfl) ?_
  obtain ⟨s_1, r_2, z_3, h⟩ := gb_cd_s h
  refine gb_callq (va_runV (C := RX11) (As := [.int p1]) (rest := [.ref (b + 0)]) ⟨hx, hb, hml, hown, hq⟩ (cc_Face_borderAt l D cT tt b1 b hb1 n σ p1 s_1 r_2 z_3) (cwV 1 hq (gb_gV w_593 w_595 s_1_7 w_1 w_596) rfl rfl rfl (by decide +kernel) ⟨Nat.le_of_ble_eq_true rfl, Nat.le_of_ble_eq_true rfl⟩) (gb_preV (r := (RX11, TX11, 10)) (ci := 9) (q0 := 0) hSt hP rfl (gb_at b rfl) hS (fun q h => Nat.le_trans hb1 h.1) hP) rfl rfl hl.1 rfl (lv_room (Nat.le_of_ble_eq_true rfl)) dX11_stop_3 ⟨Nat.le_of_ble_eq_true rfl, Nat.le_of_ble_eq_true rfl⟩) hS (fun _ h => h) (fun _ h => h) (fun q_4 H locs hY hk hS => ?_)
  obtain ⟨hq_4, hP⟩ := hY
  subst hq_4
  rw [gb_onv]
  by_cases c_5 : r_2 = 0
  · rw [if_pos c_5] at h
    rw [gb_nv0 c_5]
    refine lv_aload_n hx hb dX11_stop_6 rfl (lv_at hl 0 rfl) ?_
    refine lv_iload_n hx hb dX11_stop_7 rfl (lv_at hl 2 rfl) ?_
    obtain ⟨s_6, r_7, z_8, h⟩ := gb_cd_s h
    refine gb_callq (va_runV (C := RX11) (As := [.int p2]) (rest := [.null, .ref (b + 0)]) ⟨hx, hb, hml, hown, hq⟩ (cc_Face_nightAt l D cT tt b1 b hb1 n s_1 p2 s_6 r_7 z_8) (cwV 1 hq (gb_gV w_646 w_648 s_1_8 w_1 w_649) rfl rfl rfl (by decide +kernel) ⟨Nat.le_of_ble_eq_true rfl, Nat.le_of_ble_eq_true rfl⟩) (gb_preV (r := (RX11, TX11, 10)) (ci := 9) (q0 := 0) hSt hP rfl (gb_at b rfl) hS (fun q h => Nat.le_trans hb1 h.1) hP) rfl rfl hl.1 rfl (lv_room (Nat.le_of_ble_eq_true rfl)) dX11_stop_8 ⟨Nat.le_of_ble_eq_true rfl, Nat.le_of_ble_eq_true rfl⟩) hS (fun _ h => h) (fun _ h => h) (fun q_9 H locs hY hk hS => ?_)
    obtain ⟨hq_9, hP⟩ := hY
    subst hq_9
    rw [gb_onv]
    by_cases c_10 : r_7 = 0
    · rw [if_pos c_10] at h
      rw [gb_nv0 c_10]
      obtain ⟨s_11, r_12, z_13, h⟩ := gb_cd_s h
      refine gb_calli (va_runV (C := RX11) (As := [.null, .null]) (rest := []) ⟨hx, hb, hml, hown, hq⟩ (cc_Face_playedOut_n_n l D cT tt b1 b hb1 n s_6 s_11 r_12 z_13) (cwV 2 hq (gb_gV w_697 w_699 s_1_11 w_1 w_700) rfl rfl rfl (by decide +kernel) ⟨Nat.le_of_ble_eq_true rfl, Nat.le_of_ble_eq_true rfl⟩) (gb_preV (r := (RX11, TX11, 10)) (ci := 9) (q0 := 0) hSt hP rfl (gb_at b rfl) hS (fun q h => Nat.le_trans hb1 h.1) hP) rfl rfl hl.1 rfl (lv_room (Nat.le_of_ble_eq_true rfl)) dX11_stop_11 ⟨Nat.le_of_ble_eq_true rfl, Nat.le_of_ble_eq_true rfl⟩) hS (fun _ h => h) (fun _ h => h) (fun q_14 H locs hY hk hS => ?_)
      obtain ⟨hq_14, hP⟩ := hY
      replace hq_14 := hq_14.symm
      subst hq_14
      refine lv_if_eq (tgt := 27) hx hb dX11_stop_14 (by decide) (fun c_15 => ?_) (fun c_15 => ?_)
      · rw [if_pos c_15] at h
        refine lv_iconst (v := (-1)) hx hb dX11_stop_27 (by decide) ?_
        obtain ⟨e1, e2⟩ := gb_eq2 h
        exact W.iret (v := (-1)) hx hb hr (fun t ht hW => gb_ri ht ⟨e2, by rw [← e1]; exact hP⟩ hS) hS.2.2 dX11_stop_28
      · rw [if_neg c_15] at h
        refine lv_aload_n hx hb dX11_stop_17 rfl (lv_at hl 0 rfl) ?_
        refine va_get (ci := 9) (v := (.ref (b + 109))) (C := RX11) (T := TX11) (N := 10) hx hb hq i_X11 hown hK hP 0 (gb_at b rfl) rfl 6 (by decide) (hq _ w_321) (fun _ h9 => h9) rfl dX11_stop_18 ?_
        refine va_get (ci := 5) (v := (.int (s_11.1 109 11))) (C := RX6) (T := TX6) (N := 12) hx hb hq i_X6 hown hK hP 109 (gb_at b rfl) rfl 11 (by decide) (hq _ w_217) (fun _ h9 => h9) rfl dX11_stop_21 ?_
        refine lv_goto (tgt := 28) hx hb dX11_stop_24 (by decide) ?_
        obtain ⟨e1, e2⟩ := gb_eq2 h
        exact W.iret (v := (s_11.1 109 11)) hx hb hr (fun t ht hW => gb_ri ht ⟨e2, by rw [← e1]; exact hP⟩ hS) hS.2.2 dX11_stop_28
    rw [if_neg c_10] at h
    rw [gb_nv1 c_10]
    obtain ⟨z_16, h⟩ := gb_kk_s h
    obtain ⟨s_17, r_18, z_19, h⟩ := gb_cd_s h
    refine gb_calli (va_runV (C := RX11) (As := [.null, .ref (b + r_7)]) (rest := []) ⟨hx, hb, hml, hown, hq⟩ (cc_Face_playedOut_n_N l D cT tt b1 b hb1 n s_6 r_7 s_17 r_18 z_19) (cwV 2 hq (gb_gV w_697 w_699 s_1_11 w_1 w_700) rfl rfl rfl (by decide +kernel) ⟨Nat.le_of_ble_eq_true rfl, Nat.le_of_ble_eq_true rfl⟩) (gb_preV (r := (RX11, TX11, 10)) (ci := 9) (q0 := 0) hSt hP rfl (gb_at b rfl) hS (fun q h => Nat.le_trans hb1 h.1) hP) rfl rfl hl.1 rfl (lv_room (Nat.le_of_ble_eq_true rfl)) dX11_stop_11 ⟨Nat.le_of_ble_eq_true rfl, Nat.le_of_ble_eq_true rfl⟩) hS (fun _ h => h) (fun _ h => h) (fun q_20 H locs hY hk hS => ?_)
    obtain ⟨hq_20, hP⟩ := hY
    replace hq_20 := hq_20.symm
    subst hq_20
    refine lv_if_eq (tgt := 27) hx hb dX11_stop_14 (by decide) (fun c_21 => ?_) (fun c_21 => ?_)
    · rw [if_pos c_21] at h
      refine lv_iconst (v := (-1)) hx hb dX11_stop_27 (by decide) ?_
      obtain ⟨e1, e2⟩ := gb_eq2 h
      exact W.iret (v := (-1)) hx hb hr (fun t ht hW => gb_ri ht ⟨e2, by rw [← e1]; exact hP⟩ hS) hS.2.2 dX11_stop_28
    · rw [if_neg c_21] at h
      refine lv_aload_n hx hb dX11_stop_17 rfl (lv_at hl 0 rfl) ?_
      refine va_get (ci := 9) (v := (.ref (b + 109))) (C := RX11) (T := TX11) (N := 10) hx hb hq i_X11 hown hK hP 0 (gb_at b rfl) rfl 6 (by decide) (hq _ w_321) (fun _ h9 => h9) rfl dX11_stop_18 ?_
      refine va_get (ci := 5) (v := (.int (s_17.1 109 11))) (C := RX6) (T := TX6) (N := 12) hx hb hq i_X6 hown hK hP 109 (gb_at b rfl) rfl 11 (by decide) (hq _ w_217) (fun _ h9 => h9) rfl dX11_stop_21 ?_
      refine lv_goto (tgt := 28) hx hb dX11_stop_24 (by decide) ?_
      obtain ⟨e1, e2⟩ := gb_eq2 h
      exact W.iret (v := (s_17.1 109 11)) hx hb hr (fun t ht hW => gb_ri ht ⟨e2, by rw [← e1]; exact hP⟩ hS) hS.2.2 dX11_stop_28
  rw [if_neg c_5] at h
  rw [gb_nv1 c_5]
  obtain ⟨z_22, h⟩ := gb_kk_s h
  refine lv_aload_n hx hb dX11_stop_6 rfl (lv_at hl 0 rfl) ?_
  refine lv_iload_n hx hb dX11_stop_7 rfl (lv_at hl 2 rfl) ?_
  obtain ⟨s_23, r_24, z_25, h⟩ := gb_cd_s h
  refine gb_callq (va_runV (C := RX11) (As := [.int p2]) (rest := [.ref (b + r_2), .ref (b + 0)]) ⟨hx, hb, hml, hown, hq⟩ (cc_Face_nightAt l D cT tt b1 b hb1 n s_1 p2 s_23 r_24 z_25) (cwV 1 hq (gb_gV w_646 w_648 s_1_8 w_1 w_649) rfl rfl rfl (by decide +kernel) ⟨Nat.le_of_ble_eq_true rfl, Nat.le_of_ble_eq_true rfl⟩) (gb_preV (r := (RX11, TX11, 10)) (ci := 9) (q0 := 0) hSt hP rfl (gb_at b rfl) hS (fun q h => Nat.le_trans hb1 h.1) hP) rfl rfl hl.1 rfl (lv_room (Nat.le_of_ble_eq_true rfl)) dX11_stop_8 ⟨Nat.le_of_ble_eq_true rfl, Nat.le_of_ble_eq_true rfl⟩) hS (fun _ h => h) (fun _ h => h) (fun q_26 H locs hY hk hS => ?_)
  obtain ⟨hq_26, hP⟩ := hY
  subst hq_26
  rw [gb_onv]
  by_cases c_27 : r_24 = 0
  · rw [if_pos c_27] at h
    rw [gb_nv0 c_27]
    obtain ⟨s_28, r_29, z_30, h⟩ := gb_cd_s h
    refine gb_calli (va_runV (C := RX11) (As := [.ref (b + r_2), .null]) (rest := []) ⟨hx, hb, hml, hown, hq⟩ (cc_Face_playedOut_B_n l D cT tt b1 b hb1 n s_23 r_2 s_28 r_29 z_30) (cwV 2 hq (gb_gV w_697 w_699 s_1_11 w_1 w_700) rfl rfl rfl (by decide +kernel) ⟨Nat.le_of_ble_eq_true rfl, Nat.le_of_ble_eq_true rfl⟩) (gb_preV (r := (RX11, TX11, 10)) (ci := 9) (q0 := 0) hSt hP rfl (gb_at b rfl) hS (fun q h => Nat.le_trans hb1 h.1) hP) rfl rfl hl.1 rfl (lv_room (Nat.le_of_ble_eq_true rfl)) dX11_stop_11 ⟨Nat.le_of_ble_eq_true rfl, Nat.le_of_ble_eq_true rfl⟩) hS (fun _ h => h) (fun _ h => h) (fun q_31 H locs hY hk hS => ?_)
    obtain ⟨hq_31, hP⟩ := hY
    replace hq_31 := hq_31.symm
    subst hq_31
    refine lv_if_eq (tgt := 27) hx hb dX11_stop_14 (by decide) (fun c_32 => ?_) (fun c_32 => ?_)
    · rw [if_pos c_32] at h
      refine lv_iconst (v := (-1)) hx hb dX11_stop_27 (by decide) ?_
      obtain ⟨e1, e2⟩ := gb_eq2 h
      exact W.iret (v := (-1)) hx hb hr (fun t ht hW => gb_ri ht ⟨e2, by rw [← e1]; exact hP⟩ hS) hS.2.2 dX11_stop_28
    · rw [if_neg c_32] at h
      refine lv_aload_n hx hb dX11_stop_17 rfl (lv_at hl 0 rfl) ?_
      refine va_get (ci := 9) (v := (.ref (b + 109))) (C := RX11) (T := TX11) (N := 10) hx hb hq i_X11 hown hK hP 0 (gb_at b rfl) rfl 6 (by decide) (hq _ w_321) (fun _ h9 => h9) rfl dX11_stop_18 ?_
      refine va_get (ci := 5) (v := (.int (s_28.1 109 11))) (C := RX6) (T := TX6) (N := 12) hx hb hq i_X6 hown hK hP 109 (gb_at b rfl) rfl 11 (by decide) (hq _ w_217) (fun _ h9 => h9) rfl dX11_stop_21 ?_
      refine lv_goto (tgt := 28) hx hb dX11_stop_24 (by decide) ?_
      obtain ⟨e1, e2⟩ := gb_eq2 h
      exact W.iret (v := (s_28.1 109 11)) hx hb hr (fun t ht hW => gb_ri ht ⟨e2, by rw [← e1]; exact hP⟩ hS) hS.2.2 dX11_stop_28
  rw [if_neg c_27] at h
  rw [gb_nv1 c_27]
  obtain ⟨z_33, h⟩ := gb_kk_s h
  obtain ⟨s_34, r_35, z_36, h⟩ := gb_cd_s h
  refine gb_calli (va_runV (C := RX11) (As := [.ref (b + r_2), .ref (b + r_24)]) (rest := []) ⟨hx, hb, hml, hown, hq⟩ (cc_Face_playedOut_B_N l D cT tt b1 b hb1 n s_23 r_2 r_24 s_34 r_35 z_36) (cwV 2 hq (gb_gV w_697 w_699 s_1_11 w_1 w_700) rfl rfl rfl (by decide +kernel) ⟨Nat.le_of_ble_eq_true rfl, Nat.le_of_ble_eq_true rfl⟩) (gb_preV (r := (RX11, TX11, 10)) (ci := 9) (q0 := 0) hSt hP rfl (gb_at b rfl) hS (fun q h => Nat.le_trans hb1 h.1) hP) rfl rfl hl.1 rfl (lv_room (Nat.le_of_ble_eq_true rfl)) dX11_stop_11 ⟨Nat.le_of_ble_eq_true rfl, Nat.le_of_ble_eq_true rfl⟩) hS (fun _ h => h) (fun _ h => h) (fun q_37 H locs hY hk hS => ?_)
  obtain ⟨hq_37, hP⟩ := hY
  replace hq_37 := hq_37.symm
  subst hq_37
  refine lv_if_eq (tgt := 27) hx hb dX11_stop_14 (by decide) (fun c_38 => ?_) (fun c_38 => ?_)
  · rw [if_pos c_38] at h
    refine lv_iconst (v := (-1)) hx hb dX11_stop_27 (by decide) ?_
    obtain ⟨e1, e2⟩ := gb_eq2 h
    exact W.iret (v := (-1)) hx hb hr (fun t ht hW => gb_ri ht ⟨e2, by rw [← e1]; exact hP⟩ hS) hS.2.2 dX11_stop_28
  · rw [if_neg c_38] at h
    refine lv_aload_n hx hb dX11_stop_17 rfl (lv_at hl 0 rfl) ?_
    refine va_get (ci := 9) (v := (.ref (b + 109))) (C := RX11) (T := TX11) (N := 10) hx hb hq i_X11 hown hK hP 0 (gb_at b rfl) rfl 6 (by decide) (hq _ w_321) (fun _ h9 => h9) rfl dX11_stop_18 ?_
    refine va_get (ci := 5) (v := (.int (s_34.1 109 11))) (C := RX6) (T := TX6) (N := 12) hx hb hq i_X6 hown hK hP 109 (gb_at b rfl) rfl 11 (by decide) (hq _ w_217) (fun _ h9 => h9) rfl dX11_stop_21 ?_
    refine lv_goto (tgt := 28) hx hb dX11_stop_24 (by decide) ?_
    obtain ⟨e1, e2⟩ := gb_eq2 h
    exact W.iret (v := (s_34.1 109 11)) hx hb hr (fun t ht hW => gb_ri ht ⟨e2, by rw [← e1]; exact hP⟩ hS) hS.2.2 dX11_stop_28
