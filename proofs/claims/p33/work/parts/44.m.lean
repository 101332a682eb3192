theorem dX12_bestPath_0 : decode cX12_bestPath 0 = .ok (.iconst (-1), 1) := dc_2 (show ((cX12_bestPath.data.toList.drop 0).take 1).map UInt8.toNat = [2] by decide +kernel)
theorem dX12_bestPath_1 : decode cX12_bestPath 1 = .ok (.istore_n 2, 1) := dc_61 (show ((cX12_bestPath.data.toList.drop 1).take 1).map UInt8.toNat = [61] by decide +kernel)
theorem dX12_bestPath_2 : decode cX12_bestPath 2 = .ok (.iconst 0, 1) := dc_3 (show ((cX12_bestPath.data.toList.drop 2).take 1).map UInt8.toNat = [3] by decide +kernel)
theorem dX12_bestPath_3 : decode cX12_bestPath 3 = .ok (.istore_n 3, 1) := dc_62 (show ((cX12_bestPath.data.toList.drop 3).take 1).map UInt8.toNat = [62] by decide +kernel)
theorem dX12_bestPath_4 : decode cX12_bestPath 4 = .ok (.iconst 0, 1) := dc_3 (show ((cX12_bestPath.data.toList.drop 4).take 1).map UInt8.toNat = [3] by decide +kernel)
theorem dX12_bestPath_5 : decode cX12_bestPath 5 = .ok (.istore 4, 2) := dc_54 (show ((cX12_bestPath.data.toList.drop 5).take 2).map UInt8.toNat = [54, 4] by decide +kernel) rfl
theorem dX12_bestPath_7 : decode cX12_bestPath 7 = .ok (.iload 4, 2) := dc_21 (show ((cX12_bestPath.data.toList.drop 7).take 2).map UInt8.toNat = [21, 4] by decide +kernel) rfl
theorem dX12_bestPath_9 : decode cX12_bestPath 9 = .ok (.aload_n 0, 1) := dc_42 (show ((cX12_bestPath.data.toList.drop 9).take 1).map UInt8.toNat = [42] by decide +kernel)
theorem dX12_bestPath_10 : decode cX12_bestPath 10 = .ok (.invokevirtual 199, 3) := dc_182 (show ((cX12_bestPath.data.toList.drop 10).take 3).map UInt8.toNat = [182, 0, 199] by decide +kernel) rfl
theorem dX12_bestPath_13 : decode cX12_bestPath 13 = .ok (.if_icmp .ge 51, 3) := dc_162 (show ((cX12_bestPath.data.toList.drop 13).take 3).map UInt8.toNat = [162, 0, 51] by decide +kernel) rfl
theorem dX12_bestPath_64 : decode cX12_bestPath 64 = .ok (.iload_n 2, 1) := dc_28 (show ((cX12_bestPath.data.toList.drop 64).take 1).map UInt8.toNat = [28] by decide +kernel)
theorem dX12_bestPath_65 : decode cX12_bestPath 65 = .ok (.ireturn, 1) := dc_172 (show ((cX12_bestPath.data.toList.drop 65).take 1).map UInt8.toNat = [172] by decide +kernel)
theorem dX12_bestPath_16 : decode cX12_bestPath 16 = .ok (.aload_n 0, 1) := dc_42 (show ((cX12_bestPath.data.toList.drop 16).take 1).map UInt8.toNat = [42] by decide +kernel)
theorem dX12_bestPath_17 : decode cX12_bestPath 17 = .ok (.iload 4, 2) := dc_21 (show ((cX12_bestPath.data.toList.drop 17).take 2).map UInt8.toNat = [21, 4] by decide +kernel) rfl
theorem dX12_bestPath_19 : decode cX12_bestPath 19 = .ok (.iconst 1, 1) := dc_4 (show ((cX12_bestPath.data.toList.drop 19).take 1).map UInt8.toNat = [4] by decide +kernel)
theorem dX12_bestPath_20 : decode cX12_bestPath 20 = .ok (.invokevirtual 211, 3) := dc_182 (show ((cX12_bestPath.data.toList.drop 20).take 3).map UInt8.toNat = [182, 0, 211] by decide +kernel) rfl
theorem dX12_bestPath_23 : decode cX12_bestPath 23 = .ok (.aload_n 0, 1) := dc_42 (show ((cX12_bestPath.data.toList.drop 23).take 1).map UInt8.toNat = [42] by decide +kernel)
theorem dX12_bestPath_24 : decode cX12_bestPath 24 = .ok (.aload_n 0, 1) := dc_42 (show ((cX12_bestPath.data.toList.drop 24).take 1).map UInt8.toNat = [42] by decide +kernel)
theorem dX12_bestPath_25 : decode cX12_bestPath 25 = .ok (.iload_n 1, 1) := dc_27 (show ((cX12_bestPath.data.toList.drop 25).take 1).map UInt8.toNat = [27] by decide +kernel)
theorem dX12_bestPath_26 : decode cX12_bestPath 26 = .ok (.iload 4, 2) := dc_21 (show ((cX12_bestPath.data.toList.drop 26).take 2).map UInt8.toNat = [21, 4] by decide +kernel) rfl
theorem dX12_bestPath_28 : decode cX12_bestPath 28 = .ok (.invokevirtual 297, 3) := dc_182 (show ((cX12_bestPath.data.toList.drop 28).take 3).map UInt8.toNat = [182, 1, 41] by decide +kernel) rfl
theorem dX12_bestPath_31 : decode cX12_bestPath 31 = .ok (.iload 4, 2) := dc_21 (show ((cX12_bestPath.data.toList.drop 31).take 2).map UInt8.toNat = [21, 4] by decide +kernel) rfl
theorem dX12_bestPath_33 : decode cX12_bestPath 33 = .ok (.invokevirtual 276, 3) := dc_182 (show ((cX12_bestPath.data.toList.drop 33).take 3).map UInt8.toNat = [182, 1, 20] by decide +kernel) rfl
theorem dX12_bestPath_36 : decode cX12_bestPath 36 = .ok (.imul, 1) := dc_104 (show ((cX12_bestPath.data.toList.drop 36).take 1).map UInt8.toNat = [104] by decide +kernel)
theorem dX12_bestPath_37 : decode cX12_bestPath 37 = .ok (.istore 5, 2) := dc_54 (show ((cX12_bestPath.data.toList.drop 37).take 2).map UInt8.toNat = [54, 5] by decide +kernel) rfl
theorem dX12_bestPath_39 : decode cX12_bestPath 39 = .ok (.iload_n 2, 1) := dc_28 (show ((cX12_bestPath.data.toList.drop 39).take 1).map UInt8.toNat = [28] by decide +kernel)
theorem dX12_bestPath_40 : decode cX12_bestPath 40 = .ok (.ifCond .lt 12, 3) := dc_155 (show ((cX12_bestPath.data.toList.drop 40).take 3).map UInt8.toNat = [155, 0, 12] by decide +kernel) rfl
theorem dX12_bestPath_52 : decode cX12_bestPath 52 = .ok (.iload 4, 2) := dc_21 (show ((cX12_bestPath.data.toList.drop 52).take 2).map UInt8.toNat = [21, 4] by decide +kernel) rfl
theorem dX12_bestPath_54 : decode cX12_bestPath 54 = .ok (.istore_n 2, 1) := dc_61 (show ((cX12_bestPath.data.toList.drop 54).take 1).map UInt8.toNat = [61] by decide +kernel)
theorem dX12_bestPath_55 : decode cX12_bestPath 55 = .ok (.iload 5, 2) := dc_21 (show ((cX12_bestPath.data.toList.drop 55).take 2).map UInt8.toNat = [21, 5] by decide +kernel) rfl
theorem dX12_bestPath_57 : decode cX12_bestPath 57 = .ok (.istore_n 3, 1) := dc_62 (show ((cX12_bestPath.data.toList.drop 57).take 1).map UInt8.toNat = [62] by decide +kernel)
theorem dX12_bestPath_58 : decode cX12_bestPath 58 = .ok (.iinc 4 1, 3) := dc_132 (show ((cX12_bestPath.data.toList.drop 58).take 3).map UInt8.toNat = [132, 4, 1] by decide +kernel) rfl
theorem dX12_bestPath_61 : decode cX12_bestPath 61 = .ok (.goto (-54), 3) := dc_167 (show ((cX12_bestPath.data.toList.drop 61).take 3).map UInt8.toNat = [167, 255, 202] by decide +kernel) rfl
theorem dX12_bestPath_43 : decode cX12_bestPath 43 = .ok (.iload 5, 2) := dc_21 (show ((cX12_bestPath.data.toList.drop 43).take 2).map UInt8.toNat = [21, 5] by decide +kernel) rfl
theorem dX12_bestPath_45 : decode cX12_bestPath 45 = .ok (.iload_n 3, 1) := dc_29 (show ((cX12_bestPath.data.toList.drop 45).take 1).map UInt8.toNat = [29] by decide +kernel)
theorem dX12_bestPath_46 : decode cX12_bestPath 46 = .ok (.if_icmp .gt 6, 3) := dc_163 (show ((cX12_bestPath.data.toList.drop 46).take 3).map UInt8.toNat = [163, 0, 6] by decide +kernel) rfl
theorem dX12_bestPath_49 : decode cX12_bestPath 49 = .ok (.goto 9, 3) := dc_167 (show ((cX12_bestPath.data.toList.drop 49).take 3).map UInt8.toNat = [167, 0, 9] by decide +kernel) rfl
def ms_bestPath_7 (n : Nat) : Nat → gb_F → Int64 → Int32 → Int32 → Int32 → Int32 → gb_MR Int32
  | 0, _, _, _, _, _, _ => none
  | mm + 1, f, w, v1, v2, v3, v4 => gb_bd (ms_paths n f w) (fun f_1 wl_2 r_3 => (if r_3 ≤ v4 then some (f_1, wl_2, v2) else gb_bd (ms_ofPath n f_1 wl_2 v4 1) (fun f_7 wl_8 r_9 => gb_bd (ms_firstMarks n f_7 wl_8 v1 v4) (fun f_12 wl_13 r_14 => gb_bd (ms_padded n f_12 wl_13 r_14 v4) (fun f_17 wl_18 r_19 => gb_lt (r_9 * r_19) (fun x_22 => (if v2 < 0 then gb_lt (v4 + 1) (fun x_24 => ms_bestPath_7 n mm f_17 wl_18 v1 v4 x_22 x_24) else (if v3 < x_22 then gb_lt (v4 + 1) (fun x_26 => ms_bestPath_7 n mm f_17 wl_18 v1 v4 x_22 x_26) else gb_lt (v4 + 1) (fun x_27 => ms_bestPath_7 n mm f_17 wl_18 v1 v2 v3 x_27)))))))))
def ms_bestPath (n : Nat) (f : gb_F) (w : Int64) (p1 : Int32) : gb_MR Int32 := ms_bestPath_7 n n f w p1 (-1) 0 0
set_option maxHeartbeats 8000000 in
set_option maxRecDepth 100000 in
theorem mc_bestPath (l : Launch) (D : va_G) (cT : Nat → ClassId) (tt : Nat → Nat) (b1 b : Nat) (hb1 : b1 ≤ b) (n : Nat) (f : gb_F) (w : Int64) (p1 : Int32) (fE : gb_F) (wE : Int64) (rE : Int32) (h : ms_bestPath n f w p1 = some (fE, wE, rE)) : Met l yX12_bestPath (.code yX12_bestPath cX12_bestPath 6 (some FieldType.int) :: gb_wA) ({ frames := 4, cells := 0, slots := 0, locals := 92 }) (gb_Pc D cT tt b1 [.ref (b + 0), .int p1] (fun h => va_P D vwCl (gb_wl b (gb_MW cT b f w)) h)) (gb_Qi (fun r h => r = rE ∧ va_P D vwCl (gb_wl b (gb_MW cT b fE wE)) h) (gb_fr b 22)) 0 0 (gb_fr b 22) := by
  refine Met.ofW (cc := cX12_bestPath) (maxL := 6) (ret := (some FieldType.int)) (by decide) rfl ?_
  intro p e s m args below meth c s₁ B hml hv
  obtain ⟨rfl, hSt, hP⟩ := hv
  have hx := B.exec
  have hb := B.bytes
  have hr := B.returns
  have hts := atoms_spec (ws := .code yX12_bestPath cX12_bestPath 6 (some FieldType.int) :: gb_wA) B.pre
  have hq : ∀ w ∈ gb_wA, w.before _ s = true := fun w h => hts w (List.mem_cons_of_mem _ h)
  have hown : s.vm.findClass RX12 = some m.cls := findClass_of_methodNamed B.named
  have hlocks := B.notSynchronized
  clear B hts
  have hK := hSt.1
  have hS : va_S (gb_fr b 22) s.heap s.heap [] := va_S.rf
  have hl := lv_entry ([.ref (b + 0), .int p1]) (n := 6) (Nat.le_of_ble_eq_true rfl)
  rw [lg_entry_eq]
  generalize (lg_sl ([.ref (b + 0), .int p1]) ++ List.replicate (6 - (lg_sl ([.ref (b + 0), .int p1])).length) Slot.unset).toArray = ls at hl ⊢
  replace hl : lv_has ls 6 [(0, .ref (b + 0)), (1, .int p1)] := hl
  have L7 : ∀ (mm : Nat) (f : gb_F) (w : Int64) (v1 : Int32) (v2 : Int32) (v3 : Int32) (v4 : Int32) (H : Heap) (locs : List Loc) (ls : Array Slot), ms_bestPath_7 n mm f w v1 v2 v3 v4 = some (fE, wE, rE) → va_P D vwCl (gb_wl b (gb_MW cT b f w)) H → va_S (gb_fr b 22) s.heap H locs → lv_has ls 6 [(0, .ref (b + 0)), (1, .int v1), (2, .int v2), (3, .int v3), (4, .int v4)] → W p l e (headSpec (.code yX12_bestPath cX12_bestPath 6 (some FieldType.int) :: gb_wA) ({ frames := 4, cells := 0, slots := 0, locals := 92 })).room s m ([.ref (b + 0), .int p1]).toArray below meth c H locs 0 0 (MQ below (gb_Qi (fun r h => r = rE ∧ va_P D vwCl (gb_wl b (gb_MW cT b fE wE)) h) (gb_fr b 22)) ([.ref (b + 0), .int p1]).toArray s 0 0 (gb_fr b 22)) (F0 m 7 ls []) := by
    clear h hP hS hl ls f w
    intro mm
    induction mm with
    | zero =>
      intro f w v1 v2 v3 v4 H locs ls h
      cases h
    | succ mm ih =>
      intro f w v1 v2 v3 v4 H locs ls h hP hS hl
      rw [ms_bestPath_7] at h
      refine lv_iload hx hb dX12_bestPath_7 (lv_at hl 4 rfl) ?_
      refine lv_aload_n hx hb dX12_bestPath_9 rfl (lv_at hl 0 rfl) ?_
      obtain ⟨f_1, wl_2, r_3, z_4, h⟩ := gb_bd_s h
      refine gb_calli (va_runV (C := RX12) (As := []) (rest := [.int v4]) ⟨hx, hb, hml, hown, hq⟩ (mc_paths l D cT tt b1 b hb1 n f w f_1 wl_2 r_3 z_4) (cwV 0 hq (gb_gV w_1384 w_1386 s_4_4 w_14 w_1387) rfl rfl rfl (by decide +kernel) ⟨Nat.le_of_ble_eq_true rfl, Nat.le_of_ble_eq_true rfl⟩) (gb_preV (r := (RX12, TX12, 44)) (ci := 10) (q0 := 0) hSt hP rfl (gb_at b rfl) hS (fun q h => Nat.le_trans hb1 h.1) hP) rfl rfl hl.1 rfl (lv_room (Nat.le_of_ble_eq_true rfl)) dX12_bestPath_10 ⟨Nat.le_of_ble_eq_true rfl, Nat.le_of_ble_eq_true rfl⟩) hS (fun _ h => h) (fun _ h => h) (fun q_5 H locs hY hk hS => ?_)
      obtain ⟨hq_5, hP⟩ := hY
      replace hq_5 := hq_5.symm
      subst hq_5
      refine lv_icmp_ge (tgt := 64) hx hb dX12_bestPath_13 (by decide) (fun c_6 => ?_) (fun c_6 => ?_)
      · rw [if_pos c_6] at h
        refine lv_iload_n hx hb dX12_bestPath_64 rfl (lv_at hl 2 rfl) ?_
        obtain ⟨e1, e2, e3⟩ := gb_eq3 h
        exact W.iret (v := v2) hx hb hr (fun t ht hW => gb_ri ht ⟨e3, by rw [← e1, ← e2]; exact hP⟩ hS) hS.2.2 dX12_bestPath_65
      · rw [if_neg c_6] at h
        refine lv_aload_n hx hb dX12_bestPath_16 rfl (lv_at hl 0 rfl) ?_
        refine lv_iload hx hb dX12_bestPath_17 (lv_at hl 4 rfl) ?_
        refine lv_iconst (v := 1) hx hb dX12_bestPath_19 (by decide) ?_
        obtain ⟨f_7, wl_8, r_9, z_10, h⟩ := gb_bd_s h
        refine gb_calli (va_runV (C := RX12) (As := [.int v4, .int 1]) (rest := []) ⟨hx, hb, hml, hown, hq⟩ (mc_ofPath l D cT tt b1 b hb1 n f_1 wl_2 v4 1 f_7 wl_8 r_9 z_10) (cwV 2 hq (gb_gV w_1388 w_1390 s_4_5 w_14 w_1391) rfl rfl rfl (by decide +kernel) ⟨Nat.le_of_ble_eq_true rfl, Nat.le_of_ble_eq_true rfl⟩) (gb_preV (r := (RX12, TX12, 44)) (ci := 10) (q0 := 0) hSt hP rfl (gb_at b rfl) hS (fun q h => Nat.le_trans hb1 h.1) hP) rfl rfl hl.1 rfl (lv_room (Nat.le_of_ble_eq_true rfl)) dX12_bestPath_20 ⟨Nat.le_of_ble_eq_true rfl, Nat.le_of_ble_eq_true rfl⟩) hS (fun _ h => h) (fun _ h => h) (fun q_11 H locs hY hk hS => ?_)
        obtain ⟨hq_11, hP⟩ := hY
        replace hq_11 := hq_11.symm
        subst hq_11
        refine lv_aload_n hx hb dX12_bestPath_23 rfl (lv_at hl 0 rfl) ?_
        refine lv_aload_n hx hb dX12_bestPath_24 rfl (lv_at hl 0 rfl) ?_
        refine lv_iload_n hx hb dX12_bestPath_25 rfl (lv_at hl 1 rfl) ?_
        refine lv_iload hx hb dX12_bestPath_26 (lv_at hl 4 rfl) ?_
        obtain ⟨f_12, wl_13, r_14, z_15, h⟩ := gb_bd_s h
        refine gb_calli (va_runV (C := RX12) (As := [.int v1, .int v4]) (rest := [.ref (b + 0), .int r_9]) ⟨hx, hb, hml, hown, hq⟩ (mc_firstMarks l D cT tt b1 b hb1 n f_7 wl_8 v1 v4 f_12 wl_13 r_14 z_15) (cwV 2 hq (gb_gV w_1532 w_1534 s_6_0 w_14 w_1535) rfl rfl rfl (by decide +kernel) ⟨Nat.le_of_ble_eq_true rfl, Nat.le_of_ble_eq_true rfl⟩) (gb_preV (r := (RX12, TX12, 44)) (ci := 10) (q0 := 0) hSt hP rfl (gb_at b rfl) hS (fun q h => Nat.le_trans hb1 h.1) hP) rfl rfl hl.1 rfl (lv_room (Nat.le_of_ble_eq_true rfl)) dX12_bestPath_28 ⟨Nat.le_of_ble_eq_true rfl, Nat.le_of_ble_eq_true rfl⟩) hS (fun _ h => h) (fun _ h => h) (fun q_16 H locs hY hk hS => ?_)
        obtain ⟨hq_16, hP⟩ := hY
        replace hq_16 := hq_16.symm
        subst hq_16
        refine lv_iload hx hb dX12_bestPath_31 (lv_at hl 4 rfl) ?_
        obtain ⟨f_17, wl_18, r_19, z_20, h⟩ := gb_bd_s h
        refine gb_calli (va_runV (C := RX12) (As := [.int r_14, .int v4]) (rest := [.int r_9]) ⟨hx, hb, hml, hown, hq⟩ (mc_padded l D cT tt b1 b hb1 n f_12 wl_13 r_14 v4 f_17 wl_18 r_19 z_20) (cwV 2 hq (gb_gV w_1480 w_1482 s_5_7 w_14 w_1483) rfl rfl rfl (by decide +kernel) ⟨Nat.le_of_ble_eq_true rfl, Nat.le_of_ble_eq_true rfl⟩) (gb_preV (r := (RX12, TX12, 44)) (ci := 10) (q0 := 0) hSt hP rfl (gb_at b rfl) hS (fun q h => Nat.le_trans hb1 h.1) hP) rfl rfl hl.1 rfl (lv_room (Nat.le_of_ble_eq_true rfl)) dX12_bestPath_33 ⟨Nat.le_of_ble_eq_true rfl, Nat.le_of_ble_eq_true rfl⟩) hS (fun _ h => h) (fun _ h => h) (fun q_21 H locs hY hk hS => ?_)
        obtain ⟨hq_21, hP⟩ := hY
        replace hq_21 := hq_21.symm
        subst hq_21
        refine lv_imul hx hb dX12_bestPath_36 ?_
        refine lv_topi (fun x_22 ex_22 => ?_)
        replace h := gb_lt_s ex_22 h
        refine lv_istore (lv' := [(5, .int x_22), (0, .ref (b + 0)), (1, .int v1), (2, .int v2), (3, .int v3), (4, .int v4)]) hx hb dX12_bestPath_37 hl (by decide) rfl (fun ls hl => ?_)
        refine lv_iload_n hx hb dX12_bestPath_39 rfl (lv_at hl 3 rfl) ?_
        refine lv_if_lt (tgt := 52) hx hb dX12_bestPath_40 (by decide) (fun c_23 => ?_) (fun c_23 => ?_)
        · rw [if_pos c_23] at h
          refine lv_iload hx hb dX12_bestPath_52 (lv_at hl 5 rfl) ?_
          refine lv_istore_n (lv' := [(2, .int v4), (5, .int x_22), (0, .ref (b + 0)), (1, .int v1), (3, .int v3), (4, .int v4)]) hx hb dX12_bestPath_54 rfl hl (by decide) rfl (fun ls hl => ?_)
          refine lv_iload hx hb dX12_bestPath_55 (lv_at hl 1 rfl) ?_
          refine lv_istore_n (lv' := [(3, .int x_22), (2, .int v4), (5, .int x_22), (0, .ref (b + 0)), (1, .int v1), (4, .int v4)]) hx hb dX12_bestPath_57 rfl hl (by decide) rfl (fun ls hl => ?_)
          obtain ⟨x_24, ex_24⟩ : ∃ q, q = (v4 + 1) := ⟨_, rfl⟩
          replace h := gb_lt_s ex_24 h
          refine lv_iinc (v := x_24) (lv' := [(4, .int x_24), (3, .int x_22), (2, .int v4), (5, .int x_22), (0, .ref (b + 0)), (1, .int v1)]) hx hb dX12_bestPath_58 hl (k := 5) rfl (by rw [ex_24]; rfl) (by decide) rfl (fun ls hl => ?_)
          refine lv_goto (tgt := 7) hx hb dX12_bestPath_61 (by decide) ?_
          exact ih _ _ _ _ _ _ _ _ _ h hP hS (lv_sub hl [4, 5, 2, 1, 0] rfl)
        · rw [if_neg c_23] at h
          refine lv_iload hx hb dX12_bestPath_43 (lv_at hl 0 rfl) ?_
          refine lv_iload_n hx hb dX12_bestPath_45 rfl (lv_at hl 4 rfl) ?_
          refine lv_icmp_gt (tgt := 52) hx hb dX12_bestPath_46 (by decide) (fun c_25 => ?_) (fun c_25 => ?_)
          · rw [if_pos c_25] at h
            refine lv_iload hx hb dX12_bestPath_52 (lv_at hl 5 rfl) ?_
            refine lv_istore_n (lv' := [(2, .int v4), (5, .int x_22), (0, .ref (b + 0)), (1, .int v1), (3, .int v3), (4, .int v4)]) hx hb dX12_bestPath_54 rfl hl (by decide) rfl (fun ls hl => ?_)
            refine lv_iload hx hb dX12_bestPath_55 (lv_at hl 1 rfl) ?_
            refine lv_istore_n (lv' := [(3, .int x_22), (2, .int v4), (5, .int x_22), (0, .ref (b + 0)), (1, .int v1), (4, .int v4)]) hx hb dX12_bestPath_57 rfl hl (by decide) rfl (fun ls hl => ?_)
            obtain ⟨x_26, ex_26⟩ : ∃ q, q = (v4 + 1) := ⟨_, rfl⟩
            replace h := gb_lt_s ex_26 h
            refine lv_iinc (v := x_26) (lv' := [(4, .int x_26), (3, .int x_22), (2, .int v4), (5, .int x_22), (0, .ref (b + 0)), (1, .int v1)]) hx hb dX12_bestPath_58 hl (k := 5) rfl (by rw [ex_26]; rfl) (by decide) rfl (fun ls hl => ?_)
            refine lv_goto (tgt := 7) hx hb dX12_bestPath_61 (by decide) ?_
            exact ih _ _ _ _ _ _ _ _ _ h hP hS (lv_sub hl [4, 5, 2, 1, 0] rfl)
          · rw [if_neg c_25] at h
            refine lv_goto (tgt := 58) hx hb dX12_bestPath_49 (by decide) ?_
            obtain ⟨x_27, ex_27⟩ : ∃ q, q = (v4 + 1) := ⟨_, rfl⟩
            replace h := gb_lt_s ex_27 h
            refine lv_iinc (v := x_27) (lv' := [(4, .int x_27), (5, .int x_22), (0, .ref (b + 0)), (1, .int v1), (2, .int v2), (3, .int v3)]) hx hb dX12_bestPath_58 hl (k := 5) rfl (by rw [ex_27]; rfl) (by decide) rfl (fun ls hl => ?_)
            refine lv_goto (tgt := 7) hx hb dX12_bestPath_61 (by decide) ?_
            exact ih _ _ _ _ _ _ _ _ _ h hP hS (lv_sub hl [2, 3, 4, 5, 0] rfl)
  unfold ms_bestPath at h
  refine lv_iconst (v := (-1)) hx hb dX12_bestPath_0 (by decide) ?_
  refine lv_istore_n (lv' := [(2, .int (-1)), (0, .ref (b + 0)), (1, .int p1)]) hx hb dX12_bestPath_1 rfl hl (by decide) rfl (fun ls hl => ?_)
  refine lv_iconst (v := 0) hx hb dX12_bestPath_2 (by decide) ?_
  refine lv_istore_n (lv' := [(3, .int 0), (2, .int (-1)), (0, .ref (b + 0)), (1, .int p1)]) hx hb dX12_bestPath_3 rfl hl (by decide) rfl (fun ls hl => ?_)
  refine lv_iconst (v := 0) hx hb dX12_bestPath_4 (by decide) ?_
  refine lv_istore (lv' := [(4, .int 0), (3, .int 0), (2, .int (-1)), (0, .ref (b + 0)), (1, .int p1)]) hx hb dX12_bestPath_5 hl (by decide) rfl (fun ls hl => ?_)
  exact L7 n _ _ _ _ _ _ _ _ _ h hP hS (lv_sub hl [3, 4, 2, 1, 0] rfl)
theorem dX12_lame_0 : decode cX12_lame 0 = .ok (.aload_n 0, 1) := dc_42 (show ((cX12_lame.data.toList.drop 0).take 1).map UInt8.toNat = [42] by decide +kernel)
theorem dX12_lame_1 : decode cX12_lame 1 = .ok (.iload_n 1, 1) := dc_27 (show ((cX12_lame.data.toList.drop 1).take 1).map UInt8.toNat = [27] by decide +kernel)
theorem dX12_lame_2 : decode cX12_lame 2 = .ok (.invokevirtual 205, 3) := dc_182 (show ((cX12_lame.data.toList.drop 2).take 3).map UInt8.toNat = [182, 0, 205] by decide +kernel) rfl
theorem dX12_lame_5 : decode cX12_lame 5 = .ok (.ifCond .ne 5, 3) := dc_154 (show ((cX12_lame.data.toList.drop 5).take 3).map UInt8.toNat = [154, 0, 5] by decide +kernel) rfl
theorem dX12_lame_10 : decode cX12_lame 10 = .ok (.iload_n 3, 1) := dc_29 (show ((cX12_lame.data.toList.drop 10).take 1).map UInt8.toNat = [29] by decide +kernel)
theorem dX12_lame_11 : decode cX12_lame 11 = .ok (.iconst 0, 1) := dc_3 (show ((cX12_lame.data.toList.drop 11).take 1).map UInt8.toNat = [3] by decide +kernel)
theorem dX12_lame_12 : decode cX12_lame 12 = .ok (.bipush 7, 2) := dc_16 (show ((cX12_lame.data.toList.drop 12).take 2).map UInt8.toNat = [16, 7] by decide +kernel) rfl
theorem dX12_lame_14 : decode cX12_lame 14 = .ok (.invokestatic 129, 3) := dc_184 (show ((cX12_lame.data.toList.drop 14).take 3).map UInt8.toNat = [184, 0, 129] by decide +kernel) rfl
theorem dX12_lame_17 : decode cX12_lame 17 = .ok (.ifCond .eq 21, 3) := dc_153 (show ((cX12_lame.data.toList.drop 17).take 3).map UInt8.toNat = [153, 0, 21] by decide +kernel) rfl
theorem dX12_lame_38 : decode cX12_lame 38 = .ok (.aload_n 0, 1) := dc_42 (show ((cX12_lame.data.toList.drop 38).take 1).map UInt8.toNat = [42] by decide +kernel)
theorem dX12_lame_39 : decode cX12_lame 39 = .ok (.iload_n 2, 1) := dc_28 (show ((cX12_lame.data.toList.drop 39).take 1).map UInt8.toNat = [28] by decide +kernel)
theorem dX12_lame_40 : decode cX12_lame 40 = .ok (.invokevirtual 208, 3) := dc_182 (show ((cX12_lame.data.toList.drop 40).take 3).map UInt8.toNat = [182, 0, 208] by decide +kernel) rfl
theorem dX12_lame_43 : decode cX12_lame 43 = .ok (.ifCond .eq 19, 3) := dc_153 (show ((cX12_lame.data.toList.drop 43).take 3).map UInt8.toNat = [153, 0, 19] by decide +kernel) rfl
theorem dX12_lame_62 : decode cX12_lame 62 = .ok (.iconst (-1), 1) := dc_2 (show ((cX12_lame.data.toList.drop 62).take 1).map UInt8.toNat = [2] by decide +kernel)
theorem dX12_lame_63 : decode cX12_lame 63 = .ok (.ireturn, 1) := dc_172 (show ((cX12_lame.data.toList.drop 63).take 1).map UInt8.toNat = [172] by decide +kernel)
theorem dX12_lame_46 : decode cX12_lame 46 = .ok (.aload_n 0, 1) := dc_42 (show ((cX12_lame.data.toList.drop 46).take 1).map UInt8.toNat = [42] by decide +kernel)
theorem dX12_lame_47 : decode cX12_lame 47 = .ok (.iload_n 2, 1) := dc_28 (show ((cX12_lame.data.toList.drop 47).take 1).map UInt8.toNat = [28] by decide +kernel)
theorem dX12_lame_48 : decode cX12_lame 48 = .ok (.iconst 1, 1) := dc_4 (show ((cX12_lame.data.toList.drop 48).take 1).map UInt8.toNat = [4] by decide +kernel)
theorem dX12_lame_49 : decode cX12_lame 49 = .ok (.invokevirtual 332, 3) := dc_182 (show ((cX12_lame.data.toList.drop 49).take 3).map UInt8.toNat = [182, 1, 76] by decide +kernel) rfl
theorem w_1575 : (Cond.code ({ cls := "GooseBorderModel", name := "lamePay", desc := "(IZ)I" } : MethodName) prog_14_method_80_code (5 : Nat) (Option.some FieldType.int)) ∈ gb_wA := gb_t7 135 rfl rfl
theorem w_1572 : (Cond.methodLink "GooseBorderModel" (332 : Nat) ({ cls := "GooseBorderModel", name := "lamePay", desc := "(IZ)I" } : MethodName)) ∈ gb_wA := gb_t7 132 rfl rfl
theorem w_1574 : (Cond.instanceMethod ({ cls := "GooseBorderModel", name := "lamePay", desc := "(IZ)I" } : MethodName)) ∈ gb_wA := gb_t7 134 rfl rfl
theorem s_6_7 : Cond.selects "GooseBorderModel" (⟨"GooseBorderModel", "lamePay", "(IZ)I"⟩ : MethodName) (⟨"GooseBorderModel", "lamePay", "(IZ)I"⟩ : MethodName) ∈ gb_wA := gb_s6 7 rfl rfl
theorem dX12_lame_52 : decode cX12_lame 52 = .ok (.aload_n 0, 1) := dc_42 (show ((cX12_lame.data.toList.drop 52).take 1).map UInt8.toNat = [42] by decide +kernel)
theorem dX12_lame_53 : decode cX12_lame 53 = .ok (.iload_n 2, 1) := dc_28 (show ((cX12_lame.data.toList.drop 53).take 1).map UInt8.toNat = [28] by decide +kernel)
theorem dX12_lame_54 : decode cX12_lame 54 = .ok (.iconst 0, 1) := dc_3 (show ((cX12_lame.data.toList.drop 54).take 1).map UInt8.toNat = [3] by decide +kernel)
theorem dX12_lame_55 : decode cX12_lame 55 = .ok (.invokevirtual 332, 3) := dc_182 (show ((cX12_lame.data.toList.drop 55).take 3).map UInt8.toNat = [182, 1, 76] by decide +kernel) rfl
theorem dX12_lame_58 : decode cX12_lame 58 = .ok (.isub, 1) := dc_100 (show ((cX12_lame.data.toList.drop 58).take 1).map UInt8.toNat = [100] by decide +kernel)
theorem dX12_lame_59 : decode cX12_lame 59 = .ok (.goto 4, 3) := dc_167 (show ((cX12_lame.data.toList.drop 59).take 3).map UInt8.toNat = [167, 0, 4] by decide +kernel) rfl
theorem dX12_lame_20 : decode cX12_lame 20 = .ok (.aload_n 0, 1) := dc_42 (show ((cX12_lame.data.toList.drop 20).take 1).map UInt8.toNat = [42] by decide +kernel)
theorem dX12_lame_21 : decode cX12_lame 21 = .ok (.iload_n 3, 1) := dc_29 (show ((cX12_lame.data.toList.drop 21).take 1).map UInt8.toNat = [29] by decide +kernel)
theorem dX12_lame_22 : decode cX12_lame 22 = .ok (.invokevirtual 214, 3) := dc_182 (show ((cX12_lame.data.toList.drop 22).take 3).map UInt8.toNat = [182, 0, 214] by decide +kernel) rfl
theorem dX12_lame_25 : decode cX12_lame 25 = .ok (.ifCond .eq 11, 3) := dc_153 (show ((cX12_lame.data.toList.drop 25).take 3).map UInt8.toNat = [153, 0, 11] by decide +kernel) rfl
theorem dX12_lame_36 : decode cX12_lame 36 = .ok (.iconst (-1), 1) := dc_2 (show ((cX12_lame.data.toList.drop 36).take 1).map UInt8.toNat = [2] by decide +kernel)
theorem dX12_lame_37 : decode cX12_lame 37 = .ok (.ireturn, 1) := dc_172 (show ((cX12_lame.data.toList.drop 37).take 1).map UInt8.toNat = [172] by decide +kernel)
theorem dX12_lame_28 : decode cX12_lame 28 = .ok (.aload_n 0, 1) := dc_42 (show ((cX12_lame.data.toList.drop 28).take 1).map UInt8.toNat = [42] by decide +kernel)
theorem dX12_lame_29 : decode cX12_lame 29 = .ok (.iload_n 3, 1) := dc_29 (show ((cX12_lame.data.toList.drop 29).take 1).map UInt8.toNat = [29] by decide +kernel)
theorem dX12_lame_30 : decode cX12_lame 30 = .ok (.invokevirtual 329, 3) := dc_182 (show ((cX12_lame.data.toList.drop 30).take 3).map UInt8.toNat = [182, 1, 73] by decide +kernel) rfl
theorem w_1571 : (Cond.code ({ cls := "GooseBorderModel", name := "bestPath", desc := "(I)I" } : MethodName) prog_14_method_81_code (6 : Nat) (Option.some FieldType.int)) ∈ gb_wA := gb_t7 131 rfl rfl
theorem w_1568 : (Cond.methodLink "GooseBorderModel" (329 : Nat) ({ cls := "GooseBorderModel", name := "bestPath", desc := "(I)I" } : MethodName)) ∈ gb_wA := gb_t7 128 rfl rfl
theorem w_1570 : (Cond.instanceMethod ({ cls := "GooseBorderModel", name := "bestPath", desc := "(I)I" } : MethodName)) ∈ gb_wA := gb_t7 130 rfl rfl
theorem s_6_6 : Cond.selects "GooseBorderModel" (⟨"GooseBorderModel", "bestPath", "(I)I"⟩ : MethodName) (⟨"GooseBorderModel", "bestPath", "(I)I"⟩ : MethodName) ∈ gb_wA := gb_s6 6 rfl rfl
theorem dX12_lame_33 : decode cX12_lame 33 = .ok (.goto 4, 3) := dc_167 (show ((cX12_lame.data.toList.drop 33).take 3).map UInt8.toNat = [167, 0, 4] by decide +kernel) rfl
theorem dX12_lame_8 : decode cX12_lame 8 = .ok (.iconst (-1), 1) := dc_2 (show ((cX12_lame.data.toList.drop 8).take 1).map UInt8.toNat = [2] by decide +kernel)
theorem dX12_lame_9 : decode cX12_lame 9 = .ok (.ireturn, 1) := dc_172 (show ((cX12_lame.data.toList.drop 9).take 1).map UInt8.toNat = [172] by decide +kernel)
def ms_lame (n : Nat) (f : gb_F) (w : Int64) (p1 : Int32) (p2 : Int32) (p3 : Int32) : gb_MR Int32 := gb_bd (ms_isBorder n f w p1) (fun f_1 wl_2 r_3 => (if r_3 = 0 then some (f_1, wl_2, (-1)) else gb_bd (ms_isIn n f_1 wl_2 p3 0 7) (fun f_7 wl_8 r_9 => (if r_9 = 0 then gb_bd (ms_isPath n f_7 wl_8 p2) (fun f_13 wl_14 r_15 => (if r_15 = 0 then some (f_13, wl_14, (-1)) else gb_bd (ms_lamePay n f_13 wl_14 p2 1) (fun f_19 wl_20 r_21 => gb_bd (ms_lamePay n f_19 wl_20 p2 0) (fun f_24 wl_25 r_26 => some (f_24, wl_25, (r_21 - r_26)))))) else gb_bd (ms_isGoose n f_7 wl_8 p3) (fun f_29 wl_30 r_31 => (if r_31 = 0 then some (f_29, wl_30, (-1)) else gb_bd (ms_bestPath n f_29 wl_30 p3) (fun f_35 wl_36 r_37 => some (f_35, wl_36, r_37))))))))
set_option maxHeartbeats 8000000 in
set_option maxRecDepth 100000 in
theorem mc_lame (l : Launch) (D : va_G) (cT : Nat → ClassId) (tt : Nat → Nat) (b1 b : Nat) (hb1 : b1 ≤ b) (n : Nat) (f : gb_F) (w : Int64) (p1 : Int32) (p2 : Int32) (p3 : Int32) (fE : gb_F) (wE : Int64) (rE : Int32) (h : ms_lame n f w p1 p2 p3 = some (fE, wE, rE)) : Met l yX12_lame (.code yX12_lame cX12_lame 4 (some FieldType.int) :: gb_wA) ({ frames := 5, cells := 0, slots := 0, locals := 117 }) (gb_Pc D cT tt b1 [.ref (b + 0), .int p1, .int p2, .int p3] (fun h => va_P D vwCl (gb_wl b (gb_MW cT b f w)) h)) (gb_Qi (fun r h => r = rE ∧ va_P D vwCl (gb_wl b (gb_MW cT b fE wE)) h) (gb_fr b 22)) 0 0 (gb_fr b 22) := by
  refine Met.ofW (cc := cX12_lame) (maxL := 4) (ret := (some FieldType.int)) (by decide) rfl ?_
  intro p e s m args below meth c s₁ B hml hv
  obtain ⟨rfl, hSt, hP⟩ := hv
  have hx := B.exec
  have hb := B.bytes
  have hr := B.returns
  have hts := atoms_spec (ws := .code yX12_lame cX12_lame 4 (some FieldType.int) :: gb_wA) B.pre
  have hq : ∀ w ∈ gb_wA, w.before _ s = true := fun w h => hts w (List.mem_cons_of_mem _ h)
  have hown : s.vm.findClass RX12 = some m.cls := findClass_of_methodNamed B.named
  have hlocks := B.notSynchronized
  clear B hts
  have hK := hSt.1
  have hS : va_S (gb_fr b 22) s.heap s.heap [] := va_S.rf
  have hl := lv_entry ([.ref (b + 0), .int p1, .int p2, .int p3]) (n := 4) (Nat.le_of_ble_eq_true rfl)
  rw [lg_entry_eq]
  generalize (lg_sl ([.ref (b + 0), .int p1, .int p2, .int p3]) ++ List.replicate (4 - (lg_sl ([.ref (b + 0), .int p1, .int p2, .int p3])).length) Slot.unset).toArray = ls at hl ⊢
  replace hl : lv_has ls 4 [(0, .ref (b + 0)), (1, .int p1), (2, .int p2), (3, .int p3)] := hl
  unfold ms_lame at h
  refine lv_aload_n hx hb dX12_lame_0 rfl (lv_at hl 0 rfl) ?_
  refine lv_iload_n hx hb dX12_lame_1 rfl (lv_at hl 1 rfl) ?_
  obtain ⟨f_1, wl_2, r_3, z_4, h⟩ := gb_bd_s h
  refine gb_calli (va_runV (C := RX12) (As := [.int p1]) (rest := []) ⟨hx, hb, hml, hown, hq⟩ (mc_isBorder l D cT tt b1 b hb1 n f w p1 f_1 wl_2 r_3 z_4) (cwV 1 hq (gb_gV w_1372 w_1374 s_4_1 w_14 w_1375) rfl rfl rfl (by decide +kernel) ⟨Nat.le_of_ble_eq_true rfl, Nat.le_of_ble_eq_true rfl⟩) (gb_preV (r := (RX12, TX12, 44)) (ci := 10) (q0 := 0) hSt hP rfl (gb_at b rfl) hS (fun q h => Nat.le_trans hb1 h.1) hP) rfl rfl hl.1 rfl (lv_room (Nat.le_of_ble_eq_true rfl)) dX12_lame_2 ⟨Nat.le_of_ble_eq_true rfl, Nat.le_of_ble_eq_true rfl⟩) hS (fun _ h => h) (fun _ h => h) (fun q_5 H locs hY hk hS => ?_)
  obtain ⟨hq_5, hP⟩ := hY
  replace hq_5 := hq_5.symm
  subst hq_5
  refine lv_if_ne (tgt := 10) hx hb dX12_lame_5 (by decide) (fun c_6 => ?_) (fun c_6 => ?_)
  · rw [if_neg c_6] at h
    refine lv_iload_n hx hb dX12_lame_10 rfl (lv_at hl 3 rfl) ?_
    refine lv_iconst (v := 0) hx hb dX12_lame_11 (by decide) ?_
    refine lv_bipush (v := 7) hx hb dX12_lame_12 (by decide) ?_
    obtain ⟨f_7, wl_8, r_9, z_10, h⟩ := gb_bd_s h
    refine gb_calli (va_runS (As := [.int p3, .int 0, .int 7]) (rest := []) ⟨hx, hb, hml, hown, hq⟩ (mc_isIn l D cT tt b1 b hb1 n f_1 wl_2 p3 0 7 f_7 wl_8 r_9 z_10) (va_cwS 3 hq (gb_gS w_1269 w_1270 w_14 w_1271) rfl rfl rfl (by decide +kernel) ⟨Nat.le_of_ble_eq_true rfl, Nat.le_of_ble_eq_true rfl⟩) (gb_preS hSt hS (fun q h => Nat.le_trans hb1 h.1) hP) rfl rfl hl.1 rfl (lv_room (Nat.le_of_ble_eq_true rfl)) dX12_lame_14 ⟨Nat.le_of_ble_eq_true rfl, Nat.le_of_ble_eq_true rfl⟩) hS (fun _ h => h) (fun _ h => h) (fun q_11 H locs hY hk hS => ?_)
    obtain ⟨hq_11, hP⟩ := hY
    replace hq_11 := hq_11.symm
    subst hq_11
    refine lv_if_eq (tgt := 38) hx hb dX12_lame_17 (by decide) (fun c_12 => ?_) (fun c_12 => ?_)
    · rw [if_pos c_12] at h
      refine lv_aload_n hx hb dX12_lame_38 rfl (lv_at hl 0 rfl) ?_
      refine lv_iload_n hx hb dX12_lame_39 rfl (lv_at hl 2 rfl) ?_
      obtain ⟨f_13, wl_14, r_15, z_16, h⟩ := gb_bd_s h
      refine gb_calli (va_runV (C := RX12) (As := [.int p2]) (rest := []) ⟨hx, hb, hml, hown, hq⟩ (mc_isPath l D cT tt b1 b hb1 n f_7 wl_8 p2 f_13 wl_14 r_15 z_16) (cwV 1 hq (gb_gV w_1380 w_1382 s_4_3 w_14 w_1383) rfl rfl rfl (by decide +kernel) ⟨Nat.le_of_ble_eq_true rfl, Nat.le_of_ble_eq_true rfl⟩) (gb_preV (r := (RX12, TX12, 44)) (ci := 10) (q0 := 0) hSt hP rfl (gb_at b rfl) hS (fun q h => Nat.le_trans hb1 h.1) hP) rfl rfl hl.1 rfl (lv_room (Nat.le_of_ble_eq_true rfl)) dX12_lame_40 ⟨Nat.le_of_ble_eq_true rfl, Nat.le_of_ble_eq_true rfl⟩) hS (fun _ h => h) (fun _ h => h) (fun q_17 H locs hY hk hS => ?_)
      obtain ⟨hq_17, hP⟩ := hY
      replace hq_17 := hq_17.symm
      subst hq_17
      refine lv_if_eq (tgt := 62) hx hb dX12_lame_43 (by decide) (fun c_18 => ?_) (fun c_18 => ?_)
      · rw [if_pos c_18] at h
        refine lv_iconst (v := (-1)) hx hb dX12_lame_62 (by decide) ?_
        obtain ⟨e1, e2, e3⟩ := gb_eq3 h
        exact W.iret (v := (-1)) hx hb hr (fun t ht hW => gb_ri ht ⟨e3, by rw [← e1, ← e2]; exact hP⟩ hS) hS.2.2 dX12_lame_63
      · rw [if_neg c_18] at h
        refine lv_aload_n hx hb dX12_lame_46 rfl (lv_at hl 0 rfl) ?_
        refine lv_iload_n hx hb dX12_lame_47 rfl (lv_at hl 2 rfl) ?_
        refine lv_iconst (v := 1) hx hb dX12_lame_48 (by decide) ?_
        obtain ⟨f_19, wl_20, r_21, z_22, h⟩ := gb_bd_s h
        refine gb_calli (va_runV (C := RX12) (As := [.int p2, .int 1]) (rest := []) ⟨hx, hb, hml, hown, hq⟩ (mc_lamePay l D cT tt b1 b hb1 n f_13 wl_14 p2 1 f_19 wl_20 r_21 z_22) (cwV 2 hq (gb_gV w_1572 w_1574 s_6_7 w_14 w_1575) rfl rfl rfl (by decide +kernel) ⟨Nat.le_of_ble_eq_true rfl, Nat.le_of_ble_eq_true rfl⟩) (gb_preV (r := (RX12, TX12, 44)) (ci := 10) (q0 := 0) hSt hP rfl (gb_at b rfl) hS (fun q h => Nat.le_trans hb1 h.1) hP) rfl rfl hl.1 rfl (lv_room (Nat.le_of_ble_eq_true rfl)) dX12_lame_49 ⟨Nat.le_of_ble_eq_true rfl, Nat.le_of_ble_eq_true rfl⟩) hS (fun _ h => h) (fun _ h => h) (fun q_23 H locs hY hk hS => ?_)
        obtain ⟨hq_23, hP⟩ := hY
        replace hq_23 := hq_23.symm
        subst hq_23
        refine lv_aload_n hx hb dX12_lame_52 rfl (lv_at hl 0 rfl) ?_
        refine lv_iload_n hx hb dX12_lame_53 rfl (lv_at hl 2 rfl) ?_
        refine lv_iconst (v := 0) hx hb dX12_lame_54 (by decide) ?_
        obtain ⟨f_24, wl_25, r_26, z_27, h⟩ := gb_bd_s h
        refine gb_calli (va_runV (C := RX12) (As := [.int p2, .int 0]) (rest := [.int r_21]) ⟨hx, hb, hml, hown, hq⟩ (mc_lamePay l D cT tt b1 b hb1 n f_19 wl_20 p2 0 f_24 wl_25 r_26 z_27) (cwV 2 hq (gb_gV w_1572 w_1574 s_6_7 w_14 w_1575) rfl rfl rfl (by decide +kernel) ⟨Nat.le_of_ble_eq_true rfl, Nat.le_of_ble_eq_true rfl⟩) (gb_preV (r := (RX12, TX12, 44)) (ci := 10) (q0 := 0) hSt hP rfl (gb_at b rfl) hS (fun q h => Nat.le_trans hb1 h.1) hP) rfl rfl hl.1 rfl (lv_room (Nat.le_of_ble_eq_true rfl)) dX12_lame_55 ⟨Nat.le_of_ble_eq_true rfl, Nat.le_of_ble_eq_true rfl⟩) hS (fun _ h => h) (fun _ h => h) (fun q_28 H locs hY hk hS => ?_)
        obtain ⟨hq_28, hP⟩ := hY
        replace hq_28 := hq_28.symm
        subst hq_28
        refine lv_isub hx hb dX12_lame_58 ?_
        refine lv_goto (tgt := 63) hx hb dX12_lame_59 (by decide) ?_
        obtain ⟨e1, e2, e3⟩ := gb_eq3 h
        exact W.iret (v := (r_21 - r_26)) hx hb hr (fun t ht hW => gb_ri ht ⟨e3, by rw [← e1, ← e2]; exact hP⟩ hS) hS.2.2 dX12_lame_63
    · rw [if_neg c_12] at h
      refine lv_aload_n hx hb dX12_lame_20 rfl (lv_at hl 0 rfl) ?_
      refine lv_iload_n hx hb dX12_lame_21 rfl (lv_at hl 3 rfl) ?_
      obtain ⟨f_29, wl_30, r_31, z_32, h⟩ := gb_bd_s h
      refine gb_calli (va_runV (C := RX12) (As := [.int p3]) (rest := []) ⟨hx, hb, hml, hown, hq⟩ (mc_isGoose l D cT tt b1 b hb1 n f_7 wl_8 p3 f_29 wl_30 r_31 z_32) (cwV 1 hq (gb_gV w_1392 w_1394 s_4_6 w_14 w_1395) rfl rfl rfl (by decide +kernel) ⟨Nat.le_of_ble_eq_true rfl, Nat.le_of_ble_eq_true rfl⟩) (gb_preV (r := (RX12, TX12, 44)) (ci := 10) (q0 := 0) hSt hP rfl (gb_at b rfl) hS (fun q h => Nat.le_trans hb1 h.1) hP) rfl rfl hl.1 rfl (lv_room (Nat.le_of_ble_eq_true rfl)) dX12_lame_22 ⟨Nat.le_of_ble_eq_true rfl, Nat.le_of_ble_eq_true rfl⟩) hS (fun _ h => h) (fun _ h => h) (fun q_33 H locs hY hk hS => ?_)
      obtain ⟨hq_33, hP⟩ := hY
      replace hq_33 := hq_33.symm
      subst hq_33
      refine lv_if_eq (tgt := 36) hx hb dX12_lame_25 (by decide) (fun c_34 => ?_) (fun c_34 => ?_)
      · rw [if_pos c_34] at h
        refine lv_iconst (v := (-1)) hx hb dX12_lame_36 (by decide) ?_
        obtain ⟨e1, e2, e3⟩ := gb_eq3 h
        exact W.iret (v := (-1)) hx hb hr (fun t ht hW => gb_ri ht ⟨e3, by rw [← e1, ← e2]; exact hP⟩ hS) hS.2.2 dX12_lame_37
      · rw [if_neg c_34] at h
        refine lv_aload_n hx hb dX12_lame_28 rfl (lv_at hl 0 rfl) ?_
        refine lv_iload_n hx hb dX12_lame_29 rfl (lv_at hl 3 rfl) ?_
        obtain ⟨f_35, wl_36, r_37, z_38, h⟩ := gb_bd_s h
        refine gb_calli (va_runV (C := RX12) (As := [.int p3]) (rest := []) ⟨hx, hb, hml, hown, hq⟩ (mc_bestPath l D cT tt b1 b hb1 n f_29 wl_30 p3 f_35 wl_36 r_37 z_38) (cwV 1 hq (gb_gV w_1568 w_1570 s_6_6 w_14 w_1571) rfl rfl rfl (by decide +kernel) ⟨Nat.le_of_ble_eq_true rfl, Nat.le_of_ble_eq_true rfl⟩) (gb_preV (r := (RX12, TX12, 44)) (ci := 10) (q0 := 0) hSt hP rfl (gb_at b rfl) hS (fun q h => Nat.le_trans hb1 h.1) hP) rfl rfl hl.1 rfl (lv_room (Nat.le_of_ble_eq_true rfl)) dX12_lame_30 ⟨Nat.le_of_ble_eq_true rfl, Nat.le_of_ble_eq_true rfl⟩) hS (fun _ h => h) (fun _ h => h) (fun q_39 H locs hY hk hS => ?_)
        obtain ⟨hq_39, hP⟩ := hY
        replace hq_39 := hq_39.symm
        subst hq_39
        refine lv_goto (tgt := 37) hx hb dX12_lame_33 (by decide) ?_
        obtain ⟨e1, e2, e3⟩ := gb_eq3 h
        exact W.iret (v := r_37) hx hb hr (fun t ht hW => gb_ri ht ⟨e3, by rw [← e1, ← e2]; exact hP⟩ hS) hS.2.2 dX12_lame_37
  · rw [if_pos c_6] at h
    refine lv_iconst (v := (-1)) hx hb dX12_lame_8 (by decide) ?_
    obtain ⟨e1, e2, e3⟩ := gb_eq3 h
    exact W.iret (v := (-1)) hx hb hr (fun t ht hW => gb_ri ht ⟨e3, by rw [← e1, ← e2]; exact hP⟩ hS) hS.2.2 dX12_lame_9
theorem dX12_takeOf_0 : decode cX12_takeOf 0 = .ok (.iconst 0, 1) := dc_3 (show ((cX12_takeOf.data.toList.drop 0).take 1).map UInt8.toNat = [3] by decide +kernel)
theorem dX12_takeOf_1 : decode cX12_takeOf 1 = .ok (.istore_n 3, 1) := dc_62 (show ((cX12_takeOf.data.toList.drop 1).take 1).map UInt8.toNat = [62] by decide +kernel)
theorem dX12_takeOf_2 : decode cX12_takeOf 2 = .ok (.iconst 0, 1) := dc_3 (show ((cX12_takeOf.data.toList.drop 2).take 1).map UInt8.toNat = [3] by decide +kernel)
theorem dX12_takeOf_3 : decode cX12_takeOf 3 = .ok (.istore 4, 2) := dc_54 (show ((cX12_takeOf.data.toList.drop 3).take 2).map UInt8.toNat = [54, 4] by decide +kernel) rfl
theorem dX12_takeOf_5 : decode cX12_takeOf 5 = .ok (.iload 4, 2) := dc_21 (show ((cX12_takeOf.data.toList.drop 5).take 2).map UInt8.toNat = [21, 4] by decide +kernel) rfl
theorem dX12_takeOf_7 : decode cX12_takeOf 7 = .ok (.aload_n 0, 1) := dc_42 (show ((cX12_takeOf.data.toList.drop 7).take 1).map UInt8.toNat = [42] by decide +kernel)
theorem dX12_takeOf_8 : decode cX12_takeOf 8 = .ok (.invokevirtual 199, 3) := dc_182 (show ((cX12_takeOf.data.toList.drop 8).take 3).map UInt8.toNat = [182, 0, 199] by decide +kernel) rfl
theorem dX12_takeOf_11 : decode cX12_takeOf 11 = .ok (.if_icmp .ge 45, 3) := dc_162 (show ((cX12_takeOf.data.toList.drop 11).take 3).map UInt8.toNat = [162, 0, 45] by decide +kernel) rfl
theorem dX12_takeOf_56 : decode cX12_takeOf 56 = .ok (.iload_n 1, 1) := dc_27 (show ((cX12_takeOf.data.toList.drop 56).take 1).map UInt8.toNat = [27] by decide +kernel)
theorem dX12_takeOf_57 : decode cX12_takeOf 57 = .ok (.iload_n 2, 1) := dc_28 (show ((cX12_takeOf.data.toList.drop 57).take 1).map UInt8.toNat = [28] by decide +kernel)
theorem dX12_takeOf_58 : decode cX12_takeOf 58 = .ok (.ishr, 1) := dc_122 (show ((cX12_takeOf.data.toList.drop 58).take 1).map UInt8.toNat = [122] by decide +kernel)
theorem dX12_takeOf_59 : decode cX12_takeOf 59 = .ok (.iconst 1, 1) := dc_4 (show ((cX12_takeOf.data.toList.drop 59).take 1).map UInt8.toNat = [4] by decide +kernel)
theorem dX12_takeOf_60 : decode cX12_takeOf 60 = .ok (.iand, 1) := dc_126 (show ((cX12_takeOf.data.toList.drop 60).take 1).map UInt8.toNat = [126] by decide +kernel)
theorem dX12_takeOf_61 : decode cX12_takeOf 61 = .ok (.iconst 1, 1) := dc_4 (show ((cX12_takeOf.data.toList.drop 61).take 1).map UInt8.toNat = [4] by decide +kernel)
theorem dX12_takeOf_62 : decode cX12_takeOf 62 = .ok (.if_icmp .ne 7, 3) := dc_160 (show ((cX12_takeOf.data.toList.drop 62).take 3).map UInt8.toNat = [160, 0, 7] by decide +kernel) rfl
theorem dX12_takeOf_69 : decode cX12_takeOf 69 = .ok (.iconst 0, 1) := dc_3 (show ((cX12_takeOf.data.toList.drop 69).take 1).map UInt8.toNat = [3] by decide +kernel)
theorem dX12_takeOf_70 : decode cX12_takeOf 70 = .ok (.istore 4, 2) := dc_54 (show ((cX12_takeOf.data.toList.drop 70).take 2).map UInt8.toNat = [54, 4] by decide +kernel) rfl
theorem dX12_takeOf_72 : decode cX12_takeOf 72 = .ok (.aload_n 0, 1) := dc_42 (show ((cX12_takeOf.data.toList.drop 72).take 1).map UInt8.toNat = [42] by decide +kernel)
theorem dX12_takeOf_73 : decode cX12_takeOf 73 = .ok (.iconst 2, 1) := dc_5 (show ((cX12_takeOf.data.toList.drop 73).take 1).map UInt8.toNat = [5] by decide +kernel)
theorem dX12_takeOf_74 : decode cX12_takeOf 74 = .ok (.invokevirtual 196, 3) := dc_182 (show ((cX12_takeOf.data.toList.drop 74).take 3).map UInt8.toNat = [182, 0, 196] by decide +kernel) rfl
theorem dX12_takeOf_77 : decode cX12_takeOf 77 = .ok (.iconst (-1), 1) := dc_2 (show ((cX12_takeOf.data.toList.drop 77).take 1).map UInt8.toNat = [2] by decide +kernel)
theorem dX12_takeOf_78 : decode cX12_takeOf 78 = .ok (.if_icmp .eq 19, 3) := dc_159 (show ((cX12_takeOf.data.toList.drop 78).take 3).map UInt8.toNat = [159, 0, 19] by decide +kernel) rfl
theorem dX12_takeOf_97 : decode cX12_takeOf 97 = .ok (.iload 4, 2) := dc_21 (show ((cX12_takeOf.data.toList.drop 97).take 2).map UInt8.toNat = [21, 4] by decide +kernel) rfl
theorem dX12_takeOf_99 : decode cX12_takeOf 99 = .ok (.ifCond .eq 11, 3) := dc_153 (show ((cX12_takeOf.data.toList.drop 99).take 3).map UInt8.toNat = [153, 0, 11] by decide +kernel) rfl
theorem dX12_takeOf_110 : decode cX12_takeOf 110 = .ok (.aload_n 0, 1) := dc_42 (show ((cX12_takeOf.data.toList.drop 110).take 1).map UInt8.toNat = [42] by decide +kernel)
theorem dX12_takeOf_111 : decode cX12_takeOf 111 = .ok (.iload_n 2, 1) := dc_28 (show ((cX12_takeOf.data.toList.drop 111).take 1).map UInt8.toNat = [28] by decide +kernel)
theorem dX12_takeOf_112 : decode cX12_takeOf 112 = .ok (.iconst 1, 1) := dc_4 (show ((cX12_takeOf.data.toList.drop 112).take 1).map UInt8.toNat = [4] by decide +kernel)
theorem dX12_takeOf_113 : decode cX12_takeOf 113 = .ok (.invokevirtual 211, 3) := dc_182 (show ((cX12_takeOf.data.toList.drop 113).take 3).map UInt8.toNat = [182, 0, 211] by decide +kernel) rfl
theorem dX12_takeOf_116 : decode cX12_takeOf 116 = .ok (.aload_n 0, 1) := dc_42 (show ((cX12_takeOf.data.toList.drop 116).take 1).map UInt8.toNat = [42] by decide +kernel)
theorem dX12_takeOf_117 : decode cX12_takeOf 117 = .ok (.iload_n 2, 1) := dc_28 (show ((cX12_takeOf.data.toList.drop 117).take 1).map UInt8.toNat = [28] by decide +kernel)
theorem dX12_takeOf_118 : decode cX12_takeOf 118 = .ok (.invokevirtual 273, 3) := dc_182 (show ((cX12_takeOf.data.toList.drop 118).take 3).map UInt8.toNat = [182, 1, 17] by decide +kernel) rfl
theorem dX12_takeOf_121 : decode cX12_takeOf 121 = .ok (.imul, 1) := dc_104 (show ((cX12_takeOf.data.toList.drop 121).take 1).map UInt8.toNat = [104] by decide +kernel)
theorem dX12_takeOf_122 : decode cX12_takeOf 122 = .ok (.ireturn, 1) := dc_172 (show ((cX12_takeOf.data.toList.drop 122).take 1).map UInt8.toNat = [172] by decide +kernel)
theorem dX12_takeOf_102 : decode cX12_takeOf 102 = .ok (.aload_n 0, 1) := dc_42 (show ((cX12_takeOf.data.toList.drop 102).take 1).map UInt8.toNat = [42] by decide +kernel)
theorem dX12_takeOf_103 : decode cX12_takeOf 103 = .ok (.iload_n 2, 1) := dc_28 (show ((cX12_takeOf.data.toList.drop 103).take 1).map UInt8.toNat = [28] by decide +kernel)
theorem dX12_takeOf_104 : decode cX12_takeOf 104 = .ok (.invokevirtual 279, 3) := dc_182 (show ((cX12_takeOf.data.toList.drop 104).take 3).map UInt8.toNat = [182, 1, 23] by decide +kernel) rfl
theorem dX12_takeOf_107 : decode cX12_takeOf 107 = .ok (.goto 15, 3) := dc_167 (show ((cX12_takeOf.data.toList.drop 107).take 3).map UInt8.toNat = [167, 0, 15] by decide +kernel) rfl
theorem dX12_takeOf_81 : decode cX12_takeOf 81 = .ok (.iload_n 3, 1) := dc_29 (show ((cX12_takeOf.data.toList.drop 81).take 1).map UInt8.toNat = [29] by decide +kernel)
theorem dX12_takeOf_82 : decode cX12_takeOf 82 = .ok (.aload_n 0, 1) := dc_42 (show ((cX12_takeOf.data.toList.drop 82).take 1).map UInt8.toNat = [42] by decide +kernel)
theorem dX12_takeOf_83 : decode cX12_takeOf 83 = .ok (.iconst 2, 1) := dc_5 (show ((cX12_takeOf.data.toList.drop 83).take 1).map UInt8.toNat = [5] by decide +kernel)
theorem dX12_takeOf_84 : decode cX12_takeOf 84 = .ok (.invokevirtual 196, 3) := dc_182 (show ((cX12_takeOf.data.toList.drop 84).take 3).map UInt8.toNat = [182, 0, 196] by decide +kernel) rfl
theorem dX12_takeOf_87 : decode cX12_takeOf 87 = .ok (.if_icmp .le 10, 3) := dc_164 (show ((cX12_takeOf.data.toList.drop 87).take 3).map UInt8.toNat = [164, 0, 10] by decide +kernel) rfl
theorem dX12_takeOf_90 : decode cX12_takeOf 90 = .ok (.iload 4, 2) := dc_21 (show ((cX12_takeOf.data.toList.drop 90).take 2).map UInt8.toNat = [21, 4] by decide +kernel) rfl
theorem dX12_takeOf_92 : decode cX12_takeOf 92 = .ok (.ifCond .eq 5, 3) := dc_153 (show ((cX12_takeOf.data.toList.drop 92).take 3).map UInt8.toNat = [153, 0, 5] by decide +kernel) rfl
theorem dX12_takeOf_95 : decode cX12_takeOf 95 = .ok (.iconst 0, 1) := dc_3 (show ((cX12_takeOf.data.toList.drop 95).take 1).map UInt8.toNat = [3] by decide +kernel)
theorem dX12_takeOf_96 : decode cX12_takeOf 96 = .ok (.ireturn, 1) := dc_172 (show ((cX12_takeOf.data.toList.drop 96).take 1).map UInt8.toNat = [172] by decide +kernel)
theorem dX12_takeOf_65 : decode cX12_takeOf 65 = .ok (.iconst 1, 1) := dc_4 (show ((cX12_takeOf.data.toList.drop 65).take 1).map UInt8.toNat = [4] by decide +kernel)
theorem dX12_takeOf_66 : decode cX12_takeOf 66 = .ok (.goto 4, 3) := dc_167 (show ((cX12_takeOf.data.toList.drop 66).take 3).map UInt8.toNat = [167, 0, 4] by decide +kernel) rfl
theorem dX12_takeOf_14 : decode cX12_takeOf 14 = .ok (.iload_n 3, 1) := dc_29 (show ((cX12_takeOf.data.toList.drop 14).take 1).map UInt8.toNat = [29] by decide +kernel)
theorem dX12_takeOf_15 : decode cX12_takeOf 15 = .ok (.iload_n 1, 1) := dc_27 (show ((cX12_takeOf.data.toList.drop 15).take 1).map UInt8.toNat = [27] by decide +kernel)
theorem dX12_takeOf_16 : decode cX12_takeOf 16 = .ok (.iload 4, 2) := dc_21 (show ((cX12_takeOf.data.toList.drop 16).take 2).map UInt8.toNat = [21, 4] by decide +kernel) rfl
theorem dX12_takeOf_18 : decode cX12_takeOf 18 = .ok (.ishr, 1) := dc_122 (show ((cX12_takeOf.data.toList.drop 18).take 1).map UInt8.toNat = [122] by decide +kernel)
theorem dX12_takeOf_19 : decode cX12_takeOf 19 = .ok (.iconst 1, 1) := dc_4 (show ((cX12_takeOf.data.toList.drop 19).take 1).map UInt8.toNat = [4] by decide +kernel)
theorem dX12_takeOf_20 : decode cX12_takeOf 20 = .ok (.iand, 1) := dc_126 (show ((cX12_takeOf.data.toList.drop 20).take 1).map UInt8.toNat = [126] by decide +kernel)
theorem dX12_takeOf_21 : decode cX12_takeOf 21 = .ok (.iconst 1, 1) := dc_4 (show ((cX12_takeOf.data.toList.drop 21).take 1).map UInt8.toNat = [4] by decide +kernel)
theorem dX12_takeOf_22 : decode cX12_takeOf 22 = .ok (.if_icmp .ne 12, 3) := dc_160 (show ((cX12_takeOf.data.toList.drop 22).take 3).map UInt8.toNat = [160, 0, 12] by decide +kernel) rfl
theorem dX12_takeOf_34 : decode cX12_takeOf 34 = .ok (.aload_n 0, 1) := dc_42 (show ((cX12_takeOf.data.toList.drop 34).take 1).map UInt8.toNat = [42] by decide +kernel)
theorem dX12_takeOf_35 : decode cX12_takeOf 35 = .ok (.iload 4, 2) := dc_21 (show ((cX12_takeOf.data.toList.drop 35).take 2).map UInt8.toNat = [21, 4] by decide +kernel) rfl
theorem dX12_takeOf_37 : decode cX12_takeOf 37 = .ok (.iconst 1, 1) := dc_4 (show ((cX12_takeOf.data.toList.drop 37).take 1).map UInt8.toNat = [4] by decide +kernel)
theorem dX12_takeOf_38 : decode cX12_takeOf 38 = .ok (.invokevirtual 211, 3) := dc_182 (show ((cX12_takeOf.data.toList.drop 38).take 3).map UInt8.toNat = [182, 0, 211] by decide +kernel) rfl
theorem dX12_takeOf_41 : decode cX12_takeOf 41 = .ok (.aload_n 0, 1) := dc_42 (show ((cX12_takeOf.data.toList.drop 41).take 1).map UInt8.toNat = [42] by decide +kernel)
theorem dX12_takeOf_42 : decode cX12_takeOf 42 = .ok (.iload 4, 2) := dc_21 (show ((cX12_takeOf.data.toList.drop 42).take 2).map UInt8.toNat = [21, 4] by decide +kernel) rfl
theorem dX12_takeOf_44 : decode cX12_takeOf 44 = .ok (.invokevirtual 273, 3) := dc_182 (show ((cX12_takeOf.data.toList.drop 44).take 3).map UInt8.toNat = [182, 1, 17] by decide +kernel) rfl
theorem dX12_takeOf_47 : decode cX12_takeOf 47 = .ok (.imul, 1) := dc_104 (show ((cX12_takeOf.data.toList.drop 47).take 1).map UInt8.toNat = [104] by decide +kernel)
theorem dX12_takeOf_48 : decode cX12_takeOf 48 = .ok (.iadd, 1) := dc_96 (show ((cX12_takeOf.data.toList.drop 48).take 1).map UInt8.toNat = [96] by decide +kernel)
theorem dX12_takeOf_49 : decode cX12_takeOf 49 = .ok (.istore_n 3, 1) := dc_62 (show ((cX12_takeOf.data.toList.drop 49).take 1).map UInt8.toNat = [62] by decide +kernel)
theorem dX12_takeOf_50 : decode cX12_takeOf 50 = .ok (.iinc 4 1, 3) := dc_132 (show ((cX12_takeOf.data.toList.drop 50).take 3).map UInt8.toNat = [132, 4, 1] by decide +kernel) rfl
theorem dX12_takeOf_53 : decode cX12_takeOf 53 = .ok (.goto (-48), 3) := dc_167 (show ((cX12_takeOf.data.toList.drop 53).take 3).map UInt8.toNat = [167, 255, 208] by decide +kernel) rfl
theorem dX12_takeOf_25 : decode cX12_takeOf 25 = .ok (.aload_n 0, 1) := dc_42 (show ((cX12_takeOf.data.toList.drop 25).take 1).map UInt8.toNat = [42] by decide +kernel)
theorem dX12_takeOf_26 : decode cX12_takeOf 26 = .ok (.iload 4, 2) := dc_21 (show ((cX12_takeOf.data.toList.drop 26).take 2).map UInt8.toNat = [21, 4] by decide +kernel) rfl
theorem dX12_takeOf_28 : decode cX12_takeOf 28 = .ok (.invokevirtual 279, 3) := dc_182 (show ((cX12_takeOf.data.toList.drop 28).take 3).map UInt8.toNat = [182, 1, 23] by decide +kernel) rfl
theorem dX12_takeOf_31 : decode cX12_takeOf 31 = .ok (.goto 17, 3) := dc_167 (show ((cX12_takeOf.data.toList.drop 31).take 3).map UInt8.toNat = [167, 0, 17] by decide +kernel) rfl
def ms_takeOf_97 (n : Nat) (f : gb_F) (w : Int64) (v2 : Int32) (v4 : Int32) : gb_MR Int32 := (if v4 = 0 then gb_bd (ms_ofPath n f w v2 1) (fun f_15 wl_16 r_17 => gb_bd (ms_tally n f_15 wl_16 v2) (fun f_20 wl_21 r_22 => some (f_20, wl_21, (r_17 * r_22)))) else gb_bd (ms_pay n f w v2) (fun f_25 wl_26 r_27 => some (f_25, wl_26, r_27)))
def ms_takeOf_70 (n : Nat) (f : gb_F) (w : Int64) (v2 : Int32) (v3 : Int32) (t0 : Int32) : gb_MR Int32 := gb_bd (ms_of n f w 2) (fun f_8 wl_9 r_10 => (if r_10 = (-1) then ms_takeOf_97 n f_8 wl_9 v2 t0 else gb_bd (ms_of n f_8 wl_9 2) (fun f_30 wl_31 r_32 => (if v3 ≤ r_32 then ms_takeOf_97 n f_30 wl_31 v2 t0 else (if t0 = 0 then ms_takeOf_97 n f_30 wl_31 v2 t0 else some (f_30, wl_31, 0))))))
def ms_takeOf_5 (n : Nat) : Nat → gb_F → Int64 → Int32 → Int32 → Int32 → Int32 → gb_MR Int32
  | 0, _, _, _, _, _, _ => none
  | mm + 1, f, w, v1, v2, v3, v4 => gb_bd (ms_paths n f w) (fun f_1 wl_2 r_3 => (if r_3 ≤ v4 then (if ((v1 >>> (v2 &&& 31)) &&& 1) = 1 then ms_takeOf_70 n f_1 wl_2 v2 v3 1 else ms_takeOf_70 n f_1 wl_2 v2 v3 0) else (if ((v1 >>> (v4 &&& 31)) &&& 1) = 1 then gb_bd (ms_pay n f_1 wl_2 v4) (fun f_50 wl_51 r_52 => gb_lt (v3 + r_52) (fun x_55 => gb_lt (v4 + 1) (fun x_56 => ms_takeOf_5 n mm f_50 wl_51 v1 v2 x_55 x_56))) else gb_bd (ms_ofPath n f_1 wl_2 v4 1) (fun f_38 wl_39 r_40 => gb_bd (ms_tally n f_38 wl_39 v4) (fun f_43 wl_44 r_45 => gb_lt (v3 + (r_40 * r_45)) (fun x_48 => gb_lt (v4 + 1) (fun x_49 => ms_takeOf_5 n mm f_43 wl_44 v1 v2 x_48 x_49)))))))
def ms_takeOf (n : Nat) (f : gb_F) (w : Int64) (p1 : Int32) (p2 : Int32) : gb_MR Int32 := ms_takeOf_5 n n f w p1 p2 0 0
set_option maxHeartbeats 8000000 in
set_option maxRecDepth 100000 in
theorem mc_takeOf (l : Launch) (D : va_G) (cT : Nat → ClassId) (tt : Nat → Nat) (b1 b : Nat) (hb1 : b1 ≤ b) (n : Nat) (f : gb_F) (w : Int64) (p1 : Int32) (p2 : Int32) (fE : gb_F) (wE : Int64) (rE : Int32) (h : ms_takeOf n f w p1 p2 = some (fE, wE, rE)) : Met l yX12_takeOf (.code yX12_takeOf cX12_takeOf 5 (some FieldType.int) :: gb_wA) ({ frames := 4, cells := 0, slots := 0, locals := 86 }) (gb_Pc D cT tt b1 [.ref (b + 0), .int p1, .int p2] (fun h => va_P D vwCl (gb_wl b (gb_MW cT b f w)) h)) (gb_Qi (fun r h => r = rE ∧ va_P D vwCl (gb_wl b (gb_MW cT b fE wE)) h) (gb_fr b 22)) 0 0 (gb_fr b 22) := by
  refine Met.ofW (cc := cX12_takeOf) (maxL := 5) (ret := (some FieldType.int)) (by decide) rfl ?_
  intro p e s m args below meth c s₁ B hml hv
  obtain ⟨rfl, hSt, hP⟩ := hv
  have hx := B.exec
  have hb := B.bytes
  have hr := B.returns
  have hts := atoms_spec (ws := .code yX12_takeOf cX12_takeOf 5 (some FieldType.int) :: gb_wA) B.pre
  have hq : ∀ w ∈ gb_wA, w.before _ s = true := fun w h => hts w (List.mem_cons_of_mem _ h)
  have hown : s.vm.findClass RX12 = some m.cls := findClass_of_methodNamed B.named
  have hlocks := B.notSynchronized
  clear B hts
  have hK := hSt.1
  have hS : va_S (gb_fr b 22) s.heap s.heap [] := va_S.rf
  have hl := lv_entry ([.ref (b + 0), .int p1, .int p2]) (n := 5) (Nat.le_of_ble_eq_true rfl)
  rw [lg_entry_eq]
  generalize (lg_sl ([.ref (b + 0), .int p1, .int p2]) ++ List.replicate (5 - (lg_sl ([.ref (b + 0), .int p1, .int p2])).length) Slot.unset).toArray = ls at hl ⊢
  replace hl : lv_has ls 5 [(0, .ref (b + 0)), (1, .int p1), (2, .int p2)] := hl
  have L97 : ∀ (f : gb_F) (w : Int64) (v2 : Int32) (v4 : Int32) (H : Heap) (locs : List Loc) (ls : Array Slot), ms_takeOf_97 n f w v2 v4 = some (fE, wE, rE) → va_P D vwCl (gb_wl b (gb_MW cT b f w)) H → va_S (gb_fr b 22) s.heap H locs → lv_has ls 5 [(0, .ref (b + 0)), (2, .int v2), (4, .int v4)] → W p l e (headSpec (.code yX12_takeOf cX12_takeOf 5 (some FieldType.int) :: gb_wA) ({ frames := 4, cells := 0, slots := 0, locals := 86 })).room s m ([.ref (b + 0), .int p1, .int p2]).toArray below meth c H locs 0 0 (MQ below (gb_Qi (fun r h => r = rE ∧ va_P D vwCl (gb_wl b (gb_MW cT b fE wE)) h) (gb_fr b 22)) ([.ref (b + 0), .int p1, .int p2]).toArray s 0 0 (gb_fr b 22)) (F0 m 97 ls []) := by
    clear h hP hS hl ls f w
    intro f w v2 v4 H locs ls h hP hS hl
    unfold ms_takeOf_97 at h
    refine lv_iload hx hb dX12_takeOf_97 (lv_at hl 2 rfl) ?_
    refine lv_if_eq (tgt := 110) hx hb dX12_takeOf_99 (by decide) (fun c_14 => ?_) (fun c_14 => ?_)
    · rw [if_pos c_14] at h
      refine lv_aload_n hx hb dX12_takeOf_110 rfl (lv_at hl 0 rfl) ?_
      refine lv_iload_n hx hb dX12_takeOf_111 rfl (lv_at hl 1 rfl) ?_
      refine lv_iconst (v := 1) hx hb dX12_takeOf_112 (by decide) ?_
      obtain ⟨f_15, wl_16, r_17, z_18, h⟩ := gb_bd_s h
      refine gb_calli (va_runV (C := RX12) (As := [.int v2, .int 1]) (rest := []) ⟨hx, hb, hml, hown, hq⟩ (mc_ofPath l D cT tt b1 b hb1 n f w v2 1 f_15 wl_16 r_17 z_18) (cwV 2 hq (gb_gV w_1388 w_1390 s_4_5 w_14 w_1391) rfl rfl rfl (by decide +kernel) ⟨Nat.le_of_ble_eq_true rfl, Nat.le_of_ble_eq_true rfl⟩) (gb_preV (r := (RX12, TX12, 44)) (ci := 10) (q0 := 0) hSt hP rfl (gb_at b rfl) hS (fun q h => Nat.le_trans hb1 h.1) hP) rfl rfl hl.1 rfl (lv_room (Nat.le_of_ble_eq_true rfl)) dX12_takeOf_113 ⟨Nat.le_of_ble_eq_true rfl, Nat.le_of_ble_eq_true rfl⟩) hS (fun _ h => h) (fun _ h => h) (fun q_19 H locs hY hk hS => ?_)
      obtain ⟨hq_19, hP⟩ := hY
      replace hq_19 := hq_19.symm
      subst hq_19
      refine lv_aload_n hx hb dX12_takeOf_116 rfl (lv_at hl 0 rfl) ?_
      refine lv_iload_n hx hb dX12_takeOf_117 rfl (lv_at hl 1 rfl) ?_
      obtain ⟨f_20, wl_21, r_22, z_23, h⟩ := gb_bd_s h
      refine gb_calli (va_runV (C := RX12) (As := [.int v2]) (rest := [.int r_17]) ⟨hx, hb, hml, hown, hq⟩ (mc_tally l D cT tt b1 b hb1 n f_15 wl_16 v2 f_20 wl_21 r_22 z_23) (cwV 1 hq (gb_gV w_1476 w_1478 s_5_6 w_14 w_1479) rfl rfl rfl (by decide +kernel) ⟨Nat.le_of_ble_eq_true rfl, Nat.le_of_ble_eq_true rfl⟩) (gb_preV (r := (RX12, TX12, 44)) (ci := 10) (q0 := 0) hSt hP rfl (gb_at b rfl) hS (fun q h => Nat.le_trans hb1 h.1) hP) rfl rfl hl.1 rfl (lv_room (Nat.le_of_ble_eq_true rfl)) dX12_takeOf_118 ⟨Nat.le_of_ble_eq_true rfl, Nat.le_of_ble_eq_true rfl⟩) hS (fun _ h => h) (fun _ h => h) (fun q_24 H locs hY hk hS => ?_)
      obtain ⟨hq_24, hP⟩ := hY
      replace hq_24 := hq_24.symm
      subst hq_24
      refine lv_imul hx hb dX12_takeOf_121 ?_
      obtain ⟨e1, e2, e3⟩ := gb_eq3 h
      exact W.iret (v := (r_17 * r_22)) hx hb hr (fun t ht hW => gb_ri ht ⟨e3, by rw [← e1, ← e2]; exact hP⟩ hS) hS.2.2 dX12_takeOf_122
    · rw [if_neg c_14] at h
      refine lv_aload_n hx hb dX12_takeOf_102 rfl (lv_at hl 0 rfl) ?_
      refine lv_iload_n hx hb dX12_takeOf_103 rfl (lv_at hl 1 rfl) ?_
      obtain ⟨f_25, wl_26, r_27, z_28, h⟩ := gb_bd_s h
      refine gb_calli (va_runV (C := RX12) (As := [.int v2]) (rest := []) ⟨hx, hb, hml, hown, hq⟩ (mc_pay l D cT tt b1 b hb1 n f w v2 f_25 wl_26 r_27 z_28) (cwV 1 hq (gb_gV w_1484 w_1486 s_5_8 w_14 w_1487) rfl rfl rfl (by decide +kernel) ⟨Nat.le_of_ble_eq_true rfl, Nat.le_of_ble_eq_true rfl⟩) (gb_preV (r := (RX12, TX12, 44)) (ci := 10) (q0 := 0) hSt hP rfl (gb_at b rfl) hS (fun q h => Nat.le_trans hb1 h.1) hP) rfl rfl hl.1 rfl (lv_room (Nat.le_of_ble_eq_true rfl)) dX12_takeOf_104 ⟨Nat.le_of_ble_eq_true rfl, Nat.le_of_ble_eq_true rfl⟩) hS (fun _ h => h) (fun _ h => h) (fun q_29 H locs hY hk hS => ?_)
      obtain ⟨hq_29, hP⟩ := hY
      replace hq_29 := hq_29.symm
      subst hq_29
      refine lv_goto (tgt := 122) hx hb dX12_takeOf_107 (by decide) ?_
      obtain ⟨e1, e2, e3⟩ := gb_eq3 h
      exact W.iret (v := r_27) hx hb hr (fun t ht hW => gb_ri ht ⟨e3, by rw [← e1, ← e2]; exact hP⟩ hS) hS.2.2 dX12_takeOf_122
  have L70 : ∀ (f : gb_F) (w : Int64) (v2 : Int32) (v3 : Int32) (t0 : Int32) (H : Heap) (locs : List Loc) (ls : Array Slot), ms_takeOf_70 n f w v2 v3 t0 = some (fE, wE, rE) → va_P D vwCl (gb_wl b (gb_MW cT b f w)) H → va_S (gb_fr b 22) s.heap H locs → lv_has ls 5 [(0, .ref (b + 0)), (2, .int v2), (3, .int v3)] → W p l e (headSpec (.code yX12_takeOf cX12_takeOf 5 (some FieldType.int) :: gb_wA) ({ frames := 4, cells := 0, slots := 0, locals := 86 })).room s m ([.ref (b + 0), .int p1, .int p2]).toArray below meth c H locs 0 0 (MQ below (gb_Qi (fun r h => r = rE ∧ va_P D vwCl (gb_wl b (gb_MW cT b fE wE)) h) (gb_fr b 22)) ([.ref (b + 0), .int p1, .int p2]).toArray s 0 0 (gb_fr b 22)) (F0 m 70 ls [.int t0]) := by
    clear h hP hS hl ls f w
    intro f w v2 v3 t0 H locs ls h hP hS hl
    unfold ms_takeOf_70 at h
    refine lv_istore (lv' := [(4, .int t0), (0, .ref (b + 0)), (2, .int v2), (3, .int v3)]) hx hb dX12_takeOf_70 hl (by decide) rfl (fun ls hl => ?_)
    refine lv_aload_n hx hb dX12_takeOf_72 rfl (lv_at hl 1 rfl) ?_
    refine lv_iconst (v := 2) hx hb dX12_takeOf_73 (by decide) ?_
    obtain ⟨f_8, wl_9, r_10, z_11, h⟩ := gb_bd_s h
    refine gb_calli (va_runV (C := RX12) (As := [.int 2]) (rest := []) ⟨hx, hb, hml, hown, hq⟩ (mc_of l D cT tt b1 b hb1 n f w 2 f_8 wl_9 r_10 z_11) (cwV 1 hq (gb_gV w_1376 w_1378 s_4_2 w_14 w_1379) rfl rfl rfl (by decide +kernel) ⟨Nat.le_of_ble_eq_true rfl, Nat.le_of_ble_eq_true rfl⟩) (gb_preV (r := (RX12, TX12, 44)) (ci := 10) (q0 := 0) hSt hP rfl (gb_at b rfl) hS (fun q h => Nat.le_trans hb1 h.1) hP) rfl rfl hl.1 rfl (lv_room (Nat.le_of_ble_eq_true rfl)) dX12_takeOf_74 ⟨Nat.le_of_ble_eq_true rfl, Nat.le_of_ble_eq_true rfl⟩) hS (fun _ h => h) (fun _ h => h) (fun q_12 H locs hY hk hS => ?_)
    obtain ⟨hq_12, hP⟩ := hY
    replace hq_12 := hq_12.symm
    subst hq_12
    refine lv_iconst (v := (-1)) hx hb dX12_takeOf_77 (by decide) ?_
    refine lv_icmp_eq (tgt := 97) hx hb dX12_takeOf_78 (by decide) (fun c_13 => ?_) (fun c_13 => ?_)
    · rw [if_pos c_13] at h
      exact L97 _ _ _ _ _ _ _ h hP hS (lv_sub hl [1, 2, 0] rfl)
    · rw [if_neg c_13] at h
      refine lv_iload_n hx hb dX12_takeOf_81 rfl (lv_at hl 3 rfl) ?_
      refine lv_aload_n hx hb dX12_takeOf_82 rfl (lv_at hl 1 rfl) ?_
      refine lv_iconst (v := 2) hx hb dX12_takeOf_83 (by decide) ?_
      obtain ⟨f_30, wl_31, r_32, z_33, h⟩ := gb_bd_s h
      refine gb_calli (va_runV (C := RX12) (As := [.int 2]) (rest := [.int v3]) ⟨hx, hb, hml, hown, hq⟩ (mc_of l D cT tt b1 b hb1 n f_8 wl_9 2 f_30 wl_31 r_32 z_33) (cwV 1 hq (gb_gV w_1376 w_1378 s_4_2 w_14 w_1379) rfl rfl rfl (by decide +kernel) ⟨Nat.le_of_ble_eq_true rfl, Nat.le_of_ble_eq_true rfl⟩) (gb_preV (r := (RX12, TX12, 44)) (ci := 10) (q0 := 0) hSt hP rfl (gb_at b rfl) hS (fun q h => Nat.le_trans hb1 h.1) hP) rfl rfl hl.1 rfl (lv_room (Nat.le_of_ble_eq_true rfl)) dX12_takeOf_84 ⟨Nat.le_of_ble_eq_true rfl, Nat.le_of_ble_eq_true rfl⟩) hS (fun _ h => h) (fun _ h => h) (fun q_34 H locs hY hk hS => ?_)
      obtain ⟨hq_34, hP⟩ := hY
      replace hq_34 := hq_34.symm
      subst hq_34
      refine lv_icmp_le (tgt := 97) hx hb dX12_takeOf_87 (by decide) (fun c_35 => ?_) (fun c_35 => ?_)
      · rw [if_pos c_35] at h
        exact L97 _ _ _ _ _ _ _ h hP hS (lv_sub hl [1, 2, 0] rfl)
      · rw [if_neg c_35] at h
        refine lv_iload hx hb dX12_takeOf_90 (lv_at hl 0 rfl) ?_
        refine lv_if_eq (tgt := 97) hx hb dX12_takeOf_92 (by decide) (fun c_36 => ?_) (fun c_36 => ?_)
        · rw [if_pos c_36] at h
          exact L97 _ _ _ _ _ _ _ h hP hS (lv_sub hl [1, 2, 0] rfl)
        · rw [if_neg c_36] at h
          refine lv_iconst (v := 0) hx hb dX12_takeOf_95 (by decide) ?_
          obtain ⟨e1, e2, e3⟩ := gb_eq3 h
          exact W.iret (v := 0) hx hb hr (fun t ht hW => gb_ri ht ⟨e3, by rw [← e1, ← e2]; exact hP⟩ hS) hS.2.2 dX12_takeOf_96
  have L5 : ∀ (mm : Nat) (f : gb_F) (w : Int64) (v1 : Int32) (v2 : Int32) (v3 : Int32) (v4 : Int32) (H : Heap) (locs : List Loc) (ls : Array Slot), ms_takeOf_5 n mm f w v1 v2 v3 v4 = some (fE, wE, rE) → va_P D vwCl (gb_wl b (gb_MW cT b f w)) H → va_S (gb_fr b 22) s.heap H locs → lv_has ls 5 [(0, .ref (b + 0)), (1, .int v1), (2, .int v2), (3, .int v3), (4, .int v4)] → W p l e (headSpec (.code yX12_takeOf cX12_takeOf 5 (some FieldType.int) :: gb_wA) ({ frames := 4, cells := 0, slots := 0, locals := 86 })).room s m ([.ref (b + 0), .int p1, .int p2]).toArray below meth c H locs 0 0 (MQ below (gb_Qi (fun r h => r = rE ∧ va_P D vwCl (gb_wl b (gb_MW cT b fE wE)) h) (gb_fr b 22)) ([.ref (b + 0), .int p1, .int p2]).toArray s 0 0 (gb_fr b 22)) (F0 m 5 ls []) := by
    clear h hP hS hl ls f w
    intro mm
    induction mm with
    | zero =>
      intro f w v1 v2 v3 v4 H locs ls h
      cases h
    | succ mm ih =>
      intro f w v1 v2 v3 v4 H locs ls h hP hS hl
      rw [ms_takeOf_5] at h
      refine lv_iload hx hb dX12_takeOf_5 (lv_at hl 4 rfl) ?_
      refine lv_aload_n hx hb dX12_takeOf_7 rfl (lv_at hl 0 rfl) ?_
      obtain ⟨f_1, wl_2, r_3, z_4, h⟩ := gb_bd_s h
      refine gb_calli (va_runV (C := RX12) (As := []) (rest := [.int v4]) ⟨hx, hb, hml, hown, hq⟩ (mc_paths l D cT tt b1 b hb1 n f w f_1 wl_2 r_3 z_4) (cwV 0 hq (gb_gV w_1384 w_1386 s_4_4 w_14 w_1387) rfl rfl rfl (by decide +kernel) ⟨Nat.le_of_ble_eq_true rfl, Nat.le_of_ble_eq_true rfl⟩) (gb_preV (r := (RX12, TX12, 44)) (ci := 10) (q0 := 0) hSt hP rfl (gb_at b rfl) hS (fun q h => Nat.le_trans hb1 h.1) hP) rfl rfl hl.1 rfl (lv_room (Nat.le_of_ble_eq_true rfl)) dX12_takeOf_8 ⟨Nat.le_of_ble_eq_true rfl, Nat.le_of_ble_eq_true rfl⟩) hS (fun _ h => h) (fun _ h => h) (fun q_5 H locs hY hk hS => ?_)
      obtain ⟨hq_5, hP⟩ := hY
      replace hq_5 := hq_5.symm
      subst hq_5
      refine lv_icmp_ge (tgt := 56) hx hb dX12_takeOf_11 (by decide) (fun c_6 => ?_) (fun c_6 => ?_)
      · rw [if_pos c_6] at h
        refine lv_iload_n hx hb dX12_takeOf_56 rfl (lv_at hl 1 rfl) ?_
        refine lv_iload_n hx hb dX12_takeOf_57 rfl (lv_at hl 2 rfl) ?_
        refine lv_ishr hx hb dX12_takeOf_58 ?_
        refine lv_iconst (v := 1) hx hb dX12_takeOf_59 (by decide) ?_
        refine lv_iand hx hb dX12_takeOf_60 ?_
        refine lv_iconst (v := 1) hx hb dX12_takeOf_61 (by decide) ?_
        refine lv_icmp_ne (tgt := 69) hx hb dX12_takeOf_62 (by decide) (fun c_7 => ?_) (fun c_7 => ?_)
        · rw [if_neg c_7] at h
          refine lv_iconst (v := 0) hx hb dX12_takeOf_69 (by decide) ?_
          exact L70 _ _ _ _ _ _ _ _ h hP hS (lv_sub hl [0, 2, 3] rfl)
        · rw [if_pos c_7] at h
          refine lv_iconst (v := 1) hx hb dX12_takeOf_65 (by decide) ?_
          refine lv_goto (tgt := 70) hx hb dX12_takeOf_66 (by decide) ?_
          exact L70 _ _ _ _ _ _ _ _ h hP hS (lv_sub hl [0, 2, 3] rfl)
      · rw [if_neg c_6] at h
        refine lv_iload_n hx hb dX12_takeOf_14 rfl (lv_at hl 3 rfl) ?_
        refine lv_iload_n hx hb dX12_takeOf_15 rfl (lv_at hl 1 rfl) ?_
        refine lv_iload hx hb dX12_takeOf_16 (lv_at hl 4 rfl) ?_
        refine lv_ishr hx hb dX12_takeOf_18 ?_
        refine lv_iconst (v := 1) hx hb dX12_takeOf_19 (by decide) ?_
        refine lv_iand hx hb dX12_takeOf_20 ?_
        refine lv_iconst (v := 1) hx hb dX12_takeOf_21 (by decide) ?_
        refine lv_icmp_ne (tgt := 34) hx hb dX12_takeOf_22 (by decide) (fun c_37 => ?_) (fun c_37 => ?_)
        · rw [if_neg c_37] at h
          refine lv_aload_n hx hb dX12_takeOf_34 rfl (lv_at hl 0 rfl) ?_
          refine lv_iload hx hb dX12_takeOf_35 (lv_at hl 4 rfl) ?_
          refine lv_iconst (v := 1) hx hb dX12_takeOf_37 (by decide) ?_
          obtain ⟨f_38, wl_39, r_40, z_41, h⟩ := gb_bd_s h
          refine gb_calli (va_runV (C := RX12) (As := [.int v4, .int 1]) (rest := [.int v3]) ⟨hx, hb, hml, hown, hq⟩ (mc_ofPath l D cT tt b1 b hb1 n f_1 wl_2 v4 1 f_38 wl_39 r_40 z_41) (cwV 2 hq (gb_gV w_1388 w_1390 s_4_5 w_14 w_1391) rfl rfl rfl (by decide +kernel) ⟨Nat.le_of_ble_eq_true rfl, Nat.le_of_ble_eq_true rfl⟩) (gb_preV (r := (RX12, TX12, 44)) (ci := 10) (q0 := 0) hSt hP rfl (gb_at b rfl) hS (fun q h => Nat.le_trans hb1 h.1) hP) rfl rfl hl.1 rfl (lv_room (Nat.le_of_ble_eq_true rfl)) dX12_takeOf_38 ⟨Nat.le_of_ble_eq_true rfl, Nat.le_of_ble_eq_true rfl⟩) hS (fun _ h => h) (fun _ h => h) (fun q_42 H locs hY hk hS => ?_)
          obtain ⟨hq_42, hP⟩ := hY
          replace hq_42 := hq_42.symm
          subst hq_42
          refine lv_aload_n hx hb dX12_takeOf_41 rfl (lv_at hl 0 rfl) ?_
          refine lv_iload hx hb dX12_takeOf_42 (lv_at hl 4 rfl) ?_
          obtain ⟨f_43, wl_44, r_45, z_46, h⟩ := gb_bd_s h
          refine gb_calli (va_runV (C := RX12) (As := [.int v4]) (rest := [.int r_40, .int v3]) ⟨hx, hb, hml, hown, hq⟩ (mc_tally l D cT tt b1 b hb1 n f_38 wl_39 v4 f_43 wl_44 r_45 z_46) (cwV 1 hq (gb_gV w_1476 w_1478 s_5_6 w_14 w_1479) rfl rfl rfl (by decide +kernel) ⟨Nat.le_of_ble_eq_true rfl, Nat.le_of_ble_eq_true rfl⟩) (gb_preV (r := (RX12, TX12, 44)) (ci := 10) (q0 := 0) hSt hP rfl (gb_at b rfl) hS (fun q h => Nat.le_trans hb1 h.1) hP) rfl rfl hl.1 rfl (lv_room (Nat.le_of_ble_eq_true rfl)) dX12_takeOf_44 ⟨Nat.le_of_ble_eq_true rfl, Nat.le_of_ble_eq_true rfl⟩) hS (fun _ h => h) (fun _ h => h) (fun q_47 H locs hY hk hS => ?_)
          obtain ⟨hq_47, hP⟩ := hY
          replace hq_47 := hq_47.symm
          subst hq_47
          refine lv_imul hx hb dX12_takeOf_47 ?_
          refine lv_iadd hx hb dX12_takeOf_48 ?_
          refine lv_topi (fun x_48 ex_48 => ?_)
          replace h := gb_lt_s ex_48 h
          refine lv_istore_n (lv' := [(3, .int x_48), (0, .ref (b + 0)), (1, .int v1), (2, .int v2), (4, .int v4)]) hx hb dX12_takeOf_49 rfl hl (by decide) rfl (fun ls hl => ?_)
          obtain ⟨x_49, ex_49⟩ : ∃ q, q = (v4 + 1) := ⟨_, rfl⟩
          replace h := gb_lt_s ex_49 h
          refine lv_iinc (v := x_49) (lv' := [(4, .int x_49), (3, .int x_48), (0, .ref (b + 0)), (1, .int v1), (2, .int v2)]) hx hb dX12_takeOf_50 hl (k := 4) rfl (by rw [ex_49]; rfl) (by decide) rfl (fun ls hl => ?_)
          refine lv_goto (tgt := 5) hx hb dX12_takeOf_53 (by decide) ?_
          exact ih _ _ _ _ _ _ _ _ _ h hP hS (lv_sub hl [2, 3, 4, 1, 0] rfl)
        · rw [if_pos c_37] at h
          refine lv_aload_n hx hb dX12_takeOf_25 rfl (lv_at hl 0 rfl) ?_
          refine lv_iload hx hb dX12_takeOf_26 (lv_at hl 4 rfl) ?_
          obtain ⟨f_50, wl_51, r_52, z_53, h⟩ := gb_bd_s h
          refine gb_calli (va_runV (C := RX12) (As := [.int v4]) (rest := [.int v3]) ⟨hx, hb, hml, hown, hq⟩ (mc_pay l D cT tt b1 b hb1 n f_1 wl_2 v4 f_50 wl_51 r_52 z_53) (cwV 1 hq (gb_gV w_1484 w_1486 s_5_8 w_14 w_1487) rfl rfl rfl (by decide +kernel) ⟨Nat.le_of_ble_eq_true rfl, Nat.le_of_ble_eq_true rfl⟩) (gb_preV (r := (RX12, TX12, 44)) (ci := 10) (q0 := 0) hSt hP rfl (gb_at b rfl) hS (fun q h => Nat.le_trans hb1 h.1) hP) rfl rfl hl.1 rfl (lv_room (Nat.le_of_ble_eq_true rfl)) dX12_takeOf_28 ⟨Nat.le_of_ble_eq_true rfl, Nat.le_of_ble_eq_true rfl⟩) hS (fun _ h => h) (fun _ h => h) (fun q_54 H locs hY hk hS => ?_)
          obtain ⟨hq_54, hP⟩ := hY
          replace hq_54 := hq_54.symm
          subst hq_54
          refine lv_goto (tgt := 48) hx hb dX12_takeOf_31 (by decide) ?_
          refine lv_iadd hx hb dX12_takeOf_48 ?_
          refine lv_topi (fun x_55 ex_55 => ?_)
          replace h := gb_lt_s ex_55 h
          refine lv_istore_n (lv' := [(3, .int x_55), (0, .ref (b + 0)), (1, .int v1), (2, .int v2), (4, .int v4)]) hx hb dX12_takeOf_49 rfl hl (by decide) rfl (fun ls hl => ?_)
          obtain ⟨x_56, ex_56⟩ : ∃ q, q = (v4 + 1) := ⟨_, rfl⟩
          replace h := gb_lt_s ex_56 h
          refine lv_iinc (v := x_56) (lv' := [(4, .int x_56), (3, .int x_55), (0, .ref (b + 0)), (1, .int v1), (2, .int v2)]) hx hb dX12_takeOf_50 hl (k := 4) rfl (by rw [ex_56]; rfl) (by decide) rfl (fun ls hl => ?_)
          refine lv_goto (tgt := 5) hx hb dX12_takeOf_53 (by decide) ?_
          exact ih _ _ _ _ _ _ _ _ _ h hP hS (lv_sub hl [2, 3, 4, 1, 0] rfl)
  unfold ms_takeOf at h
  refine lv_iconst (v := 0) hx hb dX12_takeOf_0 (by decide) ?_
  refine lv_istore_n (lv' := [(3, .int 0), (0, .ref (b + 0)), (1, .int p1), (2, .int p2)]) hx hb dX12_takeOf_1 rfl hl (by decide) rfl (fun ls hl => ?_)
  refine lv_iconst (v := 0) hx hb dX12_takeOf_2 (by decide) ?_
  refine lv_istore (lv' := [(4, .int 0), (3, .int 0), (0, .ref (b + 0)), (1, .int p1), (2, .int p2)]) hx hb dX12_takeOf_3 hl (by decide) rfl (fun ls hl => ?_)
  exact L5 n _ _ _ _ _ _ _ _ _ h hP hS (lv_sub hl [2, 3, 4, 1, 0] rfl)
theorem dX12_isRest_0 : decode cX12_isRest 0 = .ok (.iconst 1, 1) := dc_4 (show ((cX12_isRest.data.toList.drop 0).take 1).map UInt8.toNat = [4] by decide +kernel)
theorem dX12_isRest_1 : decode cX12_isRest 1 = .ok (.istore_n 2, 1) := dc_61 (show ((cX12_isRest.data.toList.drop 1).take 1).map UInt8.toNat = [61] by decide +kernel)
theorem dX12_isRest_2 : decode cX12_isRest 2 = .ok (.iconst 0, 1) := dc_3 (show ((cX12_isRest.data.toList.drop 2).take 1).map UInt8.toNat = [3] by decide +kernel)
theorem dX12_isRest_3 : decode cX12_isRest 3 = .ok (.istore_n 3, 1) := dc_62 (show ((cX12_isRest.data.toList.drop 3).take 1).map UInt8.toNat = [62] by decide +kernel)
theorem dX12_isRest_4 : decode cX12_isRest 4 = .ok (.iload_n 3, 1) := dc_29 (show ((cX12_isRest.data.toList.drop 4).take 1).map UInt8.toNat = [29] by decide +kernel)
theorem dX12_isRest_5 : decode cX12_isRest 5 = .ok (.aload_n 0, 1) := dc_42 (show ((cX12_isRest.data.toList.drop 5).take 1).map UInt8.toNat = [42] by decide +kernel)
theorem dX12_isRest_6 : decode cX12_isRest 6 = .ok (.invokevirtual 199, 3) := dc_182 (show ((cX12_isRest.data.toList.drop 6).take 3).map UInt8.toNat = [182, 0, 199] by decide +kernel) rfl
theorem dX12_isRest_9 : decode cX12_isRest 9 = .ok (.if_icmp .ge 38, 3) := dc_162 (show ((cX12_isRest.data.toList.drop 9).take 3).map UInt8.toNat = [162, 0, 38] by decide +kernel) rfl
theorem dX12_isRest_47 : decode cX12_isRest 47 = .ok (.iload_n 2, 1) := dc_28 (show ((cX12_isRest.data.toList.drop 47).take 1).map UInt8.toNat = [28] by decide +kernel)
theorem dX12_isRest_48 : decode cX12_isRest 48 = .ok (.ireturn, 1) := dc_172 (show ((cX12_isRest.data.toList.drop 48).take 1).map UInt8.toNat = [172] by decide +kernel)
theorem dX12_isRest_12 : decode cX12_isRest 12 = .ok (.iload_n 2, 1) := dc_28 (show ((cX12_isRest.data.toList.drop 12).take 1).map UInt8.toNat = [28] by decide +kernel)
theorem dX12_isRest_13 : decode cX12_isRest 13 = .ok (.ifCond .eq 26, 3) := dc_153 (show ((cX12_isRest.data.toList.drop 13).take 3).map UInt8.toNat = [153, 0, 26] by decide +kernel) rfl
theorem dX12_isRest_39 : decode cX12_isRest 39 = .ok (.iconst 0, 1) := dc_3 (show ((cX12_isRest.data.toList.drop 39).take 1).map UInt8.toNat = [3] by decide +kernel)
theorem dX12_isRest_40 : decode cX12_isRest 40 = .ok (.istore_n 2, 1) := dc_61 (show ((cX12_isRest.data.toList.drop 40).take 1).map UInt8.toNat = [61] by decide +kernel)
theorem dX12_isRest_41 : decode cX12_isRest 41 = .ok (.iinc 3 1, 3) := dc_132 (show ((cX12_isRest.data.toList.drop 41).take 3).map UInt8.toNat = [132, 3, 1] by decide +kernel) rfl
theorem dX12_isRest_44 : decode cX12_isRest 44 = .ok (.goto (-40), 3) := dc_167 (show ((cX12_isRest.data.toList.drop 44).take 3).map UInt8.toNat = [167, 255, 216] by decide +kernel) rfl
theorem dX12_isRest_16 : decode cX12_isRest 16 = .ok (.aload_n 0, 1) := dc_42 (show ((cX12_isRest.data.toList.drop 16).take 1).map UInt8.toNat = [42] by decide +kernel)
theorem dX12_isRest_17 : decode cX12_isRest 17 = .ok (.iload_n 1, 1) := dc_27 (show ((cX12_isRest.data.toList.drop 17).take 1).map UInt8.toNat = [27] by decide +kernel)
theorem dX12_isRest_18 : decode cX12_isRest 18 = .ok (.iconst 1, 1) := dc_4 (show ((cX12_isRest.data.toList.drop 18).take 1).map UInt8.toNat = [4] by decide +kernel)
theorem dX12_isRest_19 : decode cX12_isRest 19 = .ok (.iload_n 3, 1) := dc_29 (show ((cX12_isRest.data.toList.drop 19).take 1).map UInt8.toNat = [29] by decide +kernel)
theorem dX12_isRest_20 : decode cX12_isRest 20 = .ok (.ishl, 1) := dc_120 (show ((cX12_isRest.data.toList.drop 20).take 1).map UInt8.toNat = [120] by decide +kernel)
theorem dX12_isRest_21 : decode cX12_isRest 21 = .ok (.ixor, 1) := dc_130 (show ((cX12_isRest.data.toList.drop 21).take 1).map UInt8.toNat = [130] by decide +kernel)
theorem dX12_isRest_22 : decode cX12_isRest 22 = .ok (.iload_n 3, 1) := dc_29 (show ((cX12_isRest.data.toList.drop 22).take 1).map UInt8.toNat = [29] by decide +kernel)
theorem dX12_isRest_23 : decode cX12_isRest 23 = .ok (.invokevirtual 335, 3) := dc_182 (show ((cX12_isRest.data.toList.drop 23).take 3).map UInt8.toNat = [182, 1, 79] by decide +kernel) rfl
theorem w_1587 : (Cond.code ({ cls := "GooseBorderModel", name := "takeOf", desc := "(II)I" } : MethodName) prog_14_method_83_code (5 : Nat) (Option.some FieldType.int)) ∈ gb_wA := gb_t7 147 rfl rfl
theorem w_1584 : (Cond.methodLink "GooseBorderModel" (335 : Nat) ({ cls := "GooseBorderModel", name := "takeOf", desc := "(II)I" } : MethodName)) ∈ gb_wA := gb_t7 144 rfl rfl
theorem w_1586 : (Cond.instanceMethod ({ cls := "GooseBorderModel", name := "takeOf", desc := "(II)I" } : MethodName)) ∈ gb_wA := gb_t7 146 rfl rfl
theorem s_6_9 : Cond.selects "GooseBorderModel" (⟨"GooseBorderModel", "takeOf", "(II)I"⟩ : MethodName) (⟨"GooseBorderModel", "takeOf", "(II)I"⟩ : MethodName) ∈ gb_wA := gb_s6 9 rfl rfl
theorem dX12_isRest_26 : decode cX12_isRest 26 = .ok (.aload_n 0, 1) := dc_42 (show ((cX12_isRest.data.toList.drop 26).take 1).map UInt8.toNat = [42] by decide +kernel)
theorem dX12_isRest_27 : decode cX12_isRest 27 = .ok (.iload_n 1, 1) := dc_27 (show ((cX12_isRest.data.toList.drop 27).take 1).map UInt8.toNat = [27] by decide +kernel)
theorem dX12_isRest_28 : decode cX12_isRest 28 = .ok (.iload_n 3, 1) := dc_29 (show ((cX12_isRest.data.toList.drop 28).take 1).map UInt8.toNat = [29] by decide +kernel)
theorem dX12_isRest_29 : decode cX12_isRest 29 = .ok (.invokevirtual 335, 3) := dc_182 (show ((cX12_isRest.data.toList.drop 29).take 3).map UInt8.toNat = [182, 1, 79] by decide +kernel) rfl
theorem dX12_isRest_32 : decode cX12_isRest 32 = .ok (.if_icmp .gt 7, 3) := dc_163 (show ((cX12_isRest.data.toList.drop 32).take 3).map UInt8.toNat = [163, 0, 7] by decide +kernel) rfl
theorem dX12_isRest_35 : decode cX12_isRest 35 = .ok (.iconst 1, 1) := dc_4 (show ((cX12_isRest.data.toList.drop 35).take 1).map UInt8.toNat = [4] by decide +kernel)
theorem dX12_isRest_36 : decode cX12_isRest 36 = .ok (.goto 4, 3) := dc_167 (show ((cX12_isRest.data.toList.drop 36).take 3).map UInt8.toNat = [167, 0, 4] by decide +kernel) rfl
def ms_isRest_4 (n : Nat) : Nat → gb_F → Int64 → Int32 → Int32 → Int32 → gb_MR Int32
  | 0, _, _, _, _, _ => none
  | mm + 1, f, w, v1, v2, v3 => gb_bd (ms_paths n f w) (fun f_1 wl_2 r_3 => (if r_3 ≤ v3 then gb_cb v2 (some (f_1, wl_2, v2)) else (if v2 = 0 then gb_lt (v3 + 1) (fun x_9 => ms_isRest_4 n mm f_1 wl_2 v1 0 x_9) else gb_bd (ms_takeOf n f_1 wl_2 (v1 ^^^ (1 <<< (v3 &&& 31))) v3) (fun f_10 wl_11 r_12 => gb_bd (ms_takeOf n f_10 wl_11 v1 v3) (fun f_15 wl_16 r_17 => (if r_17 < r_12 then gb_lt (v3 + 1) (fun x_21 => ms_isRest_4 n mm f_15 wl_16 v1 0 x_21) else gb_lt (v3 + 1) (fun x_22 => ms_isRest_4 n mm f_15 wl_16 v1 1 x_22)))))))
def ms_isRest (n : Nat) (f : gb_F) (w : Int64) (p1 : Int32) : gb_MR Int32 := ms_isRest_4 n n f w p1 1 0
set_option maxHeartbeats 8000000 in
set_option maxRecDepth 100000 in
theorem mc_isRest (l : Launch) (D : va_G) (cT : Nat → ClassId) (tt : Nat → Nat) (b1 b : Nat) (hb1 : b1 ≤ b) (n : Nat) (f : gb_F) (w : Int64) (p1 : Int32) (fE : gb_F) (wE : Int64) (rE : Int32) (h : ms_isRest n f w p1 = some (fE, wE, rE)) : Met l yX12_isRest (.code yX12_isRest cX12_isRest 4 (some FieldType.boolean) :: gb_wA) ({ frames := 5, cells := 0, slots := 0, locals := 110 }) (gb_Pc D cT tt b1 [.ref (b + 0), .int p1] (fun h => va_P D vwCl (gb_wl b (gb_MW cT b f w)) h)) (gb_Qi (fun r h => r = rE ∧ va_P D vwCl (gb_wl b (gb_MW cT b fE wE)) h) (gb_fr b 22)) 0 0 (gb_fr b 22) := by
  refine Met.ofW (cc := cX12_isRest) (maxL := 4) (ret := (some FieldType.boolean)) (by decide) rfl ?_
  intro p e s m args below meth c s₁ B hml hv
  obtain ⟨rfl, hSt, hP⟩ := hv
  have hx := B.exec
  have hb := B.bytes
  have hr := B.returns
  have hts := atoms_spec (ws := .code yX12_isRest cX12_isRest 4 (some FieldType.boolean) :: gb_wA) B.pre
  have hq : ∀ w ∈ gb_wA, w.before _ s = true := fun w h => hts w (List.mem_cons_of_mem _ h)
  have hown : s.vm.findClass RX12 = some m.cls := findClass_of_methodNamed B.named
  have hlocks := B.notSynchronized
  clear B hts
  have hK := hSt.1
  have hS : va_S (gb_fr b 22) s.heap s.heap [] := va_S.rf
  have hl := lv_entry ([.ref (b + 0), .int p1]) (n := 4) (Nat.le_of_ble_eq_true rfl)
  rw [lg_entry_eq]
  generalize (lg_sl ([.ref (b + 0), .int p1]) ++ List.replicate (4 - (lg_sl ([.ref (b + 0), .int p1])).length) Slot.unset).toArray = ls at hl ⊢
  replace hl : lv_has ls 4 [(0, .ref (b + 0)), (1, .int p1)] := hl
  have L4 : ∀ (mm : Nat) (f : gb_F) (w : Int64) (v1 : Int32) (v2 : Int32) (v3 : Int32) (H : Heap) (locs : List Loc) (ls : Array Slot), ms_isRest_4 n mm f w v1 v2 v3 = some (fE, wE, rE) → va_P D vwCl (gb_wl b (gb_MW cT b f w)) H → va_S (gb_fr b 22) s.heap H locs → lv_has ls 4 [(0, .ref (b + 0)), (1, .int v1), (2, .int v2), (3, .int v3)] → W p l e (headSpec (.code yX12_isRest cX12_isRest 4 (some FieldType.boolean) :: gb_wA) ({ frames := 5, cells := 0, slots := 0, locals := 110 })).room s m ([.ref (b + 0), .int p1]).toArray below meth c H locs 0 0 (MQ below (gb_Qi (fun r h => r = rE ∧ va_P D vwCl (gb_wl b (gb_MW cT b fE wE)) h) (gb_fr b 22)) ([.ref (b + 0), .int p1]).toArray s 0 0 (gb_fr b 22)) (F0 m 4 ls []) := by
    clear h hP hS hl ls f w
    intro mm
    induction mm with
    | zero =>
      intro f w v1 v2 v3 H locs ls h
      cases h
    | succ mm ih =>
      intro f w v1 v2 v3 H locs ls h hP hS hl
      rw [ms_isRest_4] at h
      refine lv_iload_n hx hb dX12_isRest_4 rfl (lv_at hl 3 rfl) ?_
      refine lv_aload_n hx hb dX12_isRest_5 rfl (lv_at hl 0 rfl) ?_
      obtain ⟨f_1, wl_2, r_3, z_4, h⟩ := gb_bd_s h
      refine gb_calli (va_runV (C := RX12) (As := []) (rest := [.int v3]) ⟨hx, hb, hml, hown, hq⟩ (mc_paths l D cT tt b1 b hb1 n f w f_1 wl_2 r_3 z_4) (cwV 0 hq (gb_gV w_1384 w_1386 s_4_4 w_14 w_1387) rfl rfl rfl (by decide +kernel) ⟨Nat.le_of_ble_eq_true rfl, Nat.le_of_ble_eq_true rfl⟩) (gb_preV (r := (RX12, TX12, 44)) (ci := 10) (q0 := 0) hSt hP rfl (gb_at b rfl) hS (fun q h => Nat.le_trans hb1 h.1) hP) rfl rfl hl.1 rfl (lv_room (Nat.le_of_ble_eq_true rfl)) dX12_isRest_6 ⟨Nat.le_of_ble_eq_true rfl, Nat.le_of_ble_eq_true rfl⟩) hS (fun _ h => h) (fun _ h => h) (fun q_5 H locs hY hk hS => ?_)
      obtain ⟨hq_5, hP⟩ := hY
      replace hq_5 := hq_5.symm
      subst hq_5
      refine lv_icmp_ge (tgt := 47) hx hb dX12_isRest_9 (by decide) (fun c_6 => ?_) (fun c_6 => ?_)
      · rw [if_pos c_6] at h
        refine lv_iload_n hx hb dX12_isRest_47 rfl (lv_at hl 2 rfl) ?_
        obtain ⟨z_7, h⟩ := gb_cb_s h
        obtain ⟨e1, e2, e3⟩ := gb_eq3 h
        exact W.zret (v := v2) hx hb hr z_7.1 (fun t ht hW => gb_ri ht ⟨e3, by rw [← e1, ← e2]; exact hP⟩ hS) hS.2.2 dX12_isRest_48
      · rw [if_neg c_6] at h
        refine lv_iload_n hx hb dX12_isRest_12 rfl (lv_at hl 2 rfl) ?_
        refine lv_if_eq (tgt := 39) hx hb dX12_isRest_13 (by decide) (fun c_8 => ?_) (fun c_8 => ?_)
        · rw [if_pos c_8] at h
          refine lv_iconst (v := 0) hx hb dX12_isRest_39 (by decide) ?_
          refine lv_istore_n (lv' := [(2, .int 0), (0, .ref (b + 0)), (1, .int v1), (3, .int v3)]) hx hb dX12_isRest_40 rfl hl (by decide) rfl (fun ls hl => ?_)
          obtain ⟨x_9, ex_9⟩ : ∃ q, q = (v3 + 1) := ⟨_, rfl⟩
          replace h := gb_lt_s ex_9 h
          refine lv_iinc (v := x_9) (lv' := [(3, .int x_9), (2, .int 0), (0, .ref (b + 0)), (1, .int v1)]) hx hb dX12_isRest_41 hl (k := 3) rfl (by rw [ex_9]; rfl) (by decide) rfl (fun ls hl => ?_)
          refine lv_goto (tgt := 4) hx hb dX12_isRest_44 (by decide) ?_
          exact ih _ _ _ _ _ _ _ _ h hP hS (lv_sub hl [2, 3, 1, 0] rfl)
        · rw [if_neg c_8] at h
          refine lv_aload_n hx hb dX12_isRest_16 rfl (lv_at hl 0 rfl) ?_
          refine lv_iload_n hx hb dX12_isRest_17 rfl (lv_at hl 1 rfl) ?_
          refine lv_iconst (v := 1) hx hb dX12_isRest_18 (by decide) ?_
          refine lv_iload_n hx hb dX12_isRest_19 rfl (lv_at hl 3 rfl) ?_
          refine lv_ishl hx hb dX12_isRest_20 ?_
          refine lv_ixor hx hb dX12_isRest_21 ?_
          refine lv_iload_n hx hb dX12_isRest_22 rfl (lv_at hl 3 rfl) ?_
          obtain ⟨f_10, wl_11, r_12, z_13, h⟩ := gb_bd_s h
          refine gb_calli (va_runV (C := RX12) (As := [.int (v1 ^^^ (1 <<< (v3 &&& 31))), .int v3]) (rest := []) ⟨hx, hb, hml, hown, hq⟩ (mc_takeOf l D cT tt b1 b hb1 n f_1 wl_2 (v1 ^^^ (1 <<< (v3 &&& 31))) v3 f_10 wl_11 r_12 z_13) (cwV 2 hq (gb_gV w_1584 w_1586 s_6_9 w_14 w_1587) rfl rfl rfl (by decide +kernel) ⟨Nat.le_of_ble_eq_true rfl, Nat.le_of_ble_eq_true rfl⟩) (gb_preV (r := (RX12, TX12, 44)) (ci := 10) (q0 := 0) hSt hP rfl (gb_at b rfl) hS (fun q h => Nat.le_trans hb1 h.1) hP) rfl rfl hl.1 rfl (lv_room (Nat.le_of_ble_eq_true rfl)) dX12_isRest_23 ⟨Nat.le_of_ble_eq_true rfl, Nat.le_of_ble_eq_true rfl⟩) hS (fun _ h => h) (fun _ h => h) (fun q_14 H locs hY hk hS => ?_)
          obtain ⟨hq_14, hP⟩ := hY
          replace hq_14 := hq_14.symm
          subst hq_14
          refine lv_aload_n hx hb dX12_isRest_26 rfl (lv_at hl 0 rfl) ?_
          refine lv_iload_n hx hb dX12_isRest_27 rfl (lv_at hl 1 rfl) ?_
          refine lv_iload_n hx hb dX12_isRest_28 rfl (lv_at hl 3 rfl) ?_
          obtain ⟨f_15, wl_16, r_17, z_18, h⟩ := gb_bd_s h
          refine gb_calli (va_runV (C := RX12) (As := [.int v1, .int v3]) (rest := [.int r_12]) ⟨hx, hb, hml, hown, hq⟩ (mc_takeOf l D cT tt b1 b hb1 n f_10 wl_11 v1 v3 f_15 wl_16 r_17 z_18) (cwV 2 hq (gb_gV w_1584 w_1586 s_6_9 w_14 w_1587) rfl rfl rfl (by decide +kernel) ⟨Nat.le_of_ble_eq_true rfl, Nat.le_of_ble_eq_true rfl⟩) (gb_preV (r := (RX12, TX12, 44)) (ci := 10) (q0 := 0) hSt hP rfl (gb_at b rfl) hS (fun q h => Nat.le_trans hb1 h.1) hP) rfl rfl hl.1 rfl (lv_room (Nat.le_of_ble_eq_true rfl)) dX12_isRest_29 ⟨Nat.le_of_ble_eq_true rfl, Nat.le_of_ble_eq_true rfl⟩) hS (fun _ h => h) (fun _ h => h) (fun q_19 H locs hY hk hS => ?_)
          obtain ⟨hq_19, hP⟩ := hY
          replace hq_19 := hq_19.symm
          subst hq_19
          refine lv_icmp_gt (tgt := 39) hx hb dX12_isRest_32 (by decide) (fun c_20 => ?_) (fun c_20 => ?_)
          · rw [if_pos c_20] at h
            refine lv_iconst (v := 0) hx hb dX12_isRest_39 (by decide) ?_
            refine lv_istore_n (lv' := [(2, .int 0), (0, .ref (b + 0)), (1, .int v1), (3, .int v3)]) hx hb dX12_isRest_40 rfl hl (by decide) rfl (fun ls hl => ?_)
            obtain ⟨x_21, ex_21⟩ : ∃ q, q = (v3 + 1) := ⟨_, rfl⟩
            replace h := gb_lt_s ex_21 h
            refine lv_iinc (v := x_21) (lv' := [(3, .int x_21), (2, .int 0), (0, .ref (b + 0)), (1, .int v1)]) hx hb dX12_isRest_41 hl (k := 3) rfl (by rw [ex_21]; rfl) (by decide) rfl (fun ls hl => ?_)
            refine lv_goto (tgt := 4) hx hb dX12_isRest_44 (by decide) ?_
            exact ih _ _ _ _ _ _ _ _ h hP hS (lv_sub hl [2, 3, 1, 0] rfl)
          · rw [if_neg c_20] at h
            refine lv_iconst (v := 1) hx hb dX12_isRest_35 (by decide) ?_
            refine lv_goto (tgt := 40) hx hb dX12_isRest_36 (by decide) ?_
            refine lv_istore_n (lv' := [(2, .int 1), (0, .ref (b + 0)), (1, .int v1), (3, .int v3)]) hx hb dX12_isRest_40 rfl hl (by decide) rfl (fun ls hl => ?_)
            obtain ⟨x_22, ex_22⟩ : ∃ q, q = (v3 + 1) := ⟨_, rfl⟩
            replace h := gb_lt_s ex_22 h
            refine lv_iinc (v := x_22) (lv' := [(3, .int x_22), (2, .int 1), (0, .ref (b + 0)), (1, .int v1)]) hx hb dX12_isRest_41 hl (k := 3) rfl (by rw [ex_22]; rfl) (by decide) rfl (fun ls hl => ?_)
            refine lv_goto (tgt := 4) hx hb dX12_isRest_44 (by decide) ?_
            exact ih _ _ _ _ _ _ _ _ h hP hS (lv_sub hl [2, 3, 1, 0] rfl)
  unfold ms_isRest at h
  refine lv_iconst (v := 1) hx hb dX12_isRest_0 (by decide) ?_
  refine lv_istore_n (lv' := [(2, .int 1), (0, .ref (b + 0)), (1, .int p1)]) hx hb dX12_isRest_1 rfl hl (by decide) rfl (fun ls hl => ?_)
  refine lv_iconst (v := 0) hx hb dX12_isRest_2 (by decide) ?_
  refine lv_istore_n (lv' := [(3, .int 0), (2, .int 1), (0, .ref (b + 0)), (1, .int p1)]) hx hb dX12_isRest_3 rfl hl (by decide) rfl (fun ls hl => ?_)
  exact L4 n _ _ _ _ _ _ _ _ h hP hS (lv_sub hl [2, 3, 1, 0] rfl)
theorem dX12_rest_0 : decode cX12_rest 0 = .ok (.aload_n 0, 1) := dc_42 (show ((cX12_rest.data.toList.drop 0).take 1).map UInt8.toNat = [42] by decide +kernel)
theorem dX12_rest_1 : decode cX12_rest 1 = .ok (.iload_n 1, 1) := dc_27 (show ((cX12_rest.data.toList.drop 1).take 1).map UInt8.toNat = [27] by decide +kernel)
theorem dX12_rest_2 : decode cX12_rest 2 = .ok (.iload_n 2, 1) := dc_28 (show ((cX12_rest.data.toList.drop 2).take 1).map UInt8.toNat = [28] by decide +kernel)
theorem dX12_rest_3 : decode cX12_rest 3 = .ok (.invokevirtual 264, 3) := dc_182 (show ((cX12_rest.data.toList.drop 3).take 3).map UInt8.toNat = [182, 1, 8] by decide +kernel) rfl
theorem dX12_rest_6 : decode cX12_rest 6 = .ok (.ifCond .eq 8, 3) := dc_153 (show ((cX12_rest.data.toList.drop 6).take 3).map UInt8.toNat = [153, 0, 8] by decide +kernel) rfl
theorem dX12_rest_14 : decode cX12_rest 14 = .ok (.bipush (-2), 2) := dc_16 (show ((cX12_rest.data.toList.drop 14).take 2).map UInt8.toNat = [16, 254] by decide +kernel) rfl
theorem dX12_rest_16 : decode cX12_rest 16 = .ok (.ireturn, 1) := dc_172 (show ((cX12_rest.data.toList.drop 16).take 1).map UInt8.toNat = [172] by decide +kernel)
theorem dX12_rest_9 : decode cX12_rest 9 = .ok (.iload_n 3, 1) := dc_29 (show ((cX12_rest.data.toList.drop 9).take 1).map UInt8.toNat = [29] by decide +kernel)
theorem dX12_rest_10 : decode cX12_rest 10 = .ok (.iconst (-1), 1) := dc_2 (show ((cX12_rest.data.toList.drop 10).take 1).map UInt8.toNat = [2] by decide +kernel)
theorem dX12_rest_11 : decode cX12_rest 11 = .ok (.if_icmp .ge 6, 3) := dc_162 (show ((cX12_rest.data.toList.drop 11).take 3).map UInt8.toNat = [162, 0, 6] by decide +kernel) rfl
theorem dX12_rest_17 : decode cX12_rest 17 = .ok (.aload_n 0, 1) := dc_42 (show ((cX12_rest.data.toList.drop 17).take 1).map UInt8.toNat = [42] by decide +kernel)
theorem dX12_rest_18 : decode cX12_rest 18 = .ok (.bipush 24, 2) := dc_16 (show ((cX12_rest.data.toList.drop 18).take 2).map UInt8.toNat = [16, 24] by decide +kernel) rfl
theorem dX12_rest_20 : decode cX12_rest 20 = .ok (.invokevirtual 267, 3) := dc_182 (show ((cX12_rest.data.toList.drop 20).take 3).map UInt8.toNat = [182, 1, 11] by decide +kernel) rfl
theorem dX12_rest_23 : decode cX12_rest 23 = .ok (.iconst 0, 1) := dc_3 (show ((cX12_rest.data.toList.drop 23).take 1).map UInt8.toNat = [3] by decide +kernel)
theorem dX12_rest_24 : decode cX12_rest 24 = .ok (.istore 4, 2) := dc_54 (show ((cX12_rest.data.toList.drop 24).take 2).map UInt8.toNat = [54, 4] by decide +kernel) rfl
theorem dX12_rest_26 : decode cX12_rest 26 = .ok (.iconst 0, 1) := dc_3 (show ((cX12_rest.data.toList.drop 26).take 1).map UInt8.toNat = [3] by decide +kernel)
theorem dX12_rest_27 : decode cX12_rest 27 = .ok (.istore 5, 2) := dc_54 (show ((cX12_rest.data.toList.drop 27).take 2).map UInt8.toNat = [54, 5] by decide +kernel) rfl
theorem dX12_rest_29 : decode cX12_rest 29 = .ok (.iload 5, 2) := dc_21 (show ((cX12_rest.data.toList.drop 29).take 2).map UInt8.toNat = [21, 5] by decide +kernel) rfl
theorem dX12_rest_31 : decode cX12_rest 31 = .ok (.iconst 1, 1) := dc_4 (show ((cX12_rest.data.toList.drop 31).take 1).map UInt8.toNat = [4] by decide +kernel)
theorem dX12_rest_32 : decode cX12_rest 32 = .ok (.aload_n 0, 1) := dc_42 (show ((cX12_rest.data.toList.drop 32).take 1).map UInt8.toNat = [42] by decide +kernel)
theorem dX12_rest_33 : decode cX12_rest 33 = .ok (.invokevirtual 199, 3) := dc_182 (show ((cX12_rest.data.toList.drop 33).take 3).map UInt8.toNat = [182, 0, 199] by decide +kernel) rfl
theorem dX12_rest_36 : decode cX12_rest 36 = .ok (.ishl, 1) := dc_120 (show ((cX12_rest.data.toList.drop 36).take 1).map UInt8.toNat = [120] by decide +kernel)
theorem dX12_rest_37 : decode cX12_rest 37 = .ok (.if_icmp .ge 33, 3) := dc_162 (show ((cX12_rest.data.toList.drop 37).take 3).map UInt8.toNat = [162, 0, 33] by decide +kernel) rfl
theorem dX12_rest_70 : decode cX12_rest 70 = .ok (.iload_n 3, 1) := dc_29 (show ((cX12_rest.data.toList.drop 70).take 1).map UInt8.toNat = [29] by decide +kernel)
theorem dX12_rest_71 : decode cX12_rest 71 = .ok (.iconst (-1), 1) := dc_2 (show ((cX12_rest.data.toList.drop 71).take 1).map UInt8.toNat = [2] by decide +kernel)
theorem dX12_rest_72 : decode cX12_rest 72 = .ok (.if_icmp .ne 8, 3) := dc_160 (show ((cX12_rest.data.toList.drop 72).take 3).map UInt8.toNat = [160, 0, 8] by decide +kernel) rfl
theorem dX12_rest_80 : decode cX12_rest 80 = .ok (.bipush (-2), 2) := dc_16 (show ((cX12_rest.data.toList.drop 80).take 2).map UInt8.toNat = [16, 254] by decide +kernel) rfl
theorem dX12_rest_82 : decode cX12_rest 82 = .ok (.ireturn, 1) := dc_172 (show ((cX12_rest.data.toList.drop 82).take 1).map UInt8.toNat = [172] by decide +kernel)
theorem dX12_rest_75 : decode cX12_rest 75 = .ok (.iload 4, 2) := dc_21 (show ((cX12_rest.data.toList.drop 75).take 2).map UInt8.toNat = [21, 4] by decide +kernel) rfl
theorem dX12_rest_77 : decode cX12_rest 77 = .ok (.goto 5, 3) := dc_167 (show ((cX12_rest.data.toList.drop 77).take 3).map UInt8.toNat = [167, 0, 5] by decide +kernel) rfl
theorem dX12_rest_40 : decode cX12_rest 40 = .ok (.aload_n 0, 1) := dc_42 (show ((cX12_rest.data.toList.drop 40).take 1).map UInt8.toNat = [42] by decide +kernel)
theorem dX12_rest_41 : decode cX12_rest 41 = .ok (.iload 5, 2) := dc_21 (show ((cX12_rest.data.toList.drop 41).take 2).map UInt8.toNat = [21, 5] by decide +kernel) rfl
theorem dX12_rest_43 : decode cX12_rest 43 = .ok (.invokevirtual 338, 3) := dc_182 (show ((cX12_rest.data.toList.drop 43).take 3).map UInt8.toNat = [182, 1, 82] by decide +kernel) rfl
theorem w_1583 : (Cond.code ({ cls := "GooseBorderModel", name := "isRest", desc := "(I)Z" } : MethodName) prog_14_method_84_code (4 : Nat) (Option.some FieldType.boolean)) ∈ gb_wA := gb_t7 143 rfl rfl
theorem w_1580 : (Cond.methodLink "GooseBorderModel" (338 : Nat) ({ cls := "GooseBorderModel", name := "isRest", desc := "(I)Z" } : MethodName)) ∈ gb_wA := gb_t7 140 rfl rfl
theorem w_1582 : (Cond.instanceMethod ({ cls := "GooseBorderModel", name := "isRest", desc := "(I)Z" } : MethodName)) ∈ gb_wA := gb_t7 142 rfl rfl
theorem s_6_8 : Cond.selects "GooseBorderModel" (⟨"GooseBorderModel", "isRest", "(I)Z"⟩ : MethodName) (⟨"GooseBorderModel", "isRest", "(I)Z"⟩ : MethodName) ∈ gb_wA := gb_s6 8 rfl rfl
theorem dX12_rest_46 : decode cX12_rest 46 = .ok (.ifCond .ne 6, 3) := dc_154 (show ((cX12_rest.data.toList.drop 46).take 3).map UInt8.toNat = [154, 0, 6] by decide +kernel) rfl
theorem dX12_rest_52 : decode cX12_rest 52 = .ok (.iload 4, 2) := dc_21 (show ((cX12_rest.data.toList.drop 52).take 2).map UInt8.toNat = [21, 4] by decide +kernel) rfl
theorem dX12_rest_54 : decode cX12_rest 54 = .ok (.iload_n 3, 1) := dc_29 (show ((cX12_rest.data.toList.drop 54).take 1).map UInt8.toNat = [29] by decide +kernel)
theorem dX12_rest_55 : decode cX12_rest 55 = .ok (.if_icmp .ne 6, 3) := dc_160 (show ((cX12_rest.data.toList.drop 55).take 3).map UInt8.toNat = [160, 0, 6] by decide +kernel) rfl
theorem dX12_rest_61 : decode cX12_rest 61 = .ok (.iinc 4 1, 3) := dc_132 (show ((cX12_rest.data.toList.drop 61).take 3).map UInt8.toNat = [132, 4, 1] by decide +kernel) rfl
theorem dX12_rest_64 : decode cX12_rest 64 = .ok (.iinc 5 1, 3) := dc_132 (show ((cX12_rest.data.toList.drop 64).take 3).map UInt8.toNat = [132, 5, 1] by decide +kernel) rfl
theorem dX12_rest_67 : decode cX12_rest 67 = .ok (.goto (-38), 3) := dc_167 (show ((cX12_rest.data.toList.drop 67).take 3).map UInt8.toNat = [167, 255, 218] by decide +kernel) rfl
theorem dX12_rest_58 : decode cX12_rest 58 = .ok (.iload 5, 2) := dc_21 (show ((cX12_rest.data.toList.drop 58).take 2).map UInt8.toNat = [21, 5] by decide +kernel) rfl
theorem dX12_rest_60 : decode cX12_rest 60 = .ok (.ireturn, 1) := dc_172 (show ((cX12_rest.data.toList.drop 60).take 1).map UInt8.toNat = [172] by decide +kernel)
theorem dX12_rest_49 : decode cX12_rest 49 = .ok (.goto 15, 3) := dc_167 (show ((cX12_rest.data.toList.drop 49).take 3).map UInt8.toNat = [167, 0, 15] by decide +kernel) rfl
def ms_rest_29 (n : Nat) : Nat → gb_F → Int64 → Int32 → Int32 → Int32 → gb_MR Int32
  | 0, _, _, _, _, _ => none
  | mm + 1, f, w, v3, v4, v5 => gb_bd (ms_paths n f w) (fun f_13 wl_14 r_15 => (if (1 <<< (r_15 &&& 31)) ≤ v5 then (if v3 = (-1) then some (f_13, wl_14, v4) else some (f_13, wl_14, (-2))) else gb_bd (ms_isRest n f_13 wl_14 v5) (fun f_20 wl_21 r_22 => (if r_22 = 0 then gb_lt (v5 + 1) (fun x_29 => ms_rest_29 n mm f_20 wl_21 v3 v4 x_29) else (if v4 = v3 then some (f_20, wl_21, v5) else gb_lt (v4 + 1) (fun x_27 => gb_lt (v5 + 1) (fun x_28 => ms_rest_29 n mm f_20 wl_21 v3 x_27 x_28)))))))
def ms_rest (n : Nat) (f : gb_F) (w : Int64) (p1 : Int32) (p2 : Int32) (p3 : Int32) : gb_MR Int32 := gb_bd (ms_areTold n f w p1 p2) (fun f_1 wl_2 r_3 => (if r_3 = 0 then some (f_1, wl_2, (-2)) else (if ((-1) : Int32) ≤ p3 then gb_bd (ms_runs n f_1 wl_2 24) (fun f_8 wl_9 _ => ms_rest_29 n n f_8 wl_9 p3 0 0) else some (f_1, wl_2, (-2)))))
set_option maxHeartbeats 8000000 in
set_option maxRecDepth 100000 in
theorem mc_rest (l : Launch) (D : va_G) (cT : Nat → ClassId) (tt : Nat → Nat) (b1 b : Nat) (hb1 : b1 ≤ b) (n : Nat) (f : gb_F) (w : Int64) (p1 : Int32) (p2 : Int32) (p3 : Int32) (fE : gb_F) (wE : Int64) (rE : Int32) (h : ms_rest n f w p1 p2 p3 = some (fE, wE, rE)) : Met l yX12_rest (.code yX12_rest cX12_rest 6 (some FieldType.int) :: gb_wA) ({ frames := 6, cells := 0, slots := 0, locals := 141 }) (gb_Pc D cT tt b1 [.ref (b + 0), .int p1, .int p2, .int p3] (fun h => va_P D vwCl (gb_wl b (gb_MW cT b f w)) h)) (gb_Qi (fun r h => r = rE ∧ va_P D vwCl (gb_wl b (gb_MW cT b fE wE)) h) (gb_fr b 22)) 0 0 (gb_fr b 22) := by
  refine Met.ofW (cc := cX12_rest) (maxL := 6) (ret := (some FieldType.int)) (by decide) rfl ?_
  intro p e s m args below meth c s₁ B hml hv
  obtain ⟨rfl, hSt, hP⟩ := hv
  have hx := B.exec
  have hb := B.bytes
  have hr := B.returns
  have hts := atoms_spec (ws := .code yX12_rest cX12_rest 6 (some FieldType.int) :: gb_wA) B.pre
  have hq : ∀ w ∈ gb_wA, w.before _ s = true := fun w h => hts w (List.mem_cons_of_mem _ h)
  have hown : s.vm.findClass RX12 = some m.cls := findClass_of_methodNamed B.named
  have hlocks := B.notSynchronized
  clear B hts
  have hK := hSt.1
  have hS : va_S (gb_fr b 22) s.heap s.heap [] := va_S.rf
  have hl := lv_entry ([.ref (b + 0), .int p1, .int p2, .int p3]) (n := 6) (Nat.le_of_ble_eq_true rfl)
  rw [lg_entry_eq]
  generalize (lg_sl ([.ref (b + 0), .int p1, .int p2, .int p3]) ++ List.replicate (6 - (lg_sl ([.ref (b + 0), .int p1, .int p2, .int p3])).length) Slot.unset).toArray = ls at hl ⊢
  replace hl : lv_has ls 6 [(0, .ref (b + 0)), (1, .int p1), (2, .int p2), (3, .int p3)] := hl
  have L29 : ∀ (mm : Nat) (f : gb_F) (w : Int64) (v3 : Int32) (v4 : Int32) (v5 : Int32) (H : Heap) (locs : List Loc) (ls : Array Slot), ms_rest_29 n mm f w v3 v4 v5 = some (fE, wE, rE) → va_P D vwCl (gb_wl b (gb_MW cT b f w)) H → va_S (gb_fr b 22) s.heap H locs → lv_has ls 6 [(0, .ref (b + 0)), (3, .int v3), (4, .int v4), (5, .int v5)] → W p l e (headSpec (.code yX12_rest cX12_rest 6 (some FieldType.int) :: gb_wA) ({ frames := 6, cells := 0, slots := 0, locals := 141 })).room s m ([.ref (b + 0), .int p1, .int p2, .int p3]).toArray below meth c H locs 0 0 (MQ below (gb_Qi (fun r h => r = rE ∧ va_P D vwCl (gb_wl b (gb_MW cT b fE wE)) h) (gb_fr b 22)) ([.ref (b + 0), .int p1, .int p2, .int p3]).toArray s 0 0 (gb_fr b 22)) (F0 m 29 ls []) := by
    clear h hP hS hl ls f w
    intro mm
    induction mm with
    | zero =>
      intro f w v3 v4 v5 H locs ls h
      cases h
    | succ mm ih =>
      intro f w v3 v4 v5 H locs ls h hP hS hl
      rw [ms_rest_29] at h
      refine lv_iload hx hb dX12_rest_29 (lv_at hl 3 rfl) ?_
      refine lv_iconst (v := 1) hx hb dX12_rest_31 (by decide) ?_
      refine lv_aload_n hx hb dX12_rest_32 rfl (lv_at hl 0 rfl) ?_
      obtain ⟨f_13, wl_14, r_15, z_16, h⟩ := gb_bd_s h
      refine gb_calli (va_runV (C := RX12) (As := []) (rest := [.int 1, .int v5]) ⟨hx, hb, hml, hown, hq⟩ (mc_paths l D cT tt b1 b hb1 n f w f_13 wl_14 r_15 z_16) (cwV 0 hq (gb_gV w_1384 w_1386 s_4_4 w_14 w_1387) rfl rfl rfl (by decide +kernel) ⟨Nat.le_of_ble_eq_true rfl, Nat.le_of_ble_eq_true rfl⟩) (gb_preV (r := (RX12, TX12, 44)) (ci := 10) (q0 := 0) hSt hP rfl (gb_at b rfl) hS (fun q h => Nat.le_trans hb1 h.1) hP) rfl rfl hl.1 rfl (lv_room (Nat.le_of_ble_eq_true rfl)) dX12_rest_33 ⟨Nat.le_of_ble_eq_true rfl, Nat.le_of_ble_eq_true rfl⟩) hS (fun _ h => h) (fun _ h => h) (fun q_17 H locs hY hk hS => ?_)
      obtain ⟨hq_17, hP⟩ := hY
      replace hq_17 := hq_17.symm
      subst hq_17
      refine lv_ishl hx hb dX12_rest_36 ?_
      refine lv_icmp_ge (tgt := 70) hx hb dX12_rest_37 (by decide) (fun c_18 => ?_) (fun c_18 => ?_)
      · rw [if_pos c_18] at h
        refine lv_iload_n hx hb dX12_rest_70 rfl (lv_at hl 1 rfl) ?_
        refine lv_iconst (v := (-1)) hx hb dX12_rest_71 (by decide) ?_
        refine lv_icmp_ne (tgt := 80) hx hb dX12_rest_72 (by decide) (fun c_19 => ?_) (fun c_19 => ?_)
        · rw [if_neg c_19] at h
          refine lv_bipush (v := (-2)) hx hb dX12_rest_80 (by decide) ?_
          obtain ⟨e1, e2, e3⟩ := gb_eq3 h
          exact W.iret (v := (-2)) hx hb hr (fun t ht hW => gb_ri ht ⟨e3, by rw [← e1, ← e2]; exact hP⟩ hS) hS.2.2 dX12_rest_82
        · rw [if_pos c_19] at h
          refine lv_iload hx hb dX12_rest_75 (lv_at hl 2 rfl) ?_
          refine lv_goto (tgt := 82) hx hb dX12_rest_77 (by decide) ?_
          obtain ⟨e1, e2, e3⟩ := gb_eq3 h
          exact W.iret (v := v4) hx hb hr (fun t ht hW => gb_ri ht ⟨e3, by rw [← e1, ← e2]; exact hP⟩ hS) hS.2.2 dX12_rest_82
      · rw [if_neg c_18] at h
        refine lv_aload_n hx hb dX12_rest_40 rfl (lv_at hl 0 rfl) ?_
        refine lv_iload hx hb dX12_rest_41 (lv_at hl 3 rfl) ?_
        obtain ⟨f_20, wl_21, r_22, z_23, h⟩ := gb_bd_s h
        refine gb_calli (va_runV (C := RX12) (As := [.int v5]) (rest := []) ⟨hx, hb, hml, hown, hq⟩ (mc_isRest l D cT tt b1 b hb1 n f_13 wl_14 v5 f_20 wl_21 r_22 z_23) (cwV 1 hq (gb_gV w_1580 w_1582 s_6_8 w_14 w_1583) rfl rfl rfl (by decide +kernel) ⟨Nat.le_of_ble_eq_true rfl, Nat.le_of_ble_eq_true rfl⟩) (gb_preV (r := (RX12, TX12, 44)) (ci := 10) (q0 := 0) hSt hP rfl (gb_at b rfl) hS (fun q h => Nat.le_trans hb1 h.1) hP) rfl rfl hl.1 rfl (lv_room (Nat.le_of_ble_eq_true rfl)) dX12_rest_43 ⟨Nat.le_of_ble_eq_true rfl, Nat.le_of_ble_eq_true rfl⟩) hS (fun _ h => h) (fun _ h => h) (fun q_24 H locs hY hk hS => ?_)
        obtain ⟨hq_24, hP⟩ := hY
        replace hq_24 := hq_24.symm
        subst hq_24
        refine lv_if_ne (tgt := 52) hx hb dX12_rest_46 (by decide) (fun c_25 => ?_) (fun c_25 => ?_)
        · rw [if_neg c_25] at h
          refine lv_iload hx hb dX12_rest_52 (lv_at hl 2 rfl) ?_
          refine lv_iload_n hx hb dX12_rest_54 rfl (lv_at hl 1 rfl) ?_
          refine lv_icmp_ne (tgt := 61) hx hb dX12_rest_55 (by decide) (fun c_26 => ?_) (fun c_26 => ?_)
          · rw [if_neg c_26] at h
            obtain ⟨x_27, ex_27⟩ : ∃ q, q = (v4 + 1) := ⟨_, rfl⟩
            replace h := gb_lt_s ex_27 h
            refine lv_iinc (v := x_27) (lv' := [(4, .int x_27), (0, .ref (b + 0)), (3, .int v3), (5, .int v5)]) hx hb dX12_rest_61 hl (k := 2) rfl (by rw [ex_27]; rfl) (by decide) rfl (fun ls hl => ?_)
            obtain ⟨x_28, ex_28⟩ : ∃ q, q = (v5 + 1) := ⟨_, rfl⟩
            replace h := gb_lt_s ex_28 h
            refine lv_iinc (v := x_28) (lv' := [(5, .int x_28), (4, .int x_27), (0, .ref (b + 0)), (3, .int v3)]) hx hb dX12_rest_64 hl (k := 3) rfl (by rw [ex_28]; rfl) (by decide) rfl (fun ls hl => ?_)
            refine lv_goto (tgt := 29) hx hb dX12_rest_67 (by decide) ?_
            exact ih _ _ _ _ _ _ _ _ h hP hS (lv_sub hl [2, 3, 1, 0] rfl)
          · rw [if_pos c_26] at h
            refine lv_iload hx hb dX12_rest_58 (lv_at hl 3 rfl) ?_
            obtain ⟨e1, e2, e3⟩ := gb_eq3 h
            exact W.iret (v := v5) hx hb hr (fun t ht hW => gb_ri ht ⟨e3, by rw [← e1, ← e2]; exact hP⟩ hS) hS.2.2 dX12_rest_60
        · rw [if_pos c_25] at h
          refine lv_goto (tgt := 64) hx hb dX12_rest_49 (by decide) ?_
          obtain ⟨x_29, ex_29⟩ : ∃ q, q = (v5 + 1) := ⟨_, rfl⟩
          replace h := gb_lt_s ex_29 h
          refine lv_iinc (v := x_29) (lv' := [(5, .int x_29), (0, .ref (b + 0)), (3, .int v3), (4, .int v4)]) hx hb dX12_rest_64 hl (k := 3) rfl (by rw [ex_29]; rfl) (by decide) rfl (fun ls hl => ?_)
          refine lv_goto (tgt := 29) hx hb dX12_rest_67 (by decide) ?_
          exact ih _ _ _ _ _ _ _ _ h hP hS (lv_sub hl [1, 2, 3, 0] rfl)
  unfold ms_rest at h
  refine lv_aload_n hx hb dX12_rest_0 rfl (lv_at hl 0 rfl) ?_
  refine lv_iload_n hx hb dX12_rest_1 rfl (lv_at hl 1 rfl) ?_
  refine lv_iload_n hx hb dX12_rest_2 rfl (lv_at hl 2 rfl) ?_
  obtain ⟨f_1, wl_2, r_3, z_4, h⟩ := gb_bd_s h
  refine gb_calli (va_runV (C := RX12) (As := [.int p1, .int p2]) (rest := []) ⟨hx, hb, hml, hown, hq⟩ (mc_areTold l D cT tt b1 b hb1 n f w p1 p2 f_1 wl_2 r_3 z_4) (cwV 2 hq (gb_gV w_1428 w_1430 s_4_12 w_14 w_1431) rfl rfl rfl (by decide +kernel) ⟨Nat.le_of_ble_eq_true rfl, Nat.le_of_ble_eq_true rfl⟩) (gb_preV (r := (RX12, TX12, 44)) (ci := 10) (q0 := 0) hSt hP rfl (gb_at b rfl) hS (fun q h => Nat.le_trans hb1 h.1) hP) rfl rfl hl.1 rfl (lv_room (Nat.le_of_ble_eq_true rfl)) dX12_rest_3 ⟨Nat.le_of_ble_eq_true rfl, Nat.le_of_ble_eq_true rfl⟩) hS (fun _ h => h) (fun _ h => h) (fun q_5 H locs hY hk hS => ?_)
  obtain ⟨hq_5, hP⟩ := hY
  replace hq_5 := hq_5.symm
  subst hq_5
  refine lv_if_eq (tgt := 14) hx hb dX12_rest_6 (by decide) (fun c_6 => ?_) (fun c_6 => ?_)
  · rw [if_pos c_6] at h
    refine lv_bipush (v := (-2)) hx hb dX12_rest_14 (by decide) ?_
    obtain ⟨e1, e2, e3⟩ := gb_eq3 h
    exact W.iret (v := (-2)) hx hb hr (fun t ht hW => gb_ri ht ⟨e3, by rw [← e1, ← e2]; exact hP⟩ hS) hS.2.2 dX12_rest_16
  · rw [if_neg c_6] at h
    refine lv_iload_n hx hb dX12_rest_9 rfl (lv_at hl 3 rfl) ?_
    refine lv_iconst (v := (-1)) hx hb dX12_rest_10 (by decide) ?_
    refine lv_icmp_ge (tgt := 17) hx hb dX12_rest_11 (by decide) (fun c_7 => ?_) (fun c_7 => ?_)
    · rw [if_pos c_7] at h
      refine lv_aload_n hx hb dX12_rest_17 rfl (lv_at hl 0 rfl) ?_
      refine lv_bipush (v := 24) hx hb dX12_rest_18 (by decide) ?_
      obtain ⟨f_8, wl_9, r_10, z_11, h⟩ := gb_bd_s h
      refine gb_callv (va_runV (C := RX12) (As := [.int 24]) (rest := []) ⟨hx, hb, hml, hown, hq⟩ (mc_runs l D cT tt b1 b hb1 n f_1 wl_2 24 f_8 wl_9 r_10 z_11) (cwV 1 hq (gb_gV w_1432 w_1434 s_4_13 w_14 w_1435) rfl rfl rfl (by decide +kernel) ⟨Nat.le_of_ble_eq_true rfl, Nat.le_of_ble_eq_true rfl⟩) (gb_preV (r := (RX12, TX12, 44)) (ci := 10) (q0 := 0) hSt hP rfl (gb_at b rfl) hS (fun q h => Nat.le_trans hb1 h.1) hP) rfl rfl hl.1 rfl (lv_room (Nat.le_of_ble_eq_true rfl)) dX12_rest_20 ⟨Nat.le_of_ble_eq_true rfl, Nat.le_of_ble_eq_true rfl⟩) hS (fun _ h => h) (fun _ h => h) (fun H locs hY hk hS => ?_)
      have hP := hY
      refine lv_iconst (v := 0) hx hb dX12_rest_23 (by decide) ?_
      refine lv_istore (lv' := [(4, .int 0), (0, .ref (b + 0)), (1, .int p1), (2, .int p2), (3, .int p3)]) hx hb dX12_rest_24 hl (by decide) rfl (fun ls hl => ?_)
      refine lv_iconst (v := 0) hx hb dX12_rest_26 (by decide) ?_
      refine lv_istore (lv' := [(5, .int 0), (4, .int 0), (0, .ref (b + 0)), (1, .int p1), (2, .int p2), (3, .int p3)]) hx hb dX12_rest_27 hl (by decide) rfl (fun ls hl => ?_)
      exact L29 n _ _ _ _ _ _ _ _ h hP hS (lv_sub hl [2, 5, 1, 0] rfl)
    · rw [if_neg c_7] at h
      refine lv_bipush (v := (-2)) hx hb dX12_rest_14 (by decide) ?_
      obtain ⟨e1, e2, e3⟩ := gb_eq3 h
      exact W.iret (v := (-2)) hx hb hr (fun t ht hW => gb_ri ht ⟨e3, by rw [← e1, ← e2]; exact hP⟩ hS) hS.2.2 dX12_rest_16
theorem dX12_take_0 : decode cX12_take 0 = .ok (.aload_n 0, 1) := dc_42 (show ((cX12_take.data.toList.drop 0).take 1).map UInt8.toNat = [42] by decide +kernel)
theorem dX12_take_1 : decode cX12_take 1 = .ok (.iload_n 1, 1) := dc_27 (show ((cX12_take.data.toList.drop 1).take 1).map UInt8.toNat = [27] by decide +kernel)
theorem dX12_take_2 : decode cX12_take 2 = .ok (.iload_n 2, 1) := dc_28 (show ((cX12_take.data.toList.drop 2).take 1).map UInt8.toNat = [28] by decide +kernel)
theorem dX12_take_3 : decode cX12_take 3 = .ok (.invokevirtual 264, 3) := dc_182 (show ((cX12_take.data.toList.drop 3).take 3).map UInt8.toNat = [182, 1, 8] by decide +kernel) rfl
theorem dX12_take_6 : decode cX12_take 6 = .ok (.ifCond .eq 28, 3) := dc_153 (show ((cX12_take.data.toList.drop 6).take 3).map UInt8.toNat = [153, 0, 28] by decide +kernel) rfl
theorem dX12_take_34 : decode cX12_take 34 = .ok (.iconst (-1), 1) := dc_2 (show ((cX12_take.data.toList.drop 34).take 1).map UInt8.toNat = [2] by decide +kernel)
theorem dX12_take_35 : decode cX12_take 35 = .ok (.ireturn, 1) := dc_172 (show ((cX12_take.data.toList.drop 35).take 1).map UInt8.toNat = [172] by decide +kernel)
theorem dX12_take_9 : decode cX12_take 9 = .ok (.aload_n 0, 1) := dc_42 (show ((cX12_take.data.toList.drop 9).take 1).map UInt8.toNat = [42] by decide +kernel)
theorem dX12_take_10 : decode cX12_take 10 = .ok (.iload 4, 2) := dc_21 (show ((cX12_take.data.toList.drop 10).take 2).map UInt8.toNat = [21, 4] by decide +kernel) rfl
theorem dX12_take_12 : decode cX12_take 12 = .ok (.invokevirtual 208, 3) := dc_182 (show ((cX12_take.data.toList.drop 12).take 3).map UInt8.toNat = [182, 0, 208] by decide +kernel) rfl
theorem dX12_take_15 : decode cX12_take 15 = .ok (.ifCond .eq 19, 3) := dc_153 (show ((cX12_take.data.toList.drop 15).take 3).map UInt8.toNat = [153, 0, 19] by decide +kernel) rfl
theorem dX12_take_18 : decode cX12_take 18 = .ok (.iload_n 3, 1) := dc_29 (show ((cX12_take.data.toList.drop 18).take 1).map UInt8.toNat = [29] by decide +kernel)
theorem dX12_take_19 : decode cX12_take 19 = .ok (.iconst 0, 1) := dc_3 (show ((cX12_take.data.toList.drop 19).take 1).map UInt8.toNat = [3] by decide +kernel)
theorem dX12_take_20 : decode cX12_take 20 = .ok (.iconst 1, 1) := dc_4 (show ((cX12_take.data.toList.drop 20).take 1).map UInt8.toNat = [4] by decide +kernel)
theorem dX12_take_21 : decode cX12_take 21 = .ok (.aload_n 0, 1) := dc_42 (show ((cX12_take.data.toList.drop 21).take 1).map UInt8.toNat = [42] by decide +kernel)
theorem dX12_take_22 : decode cX12_take 22 = .ok (.invokevirtual 199, 3) := dc_182 (show ((cX12_take.data.toList.drop 22).take 3).map UInt8.toNat = [182, 0, 199] by decide +kernel) rfl
theorem dX12_take_25 : decode cX12_take 25 = .ok (.ishl, 1) := dc_120 (show ((cX12_take.data.toList.drop 25).take 1).map UInt8.toNat = [120] by decide +kernel)
theorem dX12_take_26 : decode cX12_take 26 = .ok (.iconst 1, 1) := dc_4 (show ((cX12_take.data.toList.drop 26).take 1).map UInt8.toNat = [4] by decide +kernel)
theorem dX12_take_27 : decode cX12_take 27 = .ok (.isub, 1) := dc_100 (show ((cX12_take.data.toList.drop 27).take 1).map UInt8.toNat = [100] by decide +kernel)
theorem dX12_take_28 : decode cX12_take 28 = .ok (.invokestatic 129, 3) := dc_184 (show ((cX12_take.data.toList.drop 28).take 3).map UInt8.toNat = [184, 0, 129] by decide +kernel) rfl
theorem dX12_take_31 : decode cX12_take 31 = .ok (.ifCond .ne 5, 3) := dc_154 (show ((cX12_take.data.toList.drop 31).take 3).map UInt8.toNat = [154, 0, 5] by decide +kernel) rfl
theorem dX12_take_36 : decode cX12_take 36 = .ok (.aload_n 0, 1) := dc_42 (show ((cX12_take.data.toList.drop 36).take 1).map UInt8.toNat = [42] by decide +kernel)
theorem dX12_take_37 : decode cX12_take 37 = .ok (.bipush 24, 2) := dc_16 (show ((cX12_take.data.toList.drop 37).take 2).map UInt8.toNat = [16, 24] by decide +kernel) rfl
theorem dX12_take_39 : decode cX12_take 39 = .ok (.invokevirtual 267, 3) := dc_182 (show ((cX12_take.data.toList.drop 39).take 3).map UInt8.toNat = [182, 1, 11] by decide +kernel) rfl
theorem dX12_take_42 : decode cX12_take 42 = .ok (.aload_n 0, 1) := dc_42 (show ((cX12_take.data.toList.drop 42).take 1).map UInt8.toNat = [42] by decide +kernel)
theorem dX12_take_43 : decode cX12_take 43 = .ok (.iload_n 3, 1) := dc_29 (show ((cX12_take.data.toList.drop 43).take 1).map UInt8.toNat = [29] by decide +kernel)
theorem dX12_take_44 : decode cX12_take 44 = .ok (.iload 4, 2) := dc_21 (show ((cX12_take.data.toList.drop 44).take 2).map UInt8.toNat = [21, 4] by decide +kernel) rfl
theorem dX12_take_46 : decode cX12_take 46 = .ok (.invokevirtual 335, 3) := dc_182 (show ((cX12_take.data.toList.drop 46).take 3).map UInt8.toNat = [182, 1, 79] by decide +kernel) rfl
theorem dX12_take_49 : decode cX12_take 49 = .ok (.ireturn, 1) := dc_172 (show ((cX12_take.data.toList.drop 49).take 1).map UInt8.toNat = [172] by decide +kernel)
def ms_take (n : Nat) (f : gb_F) (w : Int64) (p1 : Int32) (p2 : Int32) (p3 : Int32) (p4 : Int32) : gb_MR Int32 := gb_bd (ms_areTold n f w p1 p2) (fun f_1 wl_2 r_3 => (if r_3 = 0 then some (f_1, wl_2, (-1)) else gb_bd (ms_isPath n f_1 wl_2 p4) (fun f_7 wl_8 r_9 => (if r_9 = 0 then some (f_7, wl_8, (-1)) else gb_bd (ms_paths n f_7 wl_8) (fun f_13 wl_14 r_15 => gb_bd (ms_isIn n f_13 wl_14 p3 0 ((1 <<< (r_15 &&& 31)) - 1)) (fun f_18 wl_19 r_20 => (if r_20 = 0 then some (f_18, wl_19, (-1)) else gb_bd (ms_runs n f_18 wl_19 24) (fun f_24 wl_25 _ => gb_bd (ms_takeOf n f_24 wl_25 p3 p4) (fun f_29 wl_30 r_31 => some (f_29, wl_30, r_31))))))))))
set_option maxHeartbeats 8000000 in
set_option maxRecDepth 100000 in
theorem mc_take (l : Launch) (D : va_G) (cT : Nat → ClassId) (tt : Nat → Nat) (b1 b : Nat) (hb1 : b1 ≤ b) (n : Nat) (f : gb_F) (w : Int64) (p1 : Int32) (p2 : Int32) (p3 : Int32) (p4 : Int32) (fE : gb_F) (wE : Int64) (rE : Int32) (h : ms_take n f w p1 p2 p3 p4 = some (fE, wE, rE)) : Met l yX12_take (.code yX12_take cX12_take 5 (some FieldType.int) :: gb_wA) ({ frames := 6, cells := 0, slots := 0, locals := 141 }) (gb_Pc D cT tt b1 [.ref (b + 0), .int p1, .int p2, .int p3, .int p4] (fun h => va_P D vwCl (gb_wl b (gb_MW cT b f w)) h)) (gb_Qi (fun r h => r = rE ∧ va_P D vwCl (gb_wl b (gb_MW cT b fE wE)) h) (gb_fr b 22)) 0 0 (gb_fr b 22) := by
  refine Met.ofW (cc := cX12_take) (maxL := 5) (ret := (some FieldType.int)) (by decide) rfl ?_
  intro p e s m args below meth c s₁ B hml hv
  obtain ⟨rfl, hSt, hP⟩ := hv
  have hx := B.exec
  have hb := B.bytes
  have hr := B.returns
  have hts := atoms_spec (ws := .code yX12_take cX12_take 5 (some FieldType.int) :: gb_wA) B.pre
  have hq : ∀ w ∈ gb_wA, w.before _ s = true := fun w h => hts w (List.mem_cons_of_mem _ h)
  have hown : s.vm.findClass RX12 = some m.cls := findClass_of_methodNamed B.named
  have hlocks := B.notSynchronized
  clear B hts
  have hK := hSt.1
  have hS : va_S (gb_fr b 22) s.heap s.heap [] := va_S.rf
  have hl := lv_entry ([.ref (b + 0), .int p1, .int p2, .int p3, .int p4]) (n := 5) (Nat.le_of_ble_eq_true rfl)
  rw [lg_entry_eq]
  generalize (lg_sl ([.ref (b + 0), .int p1, .int p2, .int p3, .int p4]) ++ List.replicate (5 - (lg_sl ([.ref (b + 0), .int p1, .int p2, .int p3, .int p4])).length) Slot.unset).toArray = ls at hl ⊢
  replace hl : lv_has ls 5 [(0, .ref (b + 0)), (1, .int p1), (2, .int p2), (3, .int p3), (4, .int p4)] := hl
  unfold ms_take at h
  refine lv_aload_n hx hb dX12_take_0 rfl (lv_at hl 0 rfl) ?_
  refine lv_iload_n hx hb dX12_take_1 rfl (lv_at hl 1 rfl) ?_
  refine lv_iload_n hx hb dX12_take_2 rfl (lv_at hl 2 rfl) ?_
  obtain ⟨f_1, wl_2, r_3, z_4, h⟩ := gb_bd_s h
  refine gb_calli (va_runV (C := RX12) (As := [.int p1, .int p2]) (rest := []) ⟨hx, hb, hml, hown, hq⟩ (mc_areTold l D cT tt b1 b hb1 n f w p1 p2 f_1 wl_2 r_3 z_4) (cwV 2 hq (gb_gV w_1428 w_1430 s_4_12 w_14 w_1431) rfl rfl rfl (by decide +kernel) ⟨Nat.le_of_ble_eq_true rfl, Nat.le_of_ble_eq_true rfl⟩) (gb_preV (r := (RX12, TX12, 44)) (ci := 10) (q0 := 0) hSt hP rfl (gb_at b rfl) hS (fun q h => Nat.le_trans hb1 h.1) hP) rfl rfl hl.1 rfl (lv_room (Nat.le_of_ble_eq_true rfl)) dX12_take_3 ⟨Nat.le_of_ble_eq_true rfl, Nat.le_of_ble_eq_true rfl⟩) hS (fun _ h => h) (fun _ h => h) (fun q_5 H locs hY hk hS => ?_)
  obtain ⟨hq_5, hP⟩ := hY
  replace hq_5 := hq_5.symm
  subst hq_5
  refine lv_if_eq (tgt := 34) hx hb dX12_take_6 (by decide) (fun c_6 => ?_) (fun c_6 => ?_)
  · rw [if_pos c_6] at h
    refine lv_iconst (v := (-1)) hx hb dX12_take_34 (by decide) ?_
    obtain ⟨e1, e2, e3⟩ := gb_eq3 h
    exact W.iret (v := (-1)) hx hb hr (fun t ht hW => gb_ri ht ⟨e3, by rw [← e1, ← e2]; exact hP⟩ hS) hS.2.2 dX12_take_35
  · rw [if_neg c_6] at h
    refine lv_aload_n hx hb dX12_take_9 rfl (lv_at hl 0 rfl) ?_
    refine lv_iload hx hb dX12_take_10 (lv_at hl 4 rfl) ?_
    obtain ⟨f_7, wl_8, r_9, z_10, h⟩ := gb_bd_s h
    refine gb_calli (va_runV (C := RX12) (As := [.int p4]) (rest := []) ⟨hx, hb, hml, hown, hq⟩ (mc_isPath l D cT tt b1 b hb1 n f_1 wl_2 p4 f_7 wl_8 r_9 z_10) (cwV 1 hq (gb_gV w_1380 w_1382 s_4_3 w_14 w_1383) rfl rfl rfl (by decide +kernel) ⟨Nat.le_of_ble_eq_true rfl, Nat.le_of_ble_eq_true rfl⟩) (gb_preV (r := (RX12, TX12, 44)) (ci := 10) (q0 := 0) hSt hP rfl (gb_at b rfl) hS (fun q h => Nat.le_trans hb1 h.1) hP) rfl rfl hl.1 rfl (lv_room (Nat.le_of_ble_eq_true rfl)) dX12_take_12 ⟨Nat.le_of_ble_eq_true rfl, Nat.le_of_ble_eq_true rfl⟩) hS (fun _ h => h) (fun _ h => h) (fun q_11 H locs hY hk hS => ?_)
    obtain ⟨hq_11, hP⟩ := hY
    replace hq_11 := hq_11.symm
    subst hq_11
    refine lv_if_eq (tgt := 34) hx hb dX12_take_15 (by decide) (fun c_12 => ?_) (fun c_12 => ?_)
    · rw [if_pos c_12] at h
      refine lv_iconst (v := (-1)) hx hb dX12_take_34 (by decide) ?_
      obtain ⟨e1, e2, e3⟩ := gb_eq3 h
      exact W.iret (v := (-1)) hx hb hr (fun t ht hW => gb_ri ht ⟨e3, by rw [← e1, ← e2]; exact hP⟩ hS) hS.2.2 dX12_take_35
    · rw [if_neg c_12] at h
      refine lv_iload_n hx hb dX12_take_18 rfl (lv_at hl 3 rfl) ?_
      refine lv_iconst (v := 0) hx hb dX12_take_19 (by decide) ?_
      refine lv_iconst (v := 1) hx hb dX12_take_20 (by decide) ?_
      refine lv_aload_n hx hb dX12_take_21 rfl (lv_at hl 0 rfl) ?_
      obtain ⟨f_13, wl_14, r_15, z_16, h⟩ := gb_bd_s h
      refine gb_calli (va_runV (C := RX12) (As := []) (rest := [.int 1, .int 0, .int p3]) ⟨hx, hb, hml, hown, hq⟩ (mc_paths l D cT tt b1 b hb1 n f_7 wl_8 f_13 wl_14 r_15 z_16) (cwV 0 hq (gb_gV w_1384 w_1386 s_4_4 w_14 w_1387) rfl rfl rfl (by decide +kernel) ⟨Nat.le_of_ble_eq_true rfl, Nat.le_of_ble_eq_true rfl⟩) (gb_preV (r := (RX12, TX12, 44)) (ci := 10) (q0 := 0) hSt hP rfl (gb_at b rfl) hS (fun q h => Nat.le_trans hb1 h.1) hP) rfl rfl hl.1 rfl (lv_room (Nat.le_of_ble_eq_true rfl)) dX12_take_22 ⟨Nat.le_of_ble_eq_true rfl, Nat.le_of_ble_eq_true rfl⟩) hS (fun _ h => h) (fun _ h => h) (fun q_17 H locs hY hk hS => ?_)
      obtain ⟨hq_17, hP⟩ := hY
      replace hq_17 := hq_17.symm
      subst hq_17
      refine lv_ishl hx hb dX12_take_25 ?_
      refine lv_iconst (v := 1) hx hb dX12_take_26 (by decide) ?_
      refine lv_isub hx hb dX12_take_27 ?_
      obtain ⟨f_18, wl_19, r_20, z_21, h⟩ := gb_bd_s h
      refine gb_calli (va_runS (As := [.int p3, .int 0, .int ((1 <<< (r_15 &&& 31)) - 1)]) (rest := []) ⟨hx, hb, hml, hown, hq⟩ (mc_isIn l D cT tt b1 b hb1 n f_13 wl_14 p3 0 ((1 <<< (r_15 &&& 31)) - 1) f_18 wl_19 r_20 z_21) (va_cwS 3 hq (gb_gS w_1269 w_1270 w_14 w_1271) rfl rfl rfl (by decide +kernel) ⟨Nat.le_of_ble_eq_true rfl, Nat.le_of_ble_eq_true rfl⟩) (gb_preS hSt hS (fun q h => Nat.le_trans hb1 h.1) hP) rfl rfl hl.1 rfl (lv_room (Nat.le_of_ble_eq_true rfl)) dX12_take_28 ⟨Nat.le_of_ble_eq_true rfl, Nat.le_of_ble_eq_true rfl⟩) hS (fun _ h => h) (fun _ h => h) (fun q_22 H locs hY hk hS => ?_)
      obtain ⟨hq_22, hP⟩ := hY
      replace hq_22 := hq_22.symm
      subst hq_22
      refine lv_if_ne (tgt := 36) hx hb dX12_take_31 (by decide) (fun c_23 => ?_) (fun c_23 => ?_)
      · rw [if_neg c_23] at h
        refine lv_aload_n hx hb dX12_take_36 rfl (lv_at hl 0 rfl) ?_
        refine lv_bipush (v := 24) hx hb dX12_take_37 (by decide) ?_
        obtain ⟨f_24, wl_25, r_26, z_27, h⟩ := gb_bd_s h
        refine gb_callv (va_runV (C := RX12) (As := [.int 24]) (rest := []) ⟨hx, hb, hml, hown, hq⟩ (mc_runs l D cT tt b1 b hb1 n f_18 wl_19 24 f_24 wl_25 r_26 z_27) (cwV 1 hq (gb_gV w_1432 w_1434 s_4_13 w_14 w_1435) rfl rfl rfl (by decide +kernel) ⟨Nat.le_of_ble_eq_true rfl, Nat.le_of_ble_eq_true rfl⟩) (gb_preV (r := (RX12, TX12, 44)) (ci := 10) (q0 := 0) hSt hP rfl (gb_at b rfl) hS (fun q h => Nat.le_trans hb1 h.1) hP) rfl rfl hl.1 rfl (lv_room (Nat.le_of_ble_eq_true rfl)) dX12_take_39 ⟨Nat.le_of_ble_eq_true rfl, Nat.le_of_ble_eq_true rfl⟩) hS (fun _ h => h) (fun _ h => h) (fun H locs hY hk hS => ?_)
        have hP := hY
        refine lv_aload_n hx hb dX12_take_42 rfl (lv_at hl 0 rfl) ?_
        refine lv_iload_n hx hb dX12_take_43 rfl (lv_at hl 3 rfl) ?_
        refine lv_iload hx hb dX12_take_44 (lv_at hl 4 rfl) ?_
        obtain ⟨f_29, wl_30, r_31, z_32, h⟩ := gb_bd_s h
        refine gb_calli (va_runV (C := RX12) (As := [.int p3, .int p4]) (rest := []) ⟨hx, hb, hml, hown, hq⟩ (mc_takeOf l D cT tt b1 b hb1 n f_24 wl_25 p3 p4 f_29 wl_30 r_31 z_32) (cwV 2 hq (gb_gV w_1584 w_1586 s_6_9 w_14 w_1587) rfl rfl rfl (by decide +kernel) ⟨Nat.le_of_ble_eq_true rfl, Nat.le_of_ble_eq_true rfl⟩) (gb_preV (r := (RX12, TX12, 44)) (ci := 10) (q0 := 0) hSt hP rfl (gb_at b rfl) hS (fun q h => Nat.le_trans hb1 h.1) hP) rfl rfl hl.1 rfl (lv_room (Nat.le_of_ble_eq_true rfl)) dX12_take_46 ⟨Nat.le_of_ble_eq_true rfl, Nat.le_of_ble_eq_true rfl⟩) hS (fun _ h => h) (fun _ h => h) (fun q_33 H locs hY hk hS => ?_)
        obtain ⟨hq_33, hP⟩ := hY
        replace hq_33 := hq_33.symm
        subst hq_33
        obtain ⟨e1, e2, e3⟩ := gb_eq3 h
        exact W.iret (v := r_31) hx hb hr (fun t ht hW => gb_ri ht ⟨e3, by rw [← e1, ← e2]; exact hP⟩ hS) hS.2.2 dX12_take_49
      · rw [if_pos c_23] at h
        refine lv_iconst (v := (-1)) hx hb dX12_take_34 (by decide) ?_
        obtain ⟨e1, e2, e3⟩ := gb_eq3 h
        exact W.iret (v := (-1)) hx hb hr (fun t ht hW => gb_ri ht ⟨e3, by rw [← e1, ← e2]; exact hP⟩ hS) hS.2.2 dX12_take_35
theorem dX12_honest_0 : decode cX12_honest 0 = .ok (.aload_n 0, 1) := dc_42 (show ((cX12_honest.data.toList.drop 0).take 1).map UInt8.toNat = [42] by decide +kernel)
theorem dX12_honest_1 : decode cX12_honest 1 = .ok (.iload_n 1, 1) := dc_27 (show ((cX12_honest.data.toList.drop 1).take 1).map UInt8.toNat = [27] by decide +kernel)
theorem dX12_honest_2 : decode cX12_honest 2 = .ok (.iload_n 2, 1) := dc_28 (show ((cX12_honest.data.toList.drop 2).take 1).map UInt8.toNat = [28] by decide +kernel)
theorem dX12_honest_3 : decode cX12_honest 3 = .ok (.invokevirtual 264, 3) := dc_182 (show ((cX12_honest.data.toList.drop 3).take 3).map UInt8.toNat = [182, 1, 8] by decide +kernel) rfl
theorem dX12_honest_6 : decode cX12_honest 6 = .ok (.ifCond .eq 11, 3) := dc_153 (show ((cX12_honest.data.toList.drop 6).take 3).map UInt8.toNat = [153, 0, 11] by decide +kernel) rfl
theorem dX12_honest_17 : decode cX12_honest 17 = .ok (.iconst (-1), 1) := dc_2 (show ((cX12_honest.data.toList.drop 17).take 1).map UInt8.toNat = [2] by decide +kernel)
theorem dX12_honest_18 : decode cX12_honest 18 = .ok (.ireturn, 1) := dc_172 (show ((cX12_honest.data.toList.drop 18).take 1).map UInt8.toNat = [172] by decide +kernel)
theorem dX12_honest_9 : decode cX12_honest 9 = .ok (.aload_n 0, 1) := dc_42 (show ((cX12_honest.data.toList.drop 9).take 1).map UInt8.toNat = [42] by decide +kernel)
theorem dX12_honest_10 : decode cX12_honest 10 = .ok (.iload_n 3, 1) := dc_29 (show ((cX12_honest.data.toList.drop 10).take 1).map UInt8.toNat = [29] by decide +kernel)
theorem dX12_honest_11 : decode cX12_honest 11 = .ok (.invokevirtual 208, 3) := dc_182 (show ((cX12_honest.data.toList.drop 11).take 3).map UInt8.toNat = [182, 0, 208] by decide +kernel) rfl
theorem dX12_honest_14 : decode cX12_honest 14 = .ok (.ifCond .ne 5, 3) := dc_154 (show ((cX12_honest.data.toList.drop 14).take 3).map UInt8.toNat = [154, 0, 5] by decide +kernel) rfl
theorem dX12_honest_19 : decode cX12_honest 19 = .ok (.aload_n 0, 1) := dc_42 (show ((cX12_honest.data.toList.drop 19).take 1).map UInt8.toNat = [42] by decide +kernel)
theorem dX12_honest_20 : decode cX12_honest 20 = .ok (.bipush 24, 2) := dc_16 (show ((cX12_honest.data.toList.drop 20).take 2).map UInt8.toNat = [16, 24] by decide +kernel) rfl
theorem dX12_honest_22 : decode cX12_honest 22 = .ok (.invokevirtual 267, 3) := dc_182 (show ((cX12_honest.data.toList.drop 22).take 3).map UInt8.toNat = [182, 1, 11] by decide +kernel) rfl
theorem dX12_honest_25 : decode cX12_honest 25 = .ok (.aload_n 0, 1) := dc_42 (show ((cX12_honest.data.toList.drop 25).take 1).map UInt8.toNat = [42] by decide +kernel)
theorem dX12_honest_26 : decode cX12_honest 26 = .ok (.iload_n 3, 1) := dc_29 (show ((cX12_honest.data.toList.drop 26).take 1).map UInt8.toNat = [29] by decide +kernel)
theorem dX12_honest_27 : decode cX12_honest 27 = .ok (.invokevirtual 279, 3) := dc_182 (show ((cX12_honest.data.toList.drop 27).take 3).map UInt8.toNat = [182, 1, 23] by decide +kernel) rfl
theorem dX12_honest_30 : decode cX12_honest 30 = .ok (.aload_n 0, 1) := dc_42 (show ((cX12_honest.data.toList.drop 30).take 1).map UInt8.toNat = [42] by decide +kernel)
theorem dX12_honest_31 : decode cX12_honest 31 = .ok (.iload_n 3, 1) := dc_29 (show ((cX12_honest.data.toList.drop 31).take 1).map UInt8.toNat = [29] by decide +kernel)
theorem dX12_honest_32 : decode cX12_honest 32 = .ok (.iconst 1, 1) := dc_4 (show ((cX12_honest.data.toList.drop 32).take 1).map UInt8.toNat = [4] by decide +kernel)
theorem dX12_honest_33 : decode cX12_honest 33 = .ok (.invokevirtual 211, 3) := dc_182 (show ((cX12_honest.data.toList.drop 33).take 3).map UInt8.toNat = [182, 0, 211] by decide +kernel) rfl
theorem dX12_honest_36 : decode cX12_honest 36 = .ok (.aload_n 0, 1) := dc_42 (show ((cX12_honest.data.toList.drop 36).take 1).map UInt8.toNat = [42] by decide +kernel)
theorem dX12_honest_37 : decode cX12_honest 37 = .ok (.iload_n 3, 1) := dc_29 (show ((cX12_honest.data.toList.drop 37).take 1).map UInt8.toNat = [29] by decide +kernel)
theorem dX12_honest_38 : decode cX12_honest 38 = .ok (.invokevirtual 273, 3) := dc_182 (show ((cX12_honest.data.toList.drop 38).take 3).map UInt8.toNat = [182, 1, 17] by decide +kernel) rfl
theorem dX12_honest_41 : decode cX12_honest 41 = .ok (.imul, 1) := dc_104 (show ((cX12_honest.data.toList.drop 41).take 1).map UInt8.toNat = [104] by decide +kernel)
theorem dX12_honest_42 : decode cX12_honest 42 = .ok (.isub, 1) := dc_100 (show ((cX12_honest.data.toList.drop 42).take 1).map UInt8.toNat = [100] by decide +kernel)
theorem dX12_honest_43 : decode cX12_honest 43 = .ok (.ireturn, 1) := dc_172 (show ((cX12_honest.data.toList.drop 43).take 1).map UInt8.toNat = [172] by decide +kernel)
def ms_honest (n : Nat) (f : gb_F) (w : Int64) (p1 : Int32) (p2 : Int32) (p3 : Int32) : gb_MR Int32 := gb_bd (ms_areTold n f w p1 p2) (fun f_1 wl_2 r_3 => (if r_3 = 0 then some (f_1, wl_2, (-1)) else gb_bd (ms_isPath n f_1 wl_2 p3) (fun f_7 wl_8 r_9 => (if r_9 = 0 then some (f_7, wl_8, (-1)) else gb_bd (ms_runs n f_7 wl_8 24) (fun f_13 wl_14 _ => gb_bd (ms_pay n f_13 wl_14 p3) (fun f_18 wl_19 r_20 => gb_bd (ms_ofPath n f_18 wl_19 p3 1) (fun f_23 wl_24 r_25 => gb_bd (ms_tally n f_23 wl_24 p3) (fun f_28 wl_29 r_30 => some (f_28, wl_29, (r_20 - (r_25 * r_30)))))))))))
set_option maxHeartbeats 8000000 in
set_option maxRecDepth 100000 in
theorem mc_honest (l : Launch) (D : va_G) (cT : Nat → ClassId) (tt : Nat → Nat) (b1 b : Nat) (hb1 : b1 ≤ b) (n : Nat) (f : gb_F) (w : Int64) (p1 : Int32) (p2 : Int32) (p3 : Int32) (fE : gb_F) (wE : Int64) (rE : Int32) (h : ms_honest n f w p1 p2 p3 = some (fE, wE, rE)) : Met l yX12_honest (.code yX12_honest cX12_honest 4 (some FieldType.int) :: gb_wA) ({ frames := 6, cells := 0, slots := 0, locals := 141 }) (gb_Pc D cT tt b1 [.ref (b + 0), .int p1, .int p2, .int p3] (fun h => va_P D vwCl (gb_wl b (gb_MW cT b f w)) h)) (gb_Qi (fun r h => r = rE ∧ va_P D vwCl (gb_wl b (gb_MW cT b fE wE)) h) (gb_fr b 22)) 0 0 (gb_fr b 22) := by
  refine Met.ofW (cc := cX12_honest) (maxL := 4) (ret := (some FieldType.int)) (by decide) rfl ?_
  intro p e s m args below meth c s₁ B hml hv
  obtain ⟨rfl, hSt, hP⟩ := hv
  have hx := B.exec
  have hb := B.bytes
  have hr := B.returns
  have hts := atoms_spec (ws := .code yX12_honest cX12_honest 4 (some FieldType.int) :: gb_wA) B.pre
  have hq : ∀ w ∈ gb_wA, w.before _ s = true := fun w h => hts w (List.mem_cons_of_mem _ h)
  have hown : s.vm.findClass RX12 = some m.cls := findClass_of_methodNamed B.named
  have hlocks := B.notSynchronized
  clear B hts
  have hK := hSt.1
  have hS : va_S (gb_fr b 22) s.heap s.heap [] := va_S.rf
  have hl := lv_entry ([.ref (b + 0), .int p1, .int p2, .int p3]) (n := 4) (Nat.le_of_ble_eq_true rfl)
  rw [lg_entry_eq]
  generalize (lg_sl ([.ref (b + 0), .int p1, .int p2, .int p3]) ++ List.replicate (4 - (lg_sl ([.ref (b + 0), .int p1, .int p2, .int p3])).length) Slot.unset).toArray = ls at hl ⊢
  replace hl : lv_has ls 4 [(0, .ref (b + 0)), (1, .int p1), (2, .int p2), (3, .int p3)] := hl
  unfold ms_honest at h
  refine lv_aload_n hx hb dX12_honest_0 rfl (lv_at hl 0 rfl) ?_
  refine lv_iload_n hx hb dX12_honest_1 rfl (lv_at hl 1 rfl) ?_
  refine lv_iload_n hx hb dX12_honest_2 rfl (lv_at hl 2 rfl) ?_
  obtain ⟨f_1, wl_2, r_3, z_4, h⟩ := gb_bd_s h
  refine gb_calli (va_runV (C := RX12) (As := [.int p1, .int p2]) (rest := []) ⟨hx, hb, hml, hown, hq⟩ (mc_areTold l D cT tt b1 b hb1 n f w p1 p2 f_1 wl_2 r_3 z_4) (cwV 2 hq (gb_gV w_1428 w_1430 s_4_12 w_14 w_1431) rfl rfl rfl (by decide +kernel) ⟨Nat.le_of_ble_eq_true rfl, Nat.le_of_ble_eq_true rfl⟩) (gb_preV (r := (RX12, TX12, 44)) (ci := 10) (q0 := 0) hSt hP rfl (gb_at b rfl) hS (fun q h => Nat.le_trans hb1 h.1) hP) rfl rfl hl.1 rfl (lv_room (Nat.le_of_ble_eq_true rfl)) dX12_honest_3 ⟨Nat.le_of_ble_eq_true rfl, Nat.le_of_ble_eq_true rfl⟩) hS (fun _ h => h) (fun _ h => h) (fun q_5 H locs hY hk hS => ?_)
  obtain ⟨hq_5, hP⟩ := hY
  replace hq_5 := hq_5.symm
  subst hq_5
  refine lv_if_eq (tgt := 17) hx hb dX12_honest_6 (by decide) (fun c_6 => ?_) (fun c_6 => ?_)
  · rw [if_pos c_6] at h
    refine lv_iconst (v := (-1)) hx hb dX12_honest_17 (by decide) ?_
    obtain ⟨e1, e2, e3⟩ := gb_eq3 h
    exact W.iret (v := (-1)) hx hb hr (fun t ht hW => gb_ri ht ⟨e3, by rw [← e1, ← e2]; exact hP⟩ hS) hS.2.2 dX12_honest_18
  · rw [if_neg c_6] at h
    refine lv_aload_n hx hb dX12_honest_9 rfl (lv_at hl 0 rfl) ?_
    refine lv_iload_n hx hb dX12_honest_10 rfl (lv_at hl 3 rfl) ?_
    obtain ⟨f_7, wl_8, r_9, z_10, h⟩ := gb_bd_s h
    refine gb_calli (va_runV (C := RX12) (As := [.int p3]) (rest := []) ⟨hx, hb, hml, hown, hq⟩ (mc_isPath l D cT tt b1 b hb1 n f_1 wl_2 p3 f_7 wl_8 r_9 z_10) (cwV 1 hq (gb_gV w_1380 w_1382 s_4_3 w_14 w_1383) rfl rfl rfl (by decide +kernel) ⟨Nat.le_of_ble_eq_true rfl, Nat.le_of_ble_eq_true rfl⟩) (gb_preV (r := (RX12, TX12, 44)) (ci := 10) (q0 := 0) hSt hP rfl (gb_at b rfl) hS (fun q h => Nat.le_trans hb1 h.1) hP) rfl rfl hl.1 rfl (lv_room (Nat.le_of_ble_eq_true rfl)) dX12_honest_11 ⟨Nat.le_of_ble_eq_true rfl, Nat.le_of_ble_eq_true rfl⟩) hS (fun _ h => h) (fun _ h => h) (fun q_11 H locs hY hk hS => ?_)
    obtain ⟨hq_11, hP⟩ := hY
    replace hq_11 := hq_11.symm
    subst hq_11
    refine lv_if_ne (tgt := 19) hx hb dX12_honest_14 (by decide) (fun c_12 => ?_) (fun c_12 => ?_)
    · rw [if_neg c_12] at h
      refine lv_aload_n hx hb dX12_honest_19 rfl (lv_at hl 0 rfl) ?_
      refine lv_bipush (v := 24) hx hb dX12_honest_20 (by decide) ?_
      obtain ⟨f_13, wl_14, r_15, z_16, h⟩ := gb_bd_s h
      refine gb_callv (va_runV (C := RX12) (As := [.int 24]) (rest := []) ⟨hx, hb, hml, hown, hq⟩ (mc_runs l D cT tt b1 b hb1 n f_7 wl_8 24 f_13 wl_14 r_15 z_16) (cwV 1 hq (gb_gV w_1432 w_1434 s_4_13 w_14 w_1435) rfl rfl rfl (by decide +kernel) ⟨Nat.le_of_ble_eq_true rfl, Nat.le_of_ble_eq_true rfl⟩) (gb_preV (r := (RX12, TX12, 44)) (ci := 10) (q0 := 0) hSt hP rfl (gb_at b rfl) hS (fun q h => Nat.le_trans hb1 h.1) hP) rfl rfl hl.1 rfl (lv_room (Nat.le_of_ble_eq_true rfl)) dX12_honest_22 ⟨Nat.le_of_ble_eq_true rfl, Nat.le_of_ble_eq_true rfl⟩) hS (fun _ h => h) (fun _ h => h) (fun H locs hY hk hS => ?_)
      have hP := hY
      refine lv_aload_n hx hb dX12_honest_25 rfl (lv_at hl 0 rfl) ?_
      refine lv_iload_n hx hb dX12_honest_26 rfl (lv_at hl 3 rfl) ?_
      obtain ⟨f_18, wl_19, r_20, z_21, h⟩ := gb_bd_s h
      refine gb_calli (va_runV (C := RX12) (As := [.int p3]) (rest := []) ⟨hx, hb, hml, hown, hq⟩ (mc_pay l D cT tt b1 b hb1 n f_13 wl_14 p3 f_18 wl_19 r_20 z_21) (cwV 1 hq (gb_gV w_1484 w_1486 s_5_8 w_14 w_1487) rfl rfl rfl (by decide +kernel) ⟨Nat.le_of_ble_eq_true rfl, Nat.le_of_ble_eq_true rfl⟩) (gb_preV (r := (RX12, TX12, 44)) (ci := 10) (q0 := 0) hSt hP rfl (gb_at b rfl) hS (fun q h => Nat.le_trans hb1 h.1) hP) rfl rfl hl.1 rfl (lv_room (Nat.le_of_ble_eq_true rfl)) dX12_honest_27 ⟨Nat.le_of_ble_eq_true rfl, Nat.le_of_ble_eq_true rfl⟩) hS (fun _ h => h) (fun _ h => h) (fun q_22 H locs hY hk hS => ?_)
      obtain ⟨hq_22, hP⟩ := hY
      replace hq_22 := hq_22.symm
      subst hq_22
      refine lv_aload_n hx hb dX12_honest_30 rfl (lv_at hl 0 rfl) ?_
      refine lv_iload_n hx hb dX12_honest_31 rfl (lv_at hl 3 rfl) ?_
      refine lv_iconst (v := 1) hx hb dX12_honest_32 (by decide) ?_
      obtain ⟨f_23, wl_24, r_25, z_26, h⟩ := gb_bd_s h
      refine gb_calli (va_runV (C := RX12) (As := [.int p3, .int 1]) (rest := [.int r_20]) ⟨hx, hb, hml, hown, hq⟩ (mc_ofPath l D cT tt b1 b hb1 n f_18 wl_19 p3 1 f_23 wl_24 r_25 z_26) (cwV 2 hq (gb_gV w_1388 w_1390 s_4_5 w_14 w_1391) rfl rfl rfl (by decide +kernel) ⟨Nat.le_of_ble_eq_true rfl, Nat.le_of_ble_eq_true rfl⟩) (gb_preV (r := (RX12, TX12, 44)) (ci := 10) (q0 := 0) hSt hP rfl (gb_at b rfl) hS (fun q h => Nat.le_trans hb1 h.1) hP) rfl rfl hl.1 rfl (lv_room (Nat.le_of_ble_eq_true rfl)) dX12_honest_33 ⟨Nat.le_of_ble_eq_true rfl, Nat.le_of_ble_eq_true rfl⟩) hS (fun _ h => h) (fun _ h => h) (fun q_27 H locs hY hk hS => ?_)
      obtain ⟨hq_27, hP⟩ := hY
      replace hq_27 := hq_27.symm
      subst hq_27
      refine lv_aload_n hx hb dX12_honest_36 rfl (lv_at hl 0 rfl) ?_
      refine lv_iload_n hx hb dX12_honest_37 rfl (lv_at hl 3 rfl) ?_
      obtain ⟨f_28, wl_29, r_30, z_31, h⟩ := gb_bd_s h
      refine gb_calli (va_runV (C := RX12) (As := [.int p3]) (rest := [.int r_25, .int r_20]) ⟨hx, hb, hml, hown, hq⟩ (mc_tally l D cT tt b1 b hb1 n f_23 wl_24 p3 f_28 wl_29 r_30 z_31) (cwV 1 hq (gb_gV w_1476 w_1478 s_5_6 w_14 w_1479) rfl rfl rfl (by decide +kernel) ⟨Nat.le_of_ble_eq_true rfl, Nat.le_of_ble_eq_true rfl⟩) (gb_preV (r := (RX12, TX12, 44)) (ci := 10) (q0 := 0) hSt hP rfl (gb_at b rfl) hS (fun q h => Nat.le_trans hb1 h.1) hP) rfl rfl hl.1 rfl (lv_room (Nat.le_of_ble_eq_true rfl)) dX12_honest_38 ⟨Nat.le_of_ble_eq_true rfl, Nat.le_of_ble_eq_true rfl⟩) hS (fun _ h => h) (fun _ h => h) (fun q_32 H locs hY hk hS => ?_)
      obtain ⟨hq_32, hP⟩ := hY
      replace hq_32 := hq_32.symm
      subst hq_32
      refine lv_imul hx hb dX12_honest_41 ?_
      refine lv_isub hx hb dX12_honest_42 ?_
      obtain ⟨e1, e2, e3⟩ := gb_eq3 h
      exact W.iret (v := (r_20 - (r_25 * r_30))) hx hb hr (fun t ht hW => gb_ri ht ⟨e3, by rw [← e1, ← e2]; exact hP⟩ hS) hS.2.2 dX12_honest_43
    · rw [if_pos c_12] at h
      refine lv_iconst (v := (-1)) hx hb dX12_honest_17 (by decide) ?_
      obtain ⟨e1, e2, e3⟩ := gb_eq3 h
      exact W.iret (v := (-1)) hx hb hr (fun t ht hW => gb_ri ht ⟨e3, by rw [← e1, ← e2]; exact hP⟩ hS) hS.2.2 dX12_honest_18
theorem dX12_seenOf_0 : decode cX12_seenOf 0 = .ok (.aload_n 0, 1) := dc_42 (show ((cX12_seenOf.data.toList.drop 0).take 1).map UInt8.toNat = [42] by decide +kernel)
theorem dX12_seenOf_1 : decode cX12_seenOf 1 = .ok (.getfield 7, 3) := dc_180 (show ((cX12_seenOf.data.toList.drop 1).take 3).map UInt8.toNat = [180, 0, 7] by decide +kernel) rfl
theorem dX12_seenOf_4 : decode cX12_seenOf 4 = .ok (.aload_n 0, 1) := dc_42 (show ((cX12_seenOf.data.toList.drop 4).take 1).map UInt8.toNat = [42] by decide +kernel)
theorem dX12_seenOf_5 : decode cX12_seenOf 5 = .ok (.getfield 341, 3) := dc_180 (show ((cX12_seenOf.data.toList.drop 5).take 3).map UInt8.toNat = [180, 1, 85] by decide +kernel) rfl
theorem w_1153 : (Cond.fieldLink "GooseBorderModel" (341 : Nat) "GooseBorderModel" "d0" "I") ∈ gb_wA := gb_t5 193 rfl rfl
theorem dX12_seenOf_8 : decode cX12_seenOf 8 = .ok (.iconst 1, 1) := dc_4 (show ((cX12_seenOf.data.toList.drop 8).take 1).map UInt8.toNat = [4] by decide +kernel)
theorem dX12_seenOf_9 : decode cX12_seenOf 9 = .ok (.iadd, 1) := dc_96 (show ((cX12_seenOf.data.toList.drop 9).take 1).map UInt8.toNat = [96] by decide +kernel)
theorem dX12_seenOf_10 : decode cX12_seenOf 10 = .ok (.iconst 2, 1) := dc_5 (show ((cX12_seenOf.data.toList.drop 10).take 1).map UInt8.toNat = [5] by decide +kernel)
theorem dX12_seenOf_11 : decode cX12_seenOf 11 = .ok (.iload_n 1, 1) := dc_27 (show ((cX12_seenOf.data.toList.drop 11).take 1).map UInt8.toNat = [27] by decide +kernel)
theorem dX12_seenOf_12 : decode cX12_seenOf 12 = .ok (.imul, 1) := dc_104 (show ((cX12_seenOf.data.toList.drop 12).take 1).map UInt8.toNat = [104] by decide +kernel)
theorem dX12_seenOf_13 : decode cX12_seenOf 13 = .ok (.iadd, 1) := dc_96 (show ((cX12_seenOf.data.toList.drop 13).take 1).map UInt8.toNat = [96] by decide +kernel)
theorem dX12_seenOf_14 : decode cX12_seenOf 14 = .ok (.iload_n 2, 1) := dc_28 (show ((cX12_seenOf.data.toList.drop 14).take 1).map UInt8.toNat = [28] by decide +kernel)
theorem dX12_seenOf_15 : decode cX12_seenOf 15 = .ok (.iadd, 1) := dc_96 (show ((cX12_seenOf.data.toList.drop 15).take 1).map UInt8.toNat = [96] by decide +kernel)
theorem dX12_seenOf_16 : decode cX12_seenOf 16 = .ok (.iaload, 1) := dc_46 (show ((cX12_seenOf.data.toList.drop 16).take 1).map UInt8.toNat = [46] by decide +kernel)
theorem dX12_seenOf_17 : decode cX12_seenOf 17 = .ok (.ireturn, 1) := dc_172 (show ((cX12_seenOf.data.toList.drop 17).take 1).map UInt8.toNat = [172] by decide +kernel)
def ms_seenOf (n : Nat) (f : gb_F) (w : Int64) (p1 : Int32) (p2 : Int32) : gb_MR Int32 := gb_ck ((((f 0 29) + 1) + (2 * p1)) + p2) 3968 (gb_lt (f 1 (Int32.toNatClampNeg ((((f 0 29) + 1) + (2 * p1)) + p2))) (fun x_2 => some (f, w, x_2)))
set_option maxHeartbeats 8000000 in
set_option maxRecDepth 100000 in
theorem mc_seenOf (l : Launch) (D : va_G) (cT : Nat → ClassId) (tt : Nat → Nat) (b1 b : Nat) (hb1 : b1 ≤ b) (n : Nat) (f : gb_F) (w : Int64) (p1 : Int32) (p2 : Int32) (fE : gb_F) (wE : Int64) (rE : Int32) (h : ms_seenOf n f w p1 p2 = some (fE, wE, rE)) : Met l yX12_seenOf (.code yX12_seenOf cX12_seenOf 3 (some FieldType.int) :: gb_wA) ({ frames := 0, cells := 0, slots := 0, locals := 0 }) (gb_Pc D cT tt b1 [.ref (b + 0), .int p1, .int p2] (fun h => va_P D vwCl (gb_wl b (gb_MW cT b f w)) h)) (gb_Qi (fun r h => r = rE ∧ va_P D vwCl (gb_wl b (gb_MW cT b fE wE)) h) (gb_fr b 22)) 0 0 (gb_fr b 22) := by
  refine Met.ofW (cc := cX12_seenOf) (maxL := 3) (ret := (some FieldType.int)) (by decide) rfl ?_
  intro p e s m args below meth c s₁ B hml hv
  obtain ⟨rfl, hSt, hP⟩ := hv
  have hx := B.exec
  have hb := B.bytes
  have hr := B.returns
  have hts := atoms_spec (ws := .code yX12_seenOf cX12_seenOf 3 (some FieldType.int) :: gb_wA) B.pre
  have hq : ∀ w ∈ gb_wA, w.before _ s = true := fun w h => hts w (List.mem_cons_of_mem _ h)
  have hown : s.vm.findClass RX12 = some m.cls := findClass_of_methodNamed B.named
  have hlocks := B.notSynchronized
  clear B hts
  have hK := hSt.1
  have hS : va_S (gb_fr b 22) s.heap s.heap [] := va_S.rf
  have hl := lv_entry ([.ref (b + 0), .int p1, .int p2]) (n := 3) (Nat.le_of_ble_eq_true rfl)
  rw [lg_entry_eq]
  generalize (lg_sl ([.ref (b + 0), .int p1, .int p2]) ++ List.replicate (3 - (lg_sl ([.ref (b + 0), .int p1, .int p2])).length) Slot.unset).toArray = ls at hl ⊢
  replace hl : lv_has ls 3 [(0, .ref (b + 0)), (1, .int p1), (2, .int p2)] := hl
  unfold ms_seenOf at h
  refine lv_aload_n hx hb dX12_seenOf_0 rfl (lv_at hl 0 rfl) ?_
  refine va_get (ci := 10) (v := (.ref (b + 1))) (C := RX12) (T := TX12) (N := 44) hx hb hq i_X12 hown hK hP 0 (gb_at b rfl) rfl 0 (by decide) (hq _ w_1124) (fun _ h9 => h9) rfl dX12_seenOf_1 ?_
  refine lv_aload_n hx hb dX12_seenOf_4 rfl (lv_at hl 0 rfl) ?_
  refine va_get (ci := 10) (v := (.int (f 0 29))) (C := RX12) (T := TX12) (N := 44) hx hb hq i_X12 hown hK hP 0 (gb_at b rfl) rfl 29 (by decide) (hq _ w_1153) (fun _ h9 => h9) rfl dX12_seenOf_5 ?_
  refine lv_iconst (v := 1) hx hb dX12_seenOf_8 (by decide) ?_
  refine lv_iadd hx hb dX12_seenOf_9 ?_
  refine lv_iconst (v := 2) hx hb dX12_seenOf_10 (by decide) ?_
  refine lv_iload_n hx hb dX12_seenOf_11 rfl (lv_at hl 1 rfl) ?_
  refine lv_imul hx hb dX12_seenOf_12 ?_
  refine lv_iadd hx hb dX12_seenOf_13 ?_
  refine lv_iload_n hx hb dX12_seenOf_14 rfl (lv_at hl 2 rfl) ?_
  refine lv_iadd hx hb dX12_seenOf_15 ?_
  obtain ⟨z_1, h⟩ := gb_ck_s h
  refine va_iald hx hb hK hP 1 0 (gb_at b rfl) rfl z_1 dX12_seenOf_16 ?_
  refine lv_topi (fun x_2 ex_2 => ?_)
  replace h := gb_lt_s ex_2 h
  obtain ⟨e1, e2, e3⟩ := gb_eq3 h
  exact W.iret (v := x_2) hx hb hr (fun t ht hW => gb_ri ht ⟨e3, by rw [← e1, ← e2]; exact hP⟩ hS) hS.2.2 dX12_seenOf_17
theorem dX12_seen_0 : decode cX12_seen 0 = .ok (.aload_n 0, 1) := dc_42 (show ((cX12_seen.data.toList.drop 0).take 1).map UInt8.toNat = [42] by decide +kernel)
theorem dX12_seen_1 : decode cX12_seen 1 = .ok (.iconst 3, 1) := dc_6 (show ((cX12_seen.data.toList.drop 1).take 1).map UInt8.toNat = [6] by decide +kernel)
theorem dX12_seen_2 : decode cX12_seen 2 = .ok (.iload_n 1, 1) := dc_27 (show ((cX12_seen.data.toList.drop 2).take 1).map UInt8.toNat = [27] by decide +kernel)
theorem dX12_seen_3 : decode cX12_seen 3 = .ok (.invokevirtual 171, 3) := dc_182 (show ((cX12_seen.data.toList.drop 3).take 3).map UInt8.toNat = [182, 0, 171] by decide +kernel) rfl
theorem dX12_seen_6 : decode cX12_seen 6 = .ok (.ifCond .ne 6, 3) := dc_154 (show ((cX12_seen.data.toList.drop 6).take 3).map UInt8.toNat = [154, 0, 6] by decide +kernel) rfl
theorem dX12_seen_12 : decode cX12_seen 12 = .ok (.aload_n 0, 1) := dc_42 (show ((cX12_seen.data.toList.drop 12).take 1).map UInt8.toNat = [42] by decide +kernel)
theorem dX12_seen_13 : decode cX12_seen 13 = .ok (.iconst 3, 1) := dc_6 (show ((cX12_seen.data.toList.drop 13).take 1).map UInt8.toNat = [6] by decide +kernel)
theorem dX12_seen_14 : decode cX12_seen 14 = .ok (.iload_n 1, 1) := dc_27 (show ((cX12_seen.data.toList.drop 14).take 1).map UInt8.toNat = [27] by decide +kernel)
theorem dX12_seen_15 : decode cX12_seen 15 = .ok (.invokestatic 190, 3) := dc_184 (show ((cX12_seen.data.toList.drop 15).take 3).map UInt8.toNat = [184, 0, 190] by decide +kernel) rfl
theorem dX12_seen_18 : decode cX12_seen 18 = .ok (.putfield 341, 3) := dc_181 (show ((cX12_seen.data.toList.drop 18).take 3).map UInt8.toNat = [181, 1, 85] by decide +kernel) rfl
theorem dX12_seen_21 : decode cX12_seen 21 = .ok (.iload_n 2, 1) := dc_28 (show ((cX12_seen.data.toList.drop 21).take 1).map UInt8.toNat = [28] by decide +kernel)
theorem dX12_seen_22 : decode cX12_seen 22 = .ok (.iconst (-1), 1) := dc_2 (show ((cX12_seen.data.toList.drop 22).take 1).map UInt8.toNat = [2] by decide +kernel)
theorem dX12_seen_23 : decode cX12_seen 23 = .ok (.if_icmp .ne 22, 3) := dc_160 (show ((cX12_seen.data.toList.drop 23).take 3).map UInt8.toNat = [160, 0, 22] by decide +kernel) rfl
theorem dX12_seen_45 : decode cX12_seen 45 = .ok (.iload_n 2, 1) := dc_28 (show ((cX12_seen.data.toList.drop 45).take 1).map UInt8.toNat = [28] by decide +kernel)
theorem dX12_seen_46 : decode cX12_seen 46 = .ok (.iconst 0, 1) := dc_3 (show ((cX12_seen.data.toList.drop 46).take 1).map UInt8.toNat = [3] by decide +kernel)
theorem dX12_seen_47 : decode cX12_seen 47 = .ok (.aload_n 0, 1) := dc_42 (show ((cX12_seen.data.toList.drop 47).take 1).map UInt8.toNat = [42] by decide +kernel)
theorem dX12_seen_48 : decode cX12_seen 48 = .ok (.getfield 7, 3) := dc_180 (show ((cX12_seen.data.toList.drop 48).take 3).map UInt8.toNat = [180, 0, 7] by decide +kernel) rfl
theorem dX12_seen_51 : decode cX12_seen 51 = .ok (.aload_n 0, 1) := dc_42 (show ((cX12_seen.data.toList.drop 51).take 1).map UInt8.toNat = [42] by decide +kernel)
theorem dX12_seen_52 : decode cX12_seen 52 = .ok (.getfield 341, 3) := dc_180 (show ((cX12_seen.data.toList.drop 52).take 3).map UInt8.toNat = [180, 1, 85] by decide +kernel) rfl
theorem dX12_seen_55 : decode cX12_seen 55 = .ok (.iaload, 1) := dc_46 (show ((cX12_seen.data.toList.drop 55).take 1).map UInt8.toNat = [46] by decide +kernel)
theorem dX12_seen_56 : decode cX12_seen 56 = .ok (.iconst 1, 1) := dc_4 (show ((cX12_seen.data.toList.drop 56).take 1).map UInt8.toNat = [4] by decide +kernel)
theorem dX12_seen_57 : decode cX12_seen 57 = .ok (.isub, 1) := dc_100 (show ((cX12_seen.data.toList.drop 57).take 1).map UInt8.toNat = [100] by decide +kernel)
theorem dX12_seen_58 : decode cX12_seen 58 = .ok (.invokestatic 129, 3) := dc_184 (show ((cX12_seen.data.toList.drop 58).take 3).map UInt8.toNat = [184, 0, 129] by decide +kernel) rfl
theorem dX12_seen_61 : decode cX12_seen 61 = .ok (.ifCond .eq 21, 3) := dc_153 (show ((cX12_seen.data.toList.drop 61).take 3).map UInt8.toNat = [153, 0, 21] by decide +kernel) rfl
theorem dX12_seen_82 : decode cX12_seen 82 = .ok (.bipush (-2), 2) := dc_16 (show ((cX12_seen.data.toList.drop 82).take 2).map UInt8.toNat = [16, 254] by decide +kernel) rfl
theorem dX12_seen_84 : decode cX12_seen 84 = .ok (.ireturn, 1) := dc_172 (show ((cX12_seen.data.toList.drop 84).take 1).map UInt8.toNat = [172] by decide +kernel)
theorem dX12_seen_64 : decode cX12_seen 64 = .ok (.iload_n 3, 1) := dc_29 (show ((cX12_seen.data.toList.drop 64).take 1).map UInt8.toNat = [29] by decide +kernel)
theorem dX12_seen_65 : decode cX12_seen 65 = .ok (.iconst 0, 1) := dc_3 (show ((cX12_seen.data.toList.drop 65).take 1).map UInt8.toNat = [3] by decide +kernel)
theorem dX12_seen_66 : decode cX12_seen 66 = .ok (.iconst 1, 1) := dc_4 (show ((cX12_seen.data.toList.drop 66).take 1).map UInt8.toNat = [4] by decide +kernel)
theorem dX12_seen_67 : decode cX12_seen 67 = .ok (.invokestatic 129, 3) := dc_184 (show ((cX12_seen.data.toList.drop 67).take 3).map UInt8.toNat = [184, 0, 129] by decide +kernel) rfl
theorem dX12_seen_70 : decode cX12_seen 70 = .ok (.ifCond .eq 12, 3) := dc_153 (show ((cX12_seen.data.toList.drop 70).take 3).map UInt8.toNat = [153, 0, 12] by decide +kernel) rfl
theorem dX12_seen_73 : decode cX12_seen 73 = .ok (.aload_n 0, 1) := dc_42 (show ((cX12_seen.data.toList.drop 73).take 1).map UInt8.toNat = [42] by decide +kernel)
theorem dX12_seen_74 : decode cX12_seen 74 = .ok (.iload_n 2, 1) := dc_28 (show ((cX12_seen.data.toList.drop 74).take 1).map UInt8.toNat = [28] by decide +kernel)
theorem dX12_seen_75 : decode cX12_seen 75 = .ok (.iload_n 3, 1) := dc_29 (show ((cX12_seen.data.toList.drop 75).take 1).map UInt8.toNat = [29] by decide +kernel)
theorem dX12_seen_76 : decode cX12_seen 76 = .ok (.invokevirtual 344, 3) := dc_182 (show ((cX12_seen.data.toList.drop 76).take 3).map UInt8.toNat = [182, 1, 88] by decide +kernel) rfl
theorem w_1603 : (Cond.code ({ cls := "GooseBorderModel", name := "seenOf", desc := "(II)I" } : MethodName) prog_14_method_88_code (3 : Nat) (Option.some FieldType.int)) ∈ gb_wA := gb_t7 163 rfl rfl
theorem w_1600 : (Cond.methodLink "GooseBorderModel" (344 : Nat) ({ cls := "GooseBorderModel", name := "seenOf", desc := "(II)I" } : MethodName)) ∈ gb_wA := gb_t7 160 rfl rfl
theorem w_1602 : (Cond.instanceMethod ({ cls := "GooseBorderModel", name := "seenOf", desc := "(II)I" } : MethodName)) ∈ gb_wA := gb_t7 162 rfl rfl
theorem s_6_10 : Cond.selects "GooseBorderModel" (⟨"GooseBorderModel", "seenOf", "(II)I"⟩ : MethodName) (⟨"GooseBorderModel", "seenOf", "(II)I"⟩ : MethodName) ∈ gb_wA := gb_s6 10 rfl rfl
theorem dX12_seen_79 : decode cX12_seen 79 = .ok (.goto 5, 3) := dc_167 (show ((cX12_seen.data.toList.drop 79).take 3).map UInt8.toNat = [167, 0, 5] by decide +kernel) rfl
theorem dX12_seen_26 : decode cX12_seen 26 = .ok (.iload_n 3, 1) := dc_29 (show ((cX12_seen.data.toList.drop 26).take 1).map UInt8.toNat = [29] by decide +kernel)
theorem dX12_seen_27 : decode cX12_seen 27 = .ok (.ifCond .ne 15, 3) := dc_154 (show ((cX12_seen.data.toList.drop 27).take 3).map UInt8.toNat = [154, 0, 15] by decide +kernel) rfl
theorem dX12_seen_42 : decode cX12_seen 42 = .ok (.bipush (-2), 2) := dc_16 (show ((cX12_seen.data.toList.drop 42).take 2).map UInt8.toNat = [16, 254] by decide +kernel) rfl
theorem dX12_seen_44 : decode cX12_seen 44 = .ok (.ireturn, 1) := dc_172 (show ((cX12_seen.data.toList.drop 44).take 1).map UInt8.toNat = [172] by decide +kernel)
theorem dX12_seen_30 : decode cX12_seen 30 = .ok (.aload_n 0, 1) := dc_42 (show ((cX12_seen.data.toList.drop 30).take 1).map UInt8.toNat = [42] by decide +kernel)
theorem dX12_seen_31 : decode cX12_seen 31 = .ok (.getfield 7, 3) := dc_180 (show ((cX12_seen.data.toList.drop 31).take 3).map UInt8.toNat = [180, 0, 7] by decide +kernel) rfl
theorem dX12_seen_34 : decode cX12_seen 34 = .ok (.aload_n 0, 1) := dc_42 (show ((cX12_seen.data.toList.drop 34).take 1).map UInt8.toNat = [42] by decide +kernel)
theorem dX12_seen_35 : decode cX12_seen 35 = .ok (.getfield 341, 3) := dc_180 (show ((cX12_seen.data.toList.drop 35).take 3).map UInt8.toNat = [180, 1, 85] by decide +kernel) rfl
theorem dX12_seen_38 : decode cX12_seen 38 = .ok (.iaload, 1) := dc_46 (show ((cX12_seen.data.toList.drop 38).take 1).map UInt8.toNat = [46] by decide +kernel)
theorem dX12_seen_39 : decode cX12_seen 39 = .ok (.goto 5, 3) := dc_167 (show ((cX12_seen.data.toList.drop 39).take 3).map UInt8.toNat = [167, 0, 5] by decide +kernel) rfl
theorem dX12_seen_9 : decode cX12_seen 9 = .ok (.bipush (-2), 2) := dc_16 (show ((cX12_seen.data.toList.drop 9).take 2).map UInt8.toNat = [16, 254] by decide +kernel) rfl
theorem dX12_seen_11 : decode cX12_seen 11 = .ok (.ireturn, 1) := dc_172 (show ((cX12_seen.data.toList.drop 11).take 1).map UInt8.toNat = [172] by decide +kernel)
def ms_seen (n : Nat) (f : gb_F) (w : Int64) (p1 : Int32) (p2 : Int32) (p3 : Int32) : gb_MR Int32 := gb_bd (ms_isOf n f w 3 p1) (fun f_1 wl_2 r_3 => (if r_3 = 0 then some (f_1, wl_2, (-2)) else gb_bd (ms_placeOf n f_1 wl_2 3 p1) (fun f_7 wl_8 r_9 => gb_lt (gb_u f_7 0 (upd (f_7 0) 29 r_9)) (fun f_12 => (if p2 = (-1) then (if p3 = 0 then gb_ck (f_12 0 29) 3968 (gb_lt (f_12 1 (Int32.toNatClampNeg (f_12 0 29))) (fun x_35 => some (f_12, wl_8, x_35))) else some (f_12, wl_8, (-2))) else gb_ck (f_12 0 29) 3968 (gb_lt (f_12 1 (Int32.toNatClampNeg (f_12 0 29))) (fun x_15 => gb_bd (ms_isIn n f_12 wl_8 p2 0 (x_15 - 1)) (fun f_16 wl_17 r_18 => (if r_18 = 0 then some (f_16, wl_17, (-2)) else gb_bd (ms_isIn n f_16 wl_17 p3 0 1) (fun f_22 wl_23 r_24 => (if r_24 = 0 then some (f_22, wl_23, (-2)) else gb_bd (ms_seenOf n f_22 wl_23 p2 p3) (fun f_28 wl_29 r_30 => some (f_28, wl_29, r_30)))))))))))))
set_option maxHeartbeats 8000000 in
set_option maxRecDepth 100000 in
theorem mc_seen (l : Launch) (D : va_G) (cT : Nat → ClassId) (tt : Nat → Nat) (b1 b : Nat) (hb1 : b1 ≤ b) (n : Nat) (f : gb_F) (w : Int64) (p1 : Int32) (p2 : Int32) (p3 : Int32) (fE : gb_F) (wE : Int64) (rE : Int32) (h : ms_seen n f w p1 p2 p3 = some (fE, wE, rE)) : Met l yX12_seen (.code yX12_seen cX12_seen 4 (some FieldType.int) :: gb_wA) ({ frames := 2, cells := 0, slots := 0, locals := 44 }) (gb_Pc D cT tt b1 [.ref (b + 0), .int p1, .int p2, .int p3] (fun h => va_P D vwCl (gb_wl b (gb_MW cT b f w)) h)) (gb_Qi (fun r h => r = rE ∧ va_P D vwCl (gb_wl b (gb_MW cT b fE wE)) h) (gb_fr b 22)) 0 0 (gb_fr b 22) := by
  refine Met.ofW (cc := cX12_seen) (maxL := 4) (ret := (some FieldType.int)) (by decide) rfl ?_
  intro p e s m args below meth c s₁ B hml hv
  obtain ⟨rfl, hSt, hP⟩ := hv
  have hx := B.exec
  have hb := B.bytes
  have hr := B.returns
  have hts := atoms_spec (ws := .code yX12_seen cX12_seen 4 (some FieldType.int) :: gb_wA) B.pre
  have hq : ∀ w ∈ gb_wA, w.before _ s = true := fun w h => hts w (List.mem_cons_of_mem _ h)
  have hown : s.vm.findClass RX12 = some m.cls := findClass_of_methodNamed B.named
  have hlocks := B.notSynchronized
  clear B hts
  have hK := hSt.1
  have hS : va_S (gb_fr b 22) s.heap s.heap [] := va_S.rf
  have hl := lv_entry ([.ref (b + 0), .int p1, .int p2, .int p3]) (n := 4) (Nat.le_of_ble_eq_true rfl)
  rw [lg_entry_eq]
  generalize (lg_sl ([.ref (b + 0), .int p1, .int p2, .int p3]) ++ List.replicate (4 - (lg_sl ([.ref (b + 0), .int p1, .int p2, .int p3])).length) Slot.unset).toArray = ls at hl ⊢
  replace hl : lv_has ls 4 [(0, .ref (b + 0)), (1, .int p1), (2, .int p2), (3, .int p3)] := hl
  unfold ms_seen at h
  refine lv_aload_n hx hb dX12_seen_0 rfl (lv_at hl 0 rfl) ?_
  refine lv_iconst (v := 3) hx hb dX12_seen_1 (by decide) ?_
  refine lv_iload_n hx hb dX12_seen_2 rfl (lv_at hl 1 rfl) ?_
  obtain ⟨f_1, wl_2, r_3, z_4, h⟩ := gb_bd_s h
  refine gb_calli (va_runV (C := RX12) (As := [.int 3, .int p1]) (rest := []) ⟨hx, hb, hml, hown, hq⟩ (mc_isOf l D cT tt b1 b hb1 n f w 3 p1 f_1 wl_2 r_3 z_4) (cwV 2 hq (gb_gV w_1272 w_1274 s_3_0 w_14 w_1275) rfl rfl rfl (by decide +kernel) ⟨Nat.le_of_ble_eq_true rfl, Nat.le_of_ble_eq_true rfl⟩) (gb_preV (r := (RX12, TX12, 44)) (ci := 10) (q0 := 0) hSt hP rfl (gb_at b rfl) hS (fun q h => Nat.le_trans hb1 h.1) hP) rfl rfl hl.1 rfl (lv_room (Nat.le_of_ble_eq_true rfl)) dX12_seen_3 ⟨Nat.le_of_ble_eq_true rfl, Nat.le_of_ble_eq_true rfl⟩) hS (fun _ h => h) (fun _ h => h) (fun q_5 H locs hY hk hS => ?_)
  obtain ⟨hq_5, hP⟩ := hY
  replace hq_5 := hq_5.symm
  subst hq_5
  refine lv_if_ne (tgt := 12) hx hb dX12_seen_6 (by decide) (fun c_6 => ?_) (fun c_6 => ?_)
  · rw [if_neg c_6] at h
    refine lv_aload_n hx hb dX12_seen_12 rfl (lv_at hl 0 rfl) ?_
    refine lv_iconst (v := 3) hx hb dX12_seen_13 (by decide) ?_
    refine lv_iload_n hx hb dX12_seen_14 rfl (lv_at hl 1 rfl) ?_
    obtain ⟨f_7, wl_8, r_9, z_10, h⟩ := gb_bd_s h
    refine gb_calli (va_runS (As := [.int 3, .int p1]) (rest := [.ref (b + 0)]) ⟨hx, hb, hml, hown, hq⟩ (mc_placeOf l D cT tt b1 b hb1 n f_1 wl_2 3 p1 f_7 wl_8 r_9 z_10) (va_cwS 2 hq (gb_gS w_1361 w_1362 w_14 w_1363) rfl rfl rfl (by decide +kernel) ⟨Nat.le_of_ble_eq_true rfl, Nat.le_of_ble_eq_true rfl⟩) (gb_preS hSt hS (fun q h => Nat.le_trans hb1 h.1) hP) rfl rfl hl.1 rfl (lv_room (Nat.le_of_ble_eq_true rfl)) dX12_seen_15 ⟨Nat.le_of_ble_eq_true rfl, Nat.le_of_ble_eq_true rfl⟩) hS (fun _ h => h) (fun _ h => h) (fun q_11 H locs hY hk hS => ?_)
    obtain ⟨hq_11, hP⟩ := hY
    replace hq_11 := hq_11.symm
    subst hq_11
    refine gb_put (ci := 10) (v := (.int r_9)) (ty := .int) (C := RX12) (T := TX12) (N := 44) hx hb hq i_X12 tyX12 tyX12_ok nmX12 hown hK hP (fun k h => ⟨Nat.le_add_right b k, Nat.add_lt_add_left h b⟩) hS rfl 0 rfl rfl 29 (by decide) (hq _ w_1153) (fun _ h9 => h9) rfl (by decide +kernel) rfl rfl (Nat.le_of_ble_eq_true rfl) dX12_seen_18 (fun H locs hP hz_ hS => ?_)
    obtain ⟨f_12, ef_12⟩ : ∃ q, q = (gb_u f_7 0 (upd (f_7 0) 29 r_9)) := ⟨_, rfl⟩
    replace hP : va_P D vwCl (gb_wl b (gb_MW cT b f_12 wl_8)) H := by rw [ef_12]; exact hP
    replace h := gb_lt_s ef_12 h
    refine lv_iload_n hx hb dX12_seen_21 rfl (lv_at hl 2 rfl) ?_
    refine lv_iconst (v := (-1)) hx hb dX12_seen_22 (by decide) ?_
    refine lv_icmp_ne (tgt := 45) hx hb dX12_seen_23 (by decide) (fun c_13 => ?_) (fun c_13 => ?_)
    · rw [if_neg c_13] at h
      refine lv_iload_n hx hb dX12_seen_45 rfl (lv_at hl 2 rfl) ?_
      refine lv_iconst (v := 0) hx hb dX12_seen_46 (by decide) ?_
      refine lv_aload_n hx hb dX12_seen_47 rfl (lv_at hl 0 rfl) ?_
      refine va_get (ci := 10) (v := (.ref (b + 1))) (C := RX12) (T := TX12) (N := 44) hx hb hq i_X12 hown hK hP 0 (gb_at b rfl) rfl 0 (by decide) (hq _ w_1124) (fun _ h9 => h9) rfl dX12_seen_48 ?_
      refine lv_aload_n hx hb dX12_seen_51 rfl (lv_at hl 0 rfl) ?_
      refine va_get (ci := 10) (v := (.int (f_12 0 29))) (C := RX12) (T := TX12) (N := 44) hx hb hq i_X12 hown hK hP 0 (gb_at b rfl) rfl 29 (by decide) (hq _ w_1153) (fun _ h9 => h9) rfl dX12_seen_52 ?_
      obtain ⟨z_14, h⟩ := gb_ck_s h
      refine va_iald hx hb hK hP 1 0 (gb_at b rfl) rfl z_14 dX12_seen_55 ?_
      refine lv_topi (fun x_15 ex_15 => ?_)
      replace h := gb_lt_s ex_15 h
      refine lv_iconst (v := 1) hx hb dX12_seen_56 (by decide) ?_
      refine lv_isub hx hb dX12_seen_57 ?_
      obtain ⟨f_16, wl_17, r_18, z_19, h⟩ := gb_bd_s h
      refine gb_calli (va_runS (As := [.int p2, .int 0, .int (x_15 - 1)]) (rest := []) ⟨hx, hb, hml, hown, hq⟩ (mc_isIn l D cT tt b1 b hb1 n f_12 wl_8 p2 0 (x_15 - 1) f_16 wl_17 r_18 z_19) (va_cwS 3 hq (gb_gS w_1269 w_1270 w_14 w_1271) rfl rfl rfl (by decide +kernel) ⟨Nat.le_of_ble_eq_true rfl, Nat.le_of_ble_eq_true rfl⟩) (gb_preS hSt hS (fun q h => Nat.le_trans hb1 h.1) hP) rfl rfl hl.1 rfl (lv_room (Nat.le_of_ble_eq_true rfl)) dX12_seen_58 ⟨Nat.le_of_ble_eq_true rfl, Nat.le_of_ble_eq_true rfl⟩) hS (fun _ h => h) (fun _ h => h) (fun q_20 H locs hY hk hS => ?_)
      obtain ⟨hq_20, hP⟩ := hY
      replace hq_20 := hq_20.symm
      subst hq_20
      refine lv_if_eq (tgt := 82) hx hb dX12_seen_61 (by decide) (fun c_21 => ?_) (fun c_21 => ?_)
      · rw [if_pos c_21] at h
        refine lv_bipush (v := (-2)) hx hb dX12_seen_82 (by decide) ?_
        obtain ⟨e1, e2, e3⟩ := gb_eq3 h
        exact W.iret (v := (-2)) hx hb hr (fun t ht hW => gb_ri ht ⟨e3, by rw [← e1, ← e2]; exact hP⟩ hS) hS.2.2 dX12_seen_84
      · rw [if_neg c_21] at h
        refine lv_iload_n hx hb dX12_seen_64 rfl (lv_at hl 3 rfl) ?_
        refine lv_iconst (v := 0) hx hb dX12_seen_65 (by decide) ?_
        refine lv_iconst (v := 1) hx hb dX12_seen_66 (by decide) ?_
        obtain ⟨f_22, wl_23, r_24, z_25, h⟩ := gb_bd_s h
        refine gb_calli (va_runS (As := [.int p3, .int 0, .int 1]) (rest := []) ⟨hx, hb, hml, hown, hq⟩ (mc_isIn l D cT tt b1 b hb1 n f_16 wl_17 p3 0 1 f_22 wl_23 r_24 z_25) (va_cwS 3 hq (gb_gS w_1269 w_1270 w_14 w_1271) rfl rfl rfl (by decide +kernel) ⟨Nat.le_of_ble_eq_true rfl, Nat.le_of_ble_eq_true rfl⟩) (gb_preS hSt hS (fun q h => Nat.le_trans hb1 h.1) hP) rfl rfl hl.1 rfl (lv_room (Nat.le_of_ble_eq_true rfl)) dX12_seen_67 ⟨Nat.le_of_ble_eq_true rfl, Nat.le_of_ble_eq_true rfl⟩) hS (fun _ h => h) (fun _ h => h) (fun q_26 H locs hY hk hS => ?_)
        obtain ⟨hq_26, hP⟩ := hY
        replace hq_26 := hq_26.symm
        subst hq_26
        refine lv_if_eq (tgt := 82) hx hb dX12_seen_70 (by decide) (fun c_27 => ?_) (fun c_27 => ?_)
        · rw [if_pos c_27] at h
          refine lv_bipush (v := (-2)) hx hb dX12_seen_82 (by decide) ?_
          obtain ⟨e1, e2, e3⟩ := gb_eq3 h
          exact W.iret (v := (-2)) hx hb hr (fun t ht hW => gb_ri ht ⟨e3, by rw [← e1, ← e2]; exact hP⟩ hS) hS.2.2 dX12_seen_84
        · rw [if_neg c_27] at h
          refine lv_aload_n hx hb dX12_seen_73 rfl (lv_at hl 0 rfl) ?_
          refine lv_iload_n hx hb dX12_seen_74 rfl (lv_at hl 2 rfl) ?_
          refine lv_iload_n hx hb dX12_seen_75 rfl (lv_at hl 3 rfl) ?_
          obtain ⟨f_28, wl_29, r_30, z_31, h⟩ := gb_bd_s h
          refine gb_calli (va_runV (C := RX12) (As := [.int p2, .int p3]) (rest := []) ⟨hx, hb, hml, hown, hq⟩ (mc_seenOf l D cT tt b1 b hb1 n f_22 wl_23 p2 p3 f_28 wl_29 r_30 z_31) (cwV 2 hq (gb_gV w_1600 w_1602 s_6_10 w_14 w_1603) rfl rfl rfl (by decide +kernel) ⟨Nat.le_of_ble_eq_true rfl, Nat.le_of_ble_eq_true rfl⟩) (gb_preV (r := (RX12, TX12, 44)) (ci := 10) (q0 := 0) hSt hP rfl (gb_at b rfl) hS (fun q h => Nat.le_trans hb1 h.1) hP) rfl rfl hl.1 rfl (lv_room (Nat.le_of_ble_eq_true rfl)) dX12_seen_76 ⟨Nat.le_of_ble_eq_true rfl, Nat.le_of_ble_eq_true rfl⟩) hS (fun _ h => h) (fun _ h => h) (fun q_32 H locs hY hk hS => ?_)
          obtain ⟨hq_32, hP⟩ := hY
          replace hq_32 := hq_32.symm
          subst hq_32
          refine lv_goto (tgt := 84) hx hb dX12_seen_79 (by decide) ?_
          obtain ⟨e1, e2, e3⟩ := gb_eq3 h
          exact W.iret (v := r_30) hx hb hr (fun t ht hW => gb_ri ht ⟨e3, by rw [← e1, ← e2]; exact hP⟩ hS) hS.2.2 dX12_seen_84
    · rw [if_pos c_13] at h
      refine lv_iload_n hx hb dX12_seen_26 rfl (lv_at hl 3 rfl) ?_
      refine lv_if_ne (tgt := 42) hx hb dX12_seen_27 (by decide) (fun c_33 => ?_) (fun c_33 => ?_)
      · rw [if_neg c_33] at h
        refine lv_bipush (v := (-2)) hx hb dX12_seen_42 (by decide) ?_
        obtain ⟨e1, e2, e3⟩ := gb_eq3 h
        exact W.iret (v := (-2)) hx hb hr (fun t ht hW => gb_ri ht ⟨e3, by rw [← e1, ← e2]; exact hP⟩ hS) hS.2.2 dX12_seen_44
      · rw [if_pos c_33] at h
        refine lv_aload_n hx hb dX12_seen_30 rfl (lv_at hl 0 rfl) ?_
        refine va_get (ci := 10) (v := (.ref (b + 1))) (C := RX12) (T := TX12) (N := 44) hx hb hq i_X12 hown hK hP 0 (gb_at b rfl) rfl 0 (by decide) (hq _ w_1124) (fun _ h9 => h9) rfl dX12_seen_31 ?_
        refine lv_aload_n hx hb dX12_seen_34 rfl (lv_at hl 0 rfl) ?_
        refine va_get (ci := 10) (v := (.int (f_12 0 29))) (C := RX12) (T := TX12) (N := 44) hx hb hq i_X12 hown hK hP 0 (gb_at b rfl) rfl 29 (by decide) (hq _ w_1153) (fun _ h9 => h9) rfl dX12_seen_35 ?_
        obtain ⟨z_34, h⟩ := gb_ck_s h
        refine va_iald hx hb hK hP 1 0 (gb_at b rfl) rfl z_34 dX12_seen_38 ?_
        refine lv_topi (fun x_35 ex_35 => ?_)
        replace h := gb_lt_s ex_35 h
        refine lv_goto (tgt := 44) hx hb dX12_seen_39 (by decide) ?_
        obtain ⟨e1, e2, e3⟩ := gb_eq3 h
        exact W.iret (v := x_35) hx hb hr (fun t ht hW => gb_ri ht ⟨e3, by rw [← e1, ← e2]; exact hP⟩ hS) hS.2.2 dX12_seen_44
  · rw [if_pos c_6] at h
    refine lv_bipush (v := (-2)) hx hb dX12_seen_9 (by decide) ?_
    obtain ⟨e1, e2, e3⟩ := gb_eq3 h
    exact W.iret (v := (-2)) hx hb hr (fun t ht hW => gb_ri ht ⟨e3, by rw [← e1, ← e2]; exact hP⟩ hS) hS.2.2 dX12_seen_11
theorem dX12_isWhole_0 : decode cX12_isWhole 0 = .ok (.iconst 1, 1) := dc_4 (show ((cX12_isWhole.data.toList.drop 0).take 1).map UInt8.toNat = [4] by decide +kernel)
theorem dX12_isWhole_1 : decode cX12_isWhole 1 = .ok (.istore_n 1, 1) := dc_60 (show ((cX12_isWhole.data.toList.drop 1).take 1).map UInt8.toNat = [60] by decide +kernel)
theorem dX12_isWhole_2 : decode cX12_isWhole 2 = .ok (.iconst 0, 1) := dc_3 (show ((cX12_isWhole.data.toList.drop 2).take 1).map UInt8.toNat = [3] by decide +kernel)
theorem dX12_isWhole_3 : decode cX12_isWhole 3 = .ok (.istore_n 2, 1) := dc_61 (show ((cX12_isWhole.data.toList.drop 3).take 1).map UInt8.toNat = [61] by decide +kernel)
theorem dX12_isWhole_4 : decode cX12_isWhole 4 = .ok (.iload_n 2, 1) := dc_28 (show ((cX12_isWhole.data.toList.drop 4).take 1).map UInt8.toNat = [28] by decide +kernel)
theorem dX12_isWhole_5 : decode cX12_isWhole 5 = .ok (.iconst 5, 1) := dc_8 (show ((cX12_isWhole.data.toList.drop 5).take 1).map UInt8.toNat = [8] by decide +kernel)
theorem dX12_isWhole_6 : decode cX12_isWhole 6 = .ok (.if_icmp .ge 44, 3) := dc_162 (show ((cX12_isWhole.data.toList.drop 6).take 3).map UInt8.toNat = [162, 0, 44] by decide +kernel) rfl
theorem dX12_isWhole_50 : decode cX12_isWhole 50 = .ok (.iload_n 1, 1) := dc_27 (show ((cX12_isWhole.data.toList.drop 50).take 1).map UInt8.toNat = [27] by decide +kernel)
theorem dX12_isWhole_51 : decode cX12_isWhole 51 = .ok (.ireturn, 1) := dc_172 (show ((cX12_isWhole.data.toList.drop 51).take 1).map UInt8.toNat = [172] by decide +kernel)
theorem dX12_isWhole_9 : decode cX12_isWhole 9 = .ok (.iload_n 1, 1) := dc_27 (show ((cX12_isWhole.data.toList.drop 9).take 1).map UInt8.toNat = [27] by decide +kernel)
theorem dX12_isWhole_10 : decode cX12_isWhole 10 = .ok (.ifCond .eq 32, 3) := dc_153 (show ((cX12_isWhole.data.toList.drop 10).take 3).map UInt8.toNat = [153, 0, 32] by decide +kernel) rfl
theorem dX12_isWhole_42 : decode cX12_isWhole 42 = .ok (.iconst 0, 1) := dc_3 (show ((cX12_isWhole.data.toList.drop 42).take 1).map UInt8.toNat = [3] by decide +kernel)
theorem dX12_isWhole_43 : decode cX12_isWhole 43 = .ok (.istore_n 1, 1) := dc_60 (show ((cX12_isWhole.data.toList.drop 43).take 1).map UInt8.toNat = [60] by decide +kernel)
theorem dX12_isWhole_44 : decode cX12_isWhole 44 = .ok (.iinc 2 1, 3) := dc_132 (show ((cX12_isWhole.data.toList.drop 44).take 3).map UInt8.toNat = [132, 2, 1] by decide +kernel) rfl
theorem dX12_isWhole_47 : decode cX12_isWhole 47 = .ok (.goto (-43), 3) := dc_167 (show ((cX12_isWhole.data.toList.drop 47).take 3).map UInt8.toNat = [167, 255, 213] by decide +kernel) rfl
theorem dX12_isWhole_13 : decode cX12_isWhole 13 = .ok (.aload_n 0, 1) := dc_42 (show ((cX12_isWhole.data.toList.drop 13).take 1).map UInt8.toNat = [42] by decide +kernel)
theorem dX12_isWhole_14 : decode cX12_isWhole 14 = .ok (.getfield 53, 3) := dc_180 (show ((cX12_isWhole.data.toList.drop 14).take 3).map UInt8.toNat = [180, 0, 53] by decide +kernel) rfl
theorem dX12_isWhole_17 : decode cX12_isWhole 17 = .ok (.iload_n 2, 1) := dc_28 (show ((cX12_isWhole.data.toList.drop 17).take 1).map UInt8.toNat = [28] by decide +kernel)
theorem dX12_isWhole_18 : decode cX12_isWhole 18 = .ok (.iaload, 1) := dc_46 (show ((cX12_isWhole.data.toList.drop 18).take 1).map UInt8.toNat = [46] by decide +kernel)
theorem dX12_isWhole_19 : decode cX12_isWhole 19 = .ok (.iconst (-1), 1) := dc_2 (show ((cX12_isWhole.data.toList.drop 19).take 1).map UInt8.toNat = [2] by decide +kernel)
theorem dX12_isWhole_20 : decode cX12_isWhole 20 = .ok (.if_icmp .eq 18, 3) := dc_159 (show ((cX12_isWhole.data.toList.drop 20).take 3).map UInt8.toNat = [159, 0, 18] by decide +kernel) rfl
theorem dX12_isWhole_38 : decode cX12_isWhole 38 = .ok (.iconst 1, 1) := dc_4 (show ((cX12_isWhole.data.toList.drop 38).take 1).map UInt8.toNat = [4] by decide +kernel)
theorem dX12_isWhole_39 : decode cX12_isWhole 39 = .ok (.goto 4, 3) := dc_167 (show ((cX12_isWhole.data.toList.drop 39).take 3).map UInt8.toNat = [167, 0, 4] by decide +kernel) rfl
theorem dX12_isWhole_23 : decode cX12_isWhole 23 = .ok (.aload_n 0, 1) := dc_42 (show ((cX12_isWhole.data.toList.drop 23).take 1).map UInt8.toNat = [42] by decide +kernel)
theorem dX12_isWhole_24 : decode cX12_isWhole 24 = .ok (.getfield 53, 3) := dc_180 (show ((cX12_isWhole.data.toList.drop 24).take 3).map UInt8.toNat = [180, 0, 53] by decide +kernel) rfl
theorem dX12_isWhole_27 : decode cX12_isWhole 27 = .ok (.iload_n 2, 1) := dc_28 (show ((cX12_isWhole.data.toList.drop 27).take 1).map UInt8.toNat = [28] by decide +kernel)
theorem dX12_isWhole_28 : decode cX12_isWhole 28 = .ok (.iaload, 1) := dc_46 (show ((cX12_isWhole.data.toList.drop 28).take 1).map UInt8.toNat = [46] by decide +kernel)
theorem dX12_isWhole_29 : decode cX12_isWhole 29 = .ok (.aload_n 0, 1) := dc_42 (show ((cX12_isWhole.data.toList.drop 29).take 1).map UInt8.toNat = [42] by decide +kernel)
theorem dX12_isWhole_30 : decode cX12_isWhole 30 = .ok (.getfield 50, 3) := dc_180 (show ((cX12_isWhole.data.toList.drop 30).take 3).map UInt8.toNat = [180, 0, 50] by decide +kernel) rfl
theorem dX12_isWhole_33 : decode cX12_isWhole 33 = .ok (.iload_n 2, 1) := dc_28 (show ((cX12_isWhole.data.toList.drop 33).take 1).map UInt8.toNat = [28] by decide +kernel)
theorem dX12_isWhole_34 : decode cX12_isWhole 34 = .ok (.iaload, 1) := dc_46 (show ((cX12_isWhole.data.toList.drop 34).take 1).map UInt8.toNat = [46] by decide +kernel)
theorem dX12_isWhole_35 : decode cX12_isWhole 35 = .ok (.if_icmp .ne 7, 3) := dc_160 (show ((cX12_isWhole.data.toList.drop 35).take 3).map UInt8.toNat = [160, 0, 7] by decide +kernel) rfl
def ms_isWhole_4 (n : Nat) : Nat → gb_F → Int64 → Int32 → Int32 → gb_MR Int32
  | 0, _, _, _, _ => none
  | mm + 1, f, w, v1, v2 => (if (5 : Int32) ≤ v2 then gb_cb v1 (some (f, w, v1)) else (if v1 = 0 then gb_lt (v2 + 1) (fun x_4 => ms_isWhole_4 n mm f w 0 x_4) else gb_ck v2 5 (gb_lt (f 15 (Int32.toNatClampNeg v2)) (fun x_6 => (if x_6 = (-1) then gb_lt (v2 + 1) (fun x_8 => ms_isWhole_4 n mm f w 1 x_8) else gb_ck v2 5 (gb_lt (f 15 (Int32.toNatClampNeg v2)) (fun x_10 => gb_ck v2 5 (gb_lt (f 14 (Int32.toNatClampNeg v2)) (fun x_12 => (if x_10 = x_12 then gb_lt (v2 + 1) (fun x_15 => ms_isWhole_4 n mm f w 1 x_15) else gb_lt (v2 + 1) (fun x_14 => ms_isWhole_4 n mm f w 0 x_14)))))))))))
def ms_isWhole (n : Nat) (f : gb_F) (w : Int64) : gb_MR Int32 := ms_isWhole_4 n n f w 1 0
set_option maxHeartbeats 8000000 in
set_option maxRecDepth 100000 in
theorem mc_isWhole (l : Launch) (D : va_G) (cT : Nat → ClassId) (tt : Nat → Nat) (b1 b : Nat) (hb1 : b1 ≤ b) (n : Nat) (f : gb_F) (w : Int64) (fE : gb_F) (wE : Int64) (rE : Int32) (h : ms_isWhole n f w = some (fE, wE, rE)) : Met l yX12_isWhole (.code yX12_isWhole cX12_isWhole 3 (some FieldType.boolean) :: gb_wA) ({ frames := 0, cells := 0, slots := 0, locals := 0 }) (gb_Pc D cT tt b1 [.ref (b + 0)] (fun h => va_P D vwCl (gb_wl b (gb_MW cT b f w)) h)) (gb_Qi (fun r h => r = rE ∧ va_P D vwCl (gb_wl b (gb_MW cT b fE wE)) h) (gb_fr b 22)) 0 0 (gb_fr b 22) := by
  refine Met.ofW (cc := cX12_isWhole) (maxL := 3) (ret := (some FieldType.boolean)) (by decide) rfl ?_
  intro p e s m args below meth c s₁ B hml hv
  obtain ⟨rfl, hSt, hP⟩ := hv
  have hx := B.exec
  have hb := B.bytes
  have hr := B.returns
  have hts := atoms_spec (ws := .code yX12_isWhole cX12_isWhole 3 (some FieldType.boolean) :: gb_wA) B.pre
  have hq : ∀ w ∈ gb_wA, w.before _ s = true := fun w h => hts w (List.mem_cons_of_mem _ h)
  have hown : s.vm.findClass RX12 = some m.cls := findClass_of_methodNamed B.named
  have hlocks := B.notSynchronized
  clear B hts
  have hK := hSt.1
  have hS : va_S (gb_fr b 22) s.heap s.heap [] := va_S.rf
  have hl := lv_entry ([.ref (b + 0)]) (n := 3) (Nat.le_of_ble_eq_true rfl)
  rw [lg_entry_eq]
  generalize (lg_sl ([.ref (b + 0)]) ++ List.replicate (3 - (lg_sl ([.ref (b + 0)])).length) Slot.unset).toArray = ls at hl ⊢
  replace hl : lv_has ls 3 [(0, .ref (b + 0))] := hl
  have L4 : ∀ (mm : Nat) (f : gb_F) (w : Int64) (v1 : Int32) (v2 : Int32) (H : Heap) (locs : List Loc) (ls : Array Slot), ms_isWhole_4 n mm f w v1 v2 = some (fE, wE, rE) → va_P D vwCl (gb_wl b (gb_MW cT b f w)) H → va_S (gb_fr b 22) s.heap H locs → lv_has ls 3 [(0, .ref (b + 0)), (1, .int v1), (2, .int v2)] → W p l e (headSpec (.code yX12_isWhole cX12_isWhole 3 (some FieldType.boolean) :: gb_wA) ({ frames := 0, cells := 0, slots := 0, locals := 0 })).room s m ([.ref (b + 0)]).toArray below meth c H locs 0 0 (MQ below (gb_Qi (fun r h => r = rE ∧ va_P D vwCl (gb_wl b (gb_MW cT b fE wE)) h) (gb_fr b 22)) ([.ref (b + 0)]).toArray s 0 0 (gb_fr b 22)) (F0 m 4 ls []) := by
    clear h hP hS hl ls f w
    intro mm
    induction mm with
    | zero =>
      intro f w v1 v2 H locs ls h
      cases h
    | succ mm ih =>
      intro f w v1 v2 H locs ls h hP hS hl
      rw [ms_isWhole_4] at h
      refine lv_iload_n hx hb dX12_isWhole_4 rfl (lv_at hl 2 rfl) ?_
      refine lv_iconst (v := 5) hx hb dX12_isWhole_5 (by decide) ?_
      refine lv_icmp_ge (tgt := 50) hx hb dX12_isWhole_6 (by decide) (fun c_1 => ?_) (fun c_1 => ?_)
      · rw [if_pos c_1] at h
        refine lv_iload_n hx hb dX12_isWhole_50 rfl (lv_at hl 1 rfl) ?_
        obtain ⟨z_2, h⟩ := gb_cb_s h
        obtain ⟨e1, e2, e3⟩ := gb_eq3 h
        exact W.zret (v := v1) hx hb hr z_2.1 (fun t ht hW => gb_ri ht ⟨e3, by rw [← e1, ← e2]; exact hP⟩ hS) hS.2.2 dX12_isWhole_51
      · rw [if_neg c_1] at h
        refine lv_iload_n hx hb dX12_isWhole_9 rfl (lv_at hl 1 rfl) ?_
        refine lv_if_eq (tgt := 42) hx hb dX12_isWhole_10 (by decide) (fun c_3 => ?_) (fun c_3 => ?_)
        · rw [if_pos c_3] at h
          refine lv_iconst (v := 0) hx hb dX12_isWhole_42 (by decide) ?_
          refine lv_istore_n (lv' := [(1, .int 0), (0, .ref (b + 0)), (2, .int v2)]) hx hb dX12_isWhole_43 rfl hl (by decide) rfl (fun ls hl => ?_)
          obtain ⟨x_4, ex_4⟩ : ∃ q, q = (v2 + 1) := ⟨_, rfl⟩
          replace h := gb_lt_s ex_4 h
          refine lv_iinc (v := x_4) (lv' := [(2, .int x_4), (1, .int 0), (0, .ref (b + 0))]) hx hb dX12_isWhole_44 hl (k := 2) rfl (by rw [ex_4]; rfl) (by decide) rfl (fun ls hl => ?_)
          refine lv_goto (tgt := 4) hx hb dX12_isWhole_47 (by decide) ?_
          exact ih _ _ _ _ _ _ _ h hP hS (lv_sub hl [2, 1, 0] rfl)
        · rw [if_neg c_3] at h
          refine lv_aload_n hx hb dX12_isWhole_13 rfl (lv_at hl 0 rfl) ?_
          refine va_get (ci := 10) (v := (.ref (b + 15))) (C := RX12) (T := TX12) (N := 44) hx hb hq i_X12 hown hK hP 0 (gb_at b rfl) rfl 30 (by decide) (hq _ w_1154) (fun _ h9 => h9) rfl dX12_isWhole_14 ?_
          refine lv_iload_n hx hb dX12_isWhole_17 rfl (lv_at hl 2 rfl) ?_
          obtain ⟨z_5, h⟩ := gb_ck_s h
          refine va_iald hx hb hK hP 15 0 (gb_at b rfl) rfl z_5 dX12_isWhole_18 ?_
          refine lv_topi (fun x_6 ex_6 => ?_)
          replace h := gb_lt_s ex_6 h
          refine lv_iconst (v := (-1)) hx hb dX12_isWhole_19 (by decide) ?_
          refine lv_icmp_eq (tgt := 38) hx hb dX12_isWhole_20 (by decide) (fun c_7 => ?_) (fun c_7 => ?_)
          · rw [if_pos c_7] at h
            refine lv_iconst (v := 1) hx hb dX12_isWhole_38 (by decide) ?_
            refine lv_goto (tgt := 43) hx hb dX12_isWhole_39 (by decide) ?_
            refine lv_istore_n (lv' := [(1, .int 1), (0, .ref (b + 0)), (2, .int v2)]) hx hb dX12_isWhole_43 rfl hl (by decide) rfl (fun ls hl => ?_)
            obtain ⟨x_8, ex_8⟩ : ∃ q, q = (v2 + 1) := ⟨_, rfl⟩
            replace h := gb_lt_s ex_8 h
            refine lv_iinc (v := x_8) (lv' := [(2, .int x_8), (1, .int 1), (0, .ref (b + 0))]) hx hb dX12_isWhole_44 hl (k := 2) rfl (by rw [ex_8]; rfl) (by decide) rfl (fun ls hl => ?_)
            refine lv_goto (tgt := 4) hx hb dX12_isWhole_47 (by decide) ?_
            exact ih _ _ _ _ _ _ _ h hP hS (lv_sub hl [2, 1, 0] rfl)
          · rw [if_neg c_7] at h
            refine lv_aload_n hx hb dX12_isWhole_23 rfl (lv_at hl 0 rfl) ?_
            refine va_get (ci := 10) (v := (.ref (b + 15))) (C := RX12) (T := TX12) (N := 44) hx hb hq i_X12 hown hK hP 0 (gb_at b rfl) rfl 30 (by decide) (hq _ w_1154) (fun _ h9 => h9) rfl dX12_isWhole_24 ?_
            refine lv_iload_n hx hb dX12_isWhole_27 rfl (lv_at hl 2 rfl) ?_
            obtain ⟨z_9, h⟩ := gb_ck_s h
            refine va_iald hx hb hK hP 15 0 (gb_at b rfl) rfl z_9 dX12_isWhole_28 ?_
            refine lv_topi (fun x_10 ex_10 => ?_)
            replace h := gb_lt_s ex_10 h
            refine lv_aload_n hx hb dX12_isWhole_29 rfl (lv_at hl 0 rfl) ?_
            refine va_get (ci := 10) (v := (.ref (b + 14))) (C := RX12) (T := TX12) (N := 44) hx hb hq i_X12 hown hK hP 0 (gb_at b rfl) rfl 27 (by decide) (hq _ w_1151) (fun _ h9 => h9) rfl dX12_isWhole_30 ?_
            refine lv_iload_n hx hb dX12_isWhole_33 rfl (lv_at hl 2 rfl) ?_
            obtain ⟨z_11, h⟩ := gb_ck_s h
            refine va_iald hx hb hK hP 14 0 (gb_at b rfl) rfl z_11 dX12_isWhole_34 ?_
            refine lv_topi (fun x_12 ex_12 => ?_)
            replace h := gb_lt_s ex_12 h
            refine lv_icmp_ne (tgt := 42) hx hb dX12_isWhole_35 (by decide) (fun c_13 => ?_) (fun c_13 => ?_)
            · rw [if_neg c_13] at h
              refine lv_iconst (v := 0) hx hb dX12_isWhole_42 (by decide) ?_
              refine lv_istore_n (lv' := [(1, .int 0), (0, .ref (b + 0)), (2, .int v2)]) hx hb dX12_isWhole_43 rfl hl (by decide) rfl (fun ls hl => ?_)
              obtain ⟨x_14, ex_14⟩ : ∃ q, q = (v2 + 1) := ⟨_, rfl⟩
              replace h := gb_lt_s ex_14 h
              refine lv_iinc (v := x_14) (lv' := [(2, .int x_14), (1, .int 0), (0, .ref (b + 0))]) hx hb dX12_isWhole_44 hl (k := 2) rfl (by rw [ex_14]; rfl) (by decide) rfl (fun ls hl => ?_)
              refine lv_goto (tgt := 4) hx hb dX12_isWhole_47 (by decide) ?_
              exact ih _ _ _ _ _ _ _ h hP hS (lv_sub hl [2, 1, 0] rfl)
            · rw [if_pos c_13] at h
              refine lv_iconst (v := 1) hx hb dX12_isWhole_38 (by decide) ?_
              refine lv_goto (tgt := 43) hx hb dX12_isWhole_39 (by decide) ?_
              refine lv_istore_n (lv' := [(1, .int 1), (0, .ref (b + 0)), (2, .int v2)]) hx hb dX12_isWhole_43 rfl hl (by decide) rfl (fun ls hl => ?_)
              obtain ⟨x_15, ex_15⟩ : ∃ q, q = (v2 + 1) := ⟨_, rfl⟩
              replace h := gb_lt_s ex_15 h
              refine lv_iinc (v := x_15) (lv' := [(2, .int x_15), (1, .int 1), (0, .ref (b + 0))]) hx hb dX12_isWhole_44 hl (k := 2) rfl (by rw [ex_15]; rfl) (by decide) rfl (fun ls hl => ?_)
              refine lv_goto (tgt := 4) hx hb dX12_isWhole_47 (by decide) ?_
              exact ih _ _ _ _ _ _ _ h hP hS (lv_sub hl [2, 1, 0] rfl)
  unfold ms_isWhole at h
  refine lv_iconst (v := 1) hx hb dX12_isWhole_0 (by decide) ?_
  refine lv_istore_n (lv' := [(1, .int 1), (0, .ref (b + 0))]) hx hb dX12_isWhole_1 rfl hl (by decide) rfl (fun ls hl => ?_)
  refine lv_iconst (v := 0) hx hb dX12_isWhole_2 (by decide) ?_
  refine lv_istore_n (lv' := [(2, .int 0), (1, .int 1), (0, .ref (b + 0))]) hx hb dX12_isWhole_3 rfl hl (by decide) rfl (fun ls hl => ?_)
  exact L4 n _ _ _ _ _ _ _ h hP hS (lv_sub hl [2, 1, 0] rfl)
theorem dX12_counts_0 : decode cX12_counts 0 = .ok (.aload_n 0, 1) := dc_42 (show ((cX12_counts.data.toList.drop 0).take 1).map UInt8.toNat = [42] by decide +kernel)
theorem dX12_counts_1 : decode cX12_counts 1 = .ok (.invokevirtual 347, 3) := dc_182 (show ((cX12_counts.data.toList.drop 1).take 3).map UInt8.toNat = [182, 1, 91] by decide +kernel) rfl
theorem w_1628 : (Cond.code ({ cls := "GooseBorderModel", name := "isWhole", desc := "()Z" } : MethodName) prog_14_method_90_code (3 : Nat) (Option.some FieldType.boolean)) ∈ gb_wA := gb_t7 188 rfl rfl
theorem w_1625 : (Cond.methodLink "GooseBorderModel" (347 : Nat) ({ cls := "GooseBorderModel", name := "isWhole", desc := "()Z" } : MethodName)) ∈ gb_wA := gb_t7 185 rfl rfl
theorem w_1627 : (Cond.instanceMethod ({ cls := "GooseBorderModel", name := "isWhole", desc := "()Z" } : MethodName)) ∈ gb_wA := gb_t7 187 rfl rfl
theorem s_6_15 : Cond.selects "GooseBorderModel" (⟨"GooseBorderModel", "isWhole", "()Z"⟩ : MethodName) (⟨"GooseBorderModel", "isWhole", "()Z"⟩ : MethodName) ∈ gb_wA := gb_s6 15 rfl rfl
theorem dX12_counts_4 : decode cX12_counts 4 = .ok (.ifCond .ne 4, 3) := dc_154 (show ((cX12_counts.data.toList.drop 4).take 3).map UInt8.toNat = [154, 0, 4] by decide +kernel) rfl
theorem dX12_counts_8 : decode cX12_counts 8 = .ok (.iconst 0, 1) := dc_3 (show ((cX12_counts.data.toList.drop 8).take 1).map UInt8.toNat = [3] by decide +kernel)
theorem dX12_counts_9 : decode cX12_counts 9 = .ok (.istore_n 1, 1) := dc_60 (show ((cX12_counts.data.toList.drop 9).take 1).map UInt8.toNat = [60] by decide +kernel)
theorem dX12_counts_10 : decode cX12_counts 10 = .ok (.iconst 0, 1) := dc_3 (show ((cX12_counts.data.toList.drop 10).take 1).map UInt8.toNat = [3] by decide +kernel)
theorem dX12_counts_11 : decode cX12_counts 11 = .ok (.istore_n 2, 1) := dc_61 (show ((cX12_counts.data.toList.drop 11).take 1).map UInt8.toNat = [61] by decide +kernel)
theorem dX12_counts_12 : decode cX12_counts 12 = .ok (.iconst 0, 1) := dc_3 (show ((cX12_counts.data.toList.drop 12).take 1).map UInt8.toNat = [3] by decide +kernel)
theorem dX12_counts_13 : decode cX12_counts 13 = .ok (.istore_n 3, 1) := dc_62 (show ((cX12_counts.data.toList.drop 13).take 1).map UInt8.toNat = [62] by decide +kernel)
theorem dX12_counts_14 : decode cX12_counts 14 = .ok (.iload_n 3, 1) := dc_29 (show ((cX12_counts.data.toList.drop 14).take 1).map UInt8.toNat = [29] by decide +kernel)
theorem dX12_counts_15 : decode cX12_counts 15 = .ok (.aload_n 0, 1) := dc_42 (show ((cX12_counts.data.toList.drop 15).take 1).map UInt8.toNat = [42] by decide +kernel)
theorem dX12_counts_16 : decode cX12_counts 16 = .ok (.invokevirtual 202, 3) := dc_182 (show ((cX12_counts.data.toList.drop 16).take 3).map UInt8.toNat = [182, 0, 202] by decide +kernel) rfl
theorem dX12_counts_19 : decode cX12_counts 19 = .ok (.if_icmp .ge 47, 3) := dc_162 (show ((cX12_counts.data.toList.drop 19).take 3).map UInt8.toNat = [162, 0, 47] by decide +kernel) rfl
theorem dX12_counts_66 : decode cX12_counts 66 = .ok (.aload_n 0, 1) := dc_42 (show ((cX12_counts.data.toList.drop 66).take 1).map UInt8.toNat = [42] by decide +kernel)
theorem dX12_counts_67 : decode cX12_counts 67 = .ok (.dup, 1) := dc_89 (show ((cX12_counts.data.toList.drop 67).take 1).map UInt8.toNat = [89] by decide +kernel)
theorem dX12_counts_68 : decode cX12_counts 68 = .ok (.getfield 351, 3) := dc_180 (show ((cX12_counts.data.toList.drop 68).take 3).map UInt8.toNat = [180, 1, 95] by decide +kernel) rfl
theorem w_1157 : (Cond.fieldLink "GooseBorderModel" (351 : Nat) "GooseBorderModel" "ways" "J") ∈ gb_wA := gb_t5 197 rfl rfl
theorem dX12_counts_71 : decode cX12_counts 71 = .ok (.lconst 1, 1) := dc_10 (show ((cX12_counts.data.toList.drop 71).take 1).map UInt8.toNat = [10] by decide +kernel)
theorem dX12_counts_72 : decode cX12_counts 72 = .ok (.ladd, 1) := dc_97 (show ((cX12_counts.data.toList.drop 72).take 1).map UInt8.toNat = [97] by decide +kernel)
theorem dX12_counts_73 : decode cX12_counts 73 = .ok (.putfield 351, 3) := dc_181 (show ((cX12_counts.data.toList.drop 73).take 3).map UInt8.toNat = [181, 1, 95] by decide +kernel) rfl
theorem dX12_counts_76 : decode cX12_counts 76 = .ok (.aload_n 0, 1) := dc_42 (show ((cX12_counts.data.toList.drop 76).take 1).map UInt8.toNat = [42] by decide +kernel)
theorem dX12_counts_77 : decode cX12_counts 77 = .ok (.iload_n 2, 1) := dc_28 (show ((cX12_counts.data.toList.drop 77).take 1).map UInt8.toNat = [28] by decide +kernel)
theorem dX12_counts_78 : decode cX12_counts 78 = .ok (.aload_n 0, 1) := dc_42 (show ((cX12_counts.data.toList.drop 78).take 1).map UInt8.toNat = [42] by decide +kernel)
theorem dX12_counts_79 : decode cX12_counts 79 = .ok (.getfield 355, 3) := dc_180 (show ((cX12_counts.data.toList.drop 79).take 3).map UInt8.toNat = [180, 1, 99] by decide +kernel) rfl
theorem w_1158 : (Cond.fieldLink "GooseBorderModel" (355 : Nat) "GooseBorderModel" "fewest" "I") ∈ gb_wA := gb_t5 198 rfl rfl
theorem dX12_counts_82 : decode cX12_counts 82 = .ok (.if_icmp .ge 7, 3) := dc_162 (show ((cX12_counts.data.toList.drop 82).take 3).map UInt8.toNat = [162, 0, 7] by decide +kernel) rfl
theorem dX12_counts_89 : decode cX12_counts 89 = .ok (.aload_n 0, 1) := dc_42 (show ((cX12_counts.data.toList.drop 89).take 1).map UInt8.toNat = [42] by decide +kernel)
theorem dX12_counts_90 : decode cX12_counts 90 = .ok (.getfield 355, 3) := dc_180 (show ((cX12_counts.data.toList.drop 90).take 3).map UInt8.toNat = [180, 1, 99] by decide +kernel) rfl
theorem dX12_counts_93 : decode cX12_counts 93 = .ok (.putfield 355, 3) := dc_181 (show ((cX12_counts.data.toList.drop 93).take 3).map UInt8.toNat = [181, 1, 99] by decide +kernel) rfl
theorem dX12_counts_96 : decode cX12_counts 96 = .ok (.aload_n 0, 1) := dc_42 (show ((cX12_counts.data.toList.drop 96).take 1).map UInt8.toNat = [42] by decide +kernel)
theorem dX12_counts_97 : decode cX12_counts 97 = .ok (.iload_n 2, 1) := dc_28 (show ((cX12_counts.data.toList.drop 97).take 1).map UInt8.toNat = [28] by decide +kernel)
theorem dX12_counts_98 : decode cX12_counts 98 = .ok (.aload_n 0, 1) := dc_42 (show ((cX12_counts.data.toList.drop 98).take 1).map UInt8.toNat = [42] by decide +kernel)
theorem dX12_counts_99 : decode cX12_counts 99 = .ok (.getfield 358, 3) := dc_180 (show ((cX12_counts.data.toList.drop 99).take 3).map UInt8.toNat = [180, 1, 102] by decide +kernel) rfl
theorem w_1159 : (Cond.fieldLink "GooseBorderModel" (358 : Nat) "GooseBorderModel" "most" "I") ∈ gb_wA := gb_t5 199 rfl rfl
theorem dX12_counts_102 : decode cX12_counts 102 = .ok (.if_icmp .le 7, 3) := dc_164 (show ((cX12_counts.data.toList.drop 102).take 3).map UInt8.toNat = [164, 0, 7] by decide +kernel) rfl
theorem dX12_counts_109 : decode cX12_counts 109 = .ok (.aload_n 0, 1) := dc_42 (show ((cX12_counts.data.toList.drop 109).take 1).map UInt8.toNat = [42] by decide +kernel)
theorem dX12_counts_110 : decode cX12_counts 110 = .ok (.getfield 358, 3) := dc_180 (show ((cX12_counts.data.toList.drop 110).take 3).map UInt8.toNat = [180, 1, 102] by decide +kernel) rfl
theorem dX12_counts_113 : decode cX12_counts 113 = .ok (.putfield 358, 3) := dc_181 (show ((cX12_counts.data.toList.drop 113).take 3).map UInt8.toNat = [181, 1, 102] by decide +kernel) rfl
theorem dX12_counts_116 : decode cX12_counts 116 = .ok (.aload_n 0, 1) := dc_42 (show ((cX12_counts.data.toList.drop 116).take 1).map UInt8.toNat = [42] by decide +kernel)
theorem dX12_counts_117 : decode cX12_counts 117 = .ok (.dup, 1) := dc_89 (show ((cX12_counts.data.toList.drop 117).take 1).map UInt8.toNat = [89] by decide +kernel)
theorem dX12_counts_118 : decode cX12_counts 118 = .ok (.getfield 361, 3) := dc_180 (show ((cX12_counts.data.toList.drop 118).take 3).map UInt8.toNat = [180, 1, 105] by decide +kernel) rfl
theorem w_1160 : (Cond.fieldLink "GooseBorderModel" (361 : Nat) "GooseBorderModel" "sure" "I") ∈ gb_wA := gb_t5 200 rfl rfl
theorem dX12_counts_121 : decode cX12_counts 121 = .ok (.iload_n 1, 1) := dc_27 (show ((cX12_counts.data.toList.drop 121).take 1).map UInt8.toNat = [27] by decide +kernel)
theorem dX12_counts_122 : decode cX12_counts 122 = .ok (.iand, 1) := dc_126 (show ((cX12_counts.data.toList.drop 122).take 1).map UInt8.toNat = [126] by decide +kernel)
theorem dX12_counts_123 : decode cX12_counts 123 = .ok (.putfield 361, 3) := dc_181 (show ((cX12_counts.data.toList.drop 123).take 3).map UInt8.toNat = [181, 1, 105] by decide +kernel) rfl
theorem dX12_counts_126 : decode cX12_counts 126 = .ok (.return_, 1) := dc_177 (show ((cX12_counts.data.toList.drop 126).take 1).map UInt8.toNat = [177] by decide +kernel)
theorem dX12_counts_105 : decode cX12_counts 105 = .ok (.iload_n 2, 1) := dc_28 (show ((cX12_counts.data.toList.drop 105).take 1).map UInt8.toNat = [28] by decide +kernel)
theorem dX12_counts_106 : decode cX12_counts 106 = .ok (.goto 7, 3) := dc_167 (show ((cX12_counts.data.toList.drop 106).take 3).map UInt8.toNat = [167, 0, 7] by decide +kernel) rfl
theorem dX12_counts_85 : decode cX12_counts 85 = .ok (.iload_n 2, 1) := dc_28 (show ((cX12_counts.data.toList.drop 85).take 1).map UInt8.toNat = [28] by decide +kernel)
theorem dX12_counts_86 : decode cX12_counts 86 = .ok (.goto 7, 3) := dc_167 (show ((cX12_counts.data.toList.drop 86).take 3).map UInt8.toNat = [167, 0, 7] by decide +kernel) rfl
theorem dX12_counts_22 : decode cX12_counts 22 = .ok (.aload_n 0, 1) := dc_42 (show ((cX12_counts.data.toList.drop 22).take 1).map UInt8.toNat = [42] by decide +kernel)
theorem dX12_counts_23 : decode cX12_counts 23 = .ok (.getfield 56, 3) := dc_180 (show ((cX12_counts.data.toList.drop 23).take 3).map UInt8.toNat = [180, 0, 56] by decide +kernel) rfl
theorem dX12_counts_26 : decode cX12_counts 26 = .ok (.iload_n 3, 1) := dc_29 (show ((cX12_counts.data.toList.drop 26).take 1).map UInt8.toNat = [29] by decide +kernel)
theorem dX12_counts_27 : decode cX12_counts 27 = .ok (.iaload, 1) := dc_46 (show ((cX12_counts.data.toList.drop 27).take 1).map UInt8.toNat = [46] by decide +kernel)
theorem dX12_counts_28 : decode cX12_counts 28 = .ok (.ifCond .ge 6, 3) := dc_156 (show ((cX12_counts.data.toList.drop 28).take 3).map UInt8.toNat = [156, 0, 6] by decide +kernel) rfl
theorem dX12_counts_34 : decode cX12_counts 34 = .ok (.iload_n 1, 1) := dc_27 (show ((cX12_counts.data.toList.drop 34).take 1).map UInt8.toNat = [27] by decide +kernel)
theorem dX12_counts_35 : decode cX12_counts 35 = .ok (.iconst 1, 1) := dc_4 (show ((cX12_counts.data.toList.drop 35).take 1).map UInt8.toNat = [4] by decide +kernel)
theorem dX12_counts_36 : decode cX12_counts 36 = .ok (.iload_n 3, 1) := dc_29 (show ((cX12_counts.data.toList.drop 36).take 1).map UInt8.toNat = [29] by decide +kernel)
theorem dX12_counts_37 : decode cX12_counts 37 = .ok (.ishl, 1) := dc_120 (show ((cX12_counts.data.toList.drop 37).take 1).map UInt8.toNat = [120] by decide +kernel)
theorem dX12_counts_38 : decode cX12_counts 38 = .ok (.ior, 1) := dc_128 (show ((cX12_counts.data.toList.drop 38).take 1).map UInt8.toNat = [128] by decide +kernel)
theorem dX12_counts_39 : decode cX12_counts 39 = .ok (.istore_n 1, 1) := dc_60 (show ((cX12_counts.data.toList.drop 39).take 1).map UInt8.toNat = [60] by decide +kernel)
theorem dX12_counts_40 : decode cX12_counts 40 = .ok (.iinc 2 1, 3) := dc_132 (show ((cX12_counts.data.toList.drop 40).take 3).map UInt8.toNat = [132, 2, 1] by decide +kernel) rfl
theorem dX12_counts_43 : decode cX12_counts 43 = .ok (.aload_n 0, 1) := dc_42 (show ((cX12_counts.data.toList.drop 43).take 1).map UInt8.toNat = [42] by decide +kernel)
theorem dX12_counts_44 : decode cX12_counts 44 = .ok (.getfield 62, 3) := dc_180 (show ((cX12_counts.data.toList.drop 44).take 3).map UInt8.toNat = [180, 0, 62] by decide +kernel) rfl
theorem dX12_counts_47 : decode cX12_counts 47 = .ok (.iload_n 3, 1) := dc_29 (show ((cX12_counts.data.toList.drop 47).take 1).map UInt8.toNat = [29] by decide +kernel)
theorem dX12_counts_48 : decode cX12_counts 48 = .ok (.dup2, 1) := dc_92 (show ((cX12_counts.data.toList.drop 48).take 1).map UInt8.toNat = [92] by decide +kernel)
theorem dX12_counts_49 : decode cX12_counts 49 = .ok (.iaload, 1) := dc_46 (show ((cX12_counts.data.toList.drop 49).take 1).map UInt8.toNat = [46] by decide +kernel)
theorem dX12_counts_50 : decode cX12_counts 50 = .ok (.iconst 1, 1) := dc_4 (show ((cX12_counts.data.toList.drop 50).take 1).map UInt8.toNat = [4] by decide +kernel)
theorem dX12_counts_51 : decode cX12_counts 51 = .ok (.aload_n 0, 1) := dc_42 (show ((cX12_counts.data.toList.drop 51).take 1).map UInt8.toNat = [42] by decide +kernel)
theorem dX12_counts_52 : decode cX12_counts 52 = .ok (.getfield 56, 3) := dc_180 (show ((cX12_counts.data.toList.drop 52).take 3).map UInt8.toNat = [180, 0, 56] by decide +kernel) rfl
theorem dX12_counts_55 : decode cX12_counts 55 = .ok (.iload_n 3, 1) := dc_29 (show ((cX12_counts.data.toList.drop 55).take 1).map UInt8.toNat = [29] by decide +kernel)
theorem dX12_counts_56 : decode cX12_counts 56 = .ok (.iaload, 1) := dc_46 (show ((cX12_counts.data.toList.drop 56).take 1).map UInt8.toNat = [46] by decide +kernel)
theorem dX12_counts_57 : decode cX12_counts 57 = .ok (.ishl, 1) := dc_120 (show ((cX12_counts.data.toList.drop 57).take 1).map UInt8.toNat = [120] by decide +kernel)
theorem dX12_counts_58 : decode cX12_counts 58 = .ok (.ior, 1) := dc_128 (show ((cX12_counts.data.toList.drop 58).take 1).map UInt8.toNat = [128] by decide +kernel)
theorem dX12_counts_59 : decode cX12_counts 59 = .ok (.iastore, 1) := dc_79 (show ((cX12_counts.data.toList.drop 59).take 1).map UInt8.toNat = [79] by decide +kernel)
theorem dX12_counts_60 : decode cX12_counts 60 = .ok (.iinc 3 1, 3) := dc_132 (show ((cX12_counts.data.toList.drop 60).take 3).map UInt8.toNat = [132, 3, 1] by decide +kernel) rfl
theorem dX12_counts_63 : decode cX12_counts 63 = .ok (.goto (-49), 3) := dc_167 (show ((cX12_counts.data.toList.drop 63).take 3).map UInt8.toNat = [167, 255, 207] by decide +kernel) rfl
theorem dX12_counts_31 : decode cX12_counts 31 = .ok (.goto 29, 3) := dc_167 (show ((cX12_counts.data.toList.drop 31).take 3).map UInt8.toNat = [167, 0, 29] by decide +kernel) rfl
theorem dX12_counts_7 : decode cX12_counts 7 = .ok (.return_, 1) := dc_177 (show ((cX12_counts.data.toList.drop 7).take 1).map UInt8.toNat = [177] by decide +kernel)
def ms_counts_93 (n : Nat) (f : gb_F) (w : Int64) (v1 : Int32) (v2 : Int32) (t0 : Int32) : gb_MR Unit := gb_lt (gb_u f 0 (upd (f 0) 34 t0)) (fun f_15 => (if v2 ≤ (f_15 0 35) then gb_lt (gb_u f_15 0 (upd (f_15 0) 35 (f_15 0 35))) (fun f_17 => gb_lt (gb_u f_17 0 (upd (f_17 0) 36 ((f_17 0 36) &&& v1))) (fun f_18 => some (f_18, w, ()))) else gb_lt (gb_u f_15 0 (upd (f_15 0) 35 v2)) (fun f_19 => gb_lt (gb_u f_19 0 (upd (f_19 0) 36 ((f_19 0 36) &&& v1))) (fun f_20 => some (f_20, w, ())))))
def ms_counts_14 (n : Nat) : Nat → gb_F → Int64 → Int32 → Int32 → Int32 → gb_MR Unit
  | 0, _, _, _, _, _ => none
  | mm + 1, f, w, v1, v2, v3 => gb_bd (ms_geese n f w) (fun f_7 wl_8 r_9 => (if r_9 ≤ v3 then gb_lt (wl_8 + 1) (fun wl_13 => (if (f_7 0 34) ≤ v2 then ms_counts_93 n f_7 wl_13 v1 v2 (f_7 0 34) else ms_counts_93 n f_7 wl_13 v1 v2 v2)) else gb_ck v3 8 (gb_lt (f_7 16 (Int32.toNatClampNeg v3)) (fun x_22 => (if (0 : Int32) ≤ x_22 then gb_lt (v1 ||| (1 <<< (v3 &&& 31))) (fun x_24 => gb_lt (v2 + 1) (fun x_25 => gb_ck v3 8 (gb_lt (f_7 18 (Int32.toNatClampNeg v3)) (fun x_27 => gb_ck v3 8 (gb_lt (f_7 16 (Int32.toNatClampNeg v3)) (fun x_29 => gb_ck v3 8 (gb_lt (gb_u f_7 18 (upd (f_7 18) (Int32.toNatClampNeg v3) (x_27 ||| (1 <<< (x_29 &&& 31))))) (fun f_31 => gb_lt (v3 + 1) (fun x_32 => ms_counts_14 n mm f_31 wl_8 x_24 x_25 x_32))))))))) else gb_lt (v3 + 1) (fun x_33 => ms_counts_14 n mm f_7 wl_8 v1 v2 x_33))))))
def ms_counts (n : Nat) (f : gb_F) (w : Int64) : gb_MR Unit := gb_bd (ms_isWhole n f w) (fun f_1 wl_2 r_3 => (if r_3 = 0 then some (f_1, wl_2, ()) else ms_counts_14 n n f_1 wl_2 0 0 0))
set_option maxHeartbeats 8000000 in
set_option maxRecDepth 100000 in
theorem mc_counts (l : Launch) (D : va_G) (cT : Nat → ClassId) (tt : Nat → Nat) (b1 b : Nat) (hb1 : b1 ≤ b) (n : Nat) (f : gb_F) (w : Int64) (fE : gb_F) (wE : Int64) (rE : Unit) (h : ms_counts n f w = some (fE, wE, rE)) : Met l yX12_counts (.code yX12_counts cX12_counts 4 none :: gb_wA) ({ frames := 2, cells := 0, slots := 0, locals := 41 }) (gb_Pc D cT tt b1 [.ref (b + 0)] (fun h => va_P D vwCl (gb_wl b (gb_MW cT b f w)) h)) (gb_Qv (fun h => va_P D vwCl (gb_wl b (gb_MW cT b fE wE)) h) (gb_fr b 22)) 0 0 (gb_fr b 22) := by
  refine Met.ofW (cc := cX12_counts) (maxL := 4) (ret := none) (by decide) rfl ?_
  intro p e s m args below meth c s₁ B hml hv
  obtain ⟨rfl, hSt, hP⟩ := hv
  have hx := B.exec
  have hb := B.bytes
  have hr := B.returns
  have hts := atoms_spec (ws := .code yX12_counts cX12_counts 4 none :: gb_wA) B.pre
  have hq : ∀ w ∈ gb_wA, w.before _ s = true := fun w h => hts w (List.mem_cons_of_mem _ h)
  have hown : s.vm.findClass RX12 = some m.cls := findClass_of_methodNamed B.named
  have hlocks := B.notSynchronized
  clear B hts
  have hK := hSt.1
  have hS : va_S (gb_fr b 22) s.heap s.heap [] := va_S.rf
  have hl := lv_entry ([.ref (b + 0)]) (n := 4) (Nat.le_of_ble_eq_true rfl)
  rw [lg_entry_eq]
  generalize (lg_sl ([.ref (b + 0)]) ++ List.replicate (4 - (lg_sl ([.ref (b + 0)])).length) Slot.unset).toArray = ls at hl ⊢
  replace hl : lv_has ls 4 [(0, .ref (b + 0))] := hl
  have L93 : ∀ (f : gb_F) (w : Int64) (v1 : Int32) (v2 : Int32) (t0 : Int32) (H : Heap) (locs : List Loc) (ls : Array Slot), ms_counts_93 n f w v1 v2 t0 = some (fE, wE, rE) → va_P D vwCl (gb_wl b (gb_MW cT b f w)) H → va_S (gb_fr b 22) s.heap H locs → lv_has ls 4 [(0, .ref (b + 0)), (1, .int v1), (2, .int v2)] → W p l e (headSpec (.code yX12_counts cX12_counts 4 none :: gb_wA) ({ frames := 2, cells := 0, slots := 0, locals := 41 })).room s m ([.ref (b + 0)]).toArray below meth c H locs 0 0 (MQ below (gb_Qv (fun h => va_P D vwCl (gb_wl b (gb_MW cT b fE wE)) h) (gb_fr b 22)) ([.ref (b + 0)]).toArray s 0 0 (gb_fr b 22)) (F0 m 93 ls [.int t0, .ref (b + 0)]) := by
    clear h hP hS hl ls f w
    intro f w v1 v2 t0 H locs ls h hP hS hl
    unfold ms_counts_93 at h
    refine gb_put (ci := 10) (v := (.int t0)) (ty := .int) (C := RX12) (T := TX12) (N := 44) hx hb hq i_X12 tyX12 tyX12_ok nmX12 hown hK hP (fun k h => ⟨Nat.le_add_right b k, Nat.add_lt_add_left h b⟩) hS rfl 0 rfl rfl 34 (by decide) (hq _ w_1158) (fun _ h9 => h9) rfl (by decide +kernel) rfl rfl (Nat.le_of_ble_eq_true rfl) dX12_counts_93 (fun H locs hP hz_ hS => ?_)
    obtain ⟨f_15, ef_15⟩ : ∃ q, q = (gb_u f 0 (upd (f 0) 34 t0)) := ⟨_, rfl⟩
    replace hP : va_P D vwCl (gb_wl b (gb_MW cT b f_15 w)) H := by rw [ef_15]; exact hP
    replace h := gb_lt_s ef_15 h
    refine lv_aload_n hx hb dX12_counts_96 rfl (lv_at hl 0 rfl) ?_
    refine lv_iload_n hx hb dX12_counts_97 rfl (lv_at hl 2 rfl) ?_
    refine lv_aload_n hx hb dX12_counts_98 rfl (lv_at hl 0 rfl) ?_
    refine va_get (ci := 10) (v := (.int (f_15 0 35))) (C := RX12) (T := TX12) (N := 44) hx hb hq i_X12 hown hK hP 0 (gb_at b rfl) rfl 35 (by decide) (hq _ w_1159) (fun _ h9 => h9) rfl dX12_counts_99 ?_
    refine lv_icmp_le (tgt := 109) hx hb dX12_counts_102 (by decide) (fun c_16 => ?_) (fun c_16 => ?_)
    · rw [if_pos c_16] at h
      refine lv_aload_n hx hb dX12_counts_109 rfl (lv_at hl 0 rfl) ?_
      refine va_get (ci := 10) (v := (.int (f_15 0 35))) (C := RX12) (T := TX12) (N := 44) hx hb hq i_X12 hown hK hP 0 (gb_at b rfl) rfl 35 (by decide) (hq _ w_1159) (fun _ h9 => h9) rfl dX12_counts_110 ?_
      refine gb_put (ci := 10) (v := (.int (f_15 0 35))) (ty := .int) (C := RX12) (T := TX12) (N := 44) hx hb hq i_X12 tyX12 tyX12_ok nmX12 hown hK hP (fun k h => ⟨Nat.le_add_right b k, Nat.add_lt_add_left h b⟩) hS rfl 0 rfl rfl 35 (by decide) (hq _ w_1159) (fun _ h9 => h9) rfl (by decide +kernel) rfl rfl (Nat.le_of_ble_eq_true rfl) dX12_counts_113 (fun H locs hP hz_ hS => ?_)
      obtain ⟨f_17, ef_17⟩ : ∃ q, q = (gb_u f_15 0 (upd (f_15 0) 35 (f_15 0 35))) := ⟨_, rfl⟩
      replace hP : va_P D vwCl (gb_wl b (gb_MW cT b f_17 w)) H := by rw [ef_17]; exact hP
      replace h := gb_lt_s ef_17 h
      refine lv_aload_n hx hb dX12_counts_116 rfl (lv_at hl 0 rfl) ?_
      refine lv_dup hx hb dX12_counts_117 rfl ?_
      refine va_get (ci := 10) (v := (.int (f_17 0 36))) (C := RX12) (T := TX12) (N := 44) hx hb hq i_X12 hown hK hP 0 (gb_at b rfl) rfl 36 (by decide) (hq _ w_1160) (fun _ h9 => h9) rfl dX12_counts_118 ?_
      refine lv_iload_n hx hb dX12_counts_121 rfl (lv_at hl 1 rfl) ?_
      refine lv_iand hx hb dX12_counts_122 ?_
      refine gb_put (ci := 10) (v := (.int ((f_17 0 36) &&& v1))) (ty := .int) (C := RX12) (T := TX12) (N := 44) hx hb hq i_X12 tyX12 tyX12_ok nmX12 hown hK hP (fun k h => ⟨Nat.le_add_right b k, Nat.add_lt_add_left h b⟩) hS rfl 0 rfl rfl 36 (by decide) (hq _ w_1160) (fun _ h9 => h9) rfl (by decide +kernel) rfl rfl (Nat.le_of_ble_eq_true rfl) dX12_counts_123 (fun H locs hP hz_ hS => ?_)
      obtain ⟨f_18, ef_18⟩ : ∃ q, q = (gb_u f_17 0 (upd (f_17 0) 36 ((f_17 0 36) &&& v1))) := ⟨_, rfl⟩
      replace hP : va_P D vwCl (gb_wl b (gb_MW cT b f_18 w)) H := by rw [ef_18]; exact hP
      replace h := gb_lt_s ef_18 h
      obtain ⟨e1, e2, -⟩ := gb_eq3 h
      exact W.vret hx hb hr (fun t ht hW => gb_rv ht (by rw [← e1, ← e2]; exact hP) hS) hS.2.2 dX12_counts_126
    · rw [if_neg c_16] at h
      refine lv_iload_n hx hb dX12_counts_105 rfl (lv_at hl 2 rfl) ?_
      refine lv_goto (tgt := 113) hx hb dX12_counts_106 (by decide) ?_
      refine gb_put (ci := 10) (v := (.int v2)) (ty := .int) (C := RX12) (T := TX12) (N := 44) hx hb hq i_X12 tyX12 tyX12_ok nmX12 hown hK hP (fun k h => ⟨Nat.le_add_right b k, Nat.add_lt_add_left h b⟩) hS rfl 0 rfl rfl 35 (by decide) (hq _ w_1159) (fun _ h9 => h9) rfl (by decide +kernel) rfl rfl (Nat.le_of_ble_eq_true rfl) dX12_counts_113 (fun H locs hP hz_ hS => ?_)
      obtain ⟨f_19, ef_19⟩ : ∃ q, q = (gb_u f_15 0 (upd (f_15 0) 35 v2)) := ⟨_, rfl⟩
      replace hP : va_P D vwCl (gb_wl b (gb_MW cT b f_19 w)) H := by rw [ef_19]; exact hP
      replace h := gb_lt_s ef_19 h
      refine lv_aload_n hx hb dX12_counts_116 rfl (lv_at hl 0 rfl) ?_
      refine lv_dup hx hb dX12_counts_117 rfl ?_
      refine va_get (ci := 10) (v := (.int (f_19 0 36))) (C := RX12) (T := TX12) (N := 44) hx hb hq i_X12 hown hK hP 0 (gb_at b rfl) rfl 36 (by decide) (hq _ w_1160) (fun _ h9 => h9) rfl dX12_counts_118 ?_
      refine lv_iload_n hx hb dX12_counts_121 rfl (lv_at hl 1 rfl) ?_
      refine lv_iand hx hb dX12_counts_122 ?_
      refine gb_put (ci := 10) (v := (.int ((f_19 0 36) &&& v1))) (ty := .int) (C := RX12) (T := TX12) (N := 44) hx hb hq i_X12 tyX12 tyX12_ok nmX12 hown hK hP (fun k h => ⟨Nat.le_add_right b k, Nat.add_lt_add_left h b⟩) hS rfl 0 rfl rfl 36 (by decide) (hq _ w_1160) (fun _ h9 => h9) rfl (by decide +kernel) rfl rfl (Nat.le_of_ble_eq_true rfl) dX12_counts_123 (fun H locs hP hz_ hS => ?_)
      obtain ⟨f_20, ef_20⟩ : ∃ q, q = (gb_u f_19 0 (upd (f_19 0) 36 ((f_19 0 36) &&& v1))) := ⟨_, rfl⟩
      replace hP : va_P D vwCl (gb_wl b (gb_MW cT b f_20 w)) H := by rw [ef_20]; exact hP
      replace h := gb_lt_s ef_20 h
      obtain ⟨e1, e2, -⟩ := gb_eq3 h
      exact W.vret hx hb hr (fun t ht hW => gb_rv ht (by rw [← e1, ← e2]; exact hP) hS) hS.2.2 dX12_counts_126
  have L14 : ∀ (mm : Nat) (f : gb_F) (w : Int64) (v1 : Int32) (v2 : Int32) (v3 : Int32) (H : Heap) (locs : List Loc) (ls : Array Slot), ms_counts_14 n mm f w v1 v2 v3 = some (fE, wE, rE) → va_P D vwCl (gb_wl b (gb_MW cT b f w)) H → va_S (gb_fr b 22) s.heap H locs → lv_has ls 4 [(0, .ref (b + 0)), (1, .int v1), (2, .int v2), (3, .int v3)] → W p l e (headSpec (.code yX12_counts cX12_counts 4 none :: gb_wA) ({ frames := 2, cells := 0, slots := 0, locals := 41 })).room s m ([.ref (b + 0)]).toArray below meth c H locs 0 0 (MQ below (gb_Qv (fun h => va_P D vwCl (gb_wl b (gb_MW cT b fE wE)) h) (gb_fr b 22)) ([.ref (b + 0)]).toArray s 0 0 (gb_fr b 22)) (F0 m 14 ls []) := by
    clear h hP hS hl ls f w
    intro mm
    induction mm with
    | zero =>
      intro f w v1 v2 v3 H locs ls h
      cases h
    | succ mm ih =>
      intro f w v1 v2 v3 H locs ls h hP hS hl
      rw [ms_counts_14] at h
      refine lv_iload_n hx hb dX12_counts_14 rfl (lv_at hl 3 rfl) ?_
      refine lv_aload_n hx hb dX12_counts_15 rfl (lv_at hl 0 rfl) ?_
      obtain ⟨f_7, wl_8, r_9, z_10, h⟩ := gb_bd_s h
      refine gb_calli (va_runV (C := RX12) (As := []) (rest := [.int v3]) ⟨hx, hb, hml, hown, hq⟩ (mc_geese l D cT tt b1 b hb1 n f w f_7 wl_8 r_9 z_10) (cwV 0 hq (gb_gV w_1396 w_1398 s_4_7 w_14 w_1399) rfl rfl rfl (by decide +kernel) ⟨Nat.le_of_ble_eq_true rfl, Nat.le_of_ble_eq_true rfl⟩) (gb_preV (r := (RX12, TX12, 44)) (ci := 10) (q0 := 0) hSt hP rfl (gb_at b rfl) hS (fun q h => Nat.le_trans hb1 h.1) hP) rfl rfl hl.1 rfl (lv_room (Nat.le_of_ble_eq_true rfl)) dX12_counts_16 ⟨Nat.le_of_ble_eq_true rfl, Nat.le_of_ble_eq_true rfl⟩) hS (fun _ h => h) (fun _ h => h) (fun q_11 H locs hY hk hS => ?_)
      obtain ⟨hq_11, hP⟩ := hY
      replace hq_11 := hq_11.symm
      subst hq_11
      refine lv_icmp_ge (tgt := 66) hx hb dX12_counts_19 (by decide) (fun c_12 => ?_) (fun c_12 => ?_)
      · rw [if_pos c_12] at h
        refine lv_aload_n hx hb dX12_counts_66 rfl (lv_at hl 0 rfl) ?_
        refine lv_dup hx hb dX12_counts_67 rfl ?_
        refine va_get (ci := 10) (v := (.long wl_8)) (C := RX12) (T := TX12) (N := 44) hx hb hq i_X12 hown hK hP 0 (gb_at b rfl) rfl 33 (by decide) (hq _ w_1157) (fun _ h9 => h9) rfl dX12_counts_68 ?_
        refine lv_lconst (v := 1) hx hb dX12_counts_71 (by decide) ?_
        refine lv_ladd hx hb dX12_counts_72 ?_
        refine gb_put (ci := 10) (v := (.long (wl_8 + 1))) (ty := .long) (C := RX12) (T := TX12) (N := 44) hx hb hq i_X12 tyX12 tyX12_ok nmX12 hown hK hP (fun k h => ⟨Nat.le_add_right b k, Nat.add_lt_add_left h b⟩) hS rfl 0 rfl rfl 33 (by decide) (hq _ w_1157) (fun _ h9 => h9) rfl (by decide +kernel) rfl rfl (Nat.le_of_ble_eq_true rfl) dX12_counts_73 (fun H locs hP hz_ hS => ?_)
        obtain ⟨wl_13, ewl_13⟩ : ∃ q : Int64, q = (wl_8 + 1) := ⟨_, rfl⟩
        replace hP : va_P D vwCl (gb_wl b (gb_MW cT b f_7 wl_13)) H := by rw [ewl_13]; exact hP
        replace h := gb_lt_s ewl_13 h
        refine lv_aload_n hx hb dX12_counts_76 rfl (lv_at hl 0 rfl) ?_
        refine lv_iload_n hx hb dX12_counts_77 rfl (lv_at hl 2 rfl) ?_
        refine lv_aload_n hx hb dX12_counts_78 rfl (lv_at hl 0 rfl) ?_
        refine va_get (ci := 10) (v := (.int (f_7 0 34))) (C := RX12) (T := TX12) (N := 44) hx hb hq i_X12 hown hK hP 0 (gb_at b rfl) rfl 34 (by decide) (hq _ w_1158) (fun _ h9 => h9) rfl dX12_counts_79 ?_
        refine lv_icmp_ge (tgt := 89) hx hb dX12_counts_82 (by decide) (fun c_14 => ?_) (fun c_14 => ?_)
        · rw [if_pos c_14] at h
          refine lv_aload_n hx hb dX12_counts_89 rfl (lv_at hl 0 rfl) ?_
          refine va_get (ci := 10) (v := (.int (f_7 0 34))) (C := RX12) (T := TX12) (N := 44) hx hb hq i_X12 hown hK hP 0 (gb_at b rfl) rfl 34 (by decide) (hq _ w_1158) (fun _ h9 => h9) rfl dX12_counts_90 ?_
          exact L93 _ _ _ _ _ _ _ _ h hP hS (lv_sub hl [0, 1, 2] rfl)
        · rw [if_neg c_14] at h
          refine lv_iload_n hx hb dX12_counts_85 rfl (lv_at hl 2 rfl) ?_
          refine lv_goto (tgt := 93) hx hb dX12_counts_86 (by decide) ?_
          exact L93 _ _ _ _ _ _ _ _ h hP hS (lv_sub hl [0, 1, 2] rfl)
      · rw [if_neg c_12] at h
        refine lv_aload_n hx hb dX12_counts_22 rfl (lv_at hl 0 rfl) ?_
        refine va_get (ci := 10) (v := (.ref (b + 16))) (C := RX12) (T := TX12) (N := 44) hx hb hq i_X12 hown hK hP 0 (gb_at b rfl) rfl 31 (by decide) (hq _ w_1155) (fun _ h9 => h9) rfl dX12_counts_23 ?_
        refine lv_iload_n hx hb dX12_counts_26 rfl (lv_at hl 3 rfl) ?_
        obtain ⟨z_21, h⟩ := gb_ck_s h
        refine va_iald hx hb hK hP 16 0 (gb_at b rfl) rfl z_21 dX12_counts_27 ?_
        refine lv_topi (fun x_22 ex_22 => ?_)
        replace h := gb_lt_s ex_22 h
        refine lv_if_ge (tgt := 34) hx hb dX12_counts_28 (by decide) (fun c_23 => ?_) (fun c_23 => ?_)
        · rw [if_pos c_23] at h
          refine lv_iload_n hx hb dX12_counts_34 rfl (lv_at hl 1 rfl) ?_
          refine lv_iconst (v := 1) hx hb dX12_counts_35 (by decide) ?_
          refine lv_iload_n hx hb dX12_counts_36 rfl (lv_at hl 3 rfl) ?_
          refine lv_ishl hx hb dX12_counts_37 ?_
          refine lv_ior hx hb dX12_counts_38 ?_
          refine lv_topi (fun x_24 ex_24 => ?_)
          replace h := gb_lt_s ex_24 h
          refine lv_istore_n (lv' := [(1, .int x_24), (0, .ref (b + 0)), (2, .int v2), (3, .int v3)]) hx hb dX12_counts_39 rfl hl (by decide) rfl (fun ls hl => ?_)
          obtain ⟨x_25, ex_25⟩ : ∃ q, q = (v2 + 1) := ⟨_, rfl⟩
          replace h := gb_lt_s ex_25 h
          refine lv_iinc (v := x_25) (lv' := [(2, .int x_25), (1, .int x_24), (0, .ref (b + 0)), (3, .int v3)]) hx hb dX12_counts_40 hl (k := 2) rfl (by rw [ex_25]; rfl) (by decide) rfl (fun ls hl => ?_)
          refine lv_aload_n hx hb dX12_counts_43 rfl (lv_at hl 2 rfl) ?_
          refine va_get (ci := 10) (v := (.ref (b + 18))) (C := RX12) (T := TX12) (N := 44) hx hb hq i_X12 hown hK hP 0 (gb_at b rfl) rfl 37 (by decide) (hq _ w_1161) (fun _ h9 => h9) rfl dX12_counts_44 ?_
          refine lv_iload_n hx hb dX12_counts_47 rfl (lv_at hl 3 rfl) ?_
          refine lv_dup2_11 hx hb dX12_counts_48 rfl rfl ?_
          obtain ⟨z_26, h⟩ := gb_ck_s h
          refine va_iald hx hb hK hP 18 0 (gb_at b rfl) rfl z_26 dX12_counts_49 ?_
          refine lv_topi (fun x_27 ex_27 => ?_)
          replace h := gb_lt_s ex_27 h
          refine lv_iconst (v := 1) hx hb dX12_counts_50 (by decide) ?_
          refine lv_aload_n hx hb dX12_counts_51 rfl (lv_at hl 2 rfl) ?_
          refine va_get (ci := 10) (v := (.ref (b + 16))) (C := RX12) (T := TX12) (N := 44) hx hb hq i_X12 hown hK hP 0 (gb_at b rfl) rfl 31 (by decide) (hq _ w_1155) (fun _ h9 => h9) rfl dX12_counts_52 ?_
          refine lv_iload_n hx hb dX12_counts_55 rfl (lv_at hl 3 rfl) ?_
          obtain ⟨z_28, h⟩ := gb_ck_s h
          refine va_iald hx hb hK hP 16 0 (gb_at b rfl) rfl z_28 dX12_counts_56 ?_
          refine lv_topi (fun x_29 ex_29 => ?_)
          replace h := gb_lt_s ex_29 h
          refine lv_ishl hx hb dX12_counts_57 ?_
          refine lv_ior hx hb dX12_counts_58 ?_
          obtain ⟨z_30, h⟩ := gb_ck_s h
          refine gb_iast (x := (x_27 ||| (1 <<< (x_29 &&& 31)))) hx hb hK hP (fun k h => ⟨Nat.le_add_right b k, Nat.add_lt_add_left h b⟩) hS rfl 18 0 rfl rfl z_30 dX12_counts_59 (fun H locs hP hz_ hS => ?_)
          obtain ⟨f_31, ef_31⟩ : ∃ q, q = (gb_u f_7 18 (upd (f_7 18) (Int32.toNatClampNeg v3) (x_27 ||| (1 <<< (x_29 &&& 31))))) := ⟨_, rfl⟩
          replace hP : va_P D vwCl (gb_wl b (gb_MW cT b f_31 wl_8)) H := by rw [ef_31]; exact hP
          replace h := gb_lt_s ef_31 h
          obtain ⟨x_32, ex_32⟩ : ∃ q, q = (v3 + 1) := ⟨_, rfl⟩
          replace h := gb_lt_s ex_32 h
          refine lv_iinc (v := x_32) (lv' := [(3, .int x_32), (2, .int x_25), (1, .int x_24), (0, .ref (b + 0))]) hx hb dX12_counts_60 hl (k := 3) rfl (by rw [ex_32]; rfl) (by decide) rfl (fun ls hl => ?_)
          refine lv_goto (tgt := 14) hx hb dX12_counts_63 (by decide) ?_
          exact ih _ _ _ _ _ _ _ _ h hP hS (lv_sub hl [3, 2, 1, 0] rfl)
        · rw [if_neg c_23] at h
          refine lv_goto (tgt := 60) hx hb dX12_counts_31 (by decide) ?_
          obtain ⟨x_33, ex_33⟩ : ∃ q, q = (v3 + 1) := ⟨_, rfl⟩
          replace h := gb_lt_s ex_33 h
          refine lv_iinc (v := x_33) (lv' := [(3, .int x_33), (0, .ref (b + 0)), (1, .int v1), (2, .int v2)]) hx hb dX12_counts_60 hl (k := 3) rfl (by rw [ex_33]; rfl) (by decide) rfl (fun ls hl => ?_)
          refine lv_goto (tgt := 14) hx hb dX12_counts_63 (by decide) ?_
          exact ih _ _ _ _ _ _ _ _ h hP hS (lv_sub hl [1, 2, 3, 0] rfl)
  unfold ms_counts at h
  refine lv_aload_n hx hb dX12_counts_0 rfl (lv_at hl 0 rfl) ?_
  obtain ⟨f_1, wl_2, r_3, z_4, h⟩ := gb_bd_s h
  refine gb_calli (va_runV (C := RX12) (As := []) (rest := []) ⟨hx, hb, hml, hown, hq⟩ (mc_isWhole l D cT tt b1 b hb1 n f w f_1 wl_2 r_3 z_4) (cwV 0 hq (gb_gV w_1625 w_1627 s_6_15 w_14 w_1628) rfl rfl rfl (by decide +kernel) ⟨Nat.le_of_ble_eq_true rfl, Nat.le_of_ble_eq_true rfl⟩) (gb_preV (r := (RX12, TX12, 44)) (ci := 10) (q0 := 0) hSt hP rfl (gb_at b rfl) hS (fun q h => Nat.le_trans hb1 h.1) hP) rfl rfl hl.1 rfl (lv_room (Nat.le_of_ble_eq_true rfl)) dX12_counts_1 ⟨Nat.le_of_ble_eq_true rfl, Nat.le_of_ble_eq_true rfl⟩) hS (fun _ h => h) (fun _ h => h) (fun q_5 H locs hY hk hS => ?_)
  obtain ⟨hq_5, hP⟩ := hY
  replace hq_5 := hq_5.symm
  subst hq_5
  refine lv_if_ne (tgt := 8) hx hb dX12_counts_4 (by decide) (fun c_6 => ?_) (fun c_6 => ?_)
  · rw [if_neg c_6] at h
    refine lv_iconst (v := 0) hx hb dX12_counts_8 (by decide) ?_
    refine lv_istore_n (lv' := [(1, .int 0), (0, .ref (b + 0))]) hx hb dX12_counts_9 rfl hl (by decide) rfl (fun ls hl => ?_)
    refine lv_iconst (v := 0) hx hb dX12_counts_10 (by decide) ?_
    refine lv_istore_n (lv' := [(2, .int 0), (1, .int 0), (0, .ref (b + 0))]) hx hb dX12_counts_11 rfl hl (by decide) rfl (fun ls hl => ?_)
    refine lv_iconst (v := 0) hx hb dX12_counts_12 (by decide) ?_
    refine lv_istore_n (lv' := [(3, .int 0), (2, .int 0), (1, .int 0), (0, .ref (b + 0))]) hx hb dX12_counts_13 rfl hl (by decide) rfl (fun ls hl => ?_)
    exact L14 n _ _ _ _ _ _ _ _ h hP hS (lv_sub hl [3, 2, 1, 0] rfl)
  · rw [if_pos c_6] at h
    obtain ⟨e1, e2, -⟩ := gb_eq3 h
    exact W.vret hx hb hr (fun t ht hW => gb_rv ht (by rw [← e1, ← e2]; exact hP) hS) hS.2.2 dX12_counts_7
theorem dX12_opens_0 : decode cX12_opens 0 = .ok (.iconst 0, 1) := dc_3 (show ((cX12_opens.data.toList.drop 0).take 1).map UInt8.toNat = [3] by decide +kernel)
theorem dX12_opens_1 : decode cX12_opens 1 = .ok (.istore_n 1, 1) := dc_60 (show ((cX12_opens.data.toList.drop 1).take 1).map UInt8.toNat = [60] by decide +kernel)
theorem dX12_opens_2 : decode cX12_opens 2 = .ok (.iload_n 1, 1) := dc_27 (show ((cX12_opens.data.toList.drop 2).take 1).map UInt8.toNat = [27] by decide +kernel)
theorem dX12_opens_3 : decode cX12_opens 3 = .ok (.iconst 5, 1) := dc_8 (show ((cX12_opens.data.toList.drop 3).take 1).map UInt8.toNat = [8] by decide +kernel)
theorem dX12_opens_4 : decode cX12_opens 4 = .ok (.if_icmp .ge 23, 3) := dc_162 (show ((cX12_opens.data.toList.drop 4).take 3).map UInt8.toNat = [162, 0, 23] by decide +kernel) rfl
theorem dX12_opens_27 : decode cX12_opens 27 = .ok (.iconst 0, 1) := dc_3 (show ((cX12_opens.data.toList.drop 27).take 1).map UInt8.toNat = [3] by decide +kernel)
theorem dX12_opens_28 : decode cX12_opens 28 = .ok (.istore_n 1, 1) := dc_60 (show ((cX12_opens.data.toList.drop 28).take 1).map UInt8.toNat = [60] by decide +kernel)
theorem dX12_opens_29 : decode cX12_opens 29 = .ok (.iload_n 1, 1) := dc_27 (show ((cX12_opens.data.toList.drop 29).take 1).map UInt8.toNat = [27] by decide +kernel)
theorem dX12_opens_30 : decode cX12_opens 30 = .ok (.aload_n 0, 1) := dc_42 (show ((cX12_opens.data.toList.drop 30).take 1).map UInt8.toNat = [42] by decide +kernel)
theorem dX12_opens_31 : decode cX12_opens 31 = .ok (.getfield 7, 3) := dc_180 (show ((cX12_opens.data.toList.drop 31).take 3).map UInt8.toNat = [180, 0, 7] by decide +kernel) rfl
theorem dX12_opens_34 : decode cX12_opens 34 = .ok (.aload_n 0, 1) := dc_42 (show ((cX12_opens.data.toList.drop 34).take 1).map UInt8.toNat = [42] by decide +kernel)
theorem dX12_opens_35 : decode cX12_opens 35 = .ok (.getfield 341, 3) := dc_180 (show ((cX12_opens.data.toList.drop 35).take 3).map UInt8.toNat = [180, 1, 85] by decide +kernel) rfl
theorem dX12_opens_38 : decode cX12_opens 38 = .ok (.iaload, 1) := dc_46 (show ((cX12_opens.data.toList.drop 38).take 1).map UInt8.toNat = [46] by decide +kernel)
theorem dX12_opens_39 : decode cX12_opens 39 = .ok (.if_icmp .ge 26, 3) := dc_162 (show ((cX12_opens.data.toList.drop 39).take 3).map UInt8.toNat = [162, 0, 26] by decide +kernel) rfl
theorem dX12_opens_65 : decode cX12_opens 65 = .ok (.aload_n 0, 1) := dc_42 (show ((cX12_opens.data.toList.drop 65).take 1).map UInt8.toNat = [42] by decide +kernel)
theorem dX12_opens_66 : decode cX12_opens 66 = .ok (.lconst 0, 1) := dc_9 (show ((cX12_opens.data.toList.drop 66).take 1).map UInt8.toNat = [9] by decide +kernel)
theorem dX12_opens_67 : decode cX12_opens 67 = .ok (.putfield 351, 3) := dc_181 (show ((cX12_opens.data.toList.drop 67).take 3).map UInt8.toNat = [181, 1, 95] by decide +kernel) rfl
theorem dX12_opens_70 : decode cX12_opens 70 = .ok (.aload_n 0, 1) := dc_42 (show ((cX12_opens.data.toList.drop 70).take 1).map UInt8.toNat = [42] by decide +kernel)
theorem dX12_opens_71 : decode cX12_opens 71 = .ok (.bipush 99, 2) := dc_16 (show ((cX12_opens.data.toList.drop 71).take 2).map UInt8.toNat = [16, 99] by decide +kernel) rfl
theorem dX12_opens_73 : decode cX12_opens 73 = .ok (.putfield 355, 3) := dc_181 (show ((cX12_opens.data.toList.drop 73).take 3).map UInt8.toNat = [181, 1, 99] by decide +kernel) rfl
theorem dX12_opens_76 : decode cX12_opens 76 = .ok (.aload_n 0, 1) := dc_42 (show ((cX12_opens.data.toList.drop 76).take 1).map UInt8.toNat = [42] by decide +kernel)
theorem dX12_opens_77 : decode cX12_opens 77 = .ok (.iconst 0, 1) := dc_3 (show ((cX12_opens.data.toList.drop 77).take 1).map UInt8.toNat = [3] by decide +kernel)
theorem dX12_opens_78 : decode cX12_opens 78 = .ok (.putfield 358, 3) := dc_181 (show ((cX12_opens.data.toList.drop 78).take 3).map UInt8.toNat = [181, 1, 102] by decide +kernel) rfl
theorem dX12_opens_81 : decode cX12_opens 81 = .ok (.aload_n 0, 1) := dc_42 (show ((cX12_opens.data.toList.drop 81).take 1).map UInt8.toNat = [42] by decide +kernel)
theorem dX12_opens_82 : decode cX12_opens 82 = .ok (.iconst 1, 1) := dc_4 (show ((cX12_opens.data.toList.drop 82).take 1).map UInt8.toNat = [4] by decide +kernel)
theorem dX12_opens_83 : decode cX12_opens 83 = .ok (.aload_n 0, 1) := dc_42 (show ((cX12_opens.data.toList.drop 83).take 1).map UInt8.toNat = [42] by decide +kernel)
theorem dX12_opens_84 : decode cX12_opens 84 = .ok (.invokevirtual 202, 3) := dc_182 (show ((cX12_opens.data.toList.drop 84).take 3).map UInt8.toNat = [182, 0, 202] by decide +kernel) rfl
theorem dX12_opens_87 : decode cX12_opens 87 = .ok (.ishl, 1) := dc_120 (show ((cX12_opens.data.toList.drop 87).take 1).map UInt8.toNat = [120] by decide +kernel)
theorem dX12_opens_88 : decode cX12_opens 88 = .ok (.iconst 1, 1) := dc_4 (show ((cX12_opens.data.toList.drop 88).take 1).map UInt8.toNat = [4] by decide +kernel)
theorem dX12_opens_89 : decode cX12_opens 89 = .ok (.isub, 1) := dc_100 (show ((cX12_opens.data.toList.drop 89).take 1).map UInt8.toNat = [100] by decide +kernel)
theorem dX12_opens_90 : decode cX12_opens 90 = .ok (.putfield 361, 3) := dc_181 (show ((cX12_opens.data.toList.drop 90).take 3).map UInt8.toNat = [181, 1, 105] by decide +kernel) rfl
theorem dX12_opens_93 : decode cX12_opens 93 = .ok (.iconst 0, 1) := dc_3 (show ((cX12_opens.data.toList.drop 93).take 1).map UInt8.toNat = [3] by decide +kernel)
theorem dX12_opens_94 : decode cX12_opens 94 = .ok (.istore_n 1, 1) := dc_60 (show ((cX12_opens.data.toList.drop 94).take 1).map UInt8.toNat = [60] by decide +kernel)
theorem dX12_opens_95 : decode cX12_opens 95 = .ok (.iload_n 1, 1) := dc_27 (show ((cX12_opens.data.toList.drop 95).take 1).map UInt8.toNat = [27] by decide +kernel)
theorem dX12_opens_96 : decode cX12_opens 96 = .ok (.bipush 8, 2) := dc_16 (show ((cX12_opens.data.toList.drop 96).take 2).map UInt8.toNat = [16, 8] by decide +kernel) rfl
theorem dX12_opens_98 : decode cX12_opens 98 = .ok (.if_icmp .ge 16, 3) := dc_162 (show ((cX12_opens.data.toList.drop 98).take 3).map UInt8.toNat = [162, 0, 16] by decide +kernel) rfl
theorem dX12_opens_114 : decode cX12_opens 114 = .ok (.return_, 1) := dc_177 (show ((cX12_opens.data.toList.drop 114).take 1).map UInt8.toNat = [177] by decide +kernel)
theorem dX12_opens_101 : decode cX12_opens 101 = .ok (.aload_n 0, 1) := dc_42 (show ((cX12_opens.data.toList.drop 101).take 1).map UInt8.toNat = [42] by decide +kernel)
theorem dX12_opens_102 : decode cX12_opens 102 = .ok (.getfield 62, 3) := dc_180 (show ((cX12_opens.data.toList.drop 102).take 3).map UInt8.toNat = [180, 0, 62] by decide +kernel) rfl
theorem dX12_opens_105 : decode cX12_opens 105 = .ok (.iload_n 1, 1) := dc_27 (show ((cX12_opens.data.toList.drop 105).take 1).map UInt8.toNat = [27] by decide +kernel)
theorem dX12_opens_106 : decode cX12_opens 106 = .ok (.iconst 0, 1) := dc_3 (show ((cX12_opens.data.toList.drop 106).take 1).map UInt8.toNat = [3] by decide +kernel)
theorem dX12_opens_107 : decode cX12_opens 107 = .ok (.iastore, 1) := dc_79 (show ((cX12_opens.data.toList.drop 107).take 1).map UInt8.toNat = [79] by decide +kernel)
theorem dX12_opens_108 : decode cX12_opens 108 = .ok (.iinc 1 1, 3) := dc_132 (show ((cX12_opens.data.toList.drop 108).take 3).map UInt8.toNat = [132, 1, 1] by decide +kernel) rfl
theorem dX12_opens_111 : decode cX12_opens 111 = .ok (.goto (-16), 3) := dc_167 (show ((cX12_opens.data.toList.drop 111).take 3).map UInt8.toNat = [167, 255, 240] by decide +kernel) rfl
theorem dX12_opens_42 : decode cX12_opens 42 = .ok (.aload_n 0, 1) := dc_42 (show ((cX12_opens.data.toList.drop 42).take 1).map UInt8.toNat = [42] by decide +kernel)
theorem dX12_opens_43 : decode cX12_opens 43 = .ok (.getfield 53, 3) := dc_180 (show ((cX12_opens.data.toList.drop 43).take 3).map UInt8.toNat = [180, 0, 53] by decide +kernel) rfl
theorem dX12_opens_46 : decode cX12_opens 46 = .ok (.aload_n 0, 1) := dc_42 (show ((cX12_opens.data.toList.drop 46).take 1).map UInt8.toNat = [42] by decide +kernel)
theorem dX12_opens_47 : decode cX12_opens 47 = .ok (.iload_n 1, 1) := dc_27 (show ((cX12_opens.data.toList.drop 47).take 1).map UInt8.toNat = [27] by decide +kernel)
theorem dX12_opens_48 : decode cX12_opens 48 = .ok (.iconst 0, 1) := dc_3 (show ((cX12_opens.data.toList.drop 48).take 1).map UInt8.toNat = [3] by decide +kernel)
theorem dX12_opens_49 : decode cX12_opens 49 = .ok (.invokevirtual 344, 3) := dc_182 (show ((cX12_opens.data.toList.drop 49).take 3).map UInt8.toNat = [182, 1, 88] by decide +kernel) rfl
theorem dX12_opens_52 : decode cX12_opens 52 = .ok (.aload_n 0, 1) := dc_42 (show ((cX12_opens.data.toList.drop 52).take 1).map UInt8.toNat = [42] by decide +kernel)
theorem dX12_opens_53 : decode cX12_opens 53 = .ok (.iload_n 1, 1) := dc_27 (show ((cX12_opens.data.toList.drop 53).take 1).map UInt8.toNat = [27] by decide +kernel)
theorem dX12_opens_54 : decode cX12_opens 54 = .ok (.iconst 1, 1) := dc_4 (show ((cX12_opens.data.toList.drop 54).take 1).map UInt8.toNat = [4] by decide +kernel)
theorem dX12_opens_55 : decode cX12_opens 55 = .ok (.invokevirtual 344, 3) := dc_182 (show ((cX12_opens.data.toList.drop 55).take 3).map UInt8.toNat = [182, 1, 88] by decide +kernel) rfl
theorem dX12_opens_58 : decode cX12_opens 58 = .ok (.iastore, 1) := dc_79 (show ((cX12_opens.data.toList.drop 58).take 1).map UInt8.toNat = [79] by decide +kernel)
theorem dX12_opens_59 : decode cX12_opens 59 = .ok (.iinc 1 1, 3) := dc_132 (show ((cX12_opens.data.toList.drop 59).take 3).map UInt8.toNat = [132, 1, 1] by decide +kernel) rfl
theorem dX12_opens_62 : decode cX12_opens 62 = .ok (.goto (-33), 3) := dc_167 (show ((cX12_opens.data.toList.drop 62).take 3).map UInt8.toNat = [167, 255, 223] by decide +kernel) rfl
theorem dX12_opens_7 : decode cX12_opens 7 = .ok (.aload_n 0, 1) := dc_42 (show ((cX12_opens.data.toList.drop 7).take 1).map UInt8.toNat = [42] by decide +kernel)
theorem dX12_opens_8 : decode cX12_opens 8 = .ok (.getfield 53, 3) := dc_180 (show ((cX12_opens.data.toList.drop 8).take 3).map UInt8.toNat = [180, 0, 53] by decide +kernel) rfl
theorem dX12_opens_11 : decode cX12_opens 11 = .ok (.iload_n 1, 1) := dc_27 (show ((cX12_opens.data.toList.drop 11).take 1).map UInt8.toNat = [27] by decide +kernel)
theorem dX12_opens_12 : decode cX12_opens 12 = .ok (.iconst (-1), 1) := dc_2 (show ((cX12_opens.data.toList.drop 12).take 1).map UInt8.toNat = [2] by decide +kernel)
theorem dX12_opens_13 : decode cX12_opens 13 = .ok (.iastore, 1) := dc_79 (show ((cX12_opens.data.toList.drop 13).take 1).map UInt8.toNat = [79] by decide +kernel)
theorem dX12_opens_14 : decode cX12_opens 14 = .ok (.aload_n 0, 1) := dc_42 (show ((cX12_opens.data.toList.drop 14).take 1).map UInt8.toNat = [42] by decide +kernel)
theorem dX12_opens_15 : decode cX12_opens 15 = .ok (.getfield 50, 3) := dc_180 (show ((cX12_opens.data.toList.drop 15).take 3).map UInt8.toNat = [180, 0, 50] by decide +kernel) rfl
theorem dX12_opens_18 : decode cX12_opens 18 = .ok (.iload_n 1, 1) := dc_27 (show ((cX12_opens.data.toList.drop 18).take 1).map UInt8.toNat = [27] by decide +kernel)
theorem dX12_opens_19 : decode cX12_opens 19 = .ok (.iconst 0, 1) := dc_3 (show ((cX12_opens.data.toList.drop 19).take 1).map UInt8.toNat = [3] by decide +kernel)
theorem dX12_opens_20 : decode cX12_opens 20 = .ok (.iastore, 1) := dc_79 (show ((cX12_opens.data.toList.drop 20).take 1).map UInt8.toNat = [79] by decide +kernel)
theorem dX12_opens_21 : decode cX12_opens 21 = .ok (.iinc 1 1, 3) := dc_132 (show ((cX12_opens.data.toList.drop 21).take 3).map UInt8.toNat = [132, 1, 1] by decide +kernel) rfl
theorem dX12_opens_24 : decode cX12_opens 24 = .ok (.goto (-22), 3) := dc_167 (show ((cX12_opens.data.toList.drop 24).take 3).map UInt8.toNat = [167, 255, 234] by decide +kernel) rfl
def ms_opens_95 (n : Nat) : Nat → gb_F → Int64 → Int32 → gb_MR Unit
  | 0, _, _, _ => none
  | mm + 1, f, w, v1 => (if (8 : Int32) ≤ v1 then some (f, w, ()) else gb_ck v1 8 (gb_lt (gb_u f 18 (upd (f 18) (Int32.toNatClampNeg v1) 0)) (fun f_16 => gb_lt (v1 + 1) (fun x_17 => ms_opens_95 n mm f_16 w x_17))))
def ms_opens_29 (n : Nat) : Nat → gb_F → Int64 → Int32 → gb_MR Unit
  | 0, _, _, _ => none
  | mm + 1, f, w, v1 => gb_ck (f 0 29) 3968 (gb_lt (f 1 (Int32.toNatClampNeg (f 0 29))) (fun x_3 => (if x_3 ≤ v1 then gb_lt 0 (fun wl_5 => gb_lt (gb_u f 0 (upd (f 0) 34 99)) (fun f_6 => gb_lt (gb_u f_6 0 (upd (f_6 0) 35 0)) (fun f_7 => gb_bd (ms_geese n f_7 wl_5) (fun f_8 wl_9 r_10 => gb_lt (gb_u f_8 0 (upd (f_8 0) 36 ((1 <<< (r_10 &&& 31)) - 1))) (fun f_13 => ms_opens_95 n n f_13 wl_9 0))))) else gb_bd (ms_seenOf n f w v1 0) (fun f_18 wl_19 r_20 => gb_bd (ms_seenOf n f_18 wl_19 v1 1) (fun f_23 wl_24 r_25 => gb_ck r_20 5 (gb_lt (gb_u f_23 15 (upd (f_23 15) (Int32.toNatClampNeg r_20) r_25)) (fun f_29 => gb_lt (v1 + 1) (fun x_30 => ms_opens_29 n mm f_29 wl_24 x_30))))))))
def ms_opens_2 (n : Nat) : Nat → gb_F → Int64 → Int32 → gb_MR Unit
  | 0, _, _, _ => none
  | mm + 1, f, w, v1 => (if (5 : Int32) ≤ v1 then ms_opens_29 n n f w 0 else gb_ck v1 5 (gb_lt (gb_u f 15 (upd (f 15) (Int32.toNatClampNeg v1) (-1))) (fun f_32 => gb_ck v1 5 (gb_lt (gb_u f_32 14 (upd (f_32 14) (Int32.toNatClampNeg v1) 0)) (fun f_34 => gb_lt (v1 + 1) (fun x_35 => ms_opens_2 n mm f_34 w x_35))))))
def ms_opens (n : Nat) (f : gb_F) (w : Int64) : gb_MR Unit := ms_opens_2 n n f w 0
set_option maxHeartbeats 8000000 in
set_option maxRecDepth 100000 in
theorem mc_opens (l : Launch) (D : va_G) (cT : Nat → ClassId) (tt : Nat → Nat) (b1 b : Nat) (hb1 : b1 ≤ b) (n : Nat) (f : gb_F) (w : Int64) (fE : gb_F) (wE : Int64) (rE : Unit) (h : ms_opens n f w = some (fE, wE, rE)) : Met l yX12_opens (.code yX12_opens cX12_opens 2 none :: gb_wA) ({ frames := 2, cells := 0, slots := 0, locals := 41 }) (gb_Pc D cT tt b1 [.ref (b + 0)] (fun h => va_P D vwCl (gb_wl b (gb_MW cT b f w)) h)) (gb_Qv (fun h => va_P D vwCl (gb_wl b (gb_MW cT b fE wE)) h) (gb_fr b 22)) 0 0 (gb_fr b 22) := by
  refine Met.ofW (cc := cX12_opens) (maxL := 2) (ret := none) (by decide) rfl ?_
  intro p e s m args below meth c s₁ B hml hv
  obtain ⟨rfl, hSt, hP⟩ := hv
  have hx := B.exec
  have hb := B.bytes
  have hr := B.returns
  have hts := atoms_spec (ws := .code yX12_opens cX12_opens 2 none :: gb_wA) B.pre
  have hq : ∀ w ∈ gb_wA, w.before _ s = true := fun w h => hts w (List.mem_cons_of_mem _ h)
  have hown : s.vm.findClass RX12 = some m.cls := findClass_of_methodNamed B.named
  have hlocks := B.notSynchronized
  clear B hts
  have hK := hSt.1
  have hS : va_S (gb_fr b 22) s.heap s.heap [] := va_S.rf
  have hl := lv_entry ([.ref (b + 0)]) (n := 2) (Nat.le_of_ble_eq_true rfl)
  rw [lg_entry_eq]
  generalize (lg_sl ([.ref (b + 0)]) ++ List.replicate (2 - (lg_sl ([.ref (b + 0)])).length) Slot.unset).toArray = ls at hl ⊢
  replace hl : lv_has ls 2 [(0, .ref (b + 0))] := hl
  have L95 : ∀ (mm : Nat) (f : gb_F) (w : Int64) (v1 : Int32) (H : Heap) (locs : List Loc) (ls : Array Slot), ms_opens_95 n mm f w v1 = some (fE, wE, rE) → va_P D vwCl (gb_wl b (gb_MW cT b f w)) H → va_S (gb_fr b 22) s.heap H locs → lv_has ls 2 [(0, .ref (b + 0)), (1, .int v1)] → W p l e (headSpec (.code yX12_opens cX12_opens 2 none :: gb_wA) ({ frames := 2, cells := 0, slots := 0, locals := 41 })).room s m ([.ref (b + 0)]).toArray below meth c H locs 0 0 (MQ below (gb_Qv (fun h => va_P D vwCl (gb_wl b (gb_MW cT b fE wE)) h) (gb_fr b 22)) ([.ref (b + 0)]).toArray s 0 0 (gb_fr b 22)) (F0 m 95 ls []) := by
    clear h hP hS hl ls f w
    intro mm
    induction mm with
    | zero =>
      intro f w v1 H locs ls h
      cases h
    | succ mm ih =>
      intro f w v1 H locs ls h hP hS hl
      rw [ms_opens_95] at h
      refine lv_iload_n hx hb dX12_opens_95 rfl (lv_at hl 1 rfl) ?_
      refine lv_bipush (v := 8) hx hb dX12_opens_96 (by decide) ?_
      refine lv_icmp_ge (tgt := 114) hx hb dX12_opens_98 (by decide) (fun c_14 => ?_) (fun c_14 => ?_)
      · rw [if_pos c_14] at h
        obtain ⟨e1, e2, -⟩ := gb_eq3 h
        exact W.vret hx hb hr (fun t ht hW => gb_rv ht (by rw [← e1, ← e2]; exact hP) hS) hS.2.2 dX12_opens_114
      · rw [if_neg c_14] at h
        refine lv_aload_n hx hb dX12_opens_101 rfl (lv_at hl 0 rfl) ?_
        refine va_get (ci := 10) (v := (.ref (b + 18))) (C := RX12) (T := TX12) (N := 44) hx hb hq i_X12 hown hK hP 0 (gb_at b rfl) rfl 37 (by decide) (hq _ w_1161) (fun _ h9 => h9) rfl dX12_opens_102 ?_
        refine lv_iload_n hx hb dX12_opens_105 rfl (lv_at hl 1 rfl) ?_
        refine lv_iconst (v := 0) hx hb dX12_opens_106 (by decide) ?_
        obtain ⟨z_15, h⟩ := gb_ck_s h
        refine gb_iast (x := 0) hx hb hK hP (fun k h => ⟨Nat.le_add_right b k, Nat.add_lt_add_left h b⟩) hS rfl 18 0 rfl rfl z_15 dX12_opens_107 (fun H locs hP hz_ hS => ?_)
        obtain ⟨f_16, ef_16⟩ : ∃ q, q = (gb_u f 18 (upd (f 18) (Int32.toNatClampNeg v1) 0)) := ⟨_, rfl⟩
        replace hP : va_P D vwCl (gb_wl b (gb_MW cT b f_16 w)) H := by rw [ef_16]; exact hP
        replace h := gb_lt_s ef_16 h
        obtain ⟨x_17, ex_17⟩ : ∃ q, q = (v1 + 1) := ⟨_, rfl⟩
        replace h := gb_lt_s ex_17 h
        refine lv_iinc (v := x_17) (lv' := [(1, .int x_17), (0, .ref (b + 0))]) hx hb dX12_opens_108 hl (k := 1) rfl (by rw [ex_17]; rfl) (by decide) rfl (fun ls hl => ?_)
        refine lv_goto (tgt := 95) hx hb dX12_opens_111 (by decide) ?_
        exact ih _ _ _ _ _ _ h hP hS (lv_sub hl [1, 0] rfl)
  have L29 : ∀ (mm : Nat) (f : gb_F) (w : Int64) (v1 : Int32) (H : Heap) (locs : List Loc) (ls : Array Slot), ms_opens_29 n mm f w v1 = some (fE, wE, rE) → va_P D vwCl (gb_wl b (gb_MW cT b f w)) H → va_S (gb_fr b 22) s.heap H locs → lv_has ls 2 [(0, .ref (b + 0)), (1, .int v1)] → W p l e (headSpec (.code yX12_opens cX12_opens 2 none :: gb_wA) ({ frames := 2, cells := 0, slots := 0, locals := 41 })).room s m ([.ref (b + 0)]).toArray below meth c H locs 0 0 (MQ below (gb_Qv (fun h => va_P D vwCl (gb_wl b (gb_MW cT b fE wE)) h) (gb_fr b 22)) ([.ref (b + 0)]).toArray s 0 0 (gb_fr b 22)) (F0 m 29 ls []) := by
    clear h hP hS hl ls f w
    intro mm
    induction mm with
    | zero =>
      intro f w v1 H locs ls h
      cases h
    | succ mm ih =>
      intro f w v1 H locs ls h hP hS hl
      rw [ms_opens_29] at h
      refine lv_iload_n hx hb dX12_opens_29 rfl (lv_at hl 1 rfl) ?_
      refine lv_aload_n hx hb dX12_opens_30 rfl (lv_at hl 0 rfl) ?_
      refine va_get (ci := 10) (v := (.ref (b + 1))) (C := RX12) (T := TX12) (N := 44) hx hb hq i_X12 hown hK hP 0 (gb_at b rfl) rfl 0 (by decide) (hq _ w_1124) (fun _ h9 => h9) rfl dX12_opens_31 ?_
      refine lv_aload_n hx hb dX12_opens_34 rfl (lv_at hl 0 rfl) ?_
      refine va_get (ci := 10) (v := (.int (f 0 29))) (C := RX12) (T := TX12) (N := 44) hx hb hq i_X12 hown hK hP 0 (gb_at b rfl) rfl 29 (by decide) (hq _ w_1153) (fun _ h9 => h9) rfl dX12_opens_35 ?_
      obtain ⟨z_2, h⟩ := gb_ck_s h
      refine va_iald hx hb hK hP 1 0 (gb_at b rfl) rfl z_2 dX12_opens_38 ?_
      refine lv_topi (fun x_3 ex_3 => ?_)
      replace h := gb_lt_s ex_3 h
      refine lv_icmp_ge (tgt := 65) hx hb dX12_opens_39 (by decide) (fun c_4 => ?_) (fun c_4 => ?_)
      · rw [if_pos c_4] at h
        refine lv_aload_n hx hb dX12_opens_65 rfl (lv_at hl 0 rfl) ?_
        refine lv_lconst (v := 0) hx hb dX12_opens_66 (by decide) ?_
        refine gb_put (ci := 10) (v := (.long 0)) (ty := .long) (C := RX12) (T := TX12) (N := 44) hx hb hq i_X12 tyX12 tyX12_ok nmX12 hown hK hP (fun k h => ⟨Nat.le_add_right b k, Nat.add_lt_add_left h b⟩) hS rfl 0 rfl rfl 33 (by decide) (hq _ w_1157) (fun _ h9 => h9) rfl (by decide +kernel) rfl rfl (Nat.le_of_ble_eq_true rfl) dX12_opens_67 (fun H locs hP hz_ hS => ?_)
        obtain ⟨wl_5, ewl_5⟩ : ∃ q : Int64, q = 0 := ⟨_, rfl⟩
        replace hP : va_P D vwCl (gb_wl b (gb_MW cT b f wl_5)) H := by rw [ewl_5]; exact hP
        replace h := gb_lt_s ewl_5 h
        refine lv_aload_n hx hb dX12_opens_70 rfl (lv_at hl 0 rfl) ?_
        refine lv_bipush (v := 99) hx hb dX12_opens_71 (by decide) ?_
        refine gb_put (ci := 10) (v := (.int 99)) (ty := .int) (C := RX12) (T := TX12) (N := 44) hx hb hq i_X12 tyX12 tyX12_ok nmX12 hown hK hP (fun k h => ⟨Nat.le_add_right b k, Nat.add_lt_add_left h b⟩) hS rfl 0 rfl rfl 34 (by decide) (hq _ w_1158) (fun _ h9 => h9) rfl (by decide +kernel) rfl rfl (Nat.le_of_ble_eq_true rfl) dX12_opens_73 (fun H locs hP hz_ hS => ?_)
        obtain ⟨f_6, ef_6⟩ : ∃ q, q = (gb_u f 0 (upd (f 0) 34 99)) := ⟨_, rfl⟩
        replace hP : va_P D vwCl (gb_wl b (gb_MW cT b f_6 wl_5)) H := by rw [ef_6]; exact hP
        replace h := gb_lt_s ef_6 h
        refine lv_aload_n hx hb dX12_opens_76 rfl (lv_at hl 0 rfl) ?_
        refine lv_iconst (v := 0) hx hb dX12_opens_77 (by decide) ?_
        refine gb_put (ci := 10) (v := (.int 0)) (ty := .int) (C := RX12) (T := TX12) (N := 44) hx hb hq i_X12 tyX12 tyX12_ok nmX12 hown hK hP (fun k h => ⟨Nat.le_add_right b k, Nat.add_lt_add_left h b⟩) hS rfl 0 rfl rfl 35 (by decide) (hq _ w_1159) (fun _ h9 => h9) rfl (by decide +kernel) rfl rfl (Nat.le_of_ble_eq_true rfl) dX12_opens_78 (fun H locs hP hz_ hS => ?_)
        obtain ⟨f_7, ef_7⟩ : ∃ q, q = (gb_u f_6 0 (upd (f_6 0) 35 0)) := ⟨_, rfl⟩
        replace hP : va_P D vwCl (gb_wl b (gb_MW cT b f_7 wl_5)) H := by rw [ef_7]; exact hP
        replace h := gb_lt_s ef_7 h
        refine lv_aload_n hx hb dX12_opens_81 rfl (lv_at hl 0 rfl) ?_
        refine lv_iconst (v := 1) hx hb dX12_opens_82 (by decide) ?_
        refine lv_aload_n hx hb dX12_opens_83 rfl (lv_at hl 0 rfl) ?_
        obtain ⟨f_8, wl_9, r_10, z_11, h⟩ := gb_bd_s h
        refine gb_calli (va_runV (C := RX12) (As := []) (rest := [.int 1, .ref (b + 0)]) ⟨hx, hb, hml, hown, hq⟩ (mc_geese l D cT tt b1 b hb1 n f_7 wl_5 f_8 wl_9 r_10 z_11) (cwV 0 hq (gb_gV w_1396 w_1398 s_4_7 w_14 w_1399) rfl rfl rfl (by decide +kernel) ⟨Nat.le_of_ble_eq_true rfl, Nat.le_of_ble_eq_true rfl⟩) (gb_preV (r := (RX12, TX12, 44)) (ci := 10) (q0 := 0) hSt hP rfl (gb_at b rfl) hS (fun q h => Nat.le_trans hb1 h.1) hP) rfl rfl hl.1 rfl (lv_room (Nat.le_of_ble_eq_true rfl)) dX12_opens_84 ⟨Nat.le_of_ble_eq_true rfl, Nat.le_of_ble_eq_true rfl⟩) hS (fun _ h => h) (fun _ h => h) (fun q_12 H locs hY hk hS => ?_)
        obtain ⟨hq_12, hP⟩ := hY
        replace hq_12 := hq_12.symm
        subst hq_12
        refine lv_ishl hx hb dX12_opens_87 ?_
        refine lv_iconst (v := 1) hx hb dX12_opens_88 (by decide) ?_
        refine lv_isub hx hb dX12_opens_89 ?_
        refine gb_put (ci := 10) (v := (.int ((1 <<< (r_10 &&& 31)) - 1))) (ty := .int) (C := RX12) (T := TX12) (N := 44) hx hb hq i_X12 tyX12 tyX12_ok nmX12 hown hK hP (fun k h => ⟨Nat.le_add_right b k, Nat.add_lt_add_left h b⟩) hS rfl 0 rfl rfl 36 (by decide) (hq _ w_1160) (fun _ h9 => h9) rfl (by decide +kernel) rfl rfl (Nat.le_of_ble_eq_true rfl) dX12_opens_90 (fun H locs hP hz_ hS => ?_)
        obtain ⟨f_13, ef_13⟩ : ∃ q, q = (gb_u f_8 0 (upd (f_8 0) 36 ((1 <<< (r_10 &&& 31)) - 1))) := ⟨_, rfl⟩
        replace hP : va_P D vwCl (gb_wl b (gb_MW cT b f_13 wl_9)) H := by rw [ef_13]; exact hP
        replace h := gb_lt_s ef_13 h
        refine lv_iconst (v := 0) hx hb dX12_opens_93 (by decide) ?_
        refine lv_istore_n (lv' := [(1, .int 0), (0, .ref (b + 0))]) hx hb dX12_opens_94 rfl hl (by decide) rfl (fun ls hl => ?_)
        exact L95 n _ _ _ _ _ _ h hP hS (lv_sub hl [1, 0] rfl)
      · rw [if_neg c_4] at h
        refine lv_aload_n hx hb dX12_opens_42 rfl (lv_at hl 0 rfl) ?_
        refine va_get (ci := 10) (v := (.ref (b + 15))) (C := RX12) (T := TX12) (N := 44) hx hb hq i_X12 hown hK hP 0 (gb_at b rfl) rfl 30 (by decide) (hq _ w_1154) (fun _ h9 => h9) rfl dX12_opens_43 ?_
        refine lv_aload_n hx hb dX12_opens_46 rfl (lv_at hl 0 rfl) ?_
        refine lv_iload_n hx hb dX12_opens_47 rfl (lv_at hl 1 rfl) ?_
        refine lv_iconst (v := 0) hx hb dX12_opens_48 (by decide) ?_
        obtain ⟨f_18, wl_19, r_20, z_21, h⟩ := gb_bd_s h
        refine gb_calli (va_runV (C := RX12) (As := [.int v1, .int 0]) (rest := [.ref (b + 15)]) ⟨hx, hb, hml, hown, hq⟩ (mc_seenOf l D cT tt b1 b hb1 n f w v1 0 f_18 wl_19 r_20 z_21) (cwV 2 hq (gb_gV w_1600 w_1602 s_6_10 w_14 w_1603) rfl rfl rfl (by decide +kernel) ⟨Nat.le_of_ble_eq_true rfl, Nat.le_of_ble_eq_true rfl⟩) (gb_preV (r := (RX12, TX12, 44)) (ci := 10) (q0 := 0) hSt hP rfl (gb_at b rfl) hS (fun q h => Nat.le_trans hb1 h.1) hP) rfl rfl hl.1 rfl (lv_room (Nat.le_of_ble_eq_true rfl)) dX12_opens_49 ⟨Nat.le_of_ble_eq_true rfl, Nat.le_of_ble_eq_true rfl⟩) hS (fun _ h => h) (fun _ h => h) (fun q_22 H locs hY hk hS => ?_)
        obtain ⟨hq_22, hP⟩ := hY
        replace hq_22 := hq_22.symm
        subst hq_22
        refine lv_aload_n hx hb dX12_opens_52 rfl (lv_at hl 0 rfl) ?_
        refine lv_iload_n hx hb dX12_opens_53 rfl (lv_at hl 1 rfl) ?_
        refine lv_iconst (v := 1) hx hb dX12_opens_54 (by decide) ?_
        obtain ⟨f_23, wl_24, r_25, z_26, h⟩ := gb_bd_s h
        refine gb_calli (va_runV (C := RX12) (As := [.int v1, .int 1]) (rest := [.int r_20, .ref (b + 15)]) ⟨hx, hb, hml, hown, hq⟩ (mc_seenOf l D cT tt b1 b hb1 n f_18 wl_19 v1 1 f_23 wl_24 r_25 z_26) (cwV 2 hq (gb_gV w_1600 w_1602 s_6_10 w_14 w_1603) rfl rfl rfl (by decide +kernel) ⟨Nat.le_of_ble_eq_true rfl, Nat.le_of_ble_eq_true rfl⟩) (gb_preV (r := (RX12, TX12, 44)) (ci := 10) (q0 := 0) hSt hP rfl (gb_at b rfl) hS (fun q h => Nat.le_trans hb1 h.1) hP) rfl rfl hl.1 rfl (lv_room (Nat.le_of_ble_eq_true rfl)) dX12_opens_55 ⟨Nat.le_of_ble_eq_true rfl, Nat.le_of_ble_eq_true rfl⟩) hS (fun _ h => h) (fun _ h => h) (fun q_27 H locs hY hk hS => ?_)
        obtain ⟨hq_27, hP⟩ := hY
        replace hq_27 := hq_27.symm
        subst hq_27
        obtain ⟨z_28, h⟩ := gb_ck_s h
        refine gb_iast (x := r_25) hx hb hK hP (fun k h => ⟨Nat.le_add_right b k, Nat.add_lt_add_left h b⟩) hS rfl 15 0 rfl rfl z_28 dX12_opens_58 (fun H locs hP hz_ hS => ?_)
        obtain ⟨f_29, ef_29⟩ : ∃ q, q = (gb_u f_23 15 (upd (f_23 15) (Int32.toNatClampNeg r_20) r_25)) := ⟨_, rfl⟩
        replace hP : va_P D vwCl (gb_wl b (gb_MW cT b f_29 wl_24)) H := by rw [ef_29]; exact hP
        replace h := gb_lt_s ef_29 h
        obtain ⟨x_30, ex_30⟩ : ∃ q, q = (v1 + 1) := ⟨_, rfl⟩
        replace h := gb_lt_s ex_30 h
        refine lv_iinc (v := x_30) (lv' := [(1, .int x_30), (0, .ref (b + 0))]) hx hb dX12_opens_59 hl (k := 1) rfl (by rw [ex_30]; rfl) (by decide) rfl (fun ls hl => ?_)
        refine lv_goto (tgt := 29) hx hb dX12_opens_62 (by decide) ?_
        exact ih _ _ _ _ _ _ h hP hS (lv_sub hl [1, 0] rfl)
  have L2 : ∀ (mm : Nat) (f : gb_F) (w : Int64) (v1 : Int32) (H : Heap) (locs : List Loc) (ls : Array Slot), ms_opens_2 n mm f w v1 = some (fE, wE, rE) → va_P D vwCl (gb_wl b (gb_MW cT b f w)) H → va_S (gb_fr b 22) s.heap H locs → lv_has ls 2 [(0, .ref (b + 0)), (1, .int v1)] → W p l e (headSpec (.code yX12_opens cX12_opens 2 none :: gb_wA) ({ frames := 2, cells := 0, slots := 0, locals := 41 })).room s m ([.ref (b + 0)]).toArray below meth c H locs 0 0 (MQ below (gb_Qv (fun h => va_P D vwCl (gb_wl b (gb_MW cT b fE wE)) h) (gb_fr b 22)) ([.ref (b + 0)]).toArray s 0 0 (gb_fr b 22)) (F0 m 2 ls []) := by
    clear h hP hS hl ls f w
    intro mm
    induction mm with
    | zero =>
      intro f w v1 H locs ls h
      cases h
    | succ mm ih =>
      intro f w v1 H locs ls h hP hS hl
      rw [ms_opens_2] at h
      refine lv_iload_n hx hb dX12_opens_2 rfl (lv_at hl 1 rfl) ?_
      refine lv_iconst (v := 5) hx hb dX12_opens_3 (by decide) ?_
      refine lv_icmp_ge (tgt := 27) hx hb dX12_opens_4 (by decide) (fun c_1 => ?_) (fun c_1 => ?_)
      · rw [if_pos c_1] at h
        refine lv_iconst (v := 0) hx hb dX12_opens_27 (by decide) ?_
        refine lv_istore_n (lv' := [(1, .int 0), (0, .ref (b + 0))]) hx hb dX12_opens_28 rfl hl (by decide) rfl (fun ls hl => ?_)
        exact L29 n _ _ _ _ _ _ h hP hS (lv_sub hl [1, 0] rfl)
      · rw [if_neg c_1] at h
        refine lv_aload_n hx hb dX12_opens_7 rfl (lv_at hl 0 rfl) ?_
        refine va_get (ci := 10) (v := (.ref (b + 15))) (C := RX12) (T := TX12) (N := 44) hx hb hq i_X12 hown hK hP 0 (gb_at b rfl) rfl 30 (by decide) (hq _ w_1154) (fun _ h9 => h9) rfl dX12_opens_8 ?_
        refine lv_iload_n hx hb dX12_opens_11 rfl (lv_at hl 1 rfl) ?_
        refine lv_iconst (v := (-1)) hx hb dX12_opens_12 (by decide) ?_
        obtain ⟨z_31, h⟩ := gb_ck_s h
        refine gb_iast (x := (-1)) hx hb hK hP (fun k h => ⟨Nat.le_add_right b k, Nat.add_lt_add_left h b⟩) hS rfl 15 0 rfl rfl z_31 dX12_opens_13 (fun H locs hP hz_ hS => ?_)
        obtain ⟨f_32, ef_32⟩ : ∃ q, q = (gb_u f 15 (upd (f 15) (Int32.toNatClampNeg v1) (-1))) := ⟨_, rfl⟩
        replace hP : va_P D vwCl (gb_wl b (gb_MW cT b f_32 w)) H := by rw [ef_32]; exact hP
        replace h := gb_lt_s ef_32 h
        refine lv_aload_n hx hb dX12_opens_14 rfl (lv_at hl 0 rfl) ?_
        refine va_get (ci := 10) (v := (.ref (b + 14))) (C := RX12) (T := TX12) (N := 44) hx hb hq i_X12 hown hK hP 0 (gb_at b rfl) rfl 27 (by decide) (hq _ w_1151) (fun _ h9 => h9) rfl dX12_opens_15 ?_
        refine lv_iload_n hx hb dX12_opens_18 rfl (lv_at hl 1 rfl) ?_
        refine lv_iconst (v := 0) hx hb dX12_opens_19 (by decide) ?_
        obtain ⟨z_33, h⟩ := gb_ck_s h
        refine gb_iast (x := 0) hx hb hK hP (fun k h => ⟨Nat.le_add_right b k, Nat.add_lt_add_left h b⟩) hS rfl 14 0 rfl rfl z_33 dX12_opens_20 (fun H locs hP hz_ hS => ?_)
        obtain ⟨f_34, ef_34⟩ : ∃ q, q = (gb_u f_32 14 (upd (f_32 14) (Int32.toNatClampNeg v1) 0)) := ⟨_, rfl⟩
        replace hP : va_P D vwCl (gb_wl b (gb_MW cT b f_34 w)) H := by rw [ef_34]; exact hP
        replace h := gb_lt_s ef_34 h
        obtain ⟨x_35, ex_35⟩ : ∃ q, q = (v1 + 1) := ⟨_, rfl⟩
        replace h := gb_lt_s ex_35 h
        refine lv_iinc (v := x_35) (lv' := [(1, .int x_35), (0, .ref (b + 0))]) hx hb dX12_opens_21 hl (k := 1) rfl (by rw [ex_35]; rfl) (by decide) rfl (fun ls hl => ?_)
        refine lv_goto (tgt := 2) hx hb dX12_opens_24 (by decide) ?_
        exact ih _ _ _ _ _ _ h hP hS (lv_sub hl [1, 0] rfl)
  unfold ms_opens at h
  refine lv_iconst (v := 0) hx hb dX12_opens_0 (by decide) ?_
  refine lv_istore_n (lv' := [(1, .int 0), (0, .ref (b + 0))]) hx hb dX12_opens_1 rfl hl (by decide) rfl (fun ls hl => ?_)
  exact L2 n _ _ _ _ _ _ h hP hS (lv_sub hl [1, 0] rfl)
theorem dX12_isNext_0 : decode cX12_isNext 0 = .ok (.aload_n 0, 1) := dc_42 (show ((cX12_isNext.data.toList.drop 0).take 1).map UInt8.toNat = [42] by decide +kernel)
theorem dX12_isNext_1 : decode cX12_isNext 1 = .ok (.getfield 59, 3) := dc_180 (show ((cX12_isNext.data.toList.drop 1).take 3).map UInt8.toNat = [180, 0, 59] by decide +kernel) rfl
theorem dX12_isNext_4 : decode cX12_isNext 4 = .ok (.iload_n 1, 1) := dc_27 (show ((cX12_isNext.data.toList.drop 4).take 1).map UInt8.toNat = [27] by decide +kernel)
theorem dX12_isNext_5 : decode cX12_isNext 5 = .ok (.baload, 1) := dc_51 (show ((cX12_isNext.data.toList.drop 5).take 1).map UInt8.toNat = [51] by decide +kernel)
theorem dX12_isNext_6 : decode cX12_isNext 6 = .ok (.ifCond .eq 32, 3) := dc_153 (show ((cX12_isNext.data.toList.drop 6).take 3).map UInt8.toNat = [153, 0, 32] by decide +kernel) rfl
theorem dX12_isNext_38 : decode cX12_isNext 38 = .ok (.aload_n 0, 1) := dc_42 (show ((cX12_isNext.data.toList.drop 38).take 1).map UInt8.toNat = [42] by decide +kernel)
theorem dX12_isNext_39 : decode cX12_isNext 39 = .ok (.getfield 59, 3) := dc_180 (show ((cX12_isNext.data.toList.drop 39).take 3).map UInt8.toNat = [180, 0, 59] by decide +kernel) rfl
theorem dX12_isNext_42 : decode cX12_isNext 42 = .ok (.iload_n 1, 1) := dc_27 (show ((cX12_isNext.data.toList.drop 42).take 1).map UInt8.toNat = [27] by decide +kernel)
theorem dX12_isNext_43 : decode cX12_isNext 43 = .ok (.iconst 0, 1) := dc_3 (show ((cX12_isNext.data.toList.drop 43).take 1).map UInt8.toNat = [3] by decide +kernel)
theorem dX12_isNext_44 : decode cX12_isNext 44 = .ok (.bastore, 1) := dc_84 (show ((cX12_isNext.data.toList.drop 44).take 1).map UInt8.toNat = [84] by decide +kernel)
theorem dX12_isNext_45 : decode cX12_isNext 45 = .ok (.aload_n 0, 1) := dc_42 (show ((cX12_isNext.data.toList.drop 45).take 1).map UInt8.toNat = [42] by decide +kernel)
theorem dX12_isNext_46 : decode cX12_isNext 46 = .ok (.getfield 56, 3) := dc_180 (show ((cX12_isNext.data.toList.drop 46).take 3).map UInt8.toNat = [180, 0, 56] by decide +kernel) rfl
theorem dX12_isNext_49 : decode cX12_isNext 49 = .ok (.iload_n 1, 1) := dc_27 (show ((cX12_isNext.data.toList.drop 49).take 1).map UInt8.toNat = [27] by decide +kernel)
theorem dX12_isNext_50 : decode cX12_isNext 50 = .ok (.dup2, 1) := dc_92 (show ((cX12_isNext.data.toList.drop 50).take 1).map UInt8.toNat = [92] by decide +kernel)
theorem dX12_isNext_51 : decode cX12_isNext 51 = .ok (.iaload, 1) := dc_46 (show ((cX12_isNext.data.toList.drop 51).take 1).map UInt8.toNat = [46] by decide +kernel)
theorem dX12_isNext_52 : decode cX12_isNext 52 = .ok (.iconst 1, 1) := dc_4 (show ((cX12_isNext.data.toList.drop 52).take 1).map UInt8.toNat = [4] by decide +kernel)
theorem dX12_isNext_53 : decode cX12_isNext 53 = .ok (.iadd, 1) := dc_96 (show ((cX12_isNext.data.toList.drop 53).take 1).map UInt8.toNat = [96] by decide +kernel)
theorem dX12_isNext_54 : decode cX12_isNext 54 = .ok (.iastore, 1) := dc_79 (show ((cX12_isNext.data.toList.drop 54).take 1).map UInt8.toNat = [79] by decide +kernel)
theorem dX12_isNext_55 : decode cX12_isNext 55 = .ok (.aload_n 0, 1) := dc_42 (show ((cX12_isNext.data.toList.drop 55).take 1).map UInt8.toNat = [42] by decide +kernel)
theorem dX12_isNext_56 : decode cX12_isNext 56 = .ok (.getfield 56, 3) := dc_180 (show ((cX12_isNext.data.toList.drop 56).take 3).map UInt8.toNat = [180, 0, 56] by decide +kernel) rfl
theorem dX12_isNext_59 : decode cX12_isNext 59 = .ok (.iload_n 1, 1) := dc_27 (show ((cX12_isNext.data.toList.drop 59).take 1).map UInt8.toNat = [27] by decide +kernel)
theorem dX12_isNext_60 : decode cX12_isNext 60 = .ok (.iaload, 1) := dc_46 (show ((cX12_isNext.data.toList.drop 60).take 1).map UInt8.toNat = [46] by decide +kernel)
theorem dX12_isNext_61 : decode cX12_isNext 61 = .ok (.istore_n 2, 1) := dc_61 (show ((cX12_isNext.data.toList.drop 61).take 1).map UInt8.toNat = [61] by decide +kernel)
theorem dX12_isNext_62 : decode cX12_isNext 62 = .ok (.iload_n 2, 1) := dc_28 (show ((cX12_isNext.data.toList.drop 62).take 1).map UInt8.toNat = [28] by decide +kernel)
theorem dX12_isNext_63 : decode cX12_isNext 63 = .ok (.ifCond .lt 11, 3) := dc_155 (show ((cX12_isNext.data.toList.drop 63).take 3).map UInt8.toNat = [155, 0, 11] by decide +kernel) rfl
theorem dX12_isNext_74 : decode cX12_isNext 74 = .ok (.iload_n 2, 1) := dc_28 (show ((cX12_isNext.data.toList.drop 74).take 1).map UInt8.toNat = [28] by decide +kernel)
theorem dX12_isNext_75 : decode cX12_isNext 75 = .ok (.ifCond .ge 7, 3) := dc_156 (show ((cX12_isNext.data.toList.drop 75).take 3).map UInt8.toNat = [156, 0, 7] by decide +kernel) rfl
theorem dX12_isNext_82 : decode cX12_isNext 82 = .ok (.iconst 0, 1) := dc_3 (show ((cX12_isNext.data.toList.drop 82).take 1).map UInt8.toNat = [3] by decide +kernel)
theorem dX12_isNext_83 : decode cX12_isNext 83 = .ok (.ireturn, 1) := dc_172 (show ((cX12_isNext.data.toList.drop 83).take 1).map UInt8.toNat = [172] by decide +kernel)
theorem dX12_isNext_78 : decode cX12_isNext 78 = .ok (.iconst 1, 1) := dc_4 (show ((cX12_isNext.data.toList.drop 78).take 1).map UInt8.toNat = [4] by decide +kernel)
theorem dX12_isNext_79 : decode cX12_isNext 79 = .ok (.goto 4, 3) := dc_167 (show ((cX12_isNext.data.toList.drop 79).take 3).map UInt8.toNat = [167, 0, 4] by decide +kernel) rfl
theorem dX12_isNext_66 : decode cX12_isNext 66 = .ok (.iload_n 2, 1) := dc_28 (show ((cX12_isNext.data.toList.drop 66).take 1).map UInt8.toNat = [28] by decide +kernel)
theorem dX12_isNext_67 : decode cX12_isNext 67 = .ok (.aload_n 0, 1) := dc_42 (show ((cX12_isNext.data.toList.drop 67).take 1).map UInt8.toNat = [42] by decide +kernel)
theorem dX12_isNext_68 : decode cX12_isNext 68 = .ok (.invokevirtual 199, 3) := dc_182 (show ((cX12_isNext.data.toList.drop 68).take 3).map UInt8.toNat = [182, 0, 199] by decide +kernel) rfl
theorem dX12_isNext_71 : decode cX12_isNext 71 = .ok (.if_icmp .lt 13, 3) := dc_161 (show ((cX12_isNext.data.toList.drop 71).take 3).map UInt8.toNat = [161, 0, 13] by decide +kernel) rfl
theorem dX12_isNext_84 : decode cX12_isNext 84 = .ok (.aload_n 0, 1) := dc_42 (show ((cX12_isNext.data.toList.drop 84).take 1).map UInt8.toNat = [42] by decide +kernel)
theorem dX12_isNext_85 : decode cX12_isNext 85 = .ok (.getfield 53, 3) := dc_180 (show ((cX12_isNext.data.toList.drop 85).take 3).map UInt8.toNat = [180, 0, 53] by decide +kernel) rfl
theorem dX12_isNext_88 : decode cX12_isNext 88 = .ok (.iload_n 2, 1) := dc_28 (show ((cX12_isNext.data.toList.drop 88).take 1).map UInt8.toNat = [28] by decide +kernel)
theorem dX12_isNext_89 : decode cX12_isNext 89 = .ok (.iaload, 1) := dc_46 (show ((cX12_isNext.data.toList.drop 89).take 1).map UInt8.toNat = [46] by decide +kernel)
theorem dX12_isNext_90 : decode cX12_isNext 90 = .ok (.iconst (-1), 1) := dc_2 (show ((cX12_isNext.data.toList.drop 90).take 1).map UInt8.toNat = [2] by decide +kernel)
theorem dX12_isNext_91 : decode cX12_isNext 91 = .ok (.if_icmp .eq 29, 3) := dc_159 (show ((cX12_isNext.data.toList.drop 91).take 3).map UInt8.toNat = [159, 0, 29] by decide +kernel) rfl
theorem dX12_isNext_120 : decode cX12_isNext 120 = .ok (.iconst 0, 1) := dc_3 (show ((cX12_isNext.data.toList.drop 120).take 1).map UInt8.toNat = [3] by decide +kernel)
theorem dX12_isNext_121 : decode cX12_isNext 121 = .ok (.ireturn, 1) := dc_172 (show ((cX12_isNext.data.toList.drop 121).take 1).map UInt8.toNat = [172] by decide +kernel)
theorem dX12_isNext_94 : decode cX12_isNext 94 = .ok (.aload_n 0, 1) := dc_42 (show ((cX12_isNext.data.toList.drop 94).take 1).map UInt8.toNat = [42] by decide +kernel)
theorem dX12_isNext_95 : decode cX12_isNext 95 = .ok (.getfield 50, 3) := dc_180 (show ((cX12_isNext.data.toList.drop 95).take 3).map UInt8.toNat = [180, 0, 50] by decide +kernel) rfl
theorem dX12_isNext_98 : decode cX12_isNext 98 = .ok (.iload_n 2, 1) := dc_28 (show ((cX12_isNext.data.toList.drop 98).take 1).map UInt8.toNat = [28] by decide +kernel)
theorem dX12_isNext_99 : decode cX12_isNext 99 = .ok (.iaload, 1) := dc_46 (show ((cX12_isNext.data.toList.drop 99).take 1).map UInt8.toNat = [46] by decide +kernel)
theorem dX12_isNext_100 : decode cX12_isNext 100 = .ok (.aload_n 0, 1) := dc_42 (show ((cX12_isNext.data.toList.drop 100).take 1).map UInt8.toNat = [42] by decide +kernel)
theorem dX12_isNext_101 : decode cX12_isNext 101 = .ok (.getfield 47, 3) := dc_180 (show ((cX12_isNext.data.toList.drop 101).take 3).map UInt8.toNat = [180, 0, 47] by decide +kernel) rfl
theorem dX12_isNext_104 : decode cX12_isNext 104 = .ok (.iconst 5, 1) := dc_8 (show ((cX12_isNext.data.toList.drop 104).take 1).map UInt8.toNat = [8] by decide +kernel)
theorem dX12_isNext_105 : decode cX12_isNext 105 = .ok (.iload_n 1, 1) := dc_27 (show ((cX12_isNext.data.toList.drop 105).take 1).map UInt8.toNat = [27] by decide +kernel)
theorem dX12_isNext_106 : decode cX12_isNext 106 = .ok (.imul, 1) := dc_104 (show ((cX12_isNext.data.toList.drop 106).take 1).map UInt8.toNat = [104] by decide +kernel)
theorem dX12_isNext_107 : decode cX12_isNext 107 = .ok (.iload_n 2, 1) := dc_28 (show ((cX12_isNext.data.toList.drop 107).take 1).map UInt8.toNat = [28] by decide +kernel)
theorem dX12_isNext_108 : decode cX12_isNext 108 = .ok (.iadd, 1) := dc_96 (show ((cX12_isNext.data.toList.drop 108).take 1).map UInt8.toNat = [96] by decide +kernel)
theorem dX12_isNext_109 : decode cX12_isNext 109 = .ok (.iaload, 1) := dc_46 (show ((cX12_isNext.data.toList.drop 109).take 1).map UInt8.toNat = [46] by decide +kernel)
theorem dX12_isNext_110 : decode cX12_isNext 110 = .ok (.iadd, 1) := dc_96 (show ((cX12_isNext.data.toList.drop 110).take 1).map UInt8.toNat = [96] by decide +kernel)
theorem dX12_isNext_111 : decode cX12_isNext 111 = .ok (.aload_n 0, 1) := dc_42 (show ((cX12_isNext.data.toList.drop 111).take 1).map UInt8.toNat = [42] by decide +kernel)
theorem dX12_isNext_112 : decode cX12_isNext 112 = .ok (.getfield 53, 3) := dc_180 (show ((cX12_isNext.data.toList.drop 112).take 3).map UInt8.toNat = [180, 0, 53] by decide +kernel) rfl
theorem dX12_isNext_115 : decode cX12_isNext 115 = .ok (.iload_n 2, 1) := dc_28 (show ((cX12_isNext.data.toList.drop 115).take 1).map UInt8.toNat = [28] by decide +kernel)
theorem dX12_isNext_116 : decode cX12_isNext 116 = .ok (.iaload, 1) := dc_46 (show ((cX12_isNext.data.toList.drop 116).take 1).map UInt8.toNat = [46] by decide +kernel)
theorem dX12_isNext_117 : decode cX12_isNext 117 = .ok (.if_icmp .le 5, 3) := dc_164 (show ((cX12_isNext.data.toList.drop 117).take 3).map UInt8.toNat = [164, 0, 5] by decide +kernel) rfl
theorem dX12_isNext_122 : decode cX12_isNext 122 = .ok (.aload_n 0, 1) := dc_42 (show ((cX12_isNext.data.toList.drop 122).take 1).map UInt8.toNat = [42] by decide +kernel)
theorem dX12_isNext_123 : decode cX12_isNext 123 = .ok (.getfield 50, 3) := dc_180 (show ((cX12_isNext.data.toList.drop 123).take 3).map UInt8.toNat = [180, 0, 50] by decide +kernel) rfl
theorem dX12_isNext_126 : decode cX12_isNext 126 = .ok (.iload_n 2, 1) := dc_28 (show ((cX12_isNext.data.toList.drop 126).take 1).map UInt8.toNat = [28] by decide +kernel)
theorem dX12_isNext_127 : decode cX12_isNext 127 = .ok (.dup2, 1) := dc_92 (show ((cX12_isNext.data.toList.drop 127).take 1).map UInt8.toNat = [92] by decide +kernel)
theorem dX12_isNext_128 : decode cX12_isNext 128 = .ok (.iaload, 1) := dc_46 (show ((cX12_isNext.data.toList.drop 128).take 1).map UInt8.toNat = [46] by decide +kernel)
theorem dX12_isNext_129 : decode cX12_isNext 129 = .ok (.aload_n 0, 1) := dc_42 (show ((cX12_isNext.data.toList.drop 129).take 1).map UInt8.toNat = [42] by decide +kernel)
theorem dX12_isNext_130 : decode cX12_isNext 130 = .ok (.getfield 47, 3) := dc_180 (show ((cX12_isNext.data.toList.drop 130).take 3).map UInt8.toNat = [180, 0, 47] by decide +kernel) rfl
theorem dX12_isNext_133 : decode cX12_isNext 133 = .ok (.iconst 5, 1) := dc_8 (show ((cX12_isNext.data.toList.drop 133).take 1).map UInt8.toNat = [8] by decide +kernel)
theorem dX12_isNext_134 : decode cX12_isNext 134 = .ok (.iload_n 1, 1) := dc_27 (show ((cX12_isNext.data.toList.drop 134).take 1).map UInt8.toNat = [27] by decide +kernel)
theorem dX12_isNext_135 : decode cX12_isNext 135 = .ok (.imul, 1) := dc_104 (show ((cX12_isNext.data.toList.drop 135).take 1).map UInt8.toNat = [104] by decide +kernel)
theorem dX12_isNext_136 : decode cX12_isNext 136 = .ok (.iload_n 2, 1) := dc_28 (show ((cX12_isNext.data.toList.drop 136).take 1).map UInt8.toNat = [28] by decide +kernel)
theorem dX12_isNext_137 : decode cX12_isNext 137 = .ok (.iadd, 1) := dc_96 (show ((cX12_isNext.data.toList.drop 137).take 1).map UInt8.toNat = [96] by decide +kernel)
theorem dX12_isNext_138 : decode cX12_isNext 138 = .ok (.iaload, 1) := dc_46 (show ((cX12_isNext.data.toList.drop 138).take 1).map UInt8.toNat = [46] by decide +kernel)
theorem dX12_isNext_139 : decode cX12_isNext 139 = .ok (.iadd, 1) := dc_96 (show ((cX12_isNext.data.toList.drop 139).take 1).map UInt8.toNat = [96] by decide +kernel)
theorem dX12_isNext_140 : decode cX12_isNext 140 = .ok (.iastore, 1) := dc_79 (show ((cX12_isNext.data.toList.drop 140).take 1).map UInt8.toNat = [79] by decide +kernel)
theorem dX12_isNext_141 : decode cX12_isNext 141 = .ok (.aload_n 0, 1) := dc_42 (show ((cX12_isNext.data.toList.drop 141).take 1).map UInt8.toNat = [42] by decide +kernel)
theorem dX12_isNext_142 : decode cX12_isNext 142 = .ok (.getfield 59, 3) := dc_180 (show ((cX12_isNext.data.toList.drop 142).take 3).map UInt8.toNat = [180, 0, 59] by decide +kernel) rfl
theorem dX12_isNext_145 : decode cX12_isNext 145 = .ok (.iload_n 1, 1) := dc_27 (show ((cX12_isNext.data.toList.drop 145).take 1).map UInt8.toNat = [27] by decide +kernel)
theorem dX12_isNext_146 : decode cX12_isNext 146 = .ok (.iconst 1, 1) := dc_4 (show ((cX12_isNext.data.toList.drop 146).take 1).map UInt8.toNat = [4] by decide +kernel)
theorem dX12_isNext_147 : decode cX12_isNext 147 = .ok (.bastore, 1) := dc_84 (show ((cX12_isNext.data.toList.drop 147).take 1).map UInt8.toNat = [84] by decide +kernel)
theorem dX12_isNext_148 : decode cX12_isNext 148 = .ok (.iconst 1, 1) := dc_4 (show ((cX12_isNext.data.toList.drop 148).take 1).map UInt8.toNat = [4] by decide +kernel)
theorem dX12_isNext_149 : decode cX12_isNext 149 = .ok (.ireturn, 1) := dc_172 (show ((cX12_isNext.data.toList.drop 149).take 1).map UInt8.toNat = [172] by decide +kernel)
theorem dX12_isNext_9 : decode cX12_isNext 9 = .ok (.aload_n 0, 1) := dc_42 (show ((cX12_isNext.data.toList.drop 9).take 1).map UInt8.toNat = [42] by decide +kernel)
theorem dX12_isNext_10 : decode cX12_isNext 10 = .ok (.getfield 50, 3) := dc_180 (show ((cX12_isNext.data.toList.drop 10).take 3).map UInt8.toNat = [180, 0, 50] by decide +kernel) rfl
theorem dX12_isNext_13 : decode cX12_isNext 13 = .ok (.aload_n 0, 1) := dc_42 (show ((cX12_isNext.data.toList.drop 13).take 1).map UInt8.toNat = [42] by decide +kernel)
theorem dX12_isNext_14 : decode cX12_isNext 14 = .ok (.getfield 56, 3) := dc_180 (show ((cX12_isNext.data.toList.drop 14).take 3).map UInt8.toNat = [180, 0, 56] by decide +kernel) rfl
theorem dX12_isNext_17 : decode cX12_isNext 17 = .ok (.iload_n 1, 1) := dc_27 (show ((cX12_isNext.data.toList.drop 17).take 1).map UInt8.toNat = [27] by decide +kernel)
theorem dX12_isNext_18 : decode cX12_isNext 18 = .ok (.iaload, 1) := dc_46 (show ((cX12_isNext.data.toList.drop 18).take 1).map UInt8.toNat = [46] by decide +kernel)
theorem dX12_isNext_19 : decode cX12_isNext 19 = .ok (.dup2, 1) := dc_92 (show ((cX12_isNext.data.toList.drop 19).take 1).map UInt8.toNat = [92] by decide +kernel)
theorem dX12_isNext_20 : decode cX12_isNext 20 = .ok (.iaload, 1) := dc_46 (show ((cX12_isNext.data.toList.drop 20).take 1).map UInt8.toNat = [46] by decide +kernel)
theorem dX12_isNext_21 : decode cX12_isNext 21 = .ok (.aload_n 0, 1) := dc_42 (show ((cX12_isNext.data.toList.drop 21).take 1).map UInt8.toNat = [42] by decide +kernel)
theorem dX12_isNext_22 : decode cX12_isNext 22 = .ok (.getfield 47, 3) := dc_180 (show ((cX12_isNext.data.toList.drop 22).take 3).map UInt8.toNat = [180, 0, 47] by decide +kernel) rfl
theorem dX12_isNext_25 : decode cX12_isNext 25 = .ok (.iconst 5, 1) := dc_8 (show ((cX12_isNext.data.toList.drop 25).take 1).map UInt8.toNat = [8] by decide +kernel)
theorem dX12_isNext_26 : decode cX12_isNext 26 = .ok (.iload_n 1, 1) := dc_27 (show ((cX12_isNext.data.toList.drop 26).take 1).map UInt8.toNat = [27] by decide +kernel)
theorem dX12_isNext_27 : decode cX12_isNext 27 = .ok (.imul, 1) := dc_104 (show ((cX12_isNext.data.toList.drop 27).take 1).map UInt8.toNat = [104] by decide +kernel)
theorem dX12_isNext_28 : decode cX12_isNext 28 = .ok (.aload_n 0, 1) := dc_42 (show ((cX12_isNext.data.toList.drop 28).take 1).map UInt8.toNat = [42] by decide +kernel)
theorem dX12_isNext_29 : decode cX12_isNext 29 = .ok (.getfield 56, 3) := dc_180 (show ((cX12_isNext.data.toList.drop 29).take 3).map UInt8.toNat = [180, 0, 56] by decide +kernel) rfl
theorem dX12_isNext_32 : decode cX12_isNext 32 = .ok (.iload_n 1, 1) := dc_27 (show ((cX12_isNext.data.toList.drop 32).take 1).map UInt8.toNat = [27] by decide +kernel)
theorem dX12_isNext_33 : decode cX12_isNext 33 = .ok (.iaload, 1) := dc_46 (show ((cX12_isNext.data.toList.drop 33).take 1).map UInt8.toNat = [46] by decide +kernel)
theorem dX12_isNext_34 : decode cX12_isNext 34 = .ok (.iadd, 1) := dc_96 (show ((cX12_isNext.data.toList.drop 34).take 1).map UInt8.toNat = [96] by decide +kernel)
theorem dX12_isNext_35 : decode cX12_isNext 35 = .ok (.iaload, 1) := dc_46 (show ((cX12_isNext.data.toList.drop 35).take 1).map UInt8.toNat = [46] by decide +kernel)
theorem dX12_isNext_36 : decode cX12_isNext 36 = .ok (.isub, 1) := dc_100 (show ((cX12_isNext.data.toList.drop 36).take 1).map UInt8.toNat = [100] by decide +kernel)
theorem dX12_isNext_37 : decode cX12_isNext 37 = .ok (.iastore, 1) := dc_79 (show ((cX12_isNext.data.toList.drop 37).take 1).map UInt8.toNat = [79] by decide +kernel)
def ms_isNext_38 (n : Nat) (f : gb_F) (w : Int64) (v1 : Int32) : gb_MR Int32 := gb_ck v1 8 (gb_lt (gb_u f 17 (upd (f 17) (Int32.toNatClampNeg v1) (vp_nar .boolean 0))) (fun f_5 => gb_ck v1 8 (gb_lt (f_5 16 (Int32.toNatClampNeg v1)) (fun x_7 => gb_ck v1 8 (gb_lt (gb_u f_5 16 (upd (f_5 16) (Int32.toNatClampNeg v1) (x_7 + 1))) (fun f_9 => gb_ck v1 8 (gb_lt (f_9 16 (Int32.toNatClampNeg v1)) (fun x_11 => (if x_11 < 0 then (if (0 : Int32) ≤ x_11 then some (f_9, w, 0) else some (f_9, w, 1)) else gb_bd (ms_paths n f_9 w) (fun f_14 wl_15 r_16 => (if x_11 < r_16 then gb_ck x_11 5 (gb_lt (f_14 15 (Int32.toNatClampNeg x_11)) (fun x_21 => (if x_21 = (-1) then some (f_14, wl_15, 0) else gb_ck x_11 5 (gb_lt (f_14 14 (Int32.toNatClampNeg x_11)) (fun x_24 => gb_ck ((5 * v1) + x_11) 40 (gb_lt (f_14 13 (Int32.toNatClampNeg ((5 * v1) + x_11))) (fun x_26 => gb_ck x_11 5 (gb_lt (f_14 15 (Int32.toNatClampNeg x_11)) (fun x_28 => (if (x_24 + x_26) ≤ x_28 then gb_ck x_11 5 (gb_lt (f_14 14 (Int32.toNatClampNeg x_11)) (fun x_31 => gb_ck ((5 * v1) + x_11) 40 (gb_lt (f_14 13 (Int32.toNatClampNeg ((5 * v1) + x_11))) (fun x_33 => gb_ck x_11 5 (gb_lt (gb_u f_14 14 (upd (f_14 14) (Int32.toNatClampNeg x_11) (x_31 + x_33))) (fun f_35 => gb_ck v1 8 (gb_lt (gb_u f_35 17 (upd (f_35 17) (Int32.toNatClampNeg v1) (vp_nar .boolean 1))) (fun f_37 => some (f_37, wl_15, 1))))))))) else some (f_14, wl_15, 0))))))))))) else (if (0 : Int32) ≤ x_11 then some (f_14, wl_15, 0) else some (f_14, wl_15, 1)))))))))))))
def ms_isNext (n : Nat) (f : gb_F) (w : Int64) (p1 : Int32) : gb_MR Int32 := gb_ck p1 8 (gb_lt (f 17 (Int32.toNatClampNeg p1)) (fun x_2 => (if x_2 = 0 then ms_isNext_38 n f w p1 else gb_ck p1 8 (gb_lt (f 16 (Int32.toNatClampNeg p1)) (fun x_40 => gb_ck x_40 5 (gb_lt (f 14 (Int32.toNatClampNeg x_40)) (fun x_42 => gb_ck p1 8 (gb_lt (f 16 (Int32.toNatClampNeg p1)) (fun x_44 => gb_ck ((5 * p1) + x_44) 40 (gb_lt (f 13 (Int32.toNatClampNeg ((5 * p1) + x_44))) (fun x_46 => gb_ck x_40 5 (gb_lt (gb_u f 14 (upd (f 14) (Int32.toNatClampNeg x_40) (x_42 - x_46))) (fun f_48 => ms_isNext_38 n f_48 w p1)))))))))))))
set_option maxHeartbeats 8000000 in
set_option maxRecDepth 100000 in
theorem mc_isNext (l : Launch) (D : va_G) (cT : Nat → ClassId) (tt : Nat → Nat) (b1 b : Nat) (hb1 : b1 ≤ b) (n : Nat) (f : gb_F) (w : Int64) (p1 : Int32) (fE : gb_F) (wE : Int64) (rE : Int32) (h : ms_isNext n f w p1 = some (fE, wE, rE)) : Met l yX12_isNext (.code yX12_isNext cX12_isNext 3 (some FieldType.boolean) :: gb_wA) ({ frames := 2, cells := 0, slots := 0, locals := 41 }) (gb_Pc D cT tt b1 [.ref (b + 0), .int p1] (fun h => va_P D vwCl (gb_wl b (gb_MW cT b f w)) h)) (gb_Qi (fun r h => r = rE ∧ va_P D vwCl (gb_wl b (gb_MW cT b fE wE)) h) (gb_fr b 22)) 0 0 (gb_fr b 22) := by
  refine Met.ofW (cc := cX12_isNext) (maxL := 3) (ret := (some FieldType.boolean)) (by decide) rfl ?_
  intro p e s m args below meth c s₁ B hml hv
  obtain ⟨rfl, hSt, hP⟩ := hv
  have hx := B.exec
  have hb := B.bytes
  have hr := B.returns
  have hts := atoms_spec (ws := .code yX12_isNext cX12_isNext 3 (some FieldType.boolean) :: gb_wA) B.pre
  have hq : ∀ w ∈ gb_wA, w.before _ s = true := fun w h => hts w (List.mem_cons_of_mem _ h)
  have hown : s.vm.findClass RX12 = some m.cls := findClass_of_methodNamed B.named
  have hlocks := B.notSynchronized
  clear B hts
  have hK := hSt.1
  have hS : va_S (gb_fr b 22) s.heap s.heap [] := va_S.rf
  have hl := lv_entry ([.ref (b + 0), .int p1]) (n := 3) (Nat.le_of_ble_eq_true rfl)
  rw [lg_entry_eq]
  generalize (lg_sl ([.ref (b + 0), .int p1]) ++ List.replicate (3 - (lg_sl ([.ref (b + 0), .int p1])).length) Slot.unset).toArray = ls at hl ⊢
  replace hl : lv_has ls 3 [(0, .ref (b + 0)), (1, .int p1)] := hl
  have L38 : ∀ (f : gb_F) (w : Int64) (v1 : Int32) (H : Heap) (locs : List Loc) (ls : Array Slot), ms_isNext_38 n f w v1 = some (fE, wE, rE) → va_P D vwCl (gb_wl b (gb_MW cT b f w)) H → va_S (gb_fr b 22) s.heap H locs → lv_has ls 3 [(0, .ref (b + 0)), (1, .int v1)] → W p l e (headSpec (.code yX12_isNext cX12_isNext 3 (some FieldType.boolean) :: gb_wA) ({ frames := 2, cells := 0, slots := 0, locals := 41 })).room s m ([.ref (b + 0), .int p1]).toArray below meth c H locs 0 0 (MQ below (gb_Qi (fun r h => r = rE ∧ va_P D vwCl (gb_wl b (gb_MW cT b fE wE)) h) (gb_fr b 22)) ([.ref (b + 0), .int p1]).toArray s 0 0 (gb_fr b 22)) (F0 m 38 ls []) := by
    clear h hP hS hl ls f w
    intro f w v1 H locs ls h hP hS hl
    unfold ms_isNext_38 at h
    refine lv_aload_n hx hb dX12_isNext_38 rfl (lv_at hl 0 rfl) ?_
    refine va_get (ci := 10) (v := (.ref (b + 17))) (C := RX12) (T := TX12) (N := 44) hx hb hq i_X12 hown hK hP 0 (gb_at b rfl) rfl 32 (by decide) (hq _ w_1156) (fun _ h9 => h9) rfl dX12_isNext_39 ?_
    refine lv_iload_n hx hb dX12_isNext_42 rfl (lv_at hl 1 rfl) ?_
    refine lv_iconst (v := 0) hx hb dX12_isNext_43 (by decide) ?_
    obtain ⟨z_4, h⟩ := gb_ck_s h
    refine va_zast (x := 0) hx hb hK hP (gb_D (fun k h => ⟨Nat.le_add_right b k, Nat.add_lt_add_left h b⟩)) hS 17 2 (gb_at b rfl) rfl z_4 dX12_isNext_44 (fun H locs hP hD hS => ?_)
    rw [gb_set] at hP
    obtain ⟨f_5, ef_5⟩ : ∃ q, q = (gb_u f 17 (upd (f 17) (Int32.toNatClampNeg v1) (vp_nar .boolean 0))) := ⟨_, rfl⟩
    replace hP : va_P D vwCl (gb_wl b (gb_MW cT b f_5 w)) H := by rw [ef_5]; exact hP
    replace h := gb_lt_s ef_5 h
    refine lv_aload_n hx hb dX12_isNext_45 rfl (lv_at hl 0 rfl) ?_
    refine va_get (ci := 10) (v := (.ref (b + 16))) (C := RX12) (T := TX12) (N := 44) hx hb hq i_X12 hown hK hP 0 (gb_at b rfl) rfl 31 (by decide) (hq _ w_1155) (fun _ h9 => h9) rfl dX12_isNext_46 ?_
    refine lv_iload_n hx hb dX12_isNext_49 rfl (lv_at hl 1 rfl) ?_
    refine lv_dup2_11 hx hb dX12_isNext_50 rfl rfl ?_
    obtain ⟨z_6, h⟩ := gb_ck_s h
    refine va_iald hx hb hK hP 16 0 (gb_at b rfl) rfl z_6 dX12_isNext_51 ?_
    refine lv_topi (fun x_7 ex_7 => ?_)
    replace h := gb_lt_s ex_7 h
    refine lv_iconst (v := 1) hx hb dX12_isNext_52 (by decide) ?_
    refine lv_iadd hx hb dX12_isNext_53 ?_
    obtain ⟨z_8, h⟩ := gb_ck_s h
    refine gb_iast (x := (x_7 + 1)) hx hb hK hP (fun k h => ⟨Nat.le_add_right b k, Nat.add_lt_add_left h b⟩) hS rfl 16 0 rfl rfl z_8 dX12_isNext_54 (fun H locs hP hz_ hS => ?_)
    obtain ⟨f_9, ef_9⟩ : ∃ q, q = (gb_u f_5 16 (upd (f_5 16) (Int32.toNatClampNeg v1) (x_7 + 1))) := ⟨_, rfl⟩
    replace hP : va_P D vwCl (gb_wl b (gb_MW cT b f_9 w)) H := by rw [ef_9]; exact hP
    replace h := gb_lt_s ef_9 h
    refine lv_aload_n hx hb dX12_isNext_55 rfl (lv_at hl 0 rfl) ?_
    refine va_get (ci := 10) (v := (.ref (b + 16))) (C := RX12) (T := TX12) (N := 44) hx hb hq i_X12 hown hK hP 0 (gb_at b rfl) rfl 31 (by decide) (hq _ w_1155) (fun _ h9 => h9) rfl dX12_isNext_56 ?_
    refine lv_iload_n hx hb dX12_isNext_59 rfl (lv_at hl 1 rfl) ?_
    obtain ⟨z_10, h⟩ := gb_ck_s h
    refine va_iald hx hb hK hP 16 0 (gb_at b rfl) rfl z_10 dX12_isNext_60 ?_
    refine lv_topi (fun x_11 ex_11 => ?_)
    replace h := gb_lt_s ex_11 h
    refine lv_istore_n (lv' := [(2, .int x_11), (0, .ref (b + 0)), (1, .int v1)]) hx hb dX12_isNext_61 rfl hl (by decide) rfl (fun ls hl => ?_)
    refine lv_iload_n hx hb dX12_isNext_62 rfl (lv_at hl 0 rfl) ?_
    refine lv_if_lt (tgt := 74) hx hb dX12_isNext_63 (by decide) (fun c_12 => ?_) (fun c_12 => ?_)
    · rw [if_pos c_12] at h
      refine lv_iload_n hx hb dX12_isNext_74 rfl (lv_at hl 0 rfl) ?_
      refine lv_if_ge (tgt := 82) hx hb dX12_isNext_75 (by decide) (fun c_13 => ?_) (fun c_13 => ?_)
      · rw [if_pos c_13] at h
        refine lv_iconst (v := 0) hx hb dX12_isNext_82 (by decide) ?_
        obtain ⟨e1, e2, e3⟩ := gb_eq3 h
        exact W.zret (v := 0) hx hb hr (by decide) (fun t ht hW => gb_ri ht ⟨e3, by rw [← e1, ← e2]; exact hP⟩ hS) hS.2.2 dX12_isNext_83
      · rw [if_neg c_13] at h
        refine lv_iconst (v := 1) hx hb dX12_isNext_78 (by decide) ?_
        refine lv_goto (tgt := 83) hx hb dX12_isNext_79 (by decide) ?_
        obtain ⟨e1, e2, e3⟩ := gb_eq3 h
        exact W.zret (v := 1) hx hb hr (by decide) (fun t ht hW => gb_ri ht ⟨e3, by rw [← e1, ← e2]; exact hP⟩ hS) hS.2.2 dX12_isNext_83
    · rw [if_neg c_12] at h
      refine lv_iload_n hx hb dX12_isNext_66 rfl (lv_at hl 0 rfl) ?_
      refine lv_aload_n hx hb dX12_isNext_67 rfl (lv_at hl 1 rfl) ?_
      obtain ⟨f_14, wl_15, r_16, z_17, h⟩ := gb_bd_s h
      refine gb_calli (va_runV (C := RX12) (As := []) (rest := [.int x_11]) ⟨hx, hb, hml, hown, hq⟩ (mc_paths l D cT tt b1 b hb1 n f_9 w f_14 wl_15 r_16 z_17) (cwV 0 hq (gb_gV w_1384 w_1386 s_4_4 w_14 w_1387) rfl rfl rfl (by decide +kernel) ⟨Nat.le_of_ble_eq_true rfl, Nat.le_of_ble_eq_true rfl⟩) (gb_preV (r := (RX12, TX12, 44)) (ci := 10) (q0 := 0) hSt hP rfl (gb_at b rfl) hS (fun q h => Nat.le_trans hb1 h.1) hP) rfl rfl hl.1 rfl (lv_room (Nat.le_of_ble_eq_true rfl)) dX12_isNext_68 ⟨Nat.le_of_ble_eq_true rfl, Nat.le_of_ble_eq_true rfl⟩) hS (fun _ h => h) (fun _ h => h) (fun q_18 H locs hY hk hS => ?_)
      obtain ⟨hq_18, hP⟩ := hY
      replace hq_18 := hq_18.symm
      subst hq_18
      refine lv_icmp_lt (tgt := 84) hx hb dX12_isNext_71 (by decide) (fun c_19 => ?_) (fun c_19 => ?_)
      · rw [if_pos c_19] at h
        refine lv_aload_n hx hb dX12_isNext_84 rfl (lv_at hl 1 rfl) ?_
        refine va_get (ci := 10) (v := (.ref (b + 15))) (C := RX12) (T := TX12) (N := 44) hx hb hq i_X12 hown hK hP 0 (gb_at b rfl) rfl 30 (by decide) (hq _ w_1154) (fun _ h9 => h9) rfl dX12_isNext_85 ?_
        refine lv_iload_n hx hb dX12_isNext_88 rfl (lv_at hl 0 rfl) ?_
        obtain ⟨z_20, h⟩ := gb_ck_s h
        refine va_iald hx hb hK hP 15 0 (gb_at b rfl) rfl z_20 dX12_isNext_89 ?_
        refine lv_topi (fun x_21 ex_21 => ?_)
        replace h := gb_lt_s ex_21 h
        refine lv_iconst (v := (-1)) hx hb dX12_isNext_90 (by decide) ?_
        refine lv_icmp_eq (tgt := 120) hx hb dX12_isNext_91 (by decide) (fun c_22 => ?_) (fun c_22 => ?_)
        · rw [if_pos c_22] at h
          refine lv_iconst (v := 0) hx hb dX12_isNext_120 (by decide) ?_
          obtain ⟨e1, e2, e3⟩ := gb_eq3 h
          exact W.zret (v := 0) hx hb hr (by decide) (fun t ht hW => gb_ri ht ⟨e3, by rw [← e1, ← e2]; exact hP⟩ hS) hS.2.2 dX12_isNext_121
        · rw [if_neg c_22] at h
          refine lv_aload_n hx hb dX12_isNext_94 rfl (lv_at hl 1 rfl) ?_
          refine va_get (ci := 10) (v := (.ref (b + 14))) (C := RX12) (T := TX12) (N := 44) hx hb hq i_X12 hown hK hP 0 (gb_at b rfl) rfl 27 (by decide) (hq _ w_1151) (fun _ h9 => h9) rfl dX12_isNext_95 ?_
          refine lv_iload_n hx hb dX12_isNext_98 rfl (lv_at hl 0 rfl) ?_
          obtain ⟨z_23, h⟩ := gb_ck_s h
          refine va_iald hx hb hK hP 14 0 (gb_at b rfl) rfl z_23 dX12_isNext_99 ?_
          refine lv_topi (fun x_24 ex_24 => ?_)
          replace h := gb_lt_s ex_24 h
          refine lv_aload_n hx hb dX12_isNext_100 rfl (lv_at hl 1 rfl) ?_
          refine va_get (ci := 10) (v := (.ref (b + 13))) (C := RX12) (T := TX12) (N := 44) hx hb hq i_X12 hown hK hP 0 (gb_at b rfl) rfl 26 (by decide) (hq _ w_1150) (fun _ h9 => h9) rfl dX12_isNext_101 ?_
          refine lv_iconst (v := 5) hx hb dX12_isNext_104 (by decide) ?_
          refine lv_iload_n hx hb dX12_isNext_105 rfl (lv_at hl 2 rfl) ?_
          refine lv_imul hx hb dX12_isNext_106 ?_
          refine lv_iload_n hx hb dX12_isNext_107 rfl (lv_at hl 0 rfl) ?_
          refine lv_iadd hx hb dX12_isNext_108 ?_
          obtain ⟨z_25, h⟩ := gb_ck_s h
          refine va_iald hx hb hK hP 13 0 (gb_at b rfl) rfl z_25 dX12_isNext_109 ?_
          refine lv_topi (fun x_26 ex_26 => ?_)
          replace h := gb_lt_s ex_26 h
          refine lv_iadd hx hb dX12_isNext_110 ?_
          refine lv_aload_n hx hb dX12_isNext_111 rfl (lv_at hl 1 rfl) ?_
          refine va_get (ci := 10) (v := (.ref (b + 15))) (C := RX12) (T := TX12) (N := 44) hx hb hq i_X12 hown hK hP 0 (gb_at b rfl) rfl 30 (by decide) (hq _ w_1154) (fun _ h9 => h9) rfl dX12_isNext_112 ?_
          refine lv_iload_n hx hb dX12_isNext_115 rfl (lv_at hl 0 rfl) ?_
          obtain ⟨z_27, h⟩ := gb_ck_s h
          refine va_iald hx hb hK hP 15 0 (gb_at b rfl) rfl z_27 dX12_isNext_116 ?_
          refine lv_topi (fun x_28 ex_28 => ?_)
          replace h := gb_lt_s ex_28 h
          refine lv_icmp_le (tgt := 122) hx hb dX12_isNext_117 (by decide) (fun c_29 => ?_) (fun c_29 => ?_)
          · rw [if_pos c_29] at h
            refine lv_aload_n hx hb dX12_isNext_122 rfl (lv_at hl 1 rfl) ?_
            refine va_get (ci := 10) (v := (.ref (b + 14))) (C := RX12) (T := TX12) (N := 44) hx hb hq i_X12 hown hK hP 0 (gb_at b rfl) rfl 27 (by decide) (hq _ w_1151) (fun _ h9 => h9) rfl dX12_isNext_123 ?_
            refine lv_iload_n hx hb dX12_isNext_126 rfl (lv_at hl 0 rfl) ?_
            refine lv_dup2_11 hx hb dX12_isNext_127 rfl rfl ?_
            obtain ⟨z_30, h⟩ := gb_ck_s h
            refine va_iald hx hb hK hP 14 0 (gb_at b rfl) rfl z_30 dX12_isNext_128 ?_
            refine lv_topi (fun x_31 ex_31 => ?_)
            replace h := gb_lt_s ex_31 h
            refine lv_aload_n hx hb dX12_isNext_129 rfl (lv_at hl 1 rfl) ?_
            refine va_get (ci := 10) (v := (.ref (b + 13))) (C := RX12) (T := TX12) (N := 44) hx hb hq i_X12 hown hK hP 0 (gb_at b rfl) rfl 26 (by decide) (hq _ w_1150) (fun _ h9 => h9) rfl dX12_isNext_130 ?_
            refine lv_iconst (v := 5) hx hb dX12_isNext_133 (by decide) ?_
            refine lv_iload_n hx hb dX12_isNext_134 rfl (lv_at hl 2 rfl) ?_
            refine lv_imul hx hb dX12_isNext_135 ?_
            refine lv_iload_n hx hb dX12_isNext_136 rfl (lv_at hl 0 rfl) ?_
            refine lv_iadd hx hb dX12_isNext_137 ?_
            obtain ⟨z_32, h⟩ := gb_ck_s h
            refine va_iald hx hb hK hP 13 0 (gb_at b rfl) rfl z_32 dX12_isNext_138 ?_
            refine lv_topi (fun x_33 ex_33 => ?_)
            replace h := gb_lt_s ex_33 h
            refine lv_iadd hx hb dX12_isNext_139 ?_
            obtain ⟨z_34, h⟩ := gb_ck_s h
            refine gb_iast (x := (x_31 + x_33)) hx hb hK hP (fun k h => ⟨Nat.le_add_right b k, Nat.add_lt_add_left h b⟩) hS rfl 14 0 rfl rfl z_34 dX12_isNext_140 (fun H locs hP hz_ hS => ?_)
            obtain ⟨f_35, ef_35⟩ : ∃ q, q = (gb_u f_14 14 (upd (f_14 14) (Int32.toNatClampNeg x_11) (x_31 + x_33))) := ⟨_, rfl⟩
            replace hP : va_P D vwCl (gb_wl b (gb_MW cT b f_35 wl_15)) H := by rw [ef_35]; exact hP
            replace h := gb_lt_s ef_35 h
            refine lv_aload_n hx hb dX12_isNext_141 rfl (lv_at hl 1 rfl) ?_
            refine va_get (ci := 10) (v := (.ref (b + 17))) (C := RX12) (T := TX12) (N := 44) hx hb hq i_X12 hown hK hP 0 (gb_at b rfl) rfl 32 (by decide) (hq _ w_1156) (fun _ h9 => h9) rfl dX12_isNext_142 ?_
            refine lv_iload_n hx hb dX12_isNext_145 rfl (lv_at hl 2 rfl) ?_
            refine lv_iconst (v := 1) hx hb dX12_isNext_146 (by decide) ?_
            obtain ⟨z_36, h⟩ := gb_ck_s h
            refine va_zast (x := 1) hx hb hK hP (gb_D (fun k h => ⟨Nat.le_add_right b k, Nat.add_lt_add_left h b⟩)) hS 17 2 (gb_at b rfl) rfl z_36 dX12_isNext_147 (fun H locs hP hD hS => ?_)
            rw [gb_set] at hP
            obtain ⟨f_37, ef_37⟩ : ∃ q, q = (gb_u f_35 17 (upd (f_35 17) (Int32.toNatClampNeg v1) (vp_nar .boolean 1))) := ⟨_, rfl⟩
            replace hP : va_P D vwCl (gb_wl b (gb_MW cT b f_37 wl_15)) H := by rw [ef_37]; exact hP
            replace h := gb_lt_s ef_37 h
            refine lv_iconst (v := 1) hx hb dX12_isNext_148 (by decide) ?_
            obtain ⟨e1, e2, e3⟩ := gb_eq3 h
            exact W.zret (v := 1) hx hb hr (by decide) (fun t ht hW => gb_ri ht ⟨e3, by rw [← e1, ← e2]; exact hP⟩ hS) hS.2.2 dX12_isNext_149
          · rw [if_neg c_29] at h
            refine lv_iconst (v := 0) hx hb dX12_isNext_120 (by decide) ?_
            obtain ⟨e1, e2, e3⟩ := gb_eq3 h
            exact W.zret (v := 0) hx hb hr (by decide) (fun t ht hW => gb_ri ht ⟨e3, by rw [← e1, ← e2]; exact hP⟩ hS) hS.2.2 dX12_isNext_121
      · rw [if_neg c_19] at h
        refine lv_iload_n hx hb dX12_isNext_74 rfl (lv_at hl 0 rfl) ?_
        refine lv_if_ge (tgt := 82) hx hb dX12_isNext_75 (by decide) (fun c_38 => ?_) (fun c_38 => ?_)
        · rw [if_pos c_38] at h
          refine lv_iconst (v := 0) hx hb dX12_isNext_82 (by decide) ?_
          obtain ⟨e1, e2, e3⟩ := gb_eq3 h
          exact W.zret (v := 0) hx hb hr (by decide) (fun t ht hW => gb_ri ht ⟨e3, by rw [← e1, ← e2]; exact hP⟩ hS) hS.2.2 dX12_isNext_83
        · rw [if_neg c_38] at h
          refine lv_iconst (v := 1) hx hb dX12_isNext_78 (by decide) ?_
          refine lv_goto (tgt := 83) hx hb dX12_isNext_79 (by decide) ?_
          obtain ⟨e1, e2, e3⟩ := gb_eq3 h
          exact W.zret (v := 1) hx hb hr (by decide) (fun t ht hW => gb_ri ht ⟨e3, by rw [← e1, ← e2]; exact hP⟩ hS) hS.2.2 dX12_isNext_83
  unfold ms_isNext at h
  refine lv_aload_n hx hb dX12_isNext_0 rfl (lv_at hl 0 rfl) ?_
  refine va_get (ci := 10) (v := (.ref (b + 17))) (C := RX12) (T := TX12) (N := 44) hx hb hq i_X12 hown hK hP 0 (gb_at b rfl) rfl 32 (by decide) (hq _ w_1156) (fun _ h9 => h9) rfl dX12_isNext_1 ?_
  refine lv_iload_n hx hb dX12_isNext_4 rfl (lv_at hl 1 rfl) ?_
  obtain ⟨z_1, h⟩ := gb_ck_s h
  refine va_zald hx hb hK hP 17 2 (gb_at b rfl) rfl z_1 dX12_isNext_5 ?_
  refine lv_topi (fun x_2 ex_2 => ?_)
  replace h := gb_lt_s ex_2 h
  refine lv_if_eq (tgt := 38) hx hb dX12_isNext_6 (by decide) (fun c_3 => ?_) (fun c_3 => ?_)
  · rw [if_pos c_3] at h
    exact L38 _ _ _ _ _ _ h hP hS (lv_sub hl [0, 1] rfl)
  · rw [if_neg c_3] at h
    refine lv_aload_n hx hb dX12_isNext_9 rfl (lv_at hl 0 rfl) ?_
    refine va_get (ci := 10) (v := (.ref (b + 14))) (C := RX12) (T := TX12) (N := 44) hx hb hq i_X12 hown hK hP 0 (gb_at b rfl) rfl 27 (by decide) (hq _ w_1151) (fun _ h9 => h9) rfl dX12_isNext_10 ?_
    refine lv_aload_n hx hb dX12_isNext_13 rfl (lv_at hl 0 rfl) ?_
    refine va_get (ci := 10) (v := (.ref (b + 16))) (C := RX12) (T := TX12) (N := 44) hx hb hq i_X12 hown hK hP 0 (gb_at b rfl) rfl 31 (by decide) (hq _ w_1155) (fun _ h9 => h9) rfl dX12_isNext_14 ?_
    refine lv_iload_n hx hb dX12_isNext_17 rfl (lv_at hl 1 rfl) ?_
    obtain ⟨z_39, h⟩ := gb_ck_s h
    refine va_iald hx hb hK hP 16 0 (gb_at b rfl) rfl z_39 dX12_isNext_18 ?_
    refine lv_topi (fun x_40 ex_40 => ?_)
    replace h := gb_lt_s ex_40 h
    refine lv_dup2_11 hx hb dX12_isNext_19 rfl rfl ?_
    obtain ⟨z_41, h⟩ := gb_ck_s h
    refine va_iald hx hb hK hP 14 0 (gb_at b rfl) rfl z_41 dX12_isNext_20 ?_
    refine lv_topi (fun x_42 ex_42 => ?_)
    replace h := gb_lt_s ex_42 h
    refine lv_aload_n hx hb dX12_isNext_21 rfl (lv_at hl 0 rfl) ?_
    refine va_get (ci := 10) (v := (.ref (b + 13))) (C := RX12) (T := TX12) (N := 44) hx hb hq i_X12 hown hK hP 0 (gb_at b rfl) rfl 26 (by decide) (hq _ w_1150) (fun _ h9 => h9) rfl dX12_isNext_22 ?_
    refine lv_iconst (v := 5) hx hb dX12_isNext_25 (by decide) ?_
    refine lv_iload_n hx hb dX12_isNext_26 rfl (lv_at hl 1 rfl) ?_
    refine lv_imul hx hb dX12_isNext_27 ?_
    refine lv_aload_n hx hb dX12_isNext_28 rfl (lv_at hl 0 rfl) ?_
    refine va_get (ci := 10) (v := (.ref (b + 16))) (C := RX12) (T := TX12) (N := 44) hx hb hq i_X12 hown hK hP 0 (gb_at b rfl) rfl 31 (by decide) (hq _ w_1155) (fun _ h9 => h9) rfl dX12_isNext_29 ?_
    refine lv_iload_n hx hb dX12_isNext_32 rfl (lv_at hl 1 rfl) ?_
    obtain ⟨z_43, h⟩ := gb_ck_s h
    refine va_iald hx hb hK hP 16 0 (gb_at b rfl) rfl z_43 dX12_isNext_33 ?_
    refine lv_topi (fun x_44 ex_44 => ?_)
    replace h := gb_lt_s ex_44 h
    refine lv_iadd hx hb dX12_isNext_34 ?_
    obtain ⟨z_45, h⟩ := gb_ck_s h
    refine va_iald hx hb hK hP 13 0 (gb_at b rfl) rfl z_45 dX12_isNext_35 ?_
    refine lv_topi (fun x_46 ex_46 => ?_)
    replace h := gb_lt_s ex_46 h
    refine lv_isub hx hb dX12_isNext_36 ?_
    obtain ⟨z_47, h⟩ := gb_ck_s h
    refine gb_iast (x := (x_42 - x_46)) hx hb hK hP (fun k h => ⟨Nat.le_add_right b k, Nat.add_lt_add_left h b⟩) hS rfl 14 0 rfl rfl z_47 dX12_isNext_37 (fun H locs hP hz_ hS => ?_)
    obtain ⟨f_48, ef_48⟩ : ∃ q, q = (gb_u f 14 (upd (f 14) (Int32.toNatClampNeg x_40) (x_42 - x_46))) := ⟨_, rfl⟩
    replace hP : va_P D vwCl (gb_wl b (gb_MW cT b f_48 w)) H := by rw [ef_48]; exact hP
    replace h := gb_lt_s ef_48 h
    exact L38 _ _ _ _ _ _ h hP hS (lv_sub hl [0, 1] rfl)
theorem dX12_tries_0 : decode cX12_tries 0 = .ok (.aload_n 0, 1) := dc_42 (show ((cX12_tries.data.toList.drop 0).take 1).map UInt8.toNat = [42] by decide +kernel)
theorem dX12_tries_1 : decode cX12_tries 1 = .ok (.invokevirtual 306, 3) := dc_182 (show ((cX12_tries.data.toList.drop 1).take 3).map UInt8.toNat = [182, 1, 50] by decide +kernel) rfl
theorem dX12_tries_4 : decode cX12_tries 4 = .ok (.aload_n 0, 1) := dc_42 (show ((cX12_tries.data.toList.drop 4).take 1).map UInt8.toNat = [42] by decide +kernel)
theorem dX12_tries_5 : decode cX12_tries 5 = .ok (.invokevirtual 364, 3) := dc_182 (show ((cX12_tries.data.toList.drop 5).take 3).map UInt8.toNat = [182, 1, 108] by decide +kernel) rfl
theorem w_1620 : (Cond.code ({ cls := "GooseBorderModel", name := "opens", desc := "()V" } : MethodName) prog_14_method_92_code (2 : Nat) (Option.none : Option FieldType)) ∈ gb_wA := gb_t7 180 rfl rfl
theorem w_1617 : (Cond.methodLink "GooseBorderModel" (364 : Nat) ({ cls := "GooseBorderModel", name := "opens", desc := "()V" } : MethodName)) ∈ gb_wA := gb_t7 177 rfl rfl
theorem w_1619 : (Cond.instanceMethod ({ cls := "GooseBorderModel", name := "opens", desc := "()V" } : MethodName)) ∈ gb_wA := gb_t7 179 rfl rfl
theorem s_6_13 : Cond.selects "GooseBorderModel" (⟨"GooseBorderModel", "opens", "()V"⟩ : MethodName) (⟨"GooseBorderModel", "opens", "()V"⟩ : MethodName) ∈ gb_wA := gb_s6 13 rfl rfl
theorem dX12_tries_8 : decode cX12_tries 8 = .ok (.aload_n 0, 1) := dc_42 (show ((cX12_tries.data.toList.drop 8).take 1).map UInt8.toNat = [42] by decide +kernel)
theorem dX12_tries_9 : decode cX12_tries 9 = .ok (.invokevirtual 202, 3) := dc_182 (show ((cX12_tries.data.toList.drop 9).take 3).map UInt8.toNat = [182, 0, 202] by decide +kernel) rfl
theorem dX12_tries_12 : decode cX12_tries 12 = .ok (.ifCond .ne 8, 3) := dc_154 (show ((cX12_tries.data.toList.drop 12).take 3).map UInt8.toNat = [154, 0, 8] by decide +kernel) rfl
theorem dX12_tries_20 : decode cX12_tries 20 = .ok (.iconst 0, 1) := dc_3 (show ((cX12_tries.data.toList.drop 20).take 1).map UInt8.toNat = [3] by decide +kernel)
theorem dX12_tries_21 : decode cX12_tries 21 = .ok (.istore_n 1, 1) := dc_60 (show ((cX12_tries.data.toList.drop 21).take 1).map UInt8.toNat = [60] by decide +kernel)
theorem dX12_tries_22 : decode cX12_tries 22 = .ok (.aload_n 0, 1) := dc_42 (show ((cX12_tries.data.toList.drop 22).take 1).map UInt8.toNat = [42] by decide +kernel)
theorem dX12_tries_23 : decode cX12_tries 23 = .ok (.getfield 56, 3) := dc_180 (show ((cX12_tries.data.toList.drop 23).take 3).map UInt8.toNat = [180, 0, 56] by decide +kernel) rfl
theorem dX12_tries_26 : decode cX12_tries 26 = .ok (.iconst 0, 1) := dc_3 (show ((cX12_tries.data.toList.drop 26).take 1).map UInt8.toNat = [3] by decide +kernel)
theorem dX12_tries_27 : decode cX12_tries 27 = .ok (.bipush (-2), 2) := dc_16 (show ((cX12_tries.data.toList.drop 27).take 2).map UInt8.toNat = [16, 254] by decide +kernel) rfl
theorem dX12_tries_29 : decode cX12_tries 29 = .ok (.iastore, 1) := dc_79 (show ((cX12_tries.data.toList.drop 29).take 1).map UInt8.toNat = [79] by decide +kernel)
theorem dX12_tries_30 : decode cX12_tries 30 = .ok (.aload_n 0, 1) := dc_42 (show ((cX12_tries.data.toList.drop 30).take 1).map UInt8.toNat = [42] by decide +kernel)
theorem dX12_tries_31 : decode cX12_tries 31 = .ok (.getfield 59, 3) := dc_180 (show ((cX12_tries.data.toList.drop 31).take 3).map UInt8.toNat = [180, 0, 59] by decide +kernel) rfl
theorem dX12_tries_34 : decode cX12_tries 34 = .ok (.iconst 0, 1) := dc_3 (show ((cX12_tries.data.toList.drop 34).take 1).map UInt8.toNat = [3] by decide +kernel)
theorem dX12_tries_35 : decode cX12_tries 35 = .ok (.iconst 0, 1) := dc_3 (show ((cX12_tries.data.toList.drop 35).take 1).map UInt8.toNat = [3] by decide +kernel)
theorem dX12_tries_36 : decode cX12_tries 36 = .ok (.bastore, 1) := dc_84 (show ((cX12_tries.data.toList.drop 36).take 1).map UInt8.toNat = [84] by decide +kernel)
theorem dX12_tries_37 : decode cX12_tries 37 = .ok (.iload_n 1, 1) := dc_27 (show ((cX12_tries.data.toList.drop 37).take 1).map UInt8.toNat = [27] by decide +kernel)
theorem dX12_tries_38 : decode cX12_tries 38 = .ok (.ifCond .lt 74, 3) := dc_155 (show ((cX12_tries.data.toList.drop 38).take 3).map UInt8.toNat = [155, 0, 74] by decide +kernel) rfl
theorem dX12_tries_112 : decode cX12_tries 112 = .ok (.return_, 1) := dc_177 (show ((cX12_tries.data.toList.drop 112).take 1).map UInt8.toNat = [177] by decide +kernel)
theorem dX12_tries_41 : decode cX12_tries 41 = .ok (.aload_n 0, 1) := dc_42 (show ((cX12_tries.data.toList.drop 41).take 1).map UInt8.toNat = [42] by decide +kernel)
theorem dX12_tries_42 : decode cX12_tries 42 = .ok (.iload_n 1, 1) := dc_27 (show ((cX12_tries.data.toList.drop 42).take 1).map UInt8.toNat = [27] by decide +kernel)
theorem dX12_tries_43 : decode cX12_tries 43 = .ok (.invokevirtual 370, 3) := dc_182 (show ((cX12_tries.data.toList.drop 43).take 3).map UInt8.toNat = [182, 1, 114] by decide +kernel) rfl
theorem w_1632 : (Cond.code ({ cls := "GooseBorderModel", name := "isNext", desc := "(I)Z" } : MethodName) prog_14_method_93_code (3 : Nat) (Option.some FieldType.boolean)) ∈ gb_wA := gb_t7 192 rfl rfl
theorem w_1629 : (Cond.methodLink "GooseBorderModel" (370 : Nat) ({ cls := "GooseBorderModel", name := "isNext", desc := "(I)Z" } : MethodName)) ∈ gb_wA := gb_t7 189 rfl rfl
theorem w_1631 : (Cond.instanceMethod ({ cls := "GooseBorderModel", name := "isNext", desc := "(I)Z" } : MethodName)) ∈ gb_wA := gb_t7 191 rfl rfl
theorem s_7_0 : Cond.selects "GooseBorderModel" (⟨"GooseBorderModel", "isNext", "(I)Z"⟩ : MethodName) (⟨"GooseBorderModel", "isNext", "(I)Z"⟩ : MethodName) ∈ gb_wA := gb_s7 0 rfl rfl
theorem dX12_tries_46 : decode cX12_tries 46 = .ok (.istore_n 2, 1) := dc_61 (show ((cX12_tries.data.toList.drop 46).take 1).map UInt8.toNat = [61] by decide +kernel)
theorem dX12_tries_47 : decode cX12_tries 47 = .ok (.aload_n 0, 1) := dc_42 (show ((cX12_tries.data.toList.drop 47).take 1).map UInt8.toNat = [42] by decide +kernel)
theorem dX12_tries_48 : decode cX12_tries 48 = .ok (.getfield 56, 3) := dc_180 (show ((cX12_tries.data.toList.drop 48).take 3).map UInt8.toNat = [180, 0, 56] by decide +kernel) rfl
theorem dX12_tries_51 : decode cX12_tries 51 = .ok (.iload_n 1, 1) := dc_27 (show ((cX12_tries.data.toList.drop 51).take 1).map UInt8.toNat = [27] by decide +kernel)
theorem dX12_tries_52 : decode cX12_tries 52 = .ok (.iaload, 1) := dc_46 (show ((cX12_tries.data.toList.drop 52).take 1).map UInt8.toNat = [46] by decide +kernel)
theorem dX12_tries_53 : decode cX12_tries 53 = .ok (.aload_n 0, 1) := dc_42 (show ((cX12_tries.data.toList.drop 53).take 1).map UInt8.toNat = [42] by decide +kernel)
theorem dX12_tries_54 : decode cX12_tries 54 = .ok (.invokevirtual 199, 3) := dc_182 (show ((cX12_tries.data.toList.drop 54).take 3).map UInt8.toNat = [182, 0, 199] by decide +kernel) rfl
theorem dX12_tries_57 : decode cX12_tries 57 = .ok (.if_icmp .lt 9, 3) := dc_161 (show ((cX12_tries.data.toList.drop 57).take 3).map UInt8.toNat = [161, 0, 9] by decide +kernel) rfl
theorem dX12_tries_66 : decode cX12_tries 66 = .ok (.iload_n 2, 1) := dc_28 (show ((cX12_tries.data.toList.drop 66).take 1).map UInt8.toNat = [28] by decide +kernel)
theorem dX12_tries_67 : decode cX12_tries 67 = .ok (.ifCond .eq 20, 3) := dc_153 (show ((cX12_tries.data.toList.drop 67).take 3).map UInt8.toNat = [153, 0, 20] by decide +kernel) rfl
theorem dX12_tries_87 : decode cX12_tries 87 = .ok (.iload_n 2, 1) := dc_28 (show ((cX12_tries.data.toList.drop 87).take 1).map UInt8.toNat = [28] by decide +kernel)
theorem dX12_tries_88 : decode cX12_tries 88 = .ok (.ifCond .eq 21, 3) := dc_153 (show ((cX12_tries.data.toList.drop 88).take 3).map UInt8.toNat = [153, 0, 21] by decide +kernel) rfl
theorem dX12_tries_109 : decode cX12_tries 109 = .ok (.goto (-72), 3) := dc_167 (show ((cX12_tries.data.toList.drop 109).take 3).map UInt8.toNat = [167, 255, 184] by decide +kernel) rfl
theorem dX12_tries_91 : decode cX12_tries 91 = .ok (.iinc 1 1, 3) := dc_132 (show ((cX12_tries.data.toList.drop 91).take 3).map UInt8.toNat = [132, 1, 1] by decide +kernel) rfl
theorem dX12_tries_94 : decode cX12_tries 94 = .ok (.aload_n 0, 1) := dc_42 (show ((cX12_tries.data.toList.drop 94).take 1).map UInt8.toNat = [42] by decide +kernel)
theorem dX12_tries_95 : decode cX12_tries 95 = .ok (.getfield 56, 3) := dc_180 (show ((cX12_tries.data.toList.drop 95).take 3).map UInt8.toNat = [180, 0, 56] by decide +kernel) rfl
theorem dX12_tries_98 : decode cX12_tries 98 = .ok (.iload_n 1, 1) := dc_27 (show ((cX12_tries.data.toList.drop 98).take 1).map UInt8.toNat = [27] by decide +kernel)
theorem dX12_tries_99 : decode cX12_tries 99 = .ok (.bipush (-2), 2) := dc_16 (show ((cX12_tries.data.toList.drop 99).take 2).map UInt8.toNat = [16, 254] by decide +kernel) rfl
theorem dX12_tries_101 : decode cX12_tries 101 = .ok (.iastore, 1) := dc_79 (show ((cX12_tries.data.toList.drop 101).take 1).map UInt8.toNat = [79] by decide +kernel)
theorem dX12_tries_102 : decode cX12_tries 102 = .ok (.aload_n 0, 1) := dc_42 (show ((cX12_tries.data.toList.drop 102).take 1).map UInt8.toNat = [42] by decide +kernel)
theorem dX12_tries_103 : decode cX12_tries 103 = .ok (.getfield 59, 3) := dc_180 (show ((cX12_tries.data.toList.drop 103).take 3).map UInt8.toNat = [180, 0, 59] by decide +kernel) rfl
theorem dX12_tries_106 : decode cX12_tries 106 = .ok (.iload_n 1, 1) := dc_27 (show ((cX12_tries.data.toList.drop 106).take 1).map UInt8.toNat = [27] by decide +kernel)
theorem dX12_tries_107 : decode cX12_tries 107 = .ok (.iconst 0, 1) := dc_3 (show ((cX12_tries.data.toList.drop 107).take 1).map UInt8.toNat = [3] by decide +kernel)
theorem dX12_tries_108 : decode cX12_tries 108 = .ok (.bastore, 1) := dc_84 (show ((cX12_tries.data.toList.drop 108).take 1).map UInt8.toNat = [84] by decide +kernel)
theorem dX12_tries_70 : decode cX12_tries 70 = .ok (.iload_n 1, 1) := dc_27 (show ((cX12_tries.data.toList.drop 70).take 1).map UInt8.toNat = [27] by decide +kernel)
theorem dX12_tries_71 : decode cX12_tries 71 = .ok (.aload_n 0, 1) := dc_42 (show ((cX12_tries.data.toList.drop 71).take 1).map UInt8.toNat = [42] by decide +kernel)
theorem dX12_tries_72 : decode cX12_tries 72 = .ok (.invokevirtual 202, 3) := dc_182 (show ((cX12_tries.data.toList.drop 72).take 3).map UInt8.toNat = [182, 0, 202] by decide +kernel) rfl
theorem dX12_tries_75 : decode cX12_tries 75 = .ok (.iconst 1, 1) := dc_4 (show ((cX12_tries.data.toList.drop 75).take 1).map UInt8.toNat = [4] by decide +kernel)
theorem dX12_tries_76 : decode cX12_tries 76 = .ok (.isub, 1) := dc_100 (show ((cX12_tries.data.toList.drop 76).take 1).map UInt8.toNat = [100] by decide +kernel)
theorem dX12_tries_77 : decode cX12_tries 77 = .ok (.if_icmp .ne 10, 3) := dc_160 (show ((cX12_tries.data.toList.drop 77).take 3).map UInt8.toNat = [160, 0, 10] by decide +kernel) rfl
theorem dX12_tries_80 : decode cX12_tries 80 = .ok (.aload_n 0, 1) := dc_42 (show ((cX12_tries.data.toList.drop 80).take 1).map UInt8.toNat = [42] by decide +kernel)
theorem dX12_tries_81 : decode cX12_tries 81 = .ok (.invokevirtual 367, 3) := dc_182 (show ((cX12_tries.data.toList.drop 81).take 3).map UInt8.toNat = [182, 1, 111] by decide +kernel) rfl
theorem w_1624 : (Cond.code ({ cls := "GooseBorderModel", name := "counts", desc := "()V" } : MethodName) prog_14_method_91_code (4 : Nat) (Option.none : Option FieldType)) ∈ gb_wA := gb_t7 184 rfl rfl
theorem w_1621 : (Cond.methodLink "GooseBorderModel" (367 : Nat) ({ cls := "GooseBorderModel", name := "counts", desc := "()V" } : MethodName)) ∈ gb_wA := gb_t7 181 rfl rfl
theorem w_1623 : (Cond.instanceMethod ({ cls := "GooseBorderModel", name := "counts", desc := "()V" } : MethodName)) ∈ gb_wA := gb_t7 183 rfl rfl
theorem s_6_14 : Cond.selects "GooseBorderModel" (⟨"GooseBorderModel", "counts", "()V"⟩ : MethodName) (⟨"GooseBorderModel", "counts", "()V"⟩ : MethodName) ∈ gb_wA := gb_s6 14 rfl rfl
theorem dX12_tries_84 : decode cX12_tries 84 = .ok (.goto 25, 3) := dc_167 (show ((cX12_tries.data.toList.drop 84).take 3).map UInt8.toNat = [167, 0, 25] by decide +kernel) rfl
theorem dX12_tries_60 : decode cX12_tries 60 = .ok (.iinc 1 (-1), 3) := dc_132 (show ((cX12_tries.data.toList.drop 60).take 3).map UInt8.toNat = [132, 1, 255] by decide +kernel) rfl
theorem dX12_tries_63 : decode cX12_tries 63 = .ok (.goto 46, 3) := dc_167 (show ((cX12_tries.data.toList.drop 63).take 3).map UInt8.toNat = [167, 0, 46] by decide +kernel) rfl
theorem dX12_tries_15 : decode cX12_tries 15 = .ok (.aload_n 0, 1) := dc_42 (show ((cX12_tries.data.toList.drop 15).take 1).map UInt8.toNat = [42] by decide +kernel)
theorem dX12_tries_16 : decode cX12_tries 16 = .ok (.invokevirtual 367, 3) := dc_182 (show ((cX12_tries.data.toList.drop 16).take 3).map UInt8.toNat = [182, 1, 111] by decide +kernel) rfl
theorem dX12_tries_19 : decode cX12_tries 19 = .ok (.return_, 1) := dc_177 (show ((cX12_tries.data.toList.drop 19).take 1).map UInt8.toNat = [177] by decide +kernel)
def ms_tries_87 (n : Nat) (k37 : gb_F → Int64 → Int32 → gb_MR Unit) (f : gb_F) (w : Int64) (v1 : Int32) (v2 : Int32) : gb_MR Unit := (if v2 = 0 then k37 f w v1 else gb_lt (v1 + 1) (fun x_35 => gb_ck x_35 8 (gb_lt (gb_u f 16 (upd (f 16) (Int32.toNatClampNeg x_35) (-2))) (fun f_37 => gb_ck x_35 8 (gb_lt (gb_u f_37 17 (upd (f_37 17) (Int32.toNatClampNeg x_35) (vp_nar .boolean 0))) (fun f_39 => k37 f_39 w x_35))))))
def ms_tries_37 (n : Nat) : Nat → gb_F → Int64 → Int32 → gb_MR Unit
  | 0, _, _, _ => none
  | mm + 1, f, w, v1 => (if v1 < 0 then some (f, w, ()) else gb_bd (ms_isNext n f w v1) (fun f_20 wl_21 r_22 => gb_ck v1 8 (gb_lt (f_20 16 (Int32.toNatClampNeg v1)) (fun x_26 => gb_bd (ms_paths n f_20 wl_21) (fun f_27 wl_28 r_29 => (if x_26 < r_29 then (if r_22 = 0 then ms_tries_87 n (fun f w v1 => ms_tries_37 n mm f w v1) f_27 wl_28 v1 r_22 else gb_bd (ms_geese n f_27 wl_28) (fun f_40 wl_41 r_42 => (if v1 = (r_42 - 1) then gb_bd (ms_counts n f_40 wl_41) (fun f_46 wl_47 _ => ms_tries_37 n mm f_46 wl_47 v1) else ms_tries_87 n (fun f w v1 => ms_tries_37 n mm f w v1) f_40 wl_41 v1 r_22))) else gb_lt (v1 + (-1)) (fun x_51 => ms_tries_37 n mm f_27 wl_28 x_51)))))))
def ms_tries (n : Nat) (f : gb_F) (w : Int64) : gb_MR Unit := gb_bd (ms_measures n f w) (fun f_1 wl_2 _ => gb_bd (ms_opens n f_1 wl_2) (fun f_6 wl_7 _ => gb_bd (ms_geese n f_6 wl_7) (fun f_11 wl_12 r_13 => (if r_13 = 0 then gb_bd (ms_counts n f_11 wl_12) (fun f_52 wl_53 _ => some (f_52, wl_53, ())) else gb_lt (gb_u f_11 16 (upd (f_11 16) (Int32.toNatClampNeg 0) (-2))) (fun f_17 => gb_lt (gb_u f_17 17 (upd (f_17 17) (Int32.toNatClampNeg 0) (vp_nar .boolean 0))) (fun f_18 => ms_tries_37 n n f_18 wl_12 0))))))
set_option maxHeartbeats 8000000 in
set_option maxRecDepth 100000 in
theorem mc_tries (l : Launch) (D : va_G) (cT : Nat → ClassId) (tt : Nat → Nat) (b1 b : Nat) (hb1 : b1 ≤ b) (n : Nat) (f : gb_F) (w : Int64) (fE : gb_F) (wE : Int64) (rE : Unit) (h : ms_tries n f w = some (fE, wE, rE)) : Met l yX12_tries (.code yX12_tries cX12_tries 3 none :: gb_wA) ({ frames := 5, cells := 0, slots := 0, locals := 114 }) (gb_Pc D cT tt b1 [.ref (b + 0)] (fun h => va_P D vwCl (gb_wl b (gb_MW cT b f w)) h)) (gb_Qv (fun h => va_P D vwCl (gb_wl b (gb_MW cT b fE wE)) h) (gb_fr b 22)) 0 0 (gb_fr b 22) := by
  refine Met.ofW (cc := cX12_tries) (maxL := 3) (ret := none) (by decide) rfl ?_
  intro p e s m args below meth c s₁ B hml hv
  obtain ⟨rfl, hSt, hP⟩ := hv
  have hx := B.exec
  have hb := B.bytes
  have hr := B.returns
  have hts := atoms_spec (ws := .code yX12_tries cX12_tries 3 none :: gb_wA) B.pre
  have hq : ∀ w ∈ gb_wA, w.before _ s = true := fun w h => hts w (List.mem_cons_of_mem _ h)
  have hown : s.vm.findClass RX12 = some m.cls := findClass_of_methodNamed B.named
  have hlocks := B.notSynchronized
  clear B hts
  have hK := hSt.1
  have hS : va_S (gb_fr b 22) s.heap s.heap [] := va_S.rf
  have hl := lv_entry ([.ref (b + 0)]) (n := 3) (Nat.le_of_ble_eq_true rfl)
  rw [lg_entry_eq]
  generalize (lg_sl ([.ref (b + 0)]) ++ List.replicate (3 - (lg_sl ([.ref (b + 0)])).length) Slot.unset).toArray = ls at hl ⊢
  replace hl : lv_has ls 3 [(0, .ref (b + 0))] := hl
  have L87 : ∀ (k37 : gb_F → Int64 → Int32 → gb_MR Unit) (hk37 : ∀ (f : gb_F) (w : Int64) (v1 : Int32) (H : Heap) (locs : List Loc) (ls : Array Slot), k37 f w v1 = some (fE, wE, rE) → va_P D vwCl (gb_wl b (gb_MW cT b f w)) H → va_S (gb_fr b 22) s.heap H locs → lv_has ls 3 [(0, .ref (b + 0)), (1, .int v1)] → W p l e (headSpec (.code yX12_tries cX12_tries 3 none :: gb_wA) ({ frames := 5, cells := 0, slots := 0, locals := 114 })).room s m ([.ref (b + 0)]).toArray below meth c H locs 0 0 (MQ below (gb_Qv (fun h => va_P D vwCl (gb_wl b (gb_MW cT b fE wE)) h) (gb_fr b 22)) ([.ref (b + 0)]).toArray s 0 0 (gb_fr b 22)) (F0 m 37 ls [])) (f : gb_F) (w : Int64) (v1 : Int32) (v2 : Int32) (H : Heap) (locs : List Loc) (ls : Array Slot), ms_tries_87 n k37 f w v1 v2 = some (fE, wE, rE) → va_P D vwCl (gb_wl b (gb_MW cT b f w)) H → va_S (gb_fr b 22) s.heap H locs → lv_has ls 3 [(0, .ref (b + 0)), (1, .int v1), (2, .int v2)] → W p l e (headSpec (.code yX12_tries cX12_tries 3 none :: gb_wA) ({ frames := 5, cells := 0, slots := 0, locals := 114 })).room s m ([.ref (b + 0)]).toArray below meth c H locs 0 0 (MQ below (gb_Qv (fun h => va_P D vwCl (gb_wl b (gb_MW cT b fE wE)) h) (gb_fr b 22)) ([.ref (b + 0)]).toArray s 0 0 (gb_fr b 22)) (F0 m 87 ls []) := by
    clear h hP hS hl ls f w
    intro k37 hk37 f w v1 v2 H locs ls h hP hS hl
    unfold ms_tries_87 at h
    refine lv_iload_n hx hb dX12_tries_87 rfl (lv_at hl 2 rfl) ?_
    refine lv_if_eq (tgt := 109) hx hb dX12_tries_88 (by decide) (fun c_34 => ?_) (fun c_34 => ?_)
    · rw [if_pos c_34] at h
      refine lv_goto (tgt := 37) hx hb dX12_tries_109 (by decide) ?_
      exact hk37 _ _ _ _ _ _ h hP hS (lv_sub hl [0, 1] rfl)
    · rw [if_neg c_34] at h
      obtain ⟨x_35, ex_35⟩ : ∃ q, q = (v1 + 1) := ⟨_, rfl⟩
      replace h := gb_lt_s ex_35 h
      refine lv_iinc (v := x_35) (lv' := [(1, .int x_35), (0, .ref (b + 0)), (2, .int v2)]) hx hb dX12_tries_91 hl (k := 1) rfl (by rw [ex_35]; rfl) (by decide) rfl (fun ls hl => ?_)
      refine lv_aload_n hx hb dX12_tries_94 rfl (lv_at hl 1 rfl) ?_
      refine va_get (ci := 10) (v := (.ref (b + 16))) (C := RX12) (T := TX12) (N := 44) hx hb hq i_X12 hown hK hP 0 (gb_at b rfl) rfl 31 (by decide) (hq _ w_1155) (fun _ h9 => h9) rfl dX12_tries_95 ?_
      refine lv_iload_n hx hb dX12_tries_98 rfl (lv_at hl 0 rfl) ?_
      refine lv_bipush (v := (-2)) hx hb dX12_tries_99 (by decide) ?_
      obtain ⟨z_36, h⟩ := gb_ck_s h
      refine gb_iast (x := (-2)) hx hb hK hP (fun k h => ⟨Nat.le_add_right b k, Nat.add_lt_add_left h b⟩) hS rfl 16 0 rfl rfl z_36 dX12_tries_101 (fun H locs hP hz_ hS => ?_)
      obtain ⟨f_37, ef_37⟩ : ∃ q, q = (gb_u f 16 (upd (f 16) (Int32.toNatClampNeg x_35) (-2))) := ⟨_, rfl⟩
      replace hP : va_P D vwCl (gb_wl b (gb_MW cT b f_37 w)) H := by rw [ef_37]; exact hP
      replace h := gb_lt_s ef_37 h
      refine lv_aload_n hx hb dX12_tries_102 rfl (lv_at hl 1 rfl) ?_
      refine va_get (ci := 10) (v := (.ref (b + 17))) (C := RX12) (T := TX12) (N := 44) hx hb hq i_X12 hown hK hP 0 (gb_at b rfl) rfl 32 (by decide) (hq _ w_1156) (fun _ h9 => h9) rfl dX12_tries_103 ?_
      refine lv_iload_n hx hb dX12_tries_106 rfl (lv_at hl 0 rfl) ?_
      refine lv_iconst (v := 0) hx hb dX12_tries_107 (by decide) ?_
      obtain ⟨z_38, h⟩ := gb_ck_s h
      refine va_zast (x := 0) hx hb hK hP (gb_D (fun k h => ⟨Nat.le_add_right b k, Nat.add_lt_add_left h b⟩)) hS 17 2 (gb_at b rfl) rfl z_38 dX12_tries_108 (fun H locs hP hD hS => ?_)
      rw [gb_set] at hP
      obtain ⟨f_39, ef_39⟩ : ∃ q, q = (gb_u f_37 17 (upd (f_37 17) (Int32.toNatClampNeg x_35) (vp_nar .boolean 0))) := ⟨_, rfl⟩
      replace hP : va_P D vwCl (gb_wl b (gb_MW cT b f_39 w)) H := by rw [ef_39]; exact hP
      replace h := gb_lt_s ef_39 h
      refine lv_goto (tgt := 37) hx hb dX12_tries_109 (by decide) ?_
      exact hk37 _ _ _ _ _ _ h hP hS (lv_sub hl [1, 0] rfl)
  have L37 : ∀ (mm : Nat) (f : gb_F) (w : Int64) (v1 : Int32) (H : Heap) (locs : List Loc) (ls : Array Slot), ms_tries_37 n mm f w v1 = some (fE, wE, rE) → va_P D vwCl (gb_wl b (gb_MW cT b f w)) H → va_S (gb_fr b 22) s.heap H locs → lv_has ls 3 [(0, .ref (b + 0)), (1, .int v1)] → W p l e (headSpec (.code yX12_tries cX12_tries 3 none :: gb_wA) ({ frames := 5, cells := 0, slots := 0, locals := 114 })).room s m ([.ref (b + 0)]).toArray below meth c H locs 0 0 (MQ below (gb_Qv (fun h => va_P D vwCl (gb_wl b (gb_MW cT b fE wE)) h) (gb_fr b 22)) ([.ref (b + 0)]).toArray s 0 0 (gb_fr b 22)) (F0 m 37 ls []) := by
    clear h hP hS hl ls f w
    intro mm
    induction mm with
    | zero =>
      intro f w v1 H locs ls h
      cases h
    | succ mm ih =>
      intro f w v1 H locs ls h hP hS hl
      rw [ms_tries_37] at h
      refine lv_iload_n hx hb dX12_tries_37 rfl (lv_at hl 1 rfl) ?_
      refine lv_if_lt (tgt := 112) hx hb dX12_tries_38 (by decide) (fun c_19 => ?_) (fun c_19 => ?_)
      · rw [if_pos c_19] at h
        obtain ⟨e1, e2, -⟩ := gb_eq3 h
        exact W.vret hx hb hr (fun t ht hW => gb_rv ht (by rw [← e1, ← e2]; exact hP) hS) hS.2.2 dX12_tries_112
      · rw [if_neg c_19] at h
        refine lv_aload_n hx hb dX12_tries_41 rfl (lv_at hl 0 rfl) ?_
        refine lv_iload_n hx hb dX12_tries_42 rfl (lv_at hl 1 rfl) ?_
        obtain ⟨f_20, wl_21, r_22, z_23, h⟩ := gb_bd_s h
        refine gb_calli (va_runV (C := RX12) (As := [.int v1]) (rest := []) ⟨hx, hb, hml, hown, hq⟩ (mc_isNext l D cT tt b1 b hb1 n f w v1 f_20 wl_21 r_22 z_23) (cwV 1 hq (gb_gV w_1629 w_1631 s_7_0 w_14 w_1632) rfl rfl rfl (by decide +kernel) ⟨Nat.le_of_ble_eq_true rfl, Nat.le_of_ble_eq_true rfl⟩) (gb_preV (r := (RX12, TX12, 44)) (ci := 10) (q0 := 0) hSt hP rfl (gb_at b rfl) hS (fun q h => Nat.le_trans hb1 h.1) hP) rfl rfl hl.1 rfl (lv_room (Nat.le_of_ble_eq_true rfl)) dX12_tries_43 ⟨Nat.le_of_ble_eq_true rfl, Nat.le_of_ble_eq_true rfl⟩) hS (fun _ h => h) (fun _ h => h) (fun q_24 H locs hY hk hS => ?_)
        obtain ⟨hq_24, hP⟩ := hY
        replace hq_24 := hq_24.symm
        subst hq_24
        refine lv_istore_n (lv' := [(2, .int r_22), (0, .ref (b + 0)), (1, .int v1)]) hx hb dX12_tries_46 rfl hl (by decide) rfl (fun ls hl => ?_)
        refine lv_aload_n hx hb dX12_tries_47 rfl (lv_at hl 1 rfl) ?_
        refine va_get (ci := 10) (v := (.ref (b + 16))) (C := RX12) (T := TX12) (N := 44) hx hb hq i_X12 hown hK hP 0 (gb_at b rfl) rfl 31 (by decide) (hq _ w_1155) (fun _ h9 => h9) rfl dX12_tries_48 ?_
        refine lv_iload_n hx hb dX12_tries_51 rfl (lv_at hl 2 rfl) ?_
        obtain ⟨z_25, h⟩ := gb_ck_s h
        refine va_iald hx hb hK hP 16 0 (gb_at b rfl) rfl z_25 dX12_tries_52 ?_
        refine lv_topi (fun x_26 ex_26 => ?_)
        replace h := gb_lt_s ex_26 h
        refine lv_aload_n hx hb dX12_tries_53 rfl (lv_at hl 1 rfl) ?_
        obtain ⟨f_27, wl_28, r_29, z_30, h⟩ := gb_bd_s h
        refine gb_calli (va_runV (C := RX12) (As := []) (rest := [.int x_26]) ⟨hx, hb, hml, hown, hq⟩ (mc_paths l D cT tt b1 b hb1 n f_20 wl_21 f_27 wl_28 r_29 z_30) (cwV 0 hq (gb_gV w_1384 w_1386 s_4_4 w_14 w_1387) rfl rfl rfl (by decide +kernel) ⟨Nat.le_of_ble_eq_true rfl, Nat.le_of_ble_eq_true rfl⟩) (gb_preV (r := (RX12, TX12, 44)) (ci := 10) (q0 := 0) hSt hP rfl (gb_at b rfl) hS (fun q h => Nat.le_trans hb1 h.1) hP) rfl rfl hl.1 rfl (lv_room (Nat.le_of_ble_eq_true rfl)) dX12_tries_54 ⟨Nat.le_of_ble_eq_true rfl, Nat.le_of_ble_eq_true rfl⟩) hS (fun _ h => h) (fun _ h => h) (fun q_31 H locs hY hk hS => ?_)
        obtain ⟨hq_31, hP⟩ := hY
        replace hq_31 := hq_31.symm
        subst hq_31
        refine lv_icmp_lt (tgt := 66) hx hb dX12_tries_57 (by decide) (fun c_32 => ?_) (fun c_32 => ?_)
        · rw [if_pos c_32] at h
          refine lv_iload_n hx hb dX12_tries_66 rfl (lv_at hl 0 rfl) ?_
          refine lv_if_eq (tgt := 87) hx hb dX12_tries_67 (by decide) (fun c_33 => ?_) (fun c_33 => ?_)
          · rw [if_pos c_33] at h
            exact L87 _ ih _ _ _ _ _ _ _ h hP hS (lv_sub hl [1, 2, 0] rfl)
          · rw [if_neg c_33] at h
            refine lv_iload_n hx hb dX12_tries_70 rfl (lv_at hl 2 rfl) ?_
            refine lv_aload_n hx hb dX12_tries_71 rfl (lv_at hl 1 rfl) ?_
            obtain ⟨f_40, wl_41, r_42, z_43, h⟩ := gb_bd_s h
            refine gb_calli (va_runV (C := RX12) (As := []) (rest := [.int v1]) ⟨hx, hb, hml, hown, hq⟩ (mc_geese l D cT tt b1 b hb1 n f_27 wl_28 f_40 wl_41 r_42 z_43) (cwV 0 hq (gb_gV w_1396 w_1398 s_4_7 w_14 w_1399) rfl rfl rfl (by decide +kernel) ⟨Nat.le_of_ble_eq_true rfl, Nat.le_of_ble_eq_true rfl⟩) (gb_preV (r := (RX12, TX12, 44)) (ci := 10) (q0 := 0) hSt hP rfl (gb_at b rfl) hS (fun q h => Nat.le_trans hb1 h.1) hP) rfl rfl hl.1 rfl (lv_room (Nat.le_of_ble_eq_true rfl)) dX12_tries_72 ⟨Nat.le_of_ble_eq_true rfl, Nat.le_of_ble_eq_true rfl⟩) hS (fun _ h => h) (fun _ h => h) (fun q_44 H locs hY hk hS => ?_)
            obtain ⟨hq_44, hP⟩ := hY
            replace hq_44 := hq_44.symm
            subst hq_44
            refine lv_iconst (v := 1) hx hb dX12_tries_75 (by decide) ?_
            refine lv_isub hx hb dX12_tries_76 ?_
            refine lv_icmp_ne (tgt := 87) hx hb dX12_tries_77 (by decide) (fun c_45 => ?_) (fun c_45 => ?_)
            · rw [if_neg c_45] at h
              exact L87 _ ih _ _ _ _ _ _ _ h hP hS (lv_sub hl [1, 2, 0] rfl)
            · rw [if_pos c_45] at h
              refine lv_aload_n hx hb dX12_tries_80 rfl (lv_at hl 1 rfl) ?_
              obtain ⟨f_46, wl_47, r_48, z_49, h⟩ := gb_bd_s h
              refine gb_callv (va_runV (C := RX12) (As := []) (rest := []) ⟨hx, hb, hml, hown, hq⟩ (mc_counts l D cT tt b1 b hb1 n f_40 wl_41 f_46 wl_47 r_48 z_49) (cwV 0 hq (gb_gV w_1621 w_1623 s_6_14 w_14 w_1624) rfl rfl rfl (by decide +kernel) ⟨Nat.le_of_ble_eq_true rfl, Nat.le_of_ble_eq_true rfl⟩) (gb_preV (r := (RX12, TX12, 44)) (ci := 10) (q0 := 0) hSt hP rfl (gb_at b rfl) hS (fun q h => Nat.le_trans hb1 h.1) hP) rfl rfl hl.1 rfl (lv_room (Nat.le_of_ble_eq_true rfl)) dX12_tries_81 ⟨Nat.le_of_ble_eq_true rfl, Nat.le_of_ble_eq_true rfl⟩) hS (fun _ h => h) (fun _ h => h) (fun H locs hY hk hS => ?_)
              have hP := hY
              refine lv_goto (tgt := 109) hx hb dX12_tries_84 (by decide) ?_
              refine lv_goto (tgt := 37) hx hb dX12_tries_109 (by decide) ?_
              exact ih _ _ _ _ _ _ h hP hS (lv_sub hl [1, 2] rfl)
        · rw [if_neg c_32] at h
          obtain ⟨x_51, ex_51⟩ : ∃ q, q = (v1 + (-1)) := ⟨_, rfl⟩
          replace h := gb_lt_s ex_51 h
          refine lv_iinc (v := x_51) (lv' := [(1, .int x_51), (2, .int r_22), (0, .ref (b + 0))]) hx hb dX12_tries_60 hl (k := 2) rfl (by rw [ex_51]; rfl) (by decide) rfl (fun ls hl => ?_)
          refine lv_goto (tgt := 109) hx hb dX12_tries_63 (by decide) ?_
          refine lv_goto (tgt := 37) hx hb dX12_tries_109 (by decide) ?_
          exact ih _ _ _ _ _ _ h hP hS (lv_sub hl [2, 0] rfl)
  unfold ms_tries at h
  refine lv_aload_n hx hb dX12_tries_0 rfl (lv_at hl 0 rfl) ?_
  obtain ⟨f_1, wl_2, r_3, z_4, h⟩ := gb_bd_s h
  refine gb_callv (va_runV (C := RX12) (As := []) (rest := []) ⟨hx, hb, hml, hown, hq⟩ (mc_measures l D cT tt b1 b hb1 n f w f_1 wl_2 r_3 z_4) (cwV 0 hq (gb_gV w_1528 w_1530 s_5_15 w_14 w_1531) rfl rfl rfl (by decide +kernel) ⟨Nat.le_of_ble_eq_true rfl, Nat.le_of_ble_eq_true rfl⟩) (gb_preV (r := (RX12, TX12, 44)) (ci := 10) (q0 := 0) hSt hP rfl (gb_at b rfl) hS (fun q h => Nat.le_trans hb1 h.1) hP) rfl rfl hl.1 rfl (lv_room (Nat.le_of_ble_eq_true rfl)) dX12_tries_1 ⟨Nat.le_of_ble_eq_true rfl, Nat.le_of_ble_eq_true rfl⟩) hS (fun _ h => h) (fun _ h => h) (fun H locs hY hk hS => ?_)
  have hP := hY
  refine lv_aload_n hx hb dX12_tries_4 rfl (lv_at hl 0 rfl) ?_
  obtain ⟨f_6, wl_7, r_8, z_9, h⟩ := gb_bd_s h
  refine gb_callv (va_runV (C := RX12) (As := []) (rest := []) ⟨hx, hb, hml, hown, hq⟩ (mc_opens l D cT tt b1 b hb1 n f_1 wl_2 f_6 wl_7 r_8 z_9) (cwV 0 hq (gb_gV w_1617 w_1619 s_6_13 w_14 w_1620) rfl rfl rfl (by decide +kernel) ⟨Nat.le_of_ble_eq_true rfl, Nat.le_of_ble_eq_true rfl⟩) (gb_preV (r := (RX12, TX12, 44)) (ci := 10) (q0 := 0) hSt hP rfl (gb_at b rfl) hS (fun q h => Nat.le_trans hb1 h.1) hP) rfl rfl hl.1 rfl (lv_room (Nat.le_of_ble_eq_true rfl)) dX12_tries_5 ⟨Nat.le_of_ble_eq_true rfl, Nat.le_of_ble_eq_true rfl⟩) hS (fun _ h => h) (fun _ h => h) (fun H locs hY hk hS => ?_)
  have hP := hY
  refine lv_aload_n hx hb dX12_tries_8 rfl (lv_at hl 0 rfl) ?_
  obtain ⟨f_11, wl_12, r_13, z_14, h⟩ := gb_bd_s h
  refine gb_calli (va_runV (C := RX12) (As := []) (rest := []) ⟨hx, hb, hml, hown, hq⟩ (mc_geese l D cT tt b1 b hb1 n f_6 wl_7 f_11 wl_12 r_13 z_14) (cwV 0 hq (gb_gV w_1396 w_1398 s_4_7 w_14 w_1399) rfl rfl rfl (by decide +kernel) ⟨Nat.le_of_ble_eq_true rfl, Nat.le_of_ble_eq_true rfl⟩) (gb_preV (r := (RX12, TX12, 44)) (ci := 10) (q0 := 0) hSt hP rfl (gb_at b rfl) hS (fun q h => Nat.le_trans hb1 h.1) hP) rfl rfl hl.1 rfl (lv_room (Nat.le_of_ble_eq_true rfl)) dX12_tries_9 ⟨Nat.le_of_ble_eq_true rfl, Nat.le_of_ble_eq_true rfl⟩) hS (fun _ h => h) (fun _ h => h) (fun q_15 H locs hY hk hS => ?_)
  obtain ⟨hq_15, hP⟩ := hY
  replace hq_15 := hq_15.symm
  subst hq_15
  refine lv_if_ne (tgt := 20) hx hb dX12_tries_12 (by decide) (fun c_16 => ?_) (fun c_16 => ?_)
  · rw [if_neg c_16] at h
    refine lv_iconst (v := 0) hx hb dX12_tries_20 (by decide) ?_
    refine lv_istore_n (lv' := [(1, .int 0), (0, .ref (b + 0))]) hx hb dX12_tries_21 rfl hl (by decide) rfl (fun ls hl => ?_)
    refine lv_aload_n hx hb dX12_tries_22 rfl (lv_at hl 1 rfl) ?_
    refine va_get (ci := 10) (v := (.ref (b + 16))) (C := RX12) (T := TX12) (N := 44) hx hb hq i_X12 hown hK hP 0 (gb_at b rfl) rfl 31 (by decide) (hq _ w_1155) (fun _ h9 => h9) rfl dX12_tries_23 ?_
    refine lv_iconst (v := 0) hx hb dX12_tries_26 (by decide) ?_
    refine lv_bipush (v := (-2)) hx hb dX12_tries_27 (by decide) ?_
    refine gb_iast (x := (-2)) hx hb hK hP (fun k h => ⟨Nat.le_add_right b k, Nat.add_lt_add_left h b⟩) hS rfl 16 0 rfl rfl (gb_in rfl) dX12_tries_29 (fun H locs hP hz_ hS => ?_)
    obtain ⟨f_17, ef_17⟩ : ∃ q, q = (gb_u f_11 16 (upd (f_11 16) (Int32.toNatClampNeg 0) (-2))) := ⟨_, rfl⟩
    replace hP : va_P D vwCl (gb_wl b (gb_MW cT b f_17 wl_12)) H := by rw [ef_17]; exact hP
    replace h := gb_lt_s ef_17 h
    refine lv_aload_n hx hb dX12_tries_30 rfl (lv_at hl 1 rfl) ?_
    refine va_get (ci := 10) (v := (.ref (b + 17))) (C := RX12) (T := TX12) (N := 44) hx hb hq i_X12 hown hK hP 0 (gb_at b rfl) rfl 32 (by decide) (hq _ w_1156) (fun _ h9 => h9) rfl dX12_tries_31 ?_
    refine lv_iconst (v := 0) hx hb dX12_tries_34 (by decide) ?_
    refine lv_iconst (v := 0) hx hb dX12_tries_35 (by decide) ?_
    refine va_zast (x := 0) hx hb hK hP (gb_D (fun k h => ⟨Nat.le_add_right b k, Nat.add_lt_add_left h b⟩)) hS 17 2 (gb_at b rfl) rfl (gb_in rfl) dX12_tries_36 (fun H locs hP hD hS => ?_)
    rw [gb_set] at hP
    obtain ⟨f_18, ef_18⟩ : ∃ q, q = (gb_u f_17 17 (upd (f_17 17) (Int32.toNatClampNeg 0) (vp_nar .boolean 0))) := ⟨_, rfl⟩
    replace hP : va_P D vwCl (gb_wl b (gb_MW cT b f_18 wl_12)) H := by rw [ef_18]; exact hP
    replace h := gb_lt_s ef_18 h
    exact L37 n _ _ _ _ _ _ h hP hS (lv_sub hl [1, 0] rfl)
  · rw [if_pos c_16] at h
    refine lv_aload_n hx hb dX12_tries_15 rfl (lv_at hl 0 rfl) ?_
    obtain ⟨f_52, wl_53, r_54, z_55, h⟩ := gb_bd_s h
    refine gb_callv (va_runV (C := RX12) (As := []) (rest := []) ⟨hx, hb, hml, hown, hq⟩ (mc_counts l D cT tt b1 b hb1 n f_11 wl_12 f_52 wl_53 r_54 z_55) (cwV 0 hq (gb_gV w_1621 w_1623 s_6_14 w_14 w_1624) rfl rfl rfl (by decide +kernel) ⟨Nat.le_of_ble_eq_true rfl, Nat.le_of_ble_eq_true rfl⟩) (gb_preV (r := (RX12, TX12, 44)) (ci := 10) (q0 := 0) hSt hP rfl (gb_at b rfl) hS (fun q h => Nat.le_trans hb1 h.1) hP) rfl rfl hl.1 rfl (lv_room (Nat.le_of_ble_eq_true rfl)) dX12_tries_16 ⟨Nat.le_of_ble_eq_true rfl, Nat.le_of_ble_eq_true rfl⟩) hS (fun _ h => h) (fun _ h => h) (fun H locs hY hk hS => ?_)
    have hP := hY
    obtain ⟨e1, e2, -⟩ := gb_eq3 h
    exact W.vret hx hb hr (fun t ht hW => gb_rv ht (by rw [← e1, ← e2]; exact hP) hS) hS.2.2 dX12_tries_19
theorem dX12_areSeen_0 : decode cX12_areSeen 0 = .ok (.aload_n 0, 1) := dc_42 (show ((cX12_areSeen.data.toList.drop 0).take 1).map UInt8.toNat = [42] by decide +kernel)
theorem dX12_areSeen_1 : decode cX12_areSeen 1 = .ok (.iload_n 1, 1) := dc_27 (show ((cX12_areSeen.data.toList.drop 1).take 1).map UInt8.toNat = [27] by decide +kernel)
theorem dX12_areSeen_2 : decode cX12_areSeen 2 = .ok (.invokevirtual 205, 3) := dc_182 (show ((cX12_areSeen.data.toList.drop 2).take 3).map UInt8.toNat = [182, 0, 205] by decide +kernel) rfl
theorem dX12_areSeen_5 : decode cX12_areSeen 5 = .ok (.ifCond .eq 12, 3) := dc_153 (show ((cX12_areSeen.data.toList.drop 5).take 3).map UInt8.toNat = [153, 0, 12] by decide +kernel) rfl
theorem dX12_areSeen_17 : decode cX12_areSeen 17 = .ok (.iconst 0, 1) := dc_3 (show ((cX12_areSeen.data.toList.drop 17).take 1).map UInt8.toNat = [3] by decide +kernel)
theorem dX12_areSeen_18 : decode cX12_areSeen 18 = .ok (.ireturn, 1) := dc_172 (show ((cX12_areSeen.data.toList.drop 18).take 1).map UInt8.toNat = [172] by decide +kernel)
theorem dX12_areSeen_8 : decode cX12_areSeen 8 = .ok (.aload_n 0, 1) := dc_42 (show ((cX12_areSeen.data.toList.drop 8).take 1).map UInt8.toNat = [42] by decide +kernel)
theorem dX12_areSeen_9 : decode cX12_areSeen 9 = .ok (.iconst 3, 1) := dc_6 (show ((cX12_areSeen.data.toList.drop 9).take 1).map UInt8.toNat = [6] by decide +kernel)
theorem dX12_areSeen_10 : decode cX12_areSeen 10 = .ok (.iload_n 2, 1) := dc_28 (show ((cX12_areSeen.data.toList.drop 10).take 1).map UInt8.toNat = [28] by decide +kernel)
theorem dX12_areSeen_11 : decode cX12_areSeen 11 = .ok (.invokevirtual 171, 3) := dc_182 (show ((cX12_areSeen.data.toList.drop 11).take 3).map UInt8.toNat = [182, 0, 171] by decide +kernel) rfl
theorem dX12_areSeen_14 : decode cX12_areSeen 14 = .ok (.ifCond .ne 5, 3) := dc_154 (show ((cX12_areSeen.data.toList.drop 14).take 3).map UInt8.toNat = [154, 0, 5] by decide +kernel) rfl
theorem dX12_areSeen_19 : decode cX12_areSeen 19 = .ok (.aload_n 0, 1) := dc_42 (show ((cX12_areSeen.data.toList.drop 19).take 1).map UInt8.toNat = [42] by decide +kernel)
theorem dX12_areSeen_20 : decode cX12_areSeen 20 = .ok (.iconst 3, 1) := dc_6 (show ((cX12_areSeen.data.toList.drop 20).take 1).map UInt8.toNat = [6] by decide +kernel)
theorem dX12_areSeen_21 : decode cX12_areSeen 21 = .ok (.iload_n 2, 1) := dc_28 (show ((cX12_areSeen.data.toList.drop 21).take 1).map UInt8.toNat = [28] by decide +kernel)
theorem dX12_areSeen_22 : decode cX12_areSeen 22 = .ok (.invokestatic 190, 3) := dc_184 (show ((cX12_areSeen.data.toList.drop 22).take 3).map UInt8.toNat = [184, 0, 190] by decide +kernel) rfl
theorem dX12_areSeen_25 : decode cX12_areSeen 25 = .ok (.putfield 341, 3) := dc_181 (show ((cX12_areSeen.data.toList.drop 25).take 3).map UInt8.toNat = [181, 1, 85] by decide +kernel) rfl
theorem dX12_areSeen_28 : decode cX12_areSeen 28 = .ok (.iconst 1, 1) := dc_4 (show ((cX12_areSeen.data.toList.drop 28).take 1).map UInt8.toNat = [4] by decide +kernel)
theorem dX12_areSeen_29 : decode cX12_areSeen 29 = .ok (.ireturn, 1) := dc_172 (show ((cX12_areSeen.data.toList.drop 29).take 1).map UInt8.toNat = [172] by decide +kernel)
def ms_areSeen (n : Nat) (f : gb_F) (w : Int64) (p1 : Int32) (p2 : Int32) : gb_MR Int32 := gb_bd (ms_isBorder n f w p1) (fun f_1 wl_2 r_3 => (if r_3 = 0 then some (f_1, wl_2, 0) else gb_bd (ms_isOf n f_1 wl_2 3 p2) (fun f_7 wl_8 r_9 => (if r_9 = 0 then some (f_7, wl_8, 0) else gb_bd (ms_placeOf n f_7 wl_8 3 p2) (fun f_13 wl_14 r_15 => gb_lt (gb_u f_13 0 (upd (f_13 0) 29 r_15)) (fun f_18 => some (f_18, wl_14, 1)))))))
set_option maxHeartbeats 8000000 in
set_option maxRecDepth 100000 in
theorem mc_areSeen (l : Launch) (D : va_G) (cT : Nat → ClassId) (tt : Nat → Nat) (b1 b : Nat) (hb1 : b1 ≤ b) (n : Nat) (f : gb_F) (w : Int64) (p1 : Int32) (p2 : Int32) (fE : gb_F) (wE : Int64) (rE : Int32) (h : ms_areSeen n f w p1 p2 = some (fE, wE, rE)) : Met l yX12_areSeen (.code yX12_areSeen cX12_areSeen 3 (some FieldType.boolean) :: gb_wA) ({ frames := 3, cells := 0, slots := 0, locals := 65 }) (gb_Pc D cT tt b1 [.ref (b + 0), .int p1, .int p2] (fun h => va_P D vwCl (gb_wl b (gb_MW cT b f w)) h)) (gb_Qi (fun r h => r = rE ∧ va_P D vwCl (gb_wl b (gb_MW cT b fE wE)) h) (gb_fr b 22)) 0 0 (gb_fr b 22) := by
  refine Met.ofW (cc := cX12_areSeen) (maxL := 3) (ret := (some FieldType.boolean)) (by decide) rfl ?_
  intro p e s m args below meth c s₁ B hml hv
  obtain ⟨rfl, hSt, hP⟩ := hv
  have hx := B.exec
  have hb := B.bytes
  have hr := B.returns
  have hts := atoms_spec (ws := .code yX12_areSeen cX12_areSeen 3 (some FieldType.boolean) :: gb_wA) B.pre
  have hq : ∀ w ∈ gb_wA, w.before _ s = true := fun w h => hts w (List.mem_cons_of_mem _ h)
  have hown : s.vm.findClass RX12 = some m.cls := findClass_of_methodNamed B.named
  have hlocks := B.notSynchronized
  clear B hts
  have hK := hSt.1
  have hS : va_S (gb_fr b 22) s.heap s.heap [] := va_S.rf
  have hl := lv_entry ([.ref (b + 0), .int p1, .int p2]) (n := 3) (Nat.le_of_ble_eq_true rfl)
  rw [lg_entry_eq]
  generalize (lg_sl ([.ref (b + 0), .int p1, .int p2]) ++ List.replicate (3 - (lg_sl ([.ref (b + 0), .int p1, .int p2])).length) Slot.unset).toArray = ls at hl ⊢
  replace hl : lv_has ls 3 [(0, .ref (b + 0)), (1, .int p1), (2, .int p2)] := hl
  unfold ms_areSeen at h
  refine lv_aload_n hx hb dX12_areSeen_0 rfl (lv_at hl 0 rfl) ?_
  refine lv_iload_n hx hb dX12_areSeen_1 rfl (lv_at hl 1 rfl) ?_
  obtain ⟨f_1, wl_2, r_3, z_4, h⟩ := gb_bd_s h
  refine gb_calli (va_runV (C := RX12) (As := [.int p1]) (rest := []) ⟨hx, hb, hml, hown, hq⟩ (mc_isBorder l D cT tt b1 b hb1 n f w p1 f_1 wl_2 r_3 z_4) (cwV 1 hq (gb_gV w_1372 w_1374 s_4_1 w_14 w_1375) rfl rfl rfl (by decide +kernel) ⟨Nat.le_of_ble_eq_true rfl, Nat.le_of_ble_eq_true rfl⟩) (gb_preV (r := (RX12, TX12, 44)) (ci := 10) (q0 := 0) hSt hP rfl (gb_at b rfl) hS (fun q h => Nat.le_trans hb1 h.1) hP) rfl rfl hl.1 rfl (lv_room (Nat.le_of_ble_eq_true rfl)) dX12_areSeen_2 ⟨Nat.le_of_ble_eq_true rfl, Nat.le_of_ble_eq_true rfl⟩) hS (fun _ h => h) (fun _ h => h) (fun q_5 H locs hY hk hS => ?_)
  obtain ⟨hq_5, hP⟩ := hY
  replace hq_5 := hq_5.symm
  subst hq_5
  refine lv_if_eq (tgt := 17) hx hb dX12_areSeen_5 (by decide) (fun c_6 => ?_) (fun c_6 => ?_)
  · rw [if_pos c_6] at h
    refine lv_iconst (v := 0) hx hb dX12_areSeen_17 (by decide) ?_
    obtain ⟨e1, e2, e3⟩ := gb_eq3 h
    exact W.zret (v := 0) hx hb hr (by decide) (fun t ht hW => gb_ri ht ⟨e3, by rw [← e1, ← e2]; exact hP⟩ hS) hS.2.2 dX12_areSeen_18
  · rw [if_neg c_6] at h
    refine lv_aload_n hx hb dX12_areSeen_8 rfl (lv_at hl 0 rfl) ?_
    refine lv_iconst (v := 3) hx hb dX12_areSeen_9 (by decide) ?_
    refine lv_iload_n hx hb dX12_areSeen_10 rfl (lv_at hl 2 rfl) ?_
    obtain ⟨f_7, wl_8, r_9, z_10, h⟩ := gb_bd_s h
    refine gb_calli (va_runV (C := RX12) (As := [.int 3, .int p2]) (rest := []) ⟨hx, hb, hml, hown, hq⟩ (mc_isOf l D cT tt b1 b hb1 n f_1 wl_2 3 p2 f_7 wl_8 r_9 z_10) (cwV 2 hq (gb_gV w_1272 w_1274 s_3_0 w_14 w_1275) rfl rfl rfl (by decide +kernel) ⟨Nat.le_of_ble_eq_true rfl, Nat.le_of_ble_eq_true rfl⟩) (gb_preV (r := (RX12, TX12, 44)) (ci := 10) (q0 := 0) hSt hP rfl (gb_at b rfl) hS (fun q h => Nat.le_trans hb1 h.1) hP) rfl rfl hl.1 rfl (lv_room (Nat.le_of_ble_eq_true rfl)) dX12_areSeen_11 ⟨Nat.le_of_ble_eq_true rfl, Nat.le_of_ble_eq_true rfl⟩) hS (fun _ h => h) (fun _ h => h) (fun q_11 H locs hY hk hS => ?_)
    obtain ⟨hq_11, hP⟩ := hY
    replace hq_11 := hq_11.symm
    subst hq_11
    refine lv_if_ne (tgt := 19) hx hb dX12_areSeen_14 (by decide) (fun c_12 => ?_) (fun c_12 => ?_)
    · rw [if_neg c_12] at h
      refine lv_aload_n hx hb dX12_areSeen_19 rfl (lv_at hl 0 rfl) ?_
      refine lv_iconst (v := 3) hx hb dX12_areSeen_20 (by decide) ?_
      refine lv_iload_n hx hb dX12_areSeen_21 rfl (lv_at hl 2 rfl) ?_
      obtain ⟨f_13, wl_14, r_15, z_16, h⟩ := gb_bd_s h
      refine gb_calli (va_runS (As := [.int 3, .int p2]) (rest := [.ref (b + 0)]) ⟨hx, hb, hml, hown, hq⟩ (mc_placeOf l D cT tt b1 b hb1 n f_7 wl_8 3 p2 f_13 wl_14 r_15 z_16) (va_cwS 2 hq (gb_gS w_1361 w_1362 w_14 w_1363) rfl rfl rfl (by decide +kernel) ⟨Nat.le_of_ble_eq_true rfl, Nat.le_of_ble_eq_true rfl⟩) (gb_preS hSt hS (fun q h => Nat.le_trans hb1 h.1) hP) rfl rfl hl.1 rfl (lv_room (Nat.le_of_ble_eq_true rfl)) dX12_areSeen_22 ⟨Nat.le_of_ble_eq_true rfl, Nat.le_of_ble_eq_true rfl⟩) hS (fun _ h => h) (fun _ h => h) (fun q_17 H locs hY hk hS => ?_)
      obtain ⟨hq_17, hP⟩ := hY
      replace hq_17 := hq_17.symm
      subst hq_17
      refine gb_put (ci := 10) (v := (.int r_15)) (ty := .int) (C := RX12) (T := TX12) (N := 44) hx hb hq i_X12 tyX12 tyX12_ok nmX12 hown hK hP (fun k h => ⟨Nat.le_add_right b k, Nat.add_lt_add_left h b⟩) hS rfl 0 rfl rfl 29 (by decide) (hq _ w_1153) (fun _ h9 => h9) rfl (by decide +kernel) rfl rfl (Nat.le_of_ble_eq_true rfl) dX12_areSeen_25 (fun H locs hP hz_ hS => ?_)
      obtain ⟨f_18, ef_18⟩ : ∃ q, q = (gb_u f_13 0 (upd (f_13 0) 29 r_15)) := ⟨_, rfl⟩
      replace hP : va_P D vwCl (gb_wl b (gb_MW cT b f_18 wl_14)) H := by rw [ef_18]; exact hP
      replace h := gb_lt_s ef_18 h
      refine lv_iconst (v := 1) hx hb dX12_areSeen_28 (by decide) ?_
      obtain ⟨e1, e2, e3⟩ := gb_eq3 h
      exact W.zret (v := 1) hx hb hr (by decide) (fun t ht hW => gb_ri ht ⟨e3, by rw [← e1, ← e2]; exact hP⟩ hS) hS.2.2 dX12_areSeen_29
    · rw [if_pos c_12] at h
      refine lv_iconst (v := 0) hx hb dX12_areSeen_17 (by decide) ?_
      obtain ⟨e1, e2, e3⟩ := gb_eq3 h
      exact W.zret (v := 0) hx hb hr (by decide) (fun t ht hW => gb_ri ht ⟨e3, by rw [← e1, ← e2]; exact hP⟩ hS) hS.2.2 dX12_areSeen_18
theorem dX12_fits_0 : decode cX12_fits 0 = .ok (.aload_n 0, 1) := dc_42 (show ((cX12_fits.data.toList.drop 0).take 1).map UInt8.toNat = [42] by decide +kernel)
theorem dX12_fits_1 : decode cX12_fits 1 = .ok (.iload_n 1, 1) := dc_27 (show ((cX12_fits.data.toList.drop 1).take 1).map UInt8.toNat = [27] by decide +kernel)
theorem dX12_fits_2 : decode cX12_fits 2 = .ok (.iload_n 2, 1) := dc_28 (show ((cX12_fits.data.toList.drop 2).take 1).map UInt8.toNat = [28] by decide +kernel)
theorem dX12_fits_3 : decode cX12_fits 3 = .ok (.invokevirtual 373, 3) := dc_182 (show ((cX12_fits.data.toList.drop 3).take 3).map UInt8.toNat = [182, 1, 117] by decide +kernel) rfl
theorem w_1611 : (Cond.code ({ cls := "GooseBorderModel", name := "areSeen", desc := "(II)Z" } : MethodName) prog_14_method_95_code (3 : Nat) (Option.some FieldType.boolean)) ∈ gb_wA := gb_t7 171 rfl rfl
theorem w_1608 : (Cond.methodLink "GooseBorderModel" (373 : Nat) ({ cls := "GooseBorderModel", name := "areSeen", desc := "(II)Z" } : MethodName)) ∈ gb_wA := gb_t7 168 rfl rfl
theorem w_1610 : (Cond.instanceMethod ({ cls := "GooseBorderModel", name := "areSeen", desc := "(II)Z" } : MethodName)) ∈ gb_wA := gb_t7 170 rfl rfl
theorem s_6_11 : Cond.selects "GooseBorderModel" (⟨"GooseBorderModel", "areSeen", "(II)Z"⟩ : MethodName) (⟨"GooseBorderModel", "areSeen", "(II)Z"⟩ : MethodName) ∈ gb_wA := gb_s6 11 rfl rfl
theorem dX12_fits_6 : decode cX12_fits 6 = .ok (.ifCond .ne 7, 3) := dc_154 (show ((cX12_fits.data.toList.drop 6).take 3).map UInt8.toNat = [154, 0, 7] by decide +kernel) rfl
theorem dX12_fits_13 : decode cX12_fits 13 = .ok (.aload_n 0, 1) := dc_42 (show ((cX12_fits.data.toList.drop 13).take 1).map UInt8.toNat = [42] by decide +kernel)
theorem dX12_fits_14 : decode cX12_fits 14 = .ok (.invokevirtual 378, 3) := dc_182 (show ((cX12_fits.data.toList.drop 14).take 3).map UInt8.toNat = [182, 1, 122] by decide +kernel) rfl
theorem w_1616 : (Cond.code ({ cls := "GooseBorderModel", name := "tries", desc := "()V" } : MethodName) prog_14_method_94_code (3 : Nat) (Option.none : Option FieldType)) ∈ gb_wA := gb_t7 176 rfl rfl
theorem w_1613 : (Cond.methodLink "GooseBorderModel" (378 : Nat) ({ cls := "GooseBorderModel", name := "tries", desc := "()V" } : MethodName)) ∈ gb_wA := gb_t7 173 rfl rfl
theorem w_1615 : (Cond.instanceMethod ({ cls := "GooseBorderModel", name := "tries", desc := "()V" } : MethodName)) ∈ gb_wA := gb_t7 175 rfl rfl
theorem s_6_12 : Cond.selects "GooseBorderModel" (⟨"GooseBorderModel", "tries", "()V"⟩ : MethodName) (⟨"GooseBorderModel", "tries", "()V"⟩ : MethodName) ∈ gb_wA := gb_s6 12 rfl rfl
theorem dX12_fits_17 : decode cX12_fits 17 = .ok (.aload_n 0, 1) := dc_42 (show ((cX12_fits.data.toList.drop 17).take 1).map UInt8.toNat = [42] by decide +kernel)
theorem dX12_fits_18 : decode cX12_fits 18 = .ok (.getfield 351, 3) := dc_180 (show ((cX12_fits.data.toList.drop 18).take 3).map UInt8.toNat = [180, 1, 95] by decide +kernel) rfl
theorem dX12_fits_21 : decode cX12_fits 21 = .ok (.lreturn, 1) := dc_173 (show ((cX12_fits.data.toList.drop 21).take 1).map UInt8.toNat = [173] by decide +kernel)
theorem dX12_fits_9 : decode cX12_fits 9 = .ok (.ldc2_w 376, 3) := dc_20 (show ((cX12_fits.data.toList.drop 9).take 3).map UInt8.toNat = [20, 1, 120] by decide +kernel) rfl
theorem w_1612 : (Cond.constantLong "GooseBorderModel" (376 : Nat) (-1 : Int64)) ∈ gb_wA := gb_t7 172 rfl rfl
theorem dX12_fits_12 : decode cX12_fits 12 = .ok (.lreturn, 1) := dc_173 (show ((cX12_fits.data.toList.drop 12).take 1).map UInt8.toNat = [173] by decide +kernel)
def ms_fits (n : Nat) (f : gb_F) (w : Int64) (p1 : Int32) (p2 : Int32) : gb_MR Int64 := gb_bd (ms_areSeen n f w p1 p2) (fun f_1 wl_2 r_3 => (if r_3 = 0 then some (f_1, wl_2, (-1)) else gb_bd (ms_tries n f_1 wl_2) (fun f_7 wl_8 _ => some (f_7, wl_8, wl_8))))
set_option maxHeartbeats 8000000 in
set_option maxRecDepth 100000 in
theorem mc_fits (l : Launch) (D : va_G) (cT : Nat → ClassId) (tt : Nat → Nat) (b1 b : Nat) (hb1 : b1 ≤ b) (n : Nat) (f : gb_F) (w : Int64) (p1 : Int32) (p2 : Int32) (fE : gb_F) (wE : Int64) (rE : Int64) (h : ms_fits n f w p1 p2 = some (fE, wE, rE)) : Met l yX12_fits (.code yX12_fits cX12_fits 3 (some FieldType.long) :: gb_wA) ({ frames := 6, cells := 0, slots := 0, locals := 136 }) (gb_Pc D cT tt b1 [.ref (b + 0), .int p1, .int p2] (fun h => va_P D vwCl (gb_wl b (gb_MW cT b f w)) h)) (gb_Ql (fun r h => r = rE ∧ va_P D vwCl (gb_wl b (gb_MW cT b fE wE)) h) (gb_fr b 22)) 0 0 (gb_fr b 22) := by
  refine Met.ofW (cc := cX12_fits) (maxL := 3) (ret := (some FieldType.long)) (by decide) rfl ?_
  intro p e s m args below meth c s₁ B hml hv
  obtain ⟨rfl, hSt, hP⟩ := hv
  have hx := B.exec
  have hb := B.bytes
  have hr := B.returns
  have hts := atoms_spec (ws := .code yX12_fits cX12_fits 3 (some FieldType.long) :: gb_wA) B.pre
  have hq : ∀ w ∈ gb_wA, w.before _ s = true := fun w h => hts w (List.mem_cons_of_mem _ h)
  have hown : s.vm.findClass RX12 = some m.cls := findClass_of_methodNamed B.named
  have hlocks := B.notSynchronized
  clear B hts
  have hK := hSt.1
  have hS : va_S (gb_fr b 22) s.heap s.heap [] := va_S.rf
  have hl := lv_entry ([.ref (b + 0), .int p1, .int p2]) (n := 3) (Nat.le_of_ble_eq_true rfl)
  rw [lg_entry_eq]
  generalize (lg_sl ([.ref (b + 0), .int p1, .int p2]) ++ List.replicate (3 - (lg_sl ([.ref (b + 0), .int p1, .int p2])).length) Slot.unset).toArray = ls at hl ⊢
  replace hl : lv_has ls 3 [(0, .ref (b + 0)), (1, .int p1), (2, .int p2)] := hl
  unfold ms_fits at h
  refine lv_aload_n hx hb dX12_fits_0 rfl (lv_at hl 0 rfl) ?_
  refine lv_iload_n hx hb dX12_fits_1 rfl (lv_at hl 1 rfl) ?_
  refine lv_iload_n hx hb dX12_fits_2 rfl (lv_at hl 2 rfl) ?_
  obtain ⟨f_1, wl_2, r_3, z_4, h⟩ := gb_bd_s h
  refine gb_calli (va_runV (C := RX12) (As := [.int p1, .int p2]) (rest := []) ⟨hx, hb, hml, hown, hq⟩ (mc_areSeen l D cT tt b1 b hb1 n f w p1 p2 f_1 wl_2 r_3 z_4) (cwV 2 hq (gb_gV w_1608 w_1610 s_6_11 w_14 w_1611) rfl rfl rfl (by decide +kernel) ⟨Nat.le_of_ble_eq_true rfl, Nat.le_of_ble_eq_true rfl⟩) (gb_preV (r := (RX12, TX12, 44)) (ci := 10) (q0 := 0) hSt hP rfl (gb_at b rfl) hS (fun q h => Nat.le_trans hb1 h.1) hP) rfl rfl hl.1 rfl (lv_room (Nat.le_of_ble_eq_true rfl)) dX12_fits_3 ⟨Nat.le_of_ble_eq_true rfl, Nat.le_of_ble_eq_true rfl⟩) hS (fun _ h => h) (fun _ h => h) (fun q_5 H locs hY hk hS => ?_)
  obtain ⟨hq_5, hP⟩ := hY
  replace hq_5 := hq_5.symm
  subst hq_5
  refine lv_if_ne (tgt := 13) hx hb dX12_fits_6 (by decide) (fun c_6 => ?_) (fun c_6 => ?_)
  · rw [if_neg c_6] at h
    refine lv_aload_n hx hb dX12_fits_13 rfl (lv_at hl 0 rfl) ?_
    obtain ⟨f_7, wl_8, r_9, z_10, h⟩ := gb_bd_s h
    refine gb_callv (va_runV (C := RX12) (As := []) (rest := []) ⟨hx, hb, hml, hown, hq⟩ (mc_tries l D cT tt b1 b hb1 n f_1 wl_2 f_7 wl_8 r_9 z_10) (cwV 0 hq (gb_gV w_1613 w_1615 s_6_12 w_14 w_1616) rfl rfl rfl (by decide +kernel) ⟨Nat.le_of_ble_eq_true rfl, Nat.le_of_ble_eq_true rfl⟩) (gb_preV (r := (RX12, TX12, 44)) (ci := 10) (q0 := 0) hSt hP rfl (gb_at b rfl) hS (fun q h => Nat.le_trans hb1 h.1) hP) rfl rfl hl.1 rfl (lv_room (Nat.le_of_ble_eq_true rfl)) dX12_fits_14 ⟨Nat.le_of_ble_eq_true rfl, Nat.le_of_ble_eq_true rfl⟩) hS (fun _ h => h) (fun _ h => h) (fun H locs hY hk hS => ?_)
    have hP := hY
    refine lv_aload_n hx hb dX12_fits_17 rfl (lv_at hl 0 rfl) ?_
    refine va_get (ci := 10) (v := (.long wl_8)) (C := RX12) (T := TX12) (N := 44) hx hb hq i_X12 hown hK hP 0 (gb_at b rfl) rfl 33 (by decide) (hq _ w_1157) (fun _ h9 => h9) rfl dX12_fits_18 ?_
    obtain ⟨e1, e2, e3⟩ := gb_eq3 h
    exact W.lret (v := wl_8) hx hb hr (fun t ht hW => gb_rl ht ⟨e3, by rw [← e1, ← e2]; exact hP⟩ hS) hS.2.2 dX12_fits_21
  · rw [if_pos c_6] at h
    refine lv_ldc2 (v := (-1)) hx hb hown (hq _ w_1612) dX12_fits_9 ?_
    obtain ⟨e1, e2, e3⟩ := gb_eq3 h
    exact W.lret (v := (-1)) hx hb hr (fun t ht hW => gb_rl ht ⟨e3, by rw [← e1, ← e2]; exact hP⟩ hS) hS.2.2 dX12_fits_12
theorem dX12_toe_0 : decode cX12_toe 0 = .ok (.aload_n 0, 1) := dc_42 (show ((cX12_toe.data.toList.drop 0).take 1).map UInt8.toNat = [42] by decide +kernel)
theorem dX12_toe_1 : decode cX12_toe 1 = .ok (.invokevirtual 306, 3) := dc_182 (show ((cX12_toe.data.toList.drop 1).take 3).map UInt8.toNat = [182, 1, 50] by decide +kernel) rfl
theorem dX12_toe_4 : decode cX12_toe 4 = .ok (.iconst 0, 1) := dc_3 (show ((cX12_toe.data.toList.drop 4).take 1).map UInt8.toNat = [3] by decide +kernel)
theorem dX12_toe_5 : decode cX12_toe 5 = .ok (.istore_n 1, 1) := dc_60 (show ((cX12_toe.data.toList.drop 5).take 1).map UInt8.toNat = [60] by decide +kernel)
theorem dX12_toe_6 : decode cX12_toe 6 = .ok (.iload_n 1, 1) := dc_27 (show ((cX12_toe.data.toList.drop 6).take 1).map UInt8.toNat = [27] by decide +kernel)
theorem dX12_toe_7 : decode cX12_toe 7 = .ok (.aload_n 0, 1) := dc_42 (show ((cX12_toe.data.toList.drop 7).take 1).map UInt8.toNat = [42] by decide +kernel)
theorem dX12_toe_8 : decode cX12_toe 8 = .ok (.invokevirtual 202, 3) := dc_182 (show ((cX12_toe.data.toList.drop 8).take 3).map UInt8.toNat = [182, 0, 202] by decide +kernel) rfl
theorem dX12_toe_11 : decode cX12_toe 11 = .ok (.if_icmp .ge 69, 3) := dc_162 (show ((cX12_toe.data.toList.drop 11).take 3).map UInt8.toNat = [162, 0, 69] by decide +kernel) rfl
theorem dX12_toe_80 : decode cX12_toe 80 = .ok (.iconst (-1), 1) := dc_2 (show ((cX12_toe.data.toList.drop 80).take 1).map UInt8.toNat = [2] by decide +kernel)
theorem dX12_toe_81 : decode cX12_toe 81 = .ok (.ireturn, 1) := dc_172 (show ((cX12_toe.data.toList.drop 81).take 1).map UInt8.toNat = [172] by decide +kernel)
theorem dX12_toe_14 : decode cX12_toe 14 = .ok (.iconst 0, 1) := dc_3 (show ((cX12_toe.data.toList.drop 14).take 1).map UInt8.toNat = [3] by decide +kernel)
theorem dX12_toe_15 : decode cX12_toe 15 = .ok (.istore_n 2, 1) := dc_61 (show ((cX12_toe.data.toList.drop 15).take 1).map UInt8.toNat = [61] by decide +kernel)
theorem dX12_toe_16 : decode cX12_toe 16 = .ok (.iload_n 2, 1) := dc_28 (show ((cX12_toe.data.toList.drop 16).take 1).map UInt8.toNat = [28] by decide +kernel)
theorem dX12_toe_17 : decode cX12_toe 17 = .ok (.aload_n 0, 1) := dc_42 (show ((cX12_toe.data.toList.drop 17).take 1).map UInt8.toNat = [42] by decide +kernel)
theorem dX12_toe_18 : decode cX12_toe 18 = .ok (.getfield 7, 3) := dc_180 (show ((cX12_toe.data.toList.drop 18).take 3).map UInt8.toNat = [180, 0, 7] by decide +kernel) rfl
theorem dX12_toe_21 : decode cX12_toe 21 = .ok (.aload_n 0, 1) := dc_42 (show ((cX12_toe.data.toList.drop 21).take 1).map UInt8.toNat = [42] by decide +kernel)
theorem dX12_toe_22 : decode cX12_toe 22 = .ok (.getfield 341, 3) := dc_180 (show ((cX12_toe.data.toList.drop 22).take 3).map UInt8.toNat = [180, 1, 85] by decide +kernel) rfl
theorem dX12_toe_25 : decode cX12_toe 25 = .ok (.iaload, 1) := dc_46 (show ((cX12_toe.data.toList.drop 25).take 1).map UInt8.toNat = [46] by decide +kernel)
theorem dX12_toe_26 : decode cX12_toe 26 = .ok (.if_icmp .ge 48, 3) := dc_162 (show ((cX12_toe.data.toList.drop 26).take 3).map UInt8.toNat = [162, 0, 48] by decide +kernel) rfl
theorem dX12_toe_74 : decode cX12_toe 74 = .ok (.iinc 1 1, 3) := dc_132 (show ((cX12_toe.data.toList.drop 74).take 3).map UInt8.toNat = [132, 1, 1] by decide +kernel) rfl
theorem dX12_toe_77 : decode cX12_toe 77 = .ok (.goto (-71), 3) := dc_167 (show ((cX12_toe.data.toList.drop 77).take 3).map UInt8.toNat = [167, 255, 185] by decide +kernel) rfl
theorem dX12_toe_29 : decode cX12_toe 29 = .ok (.aload_n 0, 1) := dc_42 (show ((cX12_toe.data.toList.drop 29).take 1).map UInt8.toNat = [42] by decide +kernel)
theorem dX12_toe_30 : decode cX12_toe 30 = .ok (.aload_n 0, 1) := dc_42 (show ((cX12_toe.data.toList.drop 30).take 1).map UInt8.toNat = [42] by decide +kernel)
theorem dX12_toe_31 : decode cX12_toe 31 = .ok (.iload_n 2, 1) := dc_28 (show ((cX12_toe.data.toList.drop 31).take 1).map UInt8.toNat = [28] by decide +kernel)
theorem dX12_toe_32 : decode cX12_toe 32 = .ok (.iconst 0, 1) := dc_3 (show ((cX12_toe.data.toList.drop 32).take 1).map UInt8.toNat = [3] by decide +kernel)
theorem dX12_toe_33 : decode cX12_toe 33 = .ok (.invokevirtual 344, 3) := dc_182 (show ((cX12_toe.data.toList.drop 33).take 3).map UInt8.toNat = [182, 1, 88] by decide +kernel) rfl
theorem dX12_toe_36 : decode cX12_toe 36 = .ok (.invokevirtual 208, 3) := dc_182 (show ((cX12_toe.data.toList.drop 36).take 3).map UInt8.toNat = [182, 0, 208] by decide +kernel) rfl
theorem dX12_toe_39 : decode cX12_toe 39 = .ok (.ifCond .eq 29, 3) := dc_153 (show ((cX12_toe.data.toList.drop 39).take 3).map UInt8.toNat = [153, 0, 29] by decide +kernel) rfl
theorem dX12_toe_68 : decode cX12_toe 68 = .ok (.iinc 2 1, 3) := dc_132 (show ((cX12_toe.data.toList.drop 68).take 3).map UInt8.toNat = [132, 2, 1] by decide +kernel) rfl
theorem dX12_toe_71 : decode cX12_toe 71 = .ok (.goto (-55), 3) := dc_167 (show ((cX12_toe.data.toList.drop 71).take 3).map UInt8.toNat = [167, 255, 201] by decide +kernel) rfl
theorem dX12_toe_42 : decode cX12_toe 42 = .ok (.aload_n 0, 1) := dc_42 (show ((cX12_toe.data.toList.drop 42).take 1).map UInt8.toNat = [42] by decide +kernel)
theorem dX12_toe_43 : decode cX12_toe 43 = .ok (.getfield 47, 3) := dc_180 (show ((cX12_toe.data.toList.drop 43).take 3).map UInt8.toNat = [180, 0, 47] by decide +kernel) rfl
theorem dX12_toe_46 : decode cX12_toe 46 = .ok (.iconst 5, 1) := dc_8 (show ((cX12_toe.data.toList.drop 46).take 1).map UInt8.toNat = [8] by decide +kernel)
theorem dX12_toe_47 : decode cX12_toe 47 = .ok (.iload_n 1, 1) := dc_27 (show ((cX12_toe.data.toList.drop 47).take 1).map UInt8.toNat = [27] by decide +kernel)
theorem dX12_toe_48 : decode cX12_toe 48 = .ok (.imul, 1) := dc_104 (show ((cX12_toe.data.toList.drop 48).take 1).map UInt8.toNat = [104] by decide +kernel)
theorem dX12_toe_49 : decode cX12_toe 49 = .ok (.aload_n 0, 1) := dc_42 (show ((cX12_toe.data.toList.drop 49).take 1).map UInt8.toNat = [42] by decide +kernel)
theorem dX12_toe_50 : decode cX12_toe 50 = .ok (.iload_n 2, 1) := dc_28 (show ((cX12_toe.data.toList.drop 50).take 1).map UInt8.toNat = [28] by decide +kernel)
theorem dX12_toe_51 : decode cX12_toe 51 = .ok (.iconst 0, 1) := dc_3 (show ((cX12_toe.data.toList.drop 51).take 1).map UInt8.toNat = [3] by decide +kernel)
theorem dX12_toe_52 : decode cX12_toe 52 = .ok (.invokevirtual 344, 3) := dc_182 (show ((cX12_toe.data.toList.drop 52).take 3).map UInt8.toNat = [182, 1, 88] by decide +kernel) rfl
theorem dX12_toe_55 : decode cX12_toe 55 = .ok (.iadd, 1) := dc_96 (show ((cX12_toe.data.toList.drop 55).take 1).map UInt8.toNat = [96] by decide +kernel)
theorem dX12_toe_56 : decode cX12_toe 56 = .ok (.iaload, 1) := dc_46 (show ((cX12_toe.data.toList.drop 56).take 1).map UInt8.toNat = [46] by decide +kernel)
theorem dX12_toe_57 : decode cX12_toe 57 = .ok (.aload_n 0, 1) := dc_42 (show ((cX12_toe.data.toList.drop 57).take 1).map UInt8.toNat = [42] by decide +kernel)
theorem dX12_toe_58 : decode cX12_toe 58 = .ok (.iload_n 2, 1) := dc_28 (show ((cX12_toe.data.toList.drop 58).take 1).map UInt8.toNat = [28] by decide +kernel)
theorem dX12_toe_59 : decode cX12_toe 59 = .ok (.iconst 1, 1) := dc_4 (show ((cX12_toe.data.toList.drop 59).take 1).map UInt8.toNat = [4] by decide +kernel)
theorem dX12_toe_60 : decode cX12_toe 60 = .ok (.invokevirtual 344, 3) := dc_182 (show ((cX12_toe.data.toList.drop 60).take 3).map UInt8.toNat = [182, 1, 88] by decide +kernel) rfl
theorem dX12_toe_63 : decode cX12_toe 63 = .ok (.if_icmp .ne 5, 3) := dc_160 (show ((cX12_toe.data.toList.drop 63).take 3).map UInt8.toNat = [160, 0, 5] by decide +kernel) rfl
theorem dX12_toe_66 : decode cX12_toe 66 = .ok (.iload_n 1, 1) := dc_27 (show ((cX12_toe.data.toList.drop 66).take 1).map UInt8.toNat = [27] by decide +kernel)
theorem dX12_toe_67 : decode cX12_toe 67 = .ok (.ireturn, 1) := dc_172 (show ((cX12_toe.data.toList.drop 67).take 1).map UInt8.toNat = [172] by decide +kernel)
def ms_toe_16 (n : Nat) (k6 : gb_F → Int64 → Int32 → gb_MR Int32) : Nat → gb_F → Int64 → Int32 → Int32 → gb_MR Int32
  | 0, _, _, _, _ => none
  | mm + 1, f, w, v1, v2 => gb_ck (f 0 29) 3968 (gb_lt (f 1 (Int32.toNatClampNeg (f 0 29))) (fun x_13 => (if x_13 ≤ v2 then gb_lt (v1 + 1) (fun x_15 => k6 f w x_15) else gb_bd (ms_seenOf n f w v2 0) (fun f_16 wl_17 r_18 => gb_bd (ms_isPath n f_16 wl_17 r_18) (fun f_21 wl_22 r_23 => (if r_23 = 0 then gb_lt (v2 + 1) (fun x_27 => ms_toe_16 n k6 mm f_21 wl_22 v1 x_27) else gb_bd (ms_seenOf n f_21 wl_22 v2 0) (fun f_28 wl_29 r_30 => gb_ck ((5 * v1) + r_30) 40 (gb_lt (f_28 13 (Int32.toNatClampNeg ((5 * v1) + r_30))) (fun x_34 => gb_bd (ms_seenOf n f_28 wl_29 v2 1) (fun f_35 wl_36 r_37 => (if x_34 = r_37 then some (f_35, wl_36, v1) else gb_lt (v2 + 1) (fun x_41 => ms_toe_16 n k6 mm f_35 wl_36 v1 x_41))))))))))))
def ms_toe_6 (n : Nat) : Nat → gb_F → Int64 → Int32 → gb_MR Int32
  | 0, _, _, _ => none
  | mm + 1, f, w, v1 => gb_bd (ms_geese n f w) (fun f_6 wl_7 r_8 => (if r_8 ≤ v1 then some (f_6, wl_7, (-1)) else ms_toe_16 n (fun f w v1 => ms_toe_6 n mm f w v1) n f_6 wl_7 v1 0))
def ms_toe (n : Nat) (f : gb_F) (w : Int64) : gb_MR Int32 := gb_bd (ms_measures n f w) (fun f_1 wl_2 _ => ms_toe_6 n n f_1 wl_2 0)
set_option maxHeartbeats 8000000 in
set_option maxRecDepth 100000 in
theorem mc_toe (l : Launch) (D : va_G) (cT : Nat → ClassId) (tt : Nat → Nat) (b1 b : Nat) (hb1 : b1 ≤ b) (n : Nat) (f : gb_F) (w : Int64) (fE : gb_F) (wE : Int64) (rE : Int32) (h : ms_toe n f w = some (fE, wE, rE)) : Met l yX12_toe (.code yX12_toe cX12_toe 3 (some FieldType.int) :: gb_wA) ({ frames := 5, cells := 0, slots := 0, locals := 114 }) (gb_Pc D cT tt b1 [.ref (b + 0)] (fun h => va_P D vwCl (gb_wl b (gb_MW cT b f w)) h)) (gb_Qi (fun r h => r = rE ∧ va_P D vwCl (gb_wl b (gb_MW cT b fE wE)) h) (gb_fr b 22)) 0 0 (gb_fr b 22) := by
  refine Met.ofW (cc := cX12_toe) (maxL := 3) (ret := (some FieldType.int)) (by decide) rfl ?_
  intro p e s m args below meth c s₁ B hml hv
  obtain ⟨rfl, hSt, hP⟩ := hv
  have hx := B.exec
  have hb := B.bytes
  have hr := B.returns
  have hts := atoms_spec (ws := .code yX12_toe cX12_toe 3 (some FieldType.int) :: gb_wA) B.pre
  have hq : ∀ w ∈ gb_wA, w.before _ s = true := fun w h => hts w (List.mem_cons_of_mem _ h)
  have hown : s.vm.findClass RX12 = some m.cls := findClass_of_methodNamed B.named
  have hlocks := B.notSynchronized
  clear B hts
  have hK := hSt.1
  have hS : va_S (gb_fr b 22) s.heap s.heap [] := va_S.rf
  have hl := lv_entry ([.ref (b + 0)]) (n := 3) (Nat.le_of_ble_eq_true rfl)
  rw [lg_entry_eq]
  generalize (lg_sl ([.ref (b + 0)]) ++ List.replicate (3 - (lg_sl ([.ref (b + 0)])).length) Slot.unset).toArray = ls at hl ⊢
  replace hl : lv_has ls 3 [(0, .ref (b + 0))] := hl
  have L16 : ∀ (k6 : gb_F → Int64 → Int32 → gb_MR Int32) (hk6 : ∀ (f : gb_F) (w : Int64) (v1 : Int32) (H : Heap) (locs : List Loc) (ls : Array Slot), k6 f w v1 = some (fE, wE, rE) → va_P D vwCl (gb_wl b (gb_MW cT b f w)) H → va_S (gb_fr b 22) s.heap H locs → lv_has ls 3 [(0, .ref (b + 0)), (1, .int v1)] → W p l e (headSpec (.code yX12_toe cX12_toe 3 (some FieldType.int) :: gb_wA) ({ frames := 5, cells := 0, slots := 0, locals := 114 })).room s m ([.ref (b + 0)]).toArray below meth c H locs 0 0 (MQ below (gb_Qi (fun r h => r = rE ∧ va_P D vwCl (gb_wl b (gb_MW cT b fE wE)) h) (gb_fr b 22)) ([.ref (b + 0)]).toArray s 0 0 (gb_fr b 22)) (F0 m 6 ls [])) (mm : Nat) (f : gb_F) (w : Int64) (v1 : Int32) (v2 : Int32) (H : Heap) (locs : List Loc) (ls : Array Slot), ms_toe_16 n k6 mm f w v1 v2 = some (fE, wE, rE) → va_P D vwCl (gb_wl b (gb_MW cT b f w)) H → va_S (gb_fr b 22) s.heap H locs → lv_has ls 3 [(0, .ref (b + 0)), (1, .int v1), (2, .int v2)] → W p l e (headSpec (.code yX12_toe cX12_toe 3 (some FieldType.int) :: gb_wA) ({ frames := 5, cells := 0, slots := 0, locals := 114 })).room s m ([.ref (b + 0)]).toArray below meth c H locs 0 0 (MQ below (gb_Qi (fun r h => r = rE ∧ va_P D vwCl (gb_wl b (gb_MW cT b fE wE)) h) (gb_fr b 22)) ([.ref (b + 0)]).toArray s 0 0 (gb_fr b 22)) (F0 m 16 ls []) := by
    clear h hP hS hl ls f w
    intro k6 hk6 mm
    induction mm with
    | zero =>
      intro f w v1 v2 H locs ls h
      cases h
    | succ mm ih =>
      intro f w v1 v2 H locs ls h hP hS hl
      rw [ms_toe_16] at h
      refine lv_iload_n hx hb dX12_toe_16 rfl (lv_at hl 2 rfl) ?_
      refine lv_aload_n hx hb dX12_toe_17 rfl (lv_at hl 0 rfl) ?_
      refine va_get (ci := 10) (v := (.ref (b + 1))) (C := RX12) (T := TX12) (N := 44) hx hb hq i_X12 hown hK hP 0 (gb_at b rfl) rfl 0 (by decide) (hq _ w_1124) (fun _ h9 => h9) rfl dX12_toe_18 ?_
      refine lv_aload_n hx hb dX12_toe_21 rfl (lv_at hl 0 rfl) ?_
      refine va_get (ci := 10) (v := (.int (f 0 29))) (C := RX12) (T := TX12) (N := 44) hx hb hq i_X12 hown hK hP 0 (gb_at b rfl) rfl 29 (by decide) (hq _ w_1153) (fun _ h9 => h9) rfl dX12_toe_22 ?_
      obtain ⟨z_12, h⟩ := gb_ck_s h
      refine va_iald hx hb hK hP 1 0 (gb_at b rfl) rfl z_12 dX12_toe_25 ?_
      refine lv_topi (fun x_13 ex_13 => ?_)
      replace h := gb_lt_s ex_13 h
      refine lv_icmp_ge (tgt := 74) hx hb dX12_toe_26 (by decide) (fun c_14 => ?_) (fun c_14 => ?_)
      · rw [if_pos c_14] at h
        obtain ⟨x_15, ex_15⟩ : ∃ q, q = (v1 + 1) := ⟨_, rfl⟩
        replace h := gb_lt_s ex_15 h
        refine lv_iinc (v := x_15) (lv' := [(1, .int x_15), (0, .ref (b + 0)), (2, .int v2)]) hx hb dX12_toe_74 hl (k := 1) rfl (by rw [ex_15]; rfl) (by decide) rfl (fun ls hl => ?_)
        refine lv_goto (tgt := 6) hx hb dX12_toe_77 (by decide) ?_
        exact hk6 _ _ _ _ _ _ h hP hS (lv_sub hl [1, 0] rfl)
      · rw [if_neg c_14] at h
        refine lv_aload_n hx hb dX12_toe_29 rfl (lv_at hl 0 rfl) ?_
        refine lv_aload_n hx hb dX12_toe_30 rfl (lv_at hl 0 rfl) ?_
        refine lv_iload_n hx hb dX12_toe_31 rfl (lv_at hl 2 rfl) ?_
        refine lv_iconst (v := 0) hx hb dX12_toe_32 (by decide) ?_
        obtain ⟨f_16, wl_17, r_18, z_19, h⟩ := gb_bd_s h
        refine gb_calli (va_runV (C := RX12) (As := [.int v2, .int 0]) (rest := [.ref (b + 0)]) ⟨hx, hb, hml, hown, hq⟩ (mc_seenOf l D cT tt b1 b hb1 n f w v2 0 f_16 wl_17 r_18 z_19) (cwV 2 hq (gb_gV w_1600 w_1602 s_6_10 w_14 w_1603) rfl rfl rfl (by decide +kernel) ⟨Nat.le_of_ble_eq_true rfl, Nat.le_of_ble_eq_true rfl⟩) (gb_preV (r := (RX12, TX12, 44)) (ci := 10) (q0 := 0) hSt hP rfl (gb_at b rfl) hS (fun q h => Nat.le_trans hb1 h.1) hP) rfl rfl hl.1 rfl (lv_room (Nat.le_of_ble_eq_true rfl)) dX12_toe_33 ⟨Nat.le_of_ble_eq_true rfl, Nat.le_of_ble_eq_true rfl⟩) hS (fun _ h => h) (fun _ h => h) (fun q_20 H locs hY hk hS => ?_)
        obtain ⟨hq_20, hP⟩ := hY
        replace hq_20 := hq_20.symm
        subst hq_20
        obtain ⟨f_21, wl_22, r_23, z_24, h⟩ := gb_bd_s h
        refine gb_calli (va_runV (C := RX12) (As := [.int r_18]) (rest := []) ⟨hx, hb, hml, hown, hq⟩ (mc_isPath l D cT tt b1 b hb1 n f_16 wl_17 r_18 f_21 wl_22 r_23 z_24) (cwV 1 hq (gb_gV w_1380 w_1382 s_4_3 w_14 w_1383) rfl rfl rfl (by decide +kernel) ⟨Nat.le_of_ble_eq_true rfl, Nat.le_of_ble_eq_true rfl⟩) (gb_preV (r := (RX12, TX12, 44)) (ci := 10) (q0 := 0) hSt hP rfl (gb_at b rfl) hS (fun q h => Nat.le_trans hb1 h.1) hP) rfl rfl hl.1 rfl (lv_room (Nat.le_of_ble_eq_true rfl)) dX12_toe_36 ⟨Nat.le_of_ble_eq_true rfl, Nat.le_of_ble_eq_true rfl⟩) hS (fun _ h => h) (fun _ h => h) (fun q_25 H locs hY hk hS => ?_)
        obtain ⟨hq_25, hP⟩ := hY
        replace hq_25 := hq_25.symm
        subst hq_25
        refine lv_if_eq (tgt := 68) hx hb dX12_toe_39 (by decide) (fun c_26 => ?_) (fun c_26 => ?_)
        · rw [if_pos c_26] at h
          obtain ⟨x_27, ex_27⟩ : ∃ q, q = (v2 + 1) := ⟨_, rfl⟩
          replace h := gb_lt_s ex_27 h
          refine lv_iinc (v := x_27) (lv' := [(2, .int x_27), (0, .ref (b + 0)), (1, .int v1)]) hx hb dX12_toe_68 hl (k := 2) rfl (by rw [ex_27]; rfl) (by decide) rfl (fun ls hl => ?_)
          refine lv_goto (tgt := 16) hx hb dX12_toe_71 (by decide) ?_
          exact ih _ _ _ _ _ _ _ h hP hS (lv_sub hl [1, 2, 0] rfl)
        · rw [if_neg c_26] at h
          refine lv_aload_n hx hb dX12_toe_42 rfl (lv_at hl 0 rfl) ?_
          refine va_get (ci := 10) (v := (.ref (b + 13))) (C := RX12) (T := TX12) (N := 44) hx hb hq i_X12 hown hK hP 0 (gb_at b rfl) rfl 26 (by decide) (hq _ w_1150) (fun _ h9 => h9) rfl dX12_toe_43 ?_
          refine lv_iconst (v := 5) hx hb dX12_toe_46 (by decide) ?_
          refine lv_iload_n hx hb dX12_toe_47 rfl (lv_at hl 1 rfl) ?_
          refine lv_imul hx hb dX12_toe_48 ?_
          refine lv_aload_n hx hb dX12_toe_49 rfl (lv_at hl 0 rfl) ?_
          refine lv_iload_n hx hb dX12_toe_50 rfl (lv_at hl 2 rfl) ?_
          refine lv_iconst (v := 0) hx hb dX12_toe_51 (by decide) ?_
          obtain ⟨f_28, wl_29, r_30, z_31, h⟩ := gb_bd_s h
          refine gb_calli (va_runV (C := RX12) (As := [.int v2, .int 0]) (rest := [.int (5 * v1), .ref (b + 13)]) ⟨hx, hb, hml, hown, hq⟩ (mc_seenOf l D cT tt b1 b hb1 n f_21 wl_22 v2 0 f_28 wl_29 r_30 z_31) (cwV 2 hq (gb_gV w_1600 w_1602 s_6_10 w_14 w_1603) rfl rfl rfl (by decide +kernel) ⟨Nat.le_of_ble_eq_true rfl, Nat.le_of_ble_eq_true rfl⟩) (gb_preV (r := (RX12, TX12, 44)) (ci := 10) (q0 := 0) hSt hP rfl (gb_at b rfl) hS (fun q h => Nat.le_trans hb1 h.1) hP) rfl rfl hl.1 rfl (lv_room (Nat.le_of_ble_eq_true rfl)) dX12_toe_52 ⟨Nat.le_of_ble_eq_true rfl, Nat.le_of_ble_eq_true rfl⟩) hS (fun _ h => h) (fun _ h => h) (fun q_32 H locs hY hk hS => ?_)
          obtain ⟨hq_32, hP⟩ := hY
          replace hq_32 := hq_32.symm
          subst hq_32
          refine lv_iadd hx hb dX12_toe_55 ?_
          obtain ⟨z_33, h⟩ := gb_ck_s h
          refine va_iald hx hb hK hP 13 0 (gb_at b rfl) rfl z_33 dX12_toe_56 ?_
          refine lv_topi (fun x_34 ex_34 => ?_)
          replace h := gb_lt_s ex_34 h
          refine lv_aload_n hx hb dX12_toe_57 rfl (lv_at hl 0 rfl) ?_
          refine lv_iload_n hx hb dX12_toe_58 rfl (lv_at hl 2 rfl) ?_
          refine lv_iconst (v := 1) hx hb dX12_toe_59 (by decide) ?_
          obtain ⟨f_35, wl_36, r_37, z_38, h⟩ := gb_bd_s h
          refine gb_calli (va_runV (C := RX12) (As := [.int v2, .int 1]) (rest := [.int x_34]) ⟨hx, hb, hml, hown, hq⟩ (mc_seenOf l D cT tt b1 b hb1 n f_28 wl_29 v2 1 f_35 wl_36 r_37 z_38) (cwV 2 hq (gb_gV w_1600 w_1602 s_6_10 w_14 w_1603) rfl rfl rfl (by decide +kernel) ⟨Nat.le_of_ble_eq_true rfl, Nat.le_of_ble_eq_true rfl⟩) (gb_preV (r := (RX12, TX12, 44)) (ci := 10) (q0 := 0) hSt hP rfl (gb_at b rfl) hS (fun q h => Nat.le_trans hb1 h.1) hP) rfl rfl hl.1 rfl (lv_room (Nat.le_of_ble_eq_true rfl)) dX12_toe_60 ⟨Nat.le_of_ble_eq_true rfl, Nat.le_of_ble_eq_true rfl⟩) hS (fun _ h => h) (fun _ h => h) (fun q_39 H locs hY hk hS => ?_)
          obtain ⟨hq_39, hP⟩ := hY
          replace hq_39 := hq_39.symm
          subst hq_39
          refine lv_icmp_ne (tgt := 68) hx hb dX12_toe_63 (by decide) (fun c_40 => ?_) (fun c_40 => ?_)
          · rw [if_neg c_40] at h
            obtain ⟨x_41, ex_41⟩ : ∃ q, q = (v2 + 1) := ⟨_, rfl⟩
            replace h := gb_lt_s ex_41 h
            refine lv_iinc (v := x_41) (lv' := [(2, .int x_41), (0, .ref (b + 0)), (1, .int v1)]) hx hb dX12_toe_68 hl (k := 2) rfl (by rw [ex_41]; rfl) (by decide) rfl (fun ls hl => ?_)
            refine lv_goto (tgt := 16) hx hb dX12_toe_71 (by decide) ?_
            exact ih _ _ _ _ _ _ _ h hP hS (lv_sub hl [1, 2, 0] rfl)
          · rw [if_pos c_40] at h
            refine lv_iload_n hx hb dX12_toe_66 rfl (lv_at hl 1 rfl) ?_
            obtain ⟨e1, e2, e3⟩ := gb_eq3 h
            exact W.iret (v := v1) hx hb hr (fun t ht hW => gb_ri ht ⟨e3, by rw [← e1, ← e2]; exact hP⟩ hS) hS.2.2 dX12_toe_67
  have L6 : ∀ (mm : Nat) (f : gb_F) (w : Int64) (v1 : Int32) (H : Heap) (locs : List Loc) (ls : Array Slot), ms_toe_6 n mm f w v1 = some (fE, wE, rE) → va_P D vwCl (gb_wl b (gb_MW cT b f w)) H → va_S (gb_fr b 22) s.heap H locs → lv_has ls 3 [(0, .ref (b + 0)), (1, .int v1)] → W p l e (headSpec (.code yX12_toe cX12_toe 3 (some FieldType.int) :: gb_wA) ({ frames := 5, cells := 0, slots := 0, locals := 114 })).room s m ([.ref (b + 0)]).toArray below meth c H locs 0 0 (MQ below (gb_Qi (fun r h => r = rE ∧ va_P D vwCl (gb_wl b (gb_MW cT b fE wE)) h) (gb_fr b 22)) ([.ref (b + 0)]).toArray s 0 0 (gb_fr b 22)) (F0 m 6 ls []) := by
    clear h hP hS hl ls f w
    intro mm
    induction mm with
    | zero =>
      intro f w v1 H locs ls h
      cases h
    | succ mm ih =>
      intro f w v1 H locs ls h hP hS hl
      rw [ms_toe_6] at h
      refine lv_iload_n hx hb dX12_toe_6 rfl (lv_at hl 1 rfl) ?_
      refine lv_aload_n hx hb dX12_toe_7 rfl (lv_at hl 0 rfl) ?_
      obtain ⟨f_6, wl_7, r_8, z_9, h⟩ := gb_bd_s h
      refine gb_calli (va_runV (C := RX12) (As := []) (rest := [.int v1]) ⟨hx, hb, hml, hown, hq⟩ (mc_geese l D cT tt b1 b hb1 n f w f_6 wl_7 r_8 z_9) (cwV 0 hq (gb_gV w_1396 w_1398 s_4_7 w_14 w_1399) rfl rfl rfl (by decide +kernel) ⟨Nat.le_of_ble_eq_true rfl, Nat.le_of_ble_eq_true rfl⟩) (gb_preV (r := (RX12, TX12, 44)) (ci := 10) (q0 := 0) hSt hP rfl (gb_at b rfl) hS (fun q h => Nat.le_trans hb1 h.1) hP) rfl rfl hl.1 rfl (lv_room (Nat.le_of_ble_eq_true rfl)) dX12_toe_8 ⟨Nat.le_of_ble_eq_true rfl, Nat.le_of_ble_eq_true rfl⟩) hS (fun _ h => h) (fun _ h => h) (fun q_10 H locs hY hk hS => ?_)
      obtain ⟨hq_10, hP⟩ := hY
      replace hq_10 := hq_10.symm
      subst hq_10
      refine lv_icmp_ge (tgt := 80) hx hb dX12_toe_11 (by decide) (fun c_11 => ?_) (fun c_11 => ?_)
      · rw [if_pos c_11] at h
        refine lv_iconst (v := (-1)) hx hb dX12_toe_80 (by decide) ?_
        obtain ⟨e1, e2, e3⟩ := gb_eq3 h
        exact W.iret (v := (-1)) hx hb hr (fun t ht hW => gb_ri ht ⟨e3, by rw [← e1, ← e2]; exact hP⟩ hS) hS.2.2 dX12_toe_81
      · rw [if_neg c_11] at h
        refine lv_iconst (v := 0) hx hb dX12_toe_14 (by decide) ?_
        refine lv_istore_n (lv' := [(2, .int 0), (0, .ref (b + 0)), (1, .int v1)]) hx hb dX12_toe_15 rfl hl (by decide) rfl (fun ls hl => ?_)
        exact L16 _ ih n _ _ _ _ _ _ _ h hP hS (lv_sub hl [1, 2, 0] rfl)
  unfold ms_toe at h
  refine lv_aload_n hx hb dX12_toe_0 rfl (lv_at hl 0 rfl) ?_
  obtain ⟨f_1, wl_2, r_3, z_4, h⟩ := gb_bd_s h
  refine gb_callv (va_runV (C := RX12) (As := []) (rest := []) ⟨hx, hb, hml, hown, hq⟩ (mc_measures l D cT tt b1 b hb1 n f w f_1 wl_2 r_3 z_4) (cwV 0 hq (gb_gV w_1528 w_1530 s_5_15 w_14 w_1531) rfl rfl rfl (by decide +kernel) ⟨Nat.le_of_ble_eq_true rfl, Nat.le_of_ble_eq_true rfl⟩) (gb_preV (r := (RX12, TX12, 44)) (ci := 10) (q0 := 0) hSt hP rfl (gb_at b rfl) hS (fun q h => Nat.le_trans hb1 h.1) hP) rfl rfl hl.1 rfl (lv_room (Nat.le_of_ble_eq_true rfl)) dX12_toe_1 ⟨Nat.le_of_ble_eq_true rfl, Nat.le_of_ble_eq_true rfl⟩) hS (fun _ h => h) (fun _ h => h) (fun H locs hY hk hS => ?_)
  have hP := hY
  refine lv_iconst (v := 0) hx hb dX12_toe_4 (by decide) ?_
  refine lv_istore_n (lv' := [(1, .int 0), (0, .ref (b + 0))]) hx hb dX12_toe_5 rfl hl (by decide) rfl (fun ls hl => ?_)
  exact L6 n _ _ _ _ _ _ h hP hS (lv_sub hl [1, 0] rfl)
theorem dX12_told_0 : decode cX12_told 0 = .ok (.aload_n 0, 1) := dc_42 (show ((cX12_told.data.toList.drop 0).take 1).map UInt8.toNat = [42] by decide +kernel)
theorem dX12_told_1 : decode cX12_told 1 = .ok (.iload_n 1, 1) := dc_27 (show ((cX12_told.data.toList.drop 1).take 1).map UInt8.toNat = [27] by decide +kernel)
theorem dX12_told_2 : decode cX12_told 2 = .ok (.iload_n 2, 1) := dc_28 (show ((cX12_told.data.toList.drop 2).take 1).map UInt8.toNat = [28] by decide +kernel)
theorem dX12_told_3 : decode cX12_told 3 = .ok (.invokevirtual 373, 3) := dc_182 (show ((cX12_told.data.toList.drop 3).take 3).map UInt8.toNat = [182, 1, 117] by decide +kernel) rfl
theorem dX12_told_6 : decode cX12_told 6 = .ok (.ifCond .ne 6, 3) := dc_154 (show ((cX12_told.data.toList.drop 6).take 3).map UInt8.toNat = [154, 0, 6] by decide +kernel) rfl
theorem dX12_told_12 : decode cX12_told 12 = .ok (.iload_n 3, 1) := dc_29 (show ((cX12_told.data.toList.drop 12).take 1).map UInt8.toNat = [29] by decide +kernel)
theorem dX12_told_13 : decode cX12_told 13 = .ok (.iconst 3, 1) := dc_6 (show ((cX12_told.data.toList.drop 13).take 1).map UInt8.toNat = [6] by decide +kernel)
theorem dX12_told_14 : decode cX12_told 14 = .ok (.if_icmp .ne 8, 3) := dc_160 (show ((cX12_told.data.toList.drop 14).take 3).map UInt8.toNat = [160, 0, 8] by decide +kernel) rfl
theorem dX12_told_22 : decode cX12_told 22 = .ok (.iload_n 3, 1) := dc_29 (show ((cX12_told.data.toList.drop 22).take 1).map UInt8.toNat = [29] by decide +kernel)
theorem dX12_told_23 : decode cX12_told 23 = .ok (.iconst 0, 1) := dc_3 (show ((cX12_told.data.toList.drop 23).take 1).map UInt8.toNat = [3] by decide +kernel)
theorem dX12_told_24 : decode cX12_told 24 = .ok (.iconst 2, 1) := dc_5 (show ((cX12_told.data.toList.drop 24).take 1).map UInt8.toNat = [5] by decide +kernel)
theorem dX12_told_25 : decode cX12_told 25 = .ok (.invokestatic 129, 3) := dc_184 (show ((cX12_told.data.toList.drop 25).take 3).map UInt8.toNat = [184, 0, 129] by decide +kernel) rfl
theorem dX12_told_28 : decode cX12_told 28 = .ok (.ifCond .ne 17, 3) := dc_154 (show ((cX12_told.data.toList.drop 28).take 3).map UInt8.toNat = [154, 0, 17] by decide +kernel) rfl
theorem dX12_told_45 : decode cX12_told 45 = .ok (.aload_n 0, 1) := dc_42 (show ((cX12_told.data.toList.drop 45).take 1).map UInt8.toNat = [42] by decide +kernel)
theorem dX12_told_46 : decode cX12_told 46 = .ok (.invokevirtual 378, 3) := dc_182 (show ((cX12_told.data.toList.drop 46).take 3).map UInt8.toNat = [182, 1, 122] by decide +kernel) rfl
theorem dX12_told_49 : decode cX12_told 49 = .ok (.aload_n 0, 1) := dc_42 (show ((cX12_told.data.toList.drop 49).take 1).map UInt8.toNat = [42] by decide +kernel)
theorem dX12_told_50 : decode cX12_told 50 = .ok (.getfield 351, 3) := dc_180 (show ((cX12_told.data.toList.drop 50).take 3).map UInt8.toNat = [180, 1, 95] by decide +kernel) rfl
theorem dX12_told_53 : decode cX12_told 53 = .ok (.lconst 0, 1) := dc_9 (show ((cX12_told.data.toList.drop 53).take 1).map UInt8.toNat = [9] by decide +kernel)
theorem dX12_told_54 : decode cX12_told 54 = .ok (.lcmp, 1) := dc_148 (show ((cX12_told.data.toList.drop 54).take 1).map UInt8.toNat = [148] by decide +kernel)
theorem dX12_told_55 : decode cX12_told 55 = .ok (.ifCond .ne 6, 3) := dc_154 (show ((cX12_told.data.toList.drop 55).take 3).map UInt8.toNat = [154, 0, 6] by decide +kernel) rfl
theorem dX12_told_61 : decode cX12_told 61 = .ok (.iload_n 3, 1) := dc_29 (show ((cX12_told.data.toList.drop 61).take 1).map UInt8.toNat = [29] by decide +kernel)
theorem dX12_told_62 : decode cX12_told 62 = .ok (.ifCond .ne 10, 3) := dc_154 (show ((cX12_told.data.toList.drop 62).take 3).map UInt8.toNat = [154, 0, 10] by decide +kernel) rfl
theorem dX12_told_72 : decode cX12_told 72 = .ok (.iload_n 3, 1) := dc_29 (show ((cX12_told.data.toList.drop 72).take 1).map UInt8.toNat = [29] by decide +kernel)
theorem dX12_told_73 : decode cX12_told 73 = .ok (.iconst 1, 1) := dc_4 (show ((cX12_told.data.toList.drop 73).take 1).map UInt8.toNat = [4] by decide +kernel)
theorem dX12_told_74 : decode cX12_told 74 = .ok (.if_icmp .ne 10, 3) := dc_160 (show ((cX12_told.data.toList.drop 74).take 3).map UInt8.toNat = [160, 0, 10] by decide +kernel) rfl
theorem dX12_told_84 : decode cX12_told 84 = .ok (.iload_n 3, 1) := dc_29 (show ((cX12_told.data.toList.drop 84).take 1).map UInt8.toNat = [29] by decide +kernel)
theorem dX12_told_85 : decode cX12_told 85 = .ok (.iconst 2, 1) := dc_5 (show ((cX12_told.data.toList.drop 85).take 1).map UInt8.toNat = [5] by decide +kernel)
theorem dX12_told_86 : decode cX12_told 86 = .ok (.if_icmp .ne 10, 3) := dc_160 (show ((cX12_told.data.toList.drop 86).take 3).map UInt8.toNat = [160, 0, 10] by decide +kernel) rfl
theorem dX12_told_96 : decode cX12_told 96 = .ok (.aload_n 0, 1) := dc_42 (show ((cX12_told.data.toList.drop 96).take 1).map UInt8.toNat = [42] by decide +kernel)
theorem dX12_told_97 : decode cX12_told 97 = .ok (.getfield 62, 3) := dc_180 (show ((cX12_told.data.toList.drop 97).take 3).map UInt8.toNat = [180, 0, 62] by decide +kernel) rfl
theorem dX12_told_100 : decode cX12_told 100 = .ok (.iload_n 3, 1) := dc_29 (show ((cX12_told.data.toList.drop 100).take 1).map UInt8.toNat = [29] by decide +kernel)
theorem dX12_told_101 : decode cX12_told 101 = .ok (.bipush 10, 2) := dc_16 (show ((cX12_told.data.toList.drop 101).take 2).map UInt8.toNat = [16, 10] by decide +kernel) rfl
theorem dX12_told_103 : decode cX12_told 103 = .ok (.isub, 1) := dc_100 (show ((cX12_told.data.toList.drop 103).take 1).map UInt8.toNat = [100] by decide +kernel)
theorem dX12_told_104 : decode cX12_told 104 = .ok (.iaload, 1) := dc_46 (show ((cX12_told.data.toList.drop 104).take 1).map UInt8.toNat = [46] by decide +kernel)
theorem dX12_told_105 : decode cX12_told 105 = .ok (.ireturn, 1) := dc_172 (show ((cX12_told.data.toList.drop 105).take 1).map UInt8.toNat = [172] by decide +kernel)
theorem dX12_told_89 : decode cX12_told 89 = .ok (.aload_n 0, 1) := dc_42 (show ((cX12_told.data.toList.drop 89).take 1).map UInt8.toNat = [42] by decide +kernel)
theorem dX12_told_90 : decode cX12_told 90 = .ok (.getfield 361, 3) := dc_180 (show ((cX12_told.data.toList.drop 90).take 3).map UInt8.toNat = [180, 1, 105] by decide +kernel) rfl
theorem dX12_told_93 : decode cX12_told 93 = .ok (.goto 12, 3) := dc_167 (show ((cX12_told.data.toList.drop 93).take 3).map UInt8.toNat = [167, 0, 12] by decide +kernel) rfl
theorem dX12_told_77 : decode cX12_told 77 = .ok (.aload_n 0, 1) := dc_42 (show ((cX12_told.data.toList.drop 77).take 1).map UInt8.toNat = [42] by decide +kernel)
theorem dX12_told_78 : decode cX12_told 78 = .ok (.getfield 358, 3) := dc_180 (show ((cX12_told.data.toList.drop 78).take 3).map UInt8.toNat = [180, 1, 102] by decide +kernel) rfl
theorem dX12_told_81 : decode cX12_told 81 = .ok (.goto 24, 3) := dc_167 (show ((cX12_told.data.toList.drop 81).take 3).map UInt8.toNat = [167, 0, 24] by decide +kernel) rfl
theorem dX12_told_65 : decode cX12_told 65 = .ok (.aload_n 0, 1) := dc_42 (show ((cX12_told.data.toList.drop 65).take 1).map UInt8.toNat = [42] by decide +kernel)
theorem dX12_told_66 : decode cX12_told 66 = .ok (.getfield 355, 3) := dc_180 (show ((cX12_told.data.toList.drop 66).take 3).map UInt8.toNat = [180, 1, 99] by decide +kernel) rfl
theorem dX12_told_69 : decode cX12_told 69 = .ok (.goto 36, 3) := dc_167 (show ((cX12_told.data.toList.drop 69).take 3).map UInt8.toNat = [167, 0, 36] by decide +kernel) rfl
theorem dX12_told_58 : decode cX12_told 58 = .ok (.bipush (-2), 2) := dc_16 (show ((cX12_told.data.toList.drop 58).take 2).map UInt8.toNat = [16, 254] by decide +kernel) rfl
theorem dX12_told_60 : decode cX12_told 60 = .ok (.ireturn, 1) := dc_172 (show ((cX12_told.data.toList.drop 60).take 1).map UInt8.toNat = [172] by decide +kernel)
theorem dX12_told_31 : decode cX12_told 31 = .ok (.aload_n 0, 1) := dc_42 (show ((cX12_told.data.toList.drop 31).take 1).map UInt8.toNat = [42] by decide +kernel)
theorem dX12_told_32 : decode cX12_told 32 = .ok (.iload_n 3, 1) := dc_29 (show ((cX12_told.data.toList.drop 32).take 1).map UInt8.toNat = [29] by decide +kernel)
theorem dX12_told_33 : decode cX12_told 33 = .ok (.bipush 10, 2) := dc_16 (show ((cX12_told.data.toList.drop 33).take 2).map UInt8.toNat = [16, 10] by decide +kernel) rfl
theorem dX12_told_35 : decode cX12_told 35 = .ok (.isub, 1) := dc_100 (show ((cX12_told.data.toList.drop 35).take 1).map UInt8.toNat = [100] by decide +kernel)
theorem dX12_told_36 : decode cX12_told 36 = .ok (.invokevirtual 214, 3) := dc_182 (show ((cX12_told.data.toList.drop 36).take 3).map UInt8.toNat = [182, 0, 214] by decide +kernel) rfl
theorem dX12_told_39 : decode cX12_told 39 = .ok (.ifCond .ne 6, 3) := dc_154 (show ((cX12_told.data.toList.drop 39).take 3).map UInt8.toNat = [154, 0, 6] by decide +kernel) rfl
theorem dX12_told_42 : decode cX12_told 42 = .ok (.bipush (-2), 2) := dc_16 (show ((cX12_told.data.toList.drop 42).take 2).map UInt8.toNat = [16, 254] by decide +kernel) rfl
theorem dX12_told_44 : decode cX12_told 44 = .ok (.ireturn, 1) := dc_172 (show ((cX12_told.data.toList.drop 44).take 1).map UInt8.toNat = [172] by decide +kernel)
theorem dX12_told_17 : decode cX12_told 17 = .ok (.aload_n 0, 1) := dc_42 (show ((cX12_told.data.toList.drop 17).take 1).map UInt8.toNat = [42] by decide +kernel)
theorem dX12_told_18 : decode cX12_told 18 = .ok (.invokevirtual 381, 3) := dc_182 (show ((cX12_told.data.toList.drop 18).take 3).map UInt8.toNat = [182, 1, 125] by decide +kernel) rfl
theorem w_1640 : (Cond.code ({ cls := "GooseBorderModel", name := "toe", desc := "()I" } : MethodName) prog_14_method_97_code (3 : Nat) (Option.some FieldType.int)) ∈ gb_wA := gb_t7 200 rfl rfl
theorem w_1637 : (Cond.methodLink "GooseBorderModel" (381 : Nat) ({ cls := "GooseBorderModel", name := "toe", desc := "()I" } : MethodName)) ∈ gb_wA := gb_t7 197 rfl rfl
theorem w_1639 : (Cond.instanceMethod ({ cls := "GooseBorderModel", name := "toe", desc := "()I" } : MethodName)) ∈ gb_wA := gb_t7 199 rfl rfl
theorem s_7_1 : Cond.selects "GooseBorderModel" (⟨"GooseBorderModel", "toe", "()I"⟩ : MethodName) (⟨"GooseBorderModel", "toe", "()I"⟩ : MethodName) ∈ gb_wA := gb_s7 1 rfl rfl
theorem dX12_told_21 : decode cX12_told 21 = .ok (.ireturn, 1) := dc_172 (show ((cX12_told.data.toList.drop 21).take 1).map UInt8.toNat = [172] by decide +kernel)
theorem dX12_told_9 : decode cX12_told 9 = .ok (.bipush (-2), 2) := dc_16 (show ((cX12_told.data.toList.drop 9).take 2).map UInt8.toNat = [16, 254] by decide +kernel) rfl
theorem dX12_told_11 : decode cX12_told 11 = .ok (.ireturn, 1) := dc_172 (show ((cX12_told.data.toList.drop 11).take 1).map UInt8.toNat = [172] by decide +kernel)
def ms_told_45 (n : Nat) (f : gb_F) (w : Int64) (v3 : Int32) : gb_MR Int32 := gb_bd (ms_tries n f w) (fun f_14 wl_15 _ => (if (lg_cmp wl_15 0) = 0 then some (f_14, wl_15, (-2)) else (if v3 = 0 then some (f_14, wl_15, (f_14 0 34)) else (if v3 = 1 then some (f_14, wl_15, (f_14 0 35)) else (if v3 = 2 then some (f_14, wl_15, (f_14 0 36)) else gb_ck (v3 - 10) 8 (gb_lt (f_14 18 (Int32.toNatClampNeg (v3 - 10))) (fun x_24 => some (f_14, wl_15, x_24))))))))
def ms_told (n : Nat) (f : gb_F) (w : Int64) (p1 : Int32) (p2 : Int32) (p3 : Int32) : gb_MR Int32 := gb_bd (ms_areSeen n f w p1 p2) (fun f_1 wl_2 r_3 => (if r_3 = 0 then some (f_1, wl_2, (-2)) else (if p3 = 3 then gb_bd (ms_toe n f_1 wl_2) (fun f_31 wl_32 r_33 => some (f_31, wl_32, r_33)) else gb_bd (ms_isIn n f_1 wl_2 p3 0 2) (fun f_8 wl_9 r_10 => (if r_10 = 0 then gb_bd (ms_isGoose n f_8 wl_9 (p3 - 10)) (fun f_25 wl_26 r_27 => (if r_27 = 0 then some (f_25, wl_26, (-2)) else ms_told_45 n f_25 wl_26 p3)) else ms_told_45 n f_8 wl_9 p3)))))
set_option maxHeartbeats 8000000 in
set_option maxRecDepth 100000 in
theorem mc_told (l : Launch) (D : va_G) (cT : Nat → ClassId) (tt : Nat → Nat) (b1 b : Nat) (hb1 : b1 ≤ b) (n : Nat) (f : gb_F) (w : Int64) (p1 : Int32) (p2 : Int32) (p3 : Int32) (fE : gb_F) (wE : Int64) (rE : Int32) (h : ms_told n f w p1 p2 p3 = some (fE, wE, rE)) : Met l yX12_told (.code yX12_told cX12_told 4 (some FieldType.int) :: gb_wA) ({ frames := 6, cells := 0, slots := 0, locals := 136 }) (gb_Pc D cT tt b1 [.ref (b + 0), .int p1, .int p2, .int p3] (fun h => va_P D vwCl (gb_wl b (gb_MW cT b f w)) h)) (gb_Qi (fun r h => r = rE ∧ va_P D vwCl (gb_wl b (gb_MW cT b fE wE)) h) (gb_fr b 22)) 0 0 (gb_fr b 22) := by
  refine Met.ofW (cc := cX12_told) (maxL := 4) (ret := (some FieldType.int)) (by decide) rfl ?_
  intro p e s m args below meth c s₁ B hml hv
  obtain ⟨rfl, hSt, hP⟩ := hv
  have hx := B.exec
  have hb := B.bytes
  have hr := B.returns
  have hts := atoms_spec (ws := .code yX12_told cX12_told 4 (some FieldType.int) :: gb_wA) B.pre
  have hq : ∀ w ∈ gb_wA, w.before _ s = true := fun w h => hts w (List.mem_cons_of_mem _ h)
  have hown : s.vm.findClass RX12 = some m.cls := findClass_of_methodNamed B.named
  have hlocks := B.notSynchronized
  clear B hts
  have hK := hSt.1
  have hS : va_S (gb_fr b 22) s.heap s.heap [] := va_S.rf
  have hl := lv_entry ([.ref (b + 0), .int p1, .int p2, .int p3]) (n := 4) (Nat.le_of_ble_eq_true rfl)
  rw [lg_entry_eq]
  generalize (lg_sl ([.ref (b + 0), .int p1, .int p2, .int p3]) ++ List.replicate (4 - (lg_sl ([.ref (b + 0), .int p1, .int p2, .int p3])).length) Slot.unset).toArray = ls at hl ⊢
  replace hl : lv_has ls 4 [(0, .ref (b + 0)), (1, .int p1), (2, .int p2), (3, .int p3)] := hl
  have L45 : ∀ (f : gb_F) (w : Int64) (v3 : Int32) (H : Heap) (locs : List Loc) (ls : Array Slot), ms_told_45 n f w v3 = some (fE, wE, rE) → va_P D vwCl (gb_wl b (gb_MW cT b f w)) H → va_S (gb_fr b 22) s.heap H locs → lv_has ls 4 [(0, .ref (b + 0)), (3, .int v3)] → W p l e (headSpec (.code yX12_told cX12_told 4 (some FieldType.int) :: gb_wA) ({ frames := 6, cells := 0, slots := 0, locals := 136 })).room s m ([.ref (b + 0), .int p1, .int p2, .int p3]).toArray below meth c H locs 0 0 (MQ below (gb_Qi (fun r h => r = rE ∧ va_P D vwCl (gb_wl b (gb_MW cT b fE wE)) h) (gb_fr b 22)) ([.ref (b + 0), .int p1, .int p2, .int p3]).toArray s 0 0 (gb_fr b 22)) (F0 m 45 ls []) := by
    clear h hP hS hl ls f w
    intro f w v3 H locs ls h hP hS hl
    unfold ms_told_45 at h
    refine lv_aload_n hx hb dX12_told_45 rfl (lv_at hl 0 rfl) ?_
    obtain ⟨f_14, wl_15, r_16, z_17, h⟩ := gb_bd_s h
    refine gb_callv (va_runV (C := RX12) (As := []) (rest := []) ⟨hx, hb, hml, hown, hq⟩ (mc_tries l D cT tt b1 b hb1 n f w f_14 wl_15 r_16 z_17) (cwV 0 hq (gb_gV w_1613 w_1615 s_6_12 w_14 w_1616) rfl rfl rfl (by decide +kernel) ⟨Nat.le_of_ble_eq_true rfl, Nat.le_of_ble_eq_true rfl⟩) (gb_preV (r := (RX12, TX12, 44)) (ci := 10) (q0 := 0) hSt hP rfl (gb_at b rfl) hS (fun q h => Nat.le_trans hb1 h.1) hP) rfl rfl hl.1 rfl (lv_room (Nat.le_of_ble_eq_true rfl)) dX12_told_46 ⟨Nat.le_of_ble_eq_true rfl, Nat.le_of_ble_eq_true rfl⟩) hS (fun _ h => h) (fun _ h => h) (fun H locs hY hk hS => ?_)
    have hP := hY
    refine lv_aload_n hx hb dX12_told_49 rfl (lv_at hl 0 rfl) ?_
    refine va_get (ci := 10) (v := (.long wl_15)) (C := RX12) (T := TX12) (N := 44) hx hb hq i_X12 hown hK hP 0 (gb_at b rfl) rfl 33 (by decide) (hq _ w_1157) (fun _ h9 => h9) rfl dX12_told_50 ?_
    refine lv_lconst (v := 0) hx hb dX12_told_53 (by decide) ?_
    refine W.lcmp hx hb dX12_told_54 ?_
    refine lv_if_ne (tgt := 61) hx hb dX12_told_55 (by decide) (fun c_19 => ?_) (fun c_19 => ?_)
    · rw [if_neg c_19] at h
      refine lv_iload_n hx hb dX12_told_61 rfl (lv_at hl 1 rfl) ?_
      refine lv_if_ne (tgt := 72) hx hb dX12_told_62 (by decide) (fun c_20 => ?_) (fun c_20 => ?_)
      · rw [if_neg c_20] at h
        refine lv_iload_n hx hb dX12_told_72 rfl (lv_at hl 1 rfl) ?_
        refine lv_iconst (v := 1) hx hb dX12_told_73 (by decide) ?_
        refine lv_icmp_ne (tgt := 84) hx hb dX12_told_74 (by decide) (fun c_21 => ?_) (fun c_21 => ?_)
        · rw [if_neg c_21] at h
          refine lv_iload_n hx hb dX12_told_84 rfl (lv_at hl 1 rfl) ?_
          refine lv_iconst (v := 2) hx hb dX12_told_85 (by decide) ?_
          refine lv_icmp_ne (tgt := 96) hx hb dX12_told_86 (by decide) (fun c_22 => ?_) (fun c_22 => ?_)
          · rw [if_neg c_22] at h
            refine lv_aload_n hx hb dX12_told_96 rfl (lv_at hl 0 rfl) ?_
            refine va_get (ci := 10) (v := (.ref (b + 18))) (C := RX12) (T := TX12) (N := 44) hx hb hq i_X12 hown hK hP 0 (gb_at b rfl) rfl 37 (by decide) (hq _ w_1161) (fun _ h9 => h9) rfl dX12_told_97 ?_
            refine lv_iload_n hx hb dX12_told_100 rfl (lv_at hl 1 rfl) ?_
            refine lv_bipush (v := 10) hx hb dX12_told_101 (by decide) ?_
            refine lv_isub hx hb dX12_told_103 ?_
            obtain ⟨z_23, h⟩ := gb_ck_s h
            refine va_iald hx hb hK hP 18 0 (gb_at b rfl) rfl z_23 dX12_told_104 ?_
            refine lv_topi (fun x_24 ex_24 => ?_)
            replace h := gb_lt_s ex_24 h
            obtain ⟨e1, e2, e3⟩ := gb_eq3 h
            exact W.iret (v := x_24) hx hb hr (fun t ht hW => gb_ri ht ⟨e3, by rw [← e1, ← e2]; exact hP⟩ hS) hS.2.2 dX12_told_105
          · rw [if_pos c_22] at h
            refine lv_aload_n hx hb dX12_told_89 rfl (lv_at hl 0 rfl) ?_
            refine va_get (ci := 10) (v := (.int (f_14 0 36))) (C := RX12) (T := TX12) (N := 44) hx hb hq i_X12 hown hK hP 0 (gb_at b rfl) rfl 36 (by decide) (hq _ w_1160) (fun _ h9 => h9) rfl dX12_told_90 ?_
            refine lv_goto (tgt := 105) hx hb dX12_told_93 (by decide) ?_
            obtain ⟨e1, e2, e3⟩ := gb_eq3 h
            exact W.iret (v := (f_14 0 36)) hx hb hr (fun t ht hW => gb_ri ht ⟨e3, by rw [← e1, ← e2]; exact hP⟩ hS) hS.2.2 dX12_told_105
        · rw [if_pos c_21] at h
          refine lv_aload_n hx hb dX12_told_77 rfl (lv_at hl 0 rfl) ?_
          refine va_get (ci := 10) (v := (.int (f_14 0 35))) (C := RX12) (T := TX12) (N := 44) hx hb hq i_X12 hown hK hP 0 (gb_at b rfl) rfl 35 (by decide) (hq _ w_1159) (fun _ h9 => h9) rfl dX12_told_78 ?_
          refine lv_goto (tgt := 105) hx hb dX12_told_81 (by decide) ?_
          obtain ⟨e1, e2, e3⟩ := gb_eq3 h
          exact W.iret (v := (f_14 0 35)) hx hb hr (fun t ht hW => gb_ri ht ⟨e3, by rw [← e1, ← e2]; exact hP⟩ hS) hS.2.2 dX12_told_105
      · rw [if_pos c_20] at h
        refine lv_aload_n hx hb dX12_told_65 rfl (lv_at hl 0 rfl) ?_
        refine va_get (ci := 10) (v := (.int (f_14 0 34))) (C := RX12) (T := TX12) (N := 44) hx hb hq i_X12 hown hK hP 0 (gb_at b rfl) rfl 34 (by decide) (hq _ w_1158) (fun _ h9 => h9) rfl dX12_told_66 ?_
        refine lv_goto (tgt := 105) hx hb dX12_told_69 (by decide) ?_
        obtain ⟨e1, e2, e3⟩ := gb_eq3 h
        exact W.iret (v := (f_14 0 34)) hx hb hr (fun t ht hW => gb_ri ht ⟨e3, by rw [← e1, ← e2]; exact hP⟩ hS) hS.2.2 dX12_told_105
    · rw [if_pos c_19] at h
      refine lv_bipush (v := (-2)) hx hb dX12_told_58 (by decide) ?_
      obtain ⟨e1, e2, e3⟩ := gb_eq3 h
      exact W.iret (v := (-2)) hx hb hr (fun t ht hW => gb_ri ht ⟨e3, by rw [← e1, ← e2]; exact hP⟩ hS) hS.2.2 dX12_told_60
  unfold ms_told at h
  refine lv_aload_n hx hb dX12_told_0 rfl (lv_at hl 0 rfl) ?_
  refine lv_iload_n hx hb dX12_told_1 rfl (lv_at hl 1 rfl) ?_
  refine lv_iload_n hx hb dX12_told_2 rfl (lv_at hl 2 rfl) ?_
  obtain ⟨f_1, wl_2, r_3, z_4, h⟩ := gb_bd_s h
  refine gb_calli (va_runV (C := RX12) (As := [.int p1, .int p2]) (rest := []) ⟨hx, hb, hml, hown, hq⟩ (mc_areSeen l D cT tt b1 b hb1 n f w p1 p2 f_1 wl_2 r_3 z_4) (cwV 2 hq (gb_gV w_1608 w_1610 s_6_11 w_14 w_1611) rfl rfl rfl (by decide +kernel) ⟨Nat.le_of_ble_eq_true rfl, Nat.le_of_ble_eq_true rfl⟩) (gb_preV (r := (RX12, TX12, 44)) (ci := 10) (q0 := 0) hSt hP rfl (gb_at b rfl) hS (fun q h => Nat.le_trans hb1 h.1) hP) rfl rfl hl.1 rfl (lv_room (Nat.le_of_ble_eq_true rfl)) dX12_told_3 ⟨Nat.le_of_ble_eq_true rfl, Nat.le_of_ble_eq_true rfl⟩) hS (fun _ h => h) (fun _ h => h) (fun q_5 H locs hY hk hS => ?_)
  obtain ⟨hq_5, hP⟩ := hY
  replace hq_5 := hq_5.symm
  subst hq_5
  refine lv_if_ne (tgt := 12) hx hb dX12_told_6 (by decide) (fun c_6 => ?_) (fun c_6 => ?_)
  · rw [if_neg c_6] at h
    refine lv_iload_n hx hb dX12_told_12 rfl (lv_at hl 3 rfl) ?_
    refine lv_iconst (v := 3) hx hb dX12_told_13 (by decide) ?_
    refine lv_icmp_ne (tgt := 22) hx hb dX12_told_14 (by decide) (fun c_7 => ?_) (fun c_7 => ?_)
    · rw [if_neg c_7] at h
      refine lv_iload_n hx hb dX12_told_22 rfl (lv_at hl 3 rfl) ?_
      refine lv_iconst (v := 0) hx hb dX12_told_23 (by decide) ?_
      refine lv_iconst (v := 2) hx hb dX12_told_24 (by decide) ?_
      obtain ⟨f_8, wl_9, r_10, z_11, h⟩ := gb_bd_s h
      refine gb_calli (va_runS (As := [.int p3, .int 0, .int 2]) (rest := []) ⟨hx, hb, hml, hown, hq⟩ (mc_isIn l D cT tt b1 b hb1 n f_1 wl_2 p3 0 2 f_8 wl_9 r_10 z_11) (va_cwS 3 hq (gb_gS w_1269 w_1270 w_14 w_1271) rfl rfl rfl (by decide +kernel) ⟨Nat.le_of_ble_eq_true rfl, Nat.le_of_ble_eq_true rfl⟩) (gb_preS hSt hS (fun q h => Nat.le_trans hb1 h.1) hP) rfl rfl hl.1 rfl (lv_room (Nat.le_of_ble_eq_true rfl)) dX12_told_25 ⟨Nat.le_of_ble_eq_true rfl, Nat.le_of_ble_eq_true rfl⟩) hS (fun _ h => h) (fun _ h => h) (fun q_12 H locs hY hk hS => ?_)
      obtain ⟨hq_12, hP⟩ := hY
      replace hq_12 := hq_12.symm
      subst hq_12
      refine lv_if_ne (tgt := 45) hx hb dX12_told_28 (by decide) (fun c_13 => ?_) (fun c_13 => ?_)
      · rw [if_neg c_13] at h
        exact L45 _ _ _ _ _ _ h hP hS (lv_sub hl [0, 3] rfl)
      · rw [if_pos c_13] at h
        refine lv_aload_n hx hb dX12_told_31 rfl (lv_at hl 0 rfl) ?_
        refine lv_iload_n hx hb dX12_told_32 rfl (lv_at hl 3 rfl) ?_
        refine lv_bipush (v := 10) hx hb dX12_told_33 (by decide) ?_
        refine lv_isub hx hb dX12_told_35 ?_
        obtain ⟨f_25, wl_26, r_27, z_28, h⟩ := gb_bd_s h
        refine gb_calli (va_runV (C := RX12) (As := [.int (p3 - 10)]) (rest := []) ⟨hx, hb, hml, hown, hq⟩ (mc_isGoose l D cT tt b1 b hb1 n f_8 wl_9 (p3 - 10) f_25 wl_26 r_27 z_28) (cwV 1 hq (gb_gV w_1392 w_1394 s_4_6 w_14 w_1395) rfl rfl rfl (by decide +kernel) ⟨Nat.le_of_ble_eq_true rfl, Nat.le_of_ble_eq_true rfl⟩) (gb_preV (r := (RX12, TX12, 44)) (ci := 10) (q0 := 0) hSt hP rfl (gb_at b rfl) hS (fun q h => Nat.le_trans hb1 h.1) hP) rfl rfl hl.1 rfl (lv_room (Nat.le_of_ble_eq_true rfl)) dX12_told_36 ⟨Nat.le_of_ble_eq_true rfl, Nat.le_of_ble_eq_true rfl⟩) hS (fun _ h => h) (fun _ h => h) (fun q_29 H locs hY hk hS => ?_)
        obtain ⟨hq_29, hP⟩ := hY
        replace hq_29 := hq_29.symm
        subst hq_29
        refine lv_if_ne (tgt := 45) hx hb dX12_told_39 (by decide) (fun c_30 => ?_) (fun c_30 => ?_)
        · rw [if_neg c_30] at h
          exact L45 _ _ _ _ _ _ h hP hS (lv_sub hl [0, 3] rfl)
        · rw [if_pos c_30] at h
          refine lv_bipush (v := (-2)) hx hb dX12_told_42 (by decide) ?_
          obtain ⟨e1, e2, e3⟩ := gb_eq3 h
          exact W.iret (v := (-2)) hx hb hr (fun t ht hW => gb_ri ht ⟨e3, by rw [← e1, ← e2]; exact hP⟩ hS) hS.2.2 dX12_told_44
    · rw [if_pos c_7] at h
      refine lv_aload_n hx hb dX12_told_17 rfl (lv_at hl 0 rfl) ?_
      obtain ⟨f_31, wl_32, r_33, z_34, h⟩ := gb_bd_s h
      refine gb_calli (va_runV (C := RX12) (As := []) (rest := []) ⟨hx, hb, hml, hown, hq⟩ (mc_toe l D cT tt b1 b hb1 n f_1 wl_2 f_31 wl_32 r_33 z_34) (cwV 0 hq (gb_gV w_1637 w_1639 s_7_1 w_14 w_1640) rfl rfl rfl (by decide +kernel) ⟨Nat.le_of_ble_eq_true rfl, Nat.le_of_ble_eq_true rfl⟩) (gb_preV (r := (RX12, TX12, 44)) (ci := 10) (q0 := 0) hSt hP rfl (gb_at b rfl) hS (fun q h => Nat.le_trans hb1 h.1) hP) rfl rfl hl.1 rfl (lv_room (Nat.le_of_ble_eq_true rfl)) dX12_told_18 ⟨Nat.le_of_ble_eq_true rfl, Nat.le_of_ble_eq_true rfl⟩) hS (fun _ h => h) (fun _ h => h) (fun q_35 H locs hY hk hS => ?_)
      obtain ⟨hq_35, hP⟩ := hY
      replace hq_35 := hq_35.symm
      subst hq_35
      obtain ⟨e1, e2, e3⟩ := gb_eq3 h
      exact W.iret (v := r_33) hx hb hr (fun t ht hW => gb_ri ht ⟨e3, by rw [← e1, ← e2]; exact hP⟩ hS) hS.2.2 dX12_told_21
  · rw [if_pos c_6] at h
    refine lv_bipush (v := (-2)) hx hb dX12_told_9 (by decide) ?_
    obtain ⟨e1, e2, e3⟩ := gb_eq3 h
    exact W.iret (v := (-2)) hx hb hr (fun t ht hW => gb_ri ht ⟨e3, by rw [← e1, ← e2]; exact hP⟩ hS) hS.2.2 dX12_told_11
theorem dX12_lacks_0 : decode cX12_lacks 0 = .ok (.aload_n 0, 1) := dc_42 (show ((cX12_lacks.data.toList.drop 0).take 1).map UInt8.toNat = [42] by decide +kernel)
theorem dX12_lacks_1 : decode cX12_lacks 1 = .ok (.iload_n 1, 1) := dc_27 (show ((cX12_lacks.data.toList.drop 1).take 1).map UInt8.toNat = [27] by decide +kernel)
theorem dX12_lacks_2 : decode cX12_lacks 2 = .ok (.iload_n 2, 1) := dc_28 (show ((cX12_lacks.data.toList.drop 2).take 1).map UInt8.toNat = [28] by decide +kernel)
theorem dX12_lacks_3 : decode cX12_lacks 3 = .ok (.invokevirtual 264, 3) := dc_182 (show ((cX12_lacks.data.toList.drop 3).take 3).map UInt8.toNat = [182, 1, 8] by decide +kernel) rfl
theorem dX12_lacks_6 : decode cX12_lacks 6 = .ok (.ifCond .eq 12, 3) := dc_153 (show ((cX12_lacks.data.toList.drop 6).take 3).map UInt8.toNat = [153, 0, 12] by decide +kernel) rfl
theorem dX12_lacks_18 : decode cX12_lacks 18 = .ok (.iconst (-1), 1) := dc_2 (show ((cX12_lacks.data.toList.drop 18).take 1).map UInt8.toNat = [2] by decide +kernel)
theorem dX12_lacks_19 : decode cX12_lacks 19 = .ok (.ireturn, 1) := dc_172 (show ((cX12_lacks.data.toList.drop 19).take 1).map UInt8.toNat = [172] by decide +kernel)
theorem dX12_lacks_9 : decode cX12_lacks 9 = .ok (.aload_n 0, 1) := dc_42 (show ((cX12_lacks.data.toList.drop 9).take 1).map UInt8.toNat = [42] by decide +kernel)
theorem dX12_lacks_10 : decode cX12_lacks 10 = .ok (.iload_n 1, 1) := dc_27 (show ((cX12_lacks.data.toList.drop 10).take 1).map UInt8.toNat = [27] by decide +kernel)
theorem dX12_lacks_11 : decode cX12_lacks 11 = .ok (.iload_n 3, 1) := dc_29 (show ((cX12_lacks.data.toList.drop 11).take 1).map UInt8.toNat = [29] by decide +kernel)
theorem dX12_lacks_12 : decode cX12_lacks 12 = .ok (.invokevirtual 373, 3) := dc_182 (show ((cX12_lacks.data.toList.drop 12).take 3).map UInt8.toNat = [182, 1, 117] by decide +kernel) rfl
theorem dX12_lacks_15 : decode cX12_lacks 15 = .ok (.ifCond .ne 5, 3) := dc_154 (show ((cX12_lacks.data.toList.drop 15).take 3).map UInt8.toNat = [154, 0, 5] by decide +kernel) rfl
theorem dX12_lacks_20 : decode cX12_lacks 20 = .ok (.aload_n 0, 1) := dc_42 (show ((cX12_lacks.data.toList.drop 20).take 1).map UInt8.toNat = [42] by decide +kernel)
theorem dX12_lacks_21 : decode cX12_lacks 21 = .ok (.bipush 24, 2) := dc_16 (show ((cX12_lacks.data.toList.drop 21).take 2).map UInt8.toNat = [16, 24] by decide +kernel) rfl
theorem dX12_lacks_23 : decode cX12_lacks 23 = .ok (.invokevirtual 267, 3) := dc_182 (show ((cX12_lacks.data.toList.drop 23).take 3).map UInt8.toNat = [182, 1, 11] by decide +kernel) rfl
theorem dX12_lacks_26 : decode cX12_lacks 26 = .ok (.iconst 0, 1) := dc_3 (show ((cX12_lacks.data.toList.drop 26).take 1).map UInt8.toNat = [3] by decide +kernel)
theorem dX12_lacks_27 : decode cX12_lacks 27 = .ok (.istore 4, 2) := dc_54 (show ((cX12_lacks.data.toList.drop 27).take 2).map UInt8.toNat = [54, 4] by decide +kernel) rfl
theorem dX12_lacks_29 : decode cX12_lacks 29 = .ok (.iconst 0, 1) := dc_3 (show ((cX12_lacks.data.toList.drop 29).take 1).map UInt8.toNat = [3] by decide +kernel)
theorem dX12_lacks_30 : decode cX12_lacks 30 = .ok (.istore 5, 2) := dc_54 (show ((cX12_lacks.data.toList.drop 30).take 2).map UInt8.toNat = [54, 5] by decide +kernel) rfl
theorem dX12_lacks_32 : decode cX12_lacks 32 = .ok (.iload 5, 2) := dc_21 (show ((cX12_lacks.data.toList.drop 32).take 2).map UInt8.toNat = [21, 5] by decide +kernel) rfl
theorem dX12_lacks_34 : decode cX12_lacks 34 = .ok (.aload_n 0, 1) := dc_42 (show ((cX12_lacks.data.toList.drop 34).take 1).map UInt8.toNat = [42] by decide +kernel)
theorem dX12_lacks_35 : decode cX12_lacks 35 = .ok (.getfield 7, 3) := dc_180 (show ((cX12_lacks.data.toList.drop 35).take 3).map UInt8.toNat = [180, 0, 7] by decide +kernel) rfl
theorem dX12_lacks_38 : decode cX12_lacks 38 = .ok (.aload_n 0, 1) := dc_42 (show ((cX12_lacks.data.toList.drop 38).take 1).map UInt8.toNat = [42] by decide +kernel)
theorem dX12_lacks_39 : decode cX12_lacks 39 = .ok (.getfield 341, 3) := dc_180 (show ((cX12_lacks.data.toList.drop 39).take 3).map UInt8.toNat = [180, 1, 85] by decide +kernel) rfl
theorem dX12_lacks_42 : decode cX12_lacks 42 = .ok (.iaload, 1) := dc_46 (show ((cX12_lacks.data.toList.drop 42).take 1).map UInt8.toNat = [46] by decide +kernel)
theorem dX12_lacks_43 : decode cX12_lacks 43 = .ok (.if_icmp .ge 62, 3) := dc_162 (show ((cX12_lacks.data.toList.drop 43).take 3).map UInt8.toNat = [162, 0, 62] by decide +kernel) rfl
theorem dX12_lacks_105 : decode cX12_lacks 105 = .ok (.iload 4, 2) := dc_21 (show ((cX12_lacks.data.toList.drop 105).take 2).map UInt8.toNat = [21, 4] by decide +kernel) rfl
theorem dX12_lacks_107 : decode cX12_lacks 107 = .ok (.ireturn, 1) := dc_172 (show ((cX12_lacks.data.toList.drop 107).take 1).map UInt8.toNat = [172] by decide +kernel)
theorem dX12_lacks_46 : decode cX12_lacks 46 = .ok (.iload 4, 2) := dc_21 (show ((cX12_lacks.data.toList.drop 46).take 2).map UInt8.toNat = [21, 4] by decide +kernel) rfl
theorem dX12_lacks_48 : decode cX12_lacks 48 = .ok (.aload_n 0, 1) := dc_42 (show ((cX12_lacks.data.toList.drop 48).take 1).map UInt8.toNat = [42] by decide +kernel)
theorem dX12_lacks_49 : decode cX12_lacks 49 = .ok (.aload_n 0, 1) := dc_42 (show ((cX12_lacks.data.toList.drop 49).take 1).map UInt8.toNat = [42] by decide +kernel)
theorem dX12_lacks_50 : decode cX12_lacks 50 = .ok (.iload 5, 2) := dc_21 (show ((cX12_lacks.data.toList.drop 50).take 2).map UInt8.toNat = [21, 5] by decide +kernel) rfl
theorem dX12_lacks_52 : decode cX12_lacks 52 = .ok (.iconst 0, 1) := dc_3 (show ((cX12_lacks.data.toList.drop 52).take 1).map UInt8.toNat = [3] by decide +kernel)
theorem dX12_lacks_53 : decode cX12_lacks 53 = .ok (.invokevirtual 344, 3) := dc_182 (show ((cX12_lacks.data.toList.drop 53).take 3).map UInt8.toNat = [182, 1, 88] by decide +kernel) rfl
theorem dX12_lacks_56 : decode cX12_lacks 56 = .ok (.invokevirtual 208, 3) := dc_182 (show ((cX12_lacks.data.toList.drop 56).take 3).map UInt8.toNat = [182, 0, 208] by decide +kernel) rfl
theorem dX12_lacks_59 : decode cX12_lacks 59 = .ok (.ifCond .eq 36, 3) := dc_153 (show ((cX12_lacks.data.toList.drop 59).take 3).map UInt8.toNat = [153, 0, 36] by decide +kernel) rfl
theorem dX12_lacks_95 : decode cX12_lacks 95 = .ok (.iconst 0, 1) := dc_3 (show ((cX12_lacks.data.toList.drop 95).take 1).map UInt8.toNat = [3] by decide +kernel)
theorem dX12_lacks_96 : decode cX12_lacks 96 = .ok (.ior, 1) := dc_128 (show ((cX12_lacks.data.toList.drop 96).take 1).map UInt8.toNat = [128] by decide +kernel)
theorem dX12_lacks_97 : decode cX12_lacks 97 = .ok (.istore 4, 2) := dc_54 (show ((cX12_lacks.data.toList.drop 97).take 2).map UInt8.toNat = [54, 4] by decide +kernel) rfl
theorem dX12_lacks_99 : decode cX12_lacks 99 = .ok (.iinc 5 1, 3) := dc_132 (show ((cX12_lacks.data.toList.drop 99).take 3).map UInt8.toNat = [132, 5, 1] by decide +kernel) rfl
theorem dX12_lacks_102 : decode cX12_lacks 102 = .ok (.goto (-70), 3) := dc_167 (show ((cX12_lacks.data.toList.drop 102).take 3).map UInt8.toNat = [167, 255, 186] by decide +kernel) rfl
theorem dX12_lacks_62 : decode cX12_lacks 62 = .ok (.aload_n 0, 1) := dc_42 (show ((cX12_lacks.data.toList.drop 62).take 1).map UInt8.toNat = [42] by decide +kernel)
theorem dX12_lacks_63 : decode cX12_lacks 63 = .ok (.iload 5, 2) := dc_21 (show ((cX12_lacks.data.toList.drop 63).take 2).map UInt8.toNat = [21, 5] by decide +kernel) rfl
theorem dX12_lacks_65 : decode cX12_lacks 65 = .ok (.iconst 1, 1) := dc_4 (show ((cX12_lacks.data.toList.drop 65).take 1).map UInt8.toNat = [4] by decide +kernel)
theorem dX12_lacks_66 : decode cX12_lacks 66 = .ok (.invokevirtual 344, 3) := dc_182 (show ((cX12_lacks.data.toList.drop 66).take 3).map UInt8.toNat = [182, 1, 88] by decide +kernel) rfl
theorem dX12_lacks_69 : decode cX12_lacks 69 = .ok (.aload_n 0, 1) := dc_42 (show ((cX12_lacks.data.toList.drop 69).take 1).map UInt8.toNat = [42] by decide +kernel)
theorem dX12_lacks_70 : decode cX12_lacks 70 = .ok (.aload_n 0, 1) := dc_42 (show ((cX12_lacks.data.toList.drop 70).take 1).map UInt8.toNat = [42] by decide +kernel)
theorem dX12_lacks_71 : decode cX12_lacks 71 = .ok (.iload 5, 2) := dc_21 (show ((cX12_lacks.data.toList.drop 71).take 2).map UInt8.toNat = [21, 5] by decide +kernel) rfl
theorem dX12_lacks_73 : decode cX12_lacks 73 = .ok (.iconst 0, 1) := dc_3 (show ((cX12_lacks.data.toList.drop 73).take 1).map UInt8.toNat = [3] by decide +kernel)
theorem dX12_lacks_74 : decode cX12_lacks 74 = .ok (.invokevirtual 344, 3) := dc_182 (show ((cX12_lacks.data.toList.drop 74).take 3).map UInt8.toNat = [182, 1, 88] by decide +kernel) rfl
theorem dX12_lacks_77 : decode cX12_lacks 77 = .ok (.invokevirtual 273, 3) := dc_182 (show ((cX12_lacks.data.toList.drop 77).take 3).map UInt8.toNat = [182, 1, 17] by decide +kernel) rfl
theorem dX12_lacks_80 : decode cX12_lacks 80 = .ok (.if_icmp .ge 15, 3) := dc_162 (show ((cX12_lacks.data.toList.drop 80).take 3).map UInt8.toNat = [162, 0, 15] by decide +kernel) rfl
theorem dX12_lacks_83 : decode cX12_lacks 83 = .ok (.iconst 1, 1) := dc_4 (show ((cX12_lacks.data.toList.drop 83).take 1).map UInt8.toNat = [4] by decide +kernel)
theorem dX12_lacks_84 : decode cX12_lacks 84 = .ok (.aload_n 0, 1) := dc_42 (show ((cX12_lacks.data.toList.drop 84).take 1).map UInt8.toNat = [42] by decide +kernel)
theorem dX12_lacks_85 : decode cX12_lacks 85 = .ok (.iload 5, 2) := dc_21 (show ((cX12_lacks.data.toList.drop 85).take 2).map UInt8.toNat = [21, 5] by decide +kernel) rfl
theorem dX12_lacks_87 : decode cX12_lacks 87 = .ok (.iconst 0, 1) := dc_3 (show ((cX12_lacks.data.toList.drop 87).take 1).map UInt8.toNat = [3] by decide +kernel)
theorem dX12_lacks_88 : decode cX12_lacks 88 = .ok (.invokevirtual 344, 3) := dc_182 (show ((cX12_lacks.data.toList.drop 88).take 3).map UInt8.toNat = [182, 1, 88] by decide +kernel) rfl
theorem dX12_lacks_91 : decode cX12_lacks 91 = .ok (.ishl, 1) := dc_120 (show ((cX12_lacks.data.toList.drop 91).take 1).map UInt8.toNat = [120] by decide +kernel)
theorem dX12_lacks_92 : decode cX12_lacks 92 = .ok (.goto 4, 3) := dc_167 (show ((cX12_lacks.data.toList.drop 92).take 3).map UInt8.toNat = [167, 0, 4] by decide +kernel) rfl
def ms_lacks_32 (n : Nat) : Nat → gb_F → Int64 → Int32 → Int32 → gb_MR Int32
  | 0, _, _, _, _ => none
  | mm + 1, f, w, v4, v5 => gb_ck (f 0 29) 3968 (gb_lt (f 1 (Int32.toNatClampNeg (f 0 29))) (fun x_19 => (if x_19 ≤ v5 then some (f, w, v4) else gb_bd (ms_seenOf n f w v5 0) (fun f_21 wl_22 r_23 => gb_bd (ms_isPath n f_21 wl_22 r_23) (fun f_26 wl_27 r_28 => (if r_28 = 0 then gb_lt (v4 ||| 0) (fun x_32 => gb_lt (v5 + 1) (fun x_33 => ms_lacks_32 n mm f_26 wl_27 x_32 x_33)) else gb_bd (ms_seenOf n f_26 wl_27 v5 1) (fun f_34 wl_35 r_36 => gb_bd (ms_seenOf n f_34 wl_35 v5 0) (fun f_39 wl_40 r_41 => gb_bd (ms_tally n f_39 wl_40 r_41) (fun f_44 wl_45 r_46 => (if r_46 ≤ r_36 then gb_lt (v4 ||| 0) (fun x_50 => gb_lt (v5 + 1) (fun x_51 => ms_lacks_32 n mm f_44 wl_45 x_50 x_51)) else gb_bd (ms_seenOf n f_44 wl_45 v5 0) (fun f_52 wl_53 r_54 => gb_lt (v4 ||| (1 <<< (r_54 &&& 31))) (fun x_57 => gb_lt (v5 + 1) (fun x_58 => ms_lacks_32 n mm f_52 wl_53 x_57 x_58)))))))))))))
def ms_lacks (n : Nat) (f : gb_F) (w : Int64) (p1 : Int32) (p2 : Int32) (p3 : Int32) : gb_MR Int32 := gb_bd (ms_areTold n f w p1 p2) (fun f_1 wl_2 r_3 => (if r_3 = 0 then some (f_1, wl_2, (-1)) else gb_bd (ms_areSeen n f_1 wl_2 p1 p3) (fun f_7 wl_8 r_9 => (if r_9 = 0 then some (f_7, wl_8, (-1)) else gb_bd (ms_runs n f_7 wl_8 24) (fun f_13 wl_14 _ => ms_lacks_32 n n f_13 wl_14 0 0)))))
set_option maxHeartbeats 8000000 in
set_option maxRecDepth 100000 in
theorem mc_lacks (l : Launch) (D : va_G) (cT : Nat → ClassId) (tt : Nat → Nat) (b1 b : Nat) (hb1 : b1 ≤ b) (n : Nat) (f : gb_F) (w : Int64) (p1 : Int32) (p2 : Int32) (p3 : Int32) (fE : gb_F) (wE : Int64) (rE : Int32) (h : ms_lacks n f w p1 p2 p3 = some (fE, wE, rE)) : Met l yX12_lacks (.code yX12_lacks cX12_lacks 6 (some FieldType.int) :: gb_wA) ({ frames := 6, cells := 0, slots := 0, locals := 141 }) (gb_Pc D cT tt b1 [.ref (b + 0), .int p1, .int p2, .int p3] (fun h => va_P D vwCl (gb_wl b (gb_MW cT b f w)) h)) (gb_Qi (fun r h => r = rE ∧ va_P D vwCl (gb_wl b (gb_MW cT b fE wE)) h) (gb_fr b 22)) 0 0 (gb_fr b 22) := by
  refine Met.ofW (cc := cX12_lacks) (maxL := 6) (ret := (some FieldType.int)) (by decide) rfl ?_
  intro p e s m args below meth c s₁ B hml hv
  obtain ⟨rfl, hSt, hP⟩ := hv
  have hx := B.exec
  have hb := B.bytes
  have hr := B.returns
  have hts := atoms_spec (ws := .code yX12_lacks cX12_lacks 6 (some FieldType.int) :: gb_wA) B.pre
  have hq : ∀ w ∈ gb_wA, w.before _ s = true := fun w h => hts w (List.mem_cons_of_mem _ h)
  have hown : s.vm.findClass RX12 = some m.cls := findClass_of_methodNamed B.named
  have hlocks := B.notSynchronized
  clear B hts
  have hK := hSt.1
  have hS : va_S (gb_fr b 22) s.heap s.heap [] := va_S.rf
  have hl := lv_entry ([.ref (b + 0), .int p1, .int p2, .int p3]) (n := 6) (Nat.le_of_ble_eq_true rfl)
  rw [lg_entry_eq]
  generalize (lg_sl ([.ref (b + 0), .int p1, .int p2, .int p3]) ++ List.replicate (6 - (lg_sl ([.ref (b + 0), .int p1, .int p2, .int p3])).length) Slot.unset).toArray = ls at hl ⊢
  replace hl : lv_has ls 6 [(0, .ref (b + 0)), (1, .int p1), (2, .int p2), (3, .int p3)] := hl
  have L32 : ∀ (mm : Nat) (f : gb_F) (w : Int64) (v4 : Int32) (v5 : Int32) (H : Heap) (locs : List Loc) (ls : Array Slot), ms_lacks_32 n mm f w v4 v5 = some (fE, wE, rE) → va_P D vwCl (gb_wl b (gb_MW cT b f w)) H → va_S (gb_fr b 22) s.heap H locs → lv_has ls 6 [(0, .ref (b + 0)), (4, .int v4), (5, .int v5)] → W p l e (headSpec (.code yX12_lacks cX12_lacks 6 (some FieldType.int) :: gb_wA) ({ frames := 6, cells := 0, slots := 0, locals := 141 })).room s m ([.ref (b + 0), .int p1, .int p2, .int p3]).toArray below meth c H locs 0 0 (MQ below (gb_Qi (fun r h => r = rE ∧ va_P D vwCl (gb_wl b (gb_MW cT b fE wE)) h) (gb_fr b 22)) ([.ref (b + 0), .int p1, .int p2, .int p3]).toArray s 0 0 (gb_fr b 22)) (F0 m 32 ls []) := by
    clear h hP hS hl ls f w
    intro mm
    induction mm with
    | zero =>
      intro f w v4 v5 H locs ls h
      cases h
    | succ mm ih =>
      intro f w v4 v5 H locs ls h hP hS hl
      rw [ms_lacks_32] at h
      refine lv_iload hx hb dX12_lacks_32 (lv_at hl 2 rfl) ?_
      refine lv_aload_n hx hb dX12_lacks_34 rfl (lv_at hl 0 rfl) ?_
      refine va_get (ci := 10) (v := (.ref (b + 1))) (C := RX12) (T := TX12) (N := 44) hx hb hq i_X12 hown hK hP 0 (gb_at b rfl) rfl 0 (by decide) (hq _ w_1124) (fun _ h9 => h9) rfl dX12_lacks_35 ?_
      refine lv_aload_n hx hb dX12_lacks_38 rfl (lv_at hl 0 rfl) ?_
      refine va_get (ci := 10) (v := (.int (f 0 29))) (C := RX12) (T := TX12) (N := 44) hx hb hq i_X12 hown hK hP 0 (gb_at b rfl) rfl 29 (by decide) (hq _ w_1153) (fun _ h9 => h9) rfl dX12_lacks_39 ?_
      obtain ⟨z_18, h⟩ := gb_ck_s h
      refine va_iald hx hb hK hP 1 0 (gb_at b rfl) rfl z_18 dX12_lacks_42 ?_
      refine lv_topi (fun x_19 ex_19 => ?_)
      replace h := gb_lt_s ex_19 h
      refine lv_icmp_ge (tgt := 105) hx hb dX12_lacks_43 (by decide) (fun c_20 => ?_) (fun c_20 => ?_)
      · rw [if_pos c_20] at h
        refine lv_iload hx hb dX12_lacks_105 (lv_at hl 1 rfl) ?_
        obtain ⟨e1, e2, e3⟩ := gb_eq3 h
        exact W.iret (v := v4) hx hb hr (fun t ht hW => gb_ri ht ⟨e3, by rw [← e1, ← e2]; exact hP⟩ hS) hS.2.2 dX12_lacks_107
      · rw [if_neg c_20] at h
        refine lv_iload hx hb dX12_lacks_46 (lv_at hl 1 rfl) ?_
        refine lv_aload_n hx hb dX12_lacks_48 rfl (lv_at hl 0 rfl) ?_
        refine lv_aload_n hx hb dX12_lacks_49 rfl (lv_at hl 0 rfl) ?_
        refine lv_iload hx hb dX12_lacks_50 (lv_at hl 2 rfl) ?_
        refine lv_iconst (v := 0) hx hb dX12_lacks_52 (by decide) ?_
        obtain ⟨f_21, wl_22, r_23, z_24, h⟩ := gb_bd_s h
        refine gb_calli (va_runV (C := RX12) (As := [.int v5, .int 0]) (rest := [.ref (b + 0), .int v4]) ⟨hx, hb, hml, hown, hq⟩ (mc_seenOf l D cT tt b1 b hb1 n f w v5 0 f_21 wl_22 r_23 z_24) (cwV 2 hq (gb_gV w_1600 w_1602 s_6_10 w_14 w_1603) rfl rfl rfl (by decide +kernel) ⟨Nat.le_of_ble_eq_true rfl, Nat.le_of_ble_eq_true rfl⟩) (gb_preV (r := (RX12, TX12, 44)) (ci := 10) (q0 := 0) hSt hP rfl (gb_at b rfl) hS (fun q h => Nat.le_trans hb1 h.1) hP) rfl rfl hl.1 rfl (lv_room (Nat.le_of_ble_eq_true rfl)) dX12_lacks_53 ⟨Nat.le_of_ble_eq_true rfl, Nat.le_of_ble_eq_true rfl⟩) hS (fun _ h => h) (fun _ h => h) (fun q_25 H locs hY hk hS => ?_)
        obtain ⟨hq_25, hP⟩ := hY
        replace hq_25 := hq_25.symm
        subst hq_25
        obtain ⟨f_26, wl_27, r_28, z_29, h⟩ := gb_bd_s h
        refine gb_calli (va_runV (C := RX12) (As := [.int r_23]) (rest := [.int v4]) ⟨hx, hb, hml, hown, hq⟩ (mc_isPath l D cT tt b1 b hb1 n f_21 wl_22 r_23 f_26 wl_27 r_28 z_29) (cwV 1 hq (gb_gV w_1380 w_1382 s_4_3 w_14 w_1383) rfl rfl rfl (by decide +kernel) ⟨Nat.le_of_ble_eq_true rfl, Nat.le_of_ble_eq_true rfl⟩) (gb_preV (r := (RX12, TX12, 44)) (ci := 10) (q0 := 0) hSt hP rfl (gb_at b rfl) hS (fun q h => Nat.le_trans hb1 h.1) hP) rfl rfl hl.1 rfl (lv_room (Nat.le_of_ble_eq_true rfl)) dX12_lacks_56 ⟨Nat.le_of_ble_eq_true rfl, Nat.le_of_ble_eq_true rfl⟩) hS (fun _ h => h) (fun _ h => h) (fun q_30 H locs hY hk hS => ?_)
        obtain ⟨hq_30, hP⟩ := hY
        replace hq_30 := hq_30.symm
        subst hq_30
        refine lv_if_eq (tgt := 95) hx hb dX12_lacks_59 (by decide) (fun c_31 => ?_) (fun c_31 => ?_)
        · rw [if_pos c_31] at h
          refine lv_iconst (v := 0) hx hb dX12_lacks_95 (by decide) ?_
          refine lv_ior hx hb dX12_lacks_96 ?_
          refine lv_topi (fun x_32 ex_32 => ?_)
          replace h := gb_lt_s ex_32 h
          refine lv_istore (lv' := [(4, .int x_32), (0, .ref (b + 0)), (5, .int v5)]) hx hb dX12_lacks_97 hl (by decide) rfl (fun ls hl => ?_)
          obtain ⟨x_33, ex_33⟩ : ∃ q, q = (v5 + 1) := ⟨_, rfl⟩
          replace h := gb_lt_s ex_33 h
          refine lv_iinc (v := x_33) (lv' := [(5, .int x_33), (4, .int x_32), (0, .ref (b + 0))]) hx hb dX12_lacks_99 hl (k := 2) rfl (by rw [ex_33]; rfl) (by decide) rfl (fun ls hl => ?_)
          refine lv_goto (tgt := 32) hx hb dX12_lacks_102 (by decide) ?_
          exact ih _ _ _ _ _ _ _ h hP hS (lv_sub hl [2, 1, 0] rfl)
        · rw [if_neg c_31] at h
          refine lv_aload_n hx hb dX12_lacks_62 rfl (lv_at hl 0 rfl) ?_
          refine lv_iload hx hb dX12_lacks_63 (lv_at hl 2 rfl) ?_
          refine lv_iconst (v := 1) hx hb dX12_lacks_65 (by decide) ?_
          obtain ⟨f_34, wl_35, r_36, z_37, h⟩ := gb_bd_s h
          refine gb_calli (va_runV (C := RX12) (As := [.int v5, .int 1]) (rest := [.int v4]) ⟨hx, hb, hml, hown, hq⟩ (mc_seenOf l D cT tt b1 b hb1 n f_26 wl_27 v5 1 f_34 wl_35 r_36 z_37) (cwV 2 hq (gb_gV w_1600 w_1602 s_6_10 w_14 w_1603) rfl rfl rfl (by decide +kernel) ⟨Nat.le_of_ble_eq_true rfl, Nat.le_of_ble_eq_true rfl⟩) (gb_preV (r := (RX12, TX12, 44)) (ci := 10) (q0 := 0) hSt hP rfl (gb_at b rfl) hS (fun q h => Nat.le_trans hb1 h.1) hP) rfl rfl hl.1 rfl (lv_room (Nat.le_of_ble_eq_true rfl)) dX12_lacks_66 ⟨Nat.le_of_ble_eq_true rfl, Nat.le_of_ble_eq_true rfl⟩) hS (fun _ h => h) (fun _ h => h) (fun q_38 H locs hY hk hS => ?_)
          obtain ⟨hq_38, hP⟩ := hY
          replace hq_38 := hq_38.symm
          subst hq_38
          refine lv_aload_n hx hb dX12_lacks_69 rfl (lv_at hl 0 rfl) ?_
          refine lv_aload_n hx hb dX12_lacks_70 rfl (lv_at hl 0 rfl) ?_
          refine lv_iload hx hb dX12_lacks_71 (lv_at hl 2 rfl) ?_
          refine lv_iconst (v := 0) hx hb dX12_lacks_73 (by decide) ?_
          obtain ⟨f_39, wl_40, r_41, z_42, h⟩ := gb_bd_s h
          refine gb_calli (va_runV (C := RX12) (As := [.int v5, .int 0]) (rest := [.ref (b + 0), .int r_36, .int v4]) ⟨hx, hb, hml, hown, hq⟩ (mc_seenOf l D cT tt b1 b hb1 n f_34 wl_35 v5 0 f_39 wl_40 r_41 z_42) (cwV 2 hq (gb_gV w_1600 w_1602 s_6_10 w_14 w_1603) rfl rfl rfl (by decide +kernel) ⟨Nat.le_of_ble_eq_true rfl, Nat.le_of_ble_eq_true rfl⟩) (gb_preV (r := (RX12, TX12, 44)) (ci := 10) (q0 := 0) hSt hP rfl (gb_at b rfl) hS (fun q h => Nat.le_trans hb1 h.1) hP) rfl rfl hl.1 rfl (lv_room (Nat.le_of_ble_eq_true rfl)) dX12_lacks_74 ⟨Nat.le_of_ble_eq_true rfl, Nat.le_of_ble_eq_true rfl⟩) hS (fun _ h => h) (fun _ h => h) (fun q_43 H locs hY hk hS => ?_)
          obtain ⟨hq_43, hP⟩ := hY
          replace hq_43 := hq_43.symm
          subst hq_43
          obtain ⟨f_44, wl_45, r_46, z_47, h⟩ := gb_bd_s h
          refine gb_calli (va_runV (C := RX12) (As := [.int r_41]) (rest := [.int r_36, .int v4]) ⟨hx, hb, hml, hown, hq⟩ (mc_tally l D cT tt b1 b hb1 n f_39 wl_40 r_41 f_44 wl_45 r_46 z_47) (cwV 1 hq (gb_gV w_1476 w_1478 s_5_6 w_14 w_1479) rfl rfl rfl (by decide +kernel) ⟨Nat.le_of_ble_eq_true rfl, Nat.le_of_ble_eq_true rfl⟩) (gb_preV (r := (RX12, TX12, 44)) (ci := 10) (q0 := 0) hSt hP rfl (gb_at b rfl) hS (fun q h => Nat.le_trans hb1 h.1) hP) rfl rfl hl.1 rfl (lv_room (Nat.le_of_ble_eq_true rfl)) dX12_lacks_77 ⟨Nat.le_of_ble_eq_true rfl, Nat.le_of_ble_eq_true rfl⟩) hS (fun _ h => h) (fun _ h => h) (fun q_48 H locs hY hk hS => ?_)
          obtain ⟨hq_48, hP⟩ := hY
          replace hq_48 := hq_48.symm
          subst hq_48
          refine lv_icmp_ge (tgt := 95) hx hb dX12_lacks_80 (by decide) (fun c_49 => ?_) (fun c_49 => ?_)
          · rw [if_pos c_49] at h
            refine lv_iconst (v := 0) hx hb dX12_lacks_95 (by decide) ?_
            refine lv_ior hx hb dX12_lacks_96 ?_
            refine lv_topi (fun x_50 ex_50 => ?_)
            replace h := gb_lt_s ex_50 h
            refine lv_istore (lv' := [(4, .int x_50), (0, .ref (b + 0)), (5, .int v5)]) hx hb dX12_lacks_97 hl (by decide) rfl (fun ls hl => ?_)
            obtain ⟨x_51, ex_51⟩ : ∃ q, q = (v5 + 1) := ⟨_, rfl⟩
            replace h := gb_lt_s ex_51 h
            refine lv_iinc (v := x_51) (lv' := [(5, .int x_51), (4, .int x_50), (0, .ref (b + 0))]) hx hb dX12_lacks_99 hl (k := 2) rfl (by rw [ex_51]; rfl) (by decide) rfl (fun ls hl => ?_)
            refine lv_goto (tgt := 32) hx hb dX12_lacks_102 (by decide) ?_
            exact ih _ _ _ _ _ _ _ h hP hS (lv_sub hl [2, 1, 0] rfl)
          · rw [if_neg c_49] at h
            refine lv_iconst (v := 1) hx hb dX12_lacks_83 (by decide) ?_
            refine lv_aload_n hx hb dX12_lacks_84 rfl (lv_at hl 0 rfl) ?_
            refine lv_iload hx hb dX12_lacks_85 (lv_at hl 2 rfl) ?_
            refine lv_iconst (v := 0) hx hb dX12_lacks_87 (by decide) ?_
            obtain ⟨f_52, wl_53, r_54, z_55, h⟩ := gb_bd_s h
            refine gb_calli (va_runV (C := RX12) (As := [.int v5, .int 0]) (rest := [.int 1, .int v4]) ⟨hx, hb, hml, hown, hq⟩ (mc_seenOf l D cT tt b1 b hb1 n f_44 wl_45 v5 0 f_52 wl_53 r_54 z_55) (cwV 2 hq (gb_gV w_1600 w_1602 s_6_10 w_14 w_1603) rfl rfl rfl (by decide +kernel) ⟨Nat.le_of_ble_eq_true rfl, Nat.le_of_ble_eq_true rfl⟩) (gb_preV (r := (RX12, TX12, 44)) (ci := 10) (q0 := 0) hSt hP rfl (gb_at b rfl) hS (fun q h => Nat.le_trans hb1 h.1) hP) rfl rfl hl.1 rfl (lv_room (Nat.le_of_ble_eq_true rfl)) dX12_lacks_88 ⟨Nat.le_of_ble_eq_true rfl, Nat.le_of_ble_eq_true rfl⟩) hS (fun _ h => h) (fun _ h => h) (fun q_56 H locs hY hk hS => ?_)
            obtain ⟨hq_56, hP⟩ := hY
            replace hq_56 := hq_56.symm
            subst hq_56
            refine lv_ishl hx hb dX12_lacks_91 ?_
            refine lv_goto (tgt := 96) hx hb dX12_lacks_92 (by decide) ?_
            refine lv_ior hx hb dX12_lacks_96 ?_
            refine lv_topi (fun x_57 ex_57 => ?_)
            replace h := gb_lt_s ex_57 h
            refine lv_istore (lv' := [(4, .int x_57), (0, .ref (b + 0)), (5, .int v5)]) hx hb dX12_lacks_97 hl (by decide) rfl (fun ls hl => ?_)
            obtain ⟨x_58, ex_58⟩ : ∃ q, q = (v5 + 1) := ⟨_, rfl⟩
            replace h := gb_lt_s ex_58 h
            refine lv_iinc (v := x_58) (lv' := [(5, .int x_58), (4, .int x_57), (0, .ref (b + 0))]) hx hb dX12_lacks_99 hl (k := 2) rfl (by rw [ex_58]; rfl) (by decide) rfl (fun ls hl => ?_)
            refine lv_goto (tgt := 32) hx hb dX12_lacks_102 (by decide) ?_
            exact ih _ _ _ _ _ _ _ h hP hS (lv_sub hl [2, 1, 0] rfl)
  unfold ms_lacks at h
  refine lv_aload_n hx hb dX12_lacks_0 rfl (lv_at hl 0 rfl) ?_
  refine lv_iload_n hx hb dX12_lacks_1 rfl (lv_at hl 1 rfl) ?_
  refine lv_iload_n hx hb dX12_lacks_2 rfl (lv_at hl 2 rfl) ?_
  obtain ⟨f_1, wl_2, r_3, z_4, h⟩ := gb_bd_s h
  refine gb_calli (va_runV (C := RX12) (As := [.int p1, .int p2]) (rest := []) ⟨hx, hb, hml, hown, hq⟩ (mc_areTold l D cT tt b1 b hb1 n f w p1 p2 f_1 wl_2 r_3 z_4) (cwV 2 hq (gb_gV w_1428 w_1430 s_4_12 w_14 w_1431) rfl rfl rfl (by decide +kernel) ⟨Nat.le_of_ble_eq_true rfl, Nat.le_of_ble_eq_true rfl⟩) (gb_preV (r := (RX12, TX12, 44)) (ci := 10) (q0 := 0) hSt hP rfl (gb_at b rfl) hS (fun q h => Nat.le_trans hb1 h.1) hP) rfl rfl hl.1 rfl (lv_room (Nat.le_of_ble_eq_true rfl)) dX12_lacks_3 ⟨Nat.le_of_ble_eq_true rfl, Nat.le_of_ble_eq_true rfl⟩) hS (fun _ h => h) (fun _ h => h) (fun q_5 H locs hY hk hS => ?_)
  obtain ⟨hq_5, hP⟩ := hY
  replace hq_5 := hq_5.symm
  subst hq_5
  refine lv_if_eq (tgt := 18) hx hb dX12_lacks_6 (by decide) (fun c_6 => ?_) (fun c_6 => ?_)
  · rw [if_pos c_6] at h
    refine lv_iconst (v := (-1)) hx hb dX12_lacks_18 (by decide) ?_
    obtain ⟨e1, e2, e3⟩ := gb_eq3 h
    exact W.iret (v := (-1)) hx hb hr (fun t ht hW => gb_ri ht ⟨e3, by rw [← e1, ← e2]; exact hP⟩ hS) hS.2.2 dX12_lacks_19
  · rw [if_neg c_6] at h
    refine lv_aload_n hx hb dX12_lacks_9 rfl (lv_at hl 0 rfl) ?_
    refine lv_iload_n hx hb dX12_lacks_10 rfl (lv_at hl 1 rfl) ?_
    refine lv_iload_n hx hb dX12_lacks_11 rfl (lv_at hl 3 rfl) ?_
    obtain ⟨f_7, wl_8, r_9, z_10, h⟩ := gb_bd_s h
    refine gb_calli (va_runV (C := RX12) (As := [.int p1, .int p3]) (rest := []) ⟨hx, hb, hml, hown, hq⟩ (mc_areSeen l D cT tt b1 b hb1 n f_1 wl_2 p1 p3 f_7 wl_8 r_9 z_10) (cwV 2 hq (gb_gV w_1608 w_1610 s_6_11 w_14 w_1611) rfl rfl rfl (by decide +kernel) ⟨Nat.le_of_ble_eq_true rfl, Nat.le_of_ble_eq_true rfl⟩) (gb_preV (r := (RX12, TX12, 44)) (ci := 10) (q0 := 0) hSt hP rfl (gb_at b rfl) hS (fun q h => Nat.le_trans hb1 h.1) hP) rfl rfl hl.1 rfl (lv_room (Nat.le_of_ble_eq_true rfl)) dX12_lacks_12 ⟨Nat.le_of_ble_eq_true rfl, Nat.le_of_ble_eq_true rfl⟩) hS (fun _ h => h) (fun _ h => h) (fun q_11 H locs hY hk hS => ?_)
    obtain ⟨hq_11, hP⟩ := hY
    replace hq_11 := hq_11.symm
    subst hq_11
    refine lv_if_ne (tgt := 20) hx hb dX12_lacks_15 (by decide) (fun c_12 => ?_) (fun c_12 => ?_)
    · rw [if_neg c_12] at h
      refine lv_aload_n hx hb dX12_lacks_20 rfl (lv_at hl 0 rfl) ?_
      refine lv_bipush (v := 24) hx hb dX12_lacks_21 (by decide) ?_
      obtain ⟨f_13, wl_14, r_15, z_16, h⟩ := gb_bd_s h
      refine gb_callv (va_runV (C := RX12) (As := [.int 24]) (rest := []) ⟨hx, hb, hml, hown, hq⟩ (mc_runs l D cT tt b1 b hb1 n f_7 wl_8 24 f_13 wl_14 r_15 z_16) (cwV 1 hq (gb_gV w_1432 w_1434 s_4_13 w_14 w_1435) rfl rfl rfl (by decide +kernel) ⟨Nat.le_of_ble_eq_true rfl, Nat.le_of_ble_eq_true rfl⟩) (gb_preV (r := (RX12, TX12, 44)) (ci := 10) (q0 := 0) hSt hP rfl (gb_at b rfl) hS (fun q h => Nat.le_trans hb1 h.1) hP) rfl rfl hl.1 rfl (lv_room (Nat.le_of_ble_eq_true rfl)) dX12_lacks_23 ⟨Nat.le_of_ble_eq_true rfl, Nat.le_of_ble_eq_true rfl⟩) hS (fun _ h => h) (fun _ h => h) (fun H locs hY hk hS => ?_)
      have hP := hY
      refine lv_iconst (v := 0) hx hb dX12_lacks_26 (by decide) ?_
      refine lv_istore (lv' := [(4, .int 0), (0, .ref (b + 0)), (1, .int p1), (2, .int p2), (3, .int p3)]) hx hb dX12_lacks_27 hl (by decide) rfl (fun ls hl => ?_)
      refine lv_iconst (v := 0) hx hb dX12_lacks_29 (by decide) ?_
      refine lv_istore (lv' := [(5, .int 0), (4, .int 0), (0, .ref (b + 0)), (1, .int p1), (2, .int p2), (3, .int p3)]) hx hb dX12_lacks_30 hl (by decide) rfl (fun ls hl => ?_)
      exact L32 n _ _ _ _ _ _ _ h hP hS (lv_sub hl [2, 1, 0] rfl)
    · rw [if_pos c_12] at h
      refine lv_iconst (v := (-1)) hx hb dX12_lacks_18 (by decide) ?_
      obtain ⟨e1, e2, e3⟩ := gb_eq3 h
      exact W.iret (v := (-1)) hx hb hr (fun t ht hW => gb_ri ht ⟨e3, by rw [← e1, ← e2]; exact hP⟩ hS) hS.2.2 dX12_lacks_19
theorem dX12_who_0 : decode cX12_who 0 = .ok (.aload_n 0, 1) := dc_42 (show ((cX12_who.data.toList.drop 0).take 1).map UInt8.toNat = [42] by decide +kernel)
theorem dX12_who_1 : decode cX12_who 1 = .ok (.iload_n 1, 1) := dc_27 (show ((cX12_who.data.toList.drop 1).take 1).map UInt8.toNat = [27] by decide +kernel)
theorem dX12_who_2 : decode cX12_who 2 = .ok (.iload_n 2, 1) := dc_28 (show ((cX12_who.data.toList.drop 2).take 1).map UInt8.toNat = [28] by decide +kernel)
theorem dX12_who_3 : decode cX12_who 3 = .ok (.invokevirtual 264, 3) := dc_182 (show ((cX12_who.data.toList.drop 3).take 3).map UInt8.toNat = [182, 1, 8] by decide +kernel) rfl
theorem dX12_who_6 : decode cX12_who 6 = .ok (.ifCond .eq 11, 3) := dc_153 (show ((cX12_who.data.toList.drop 6).take 3).map UInt8.toNat = [153, 0, 11] by decide +kernel) rfl
theorem dX12_who_17 : decode cX12_who 17 = .ok (.iconst (-1), 1) := dc_2 (show ((cX12_who.data.toList.drop 17).take 1).map UInt8.toNat = [2] by decide +kernel)
theorem dX12_who_18 : decode cX12_who 18 = .ok (.ireturn, 1) := dc_172 (show ((cX12_who.data.toList.drop 18).take 1).map UInt8.toNat = [172] by decide +kernel)
theorem dX12_who_9 : decode cX12_who 9 = .ok (.aload_n 0, 1) := dc_42 (show ((cX12_who.data.toList.drop 9).take 1).map UInt8.toNat = [42] by decide +kernel)
theorem dX12_who_10 : decode cX12_who 10 = .ok (.iload_n 3, 1) := dc_29 (show ((cX12_who.data.toList.drop 10).take 1).map UInt8.toNat = [29] by decide +kernel)
theorem dX12_who_11 : decode cX12_who 11 = .ok (.invokevirtual 208, 3) := dc_182 (show ((cX12_who.data.toList.drop 11).take 3).map UInt8.toNat = [182, 0, 208] by decide +kernel) rfl
theorem dX12_who_14 : decode cX12_who 14 = .ok (.ifCond .ne 5, 3) := dc_154 (show ((cX12_who.data.toList.drop 14).take 3).map UInt8.toNat = [154, 0, 5] by decide +kernel) rfl
theorem dX12_who_19 : decode cX12_who 19 = .ok (.aload_n 0, 1) := dc_42 (show ((cX12_who.data.toList.drop 19).take 1).map UInt8.toNat = [42] by decide +kernel)
theorem dX12_who_20 : decode cX12_who 20 = .ok (.bipush 24, 2) := dc_16 (show ((cX12_who.data.toList.drop 20).take 2).map UInt8.toNat = [16, 24] by decide +kernel) rfl
theorem dX12_who_22 : decode cX12_who 22 = .ok (.invokevirtual 267, 3) := dc_182 (show ((cX12_who.data.toList.drop 22).take 3).map UInt8.toNat = [182, 1, 11] by decide +kernel) rfl
theorem dX12_who_25 : decode cX12_who 25 = .ok (.aload_n 0, 1) := dc_42 (show ((cX12_who.data.toList.drop 25).take 1).map UInt8.toNat = [42] by decide +kernel)
theorem dX12_who_26 : decode cX12_who 26 = .ok (.getfield 236, 3) := dc_180 (show ((cX12_who.data.toList.drop 26).take 3).map UInt8.toNat = [180, 0, 236] by decide +kernel) rfl
theorem dX12_who_29 : decode cX12_who 29 = .ok (.istore 5, 2) := dc_54 (show ((cX12_who.data.toList.drop 29).take 2).map UInt8.toNat = [54, 5] by decide +kernel) rfl
theorem dX12_who_31 : decode cX12_who 31 = .ok (.iconst 0, 1) := dc_3 (show ((cX12_who.data.toList.drop 31).take 1).map UInt8.toNat = [3] by decide +kernel)
theorem dX12_who_32 : decode cX12_who 32 = .ok (.istore 6, 2) := dc_54 (show ((cX12_who.data.toList.drop 32).take 2).map UInt8.toNat = [54, 6] by decide +kernel) rfl
theorem dX12_who_34 : decode cX12_who 34 = .ok (.iload 6, 2) := dc_21 (show ((cX12_who.data.toList.drop 34).take 2).map UInt8.toNat = [21, 6] by decide +kernel) rfl
theorem dX12_who_36 : decode cX12_who 36 = .ok (.iload 5, 2) := dc_21 (show ((cX12_who.data.toList.drop 36).take 2).map UInt8.toNat = [21, 5] by decide +kernel) rfl
theorem dX12_who_38 : decode cX12_who 38 = .ok (.if_icmp .ge 67, 3) := dc_162 (show ((cX12_who.data.toList.drop 38).take 3).map UInt8.toNat = [162, 0, 67] by decide +kernel) rfl
theorem dX12_who_105 : decode cX12_who 105 = .ok (.iconst (-1), 1) := dc_2 (show ((cX12_who.data.toList.drop 105).take 1).map UInt8.toNat = [2] by decide +kernel)
theorem dX12_who_106 : decode cX12_who 106 = .ok (.ireturn, 1) := dc_172 (show ((cX12_who.data.toList.drop 106).take 1).map UInt8.toNat = [172] by decide +kernel)
theorem dX12_who_41 : decode cX12_who 41 = .ok (.aload_n 0, 1) := dc_42 (show ((cX12_who.data.toList.drop 41).take 1).map UInt8.toNat = [42] by decide +kernel)
theorem dX12_who_42 : decode cX12_who 42 = .ok (.iload 6, 2) := dc_21 (show ((cX12_who.data.toList.drop 42).take 2).map UInt8.toNat = [21, 6] by decide +kernel) rfl
theorem dX12_who_44 : decode cX12_who 44 = .ok (.iconst 0, 1) := dc_3 (show ((cX12_who.data.toList.drop 44).take 1).map UInt8.toNat = [3] by decide +kernel)
theorem dX12_who_45 : decode cX12_who 45 = .ok (.invokevirtual 230, 3) := dc_182 (show ((cX12_who.data.toList.drop 45).take 3).map UInt8.toNat = [182, 0, 230] by decide +kernel) rfl
theorem dX12_who_48 : decode cX12_who 48 = .ok (.ifCond .ne 51, 3) := dc_154 (show ((cX12_who.data.toList.drop 48).take 3).map UInt8.toNat = [154, 0, 51] by decide +kernel) rfl
theorem dX12_who_99 : decode cX12_who 99 = .ok (.iinc 6 1, 3) := dc_132 (show ((cX12_who.data.toList.drop 99).take 3).map UInt8.toNat = [132, 6, 1] by decide +kernel) rfl
theorem dX12_who_102 : decode cX12_who 102 = .ok (.goto (-68), 3) := dc_167 (show ((cX12_who.data.toList.drop 102).take 3).map UInt8.toNat = [167, 255, 188] by decide +kernel) rfl
theorem dX12_who_51 : decode cX12_who 51 = .ok (.aload_n 0, 1) := dc_42 (show ((cX12_who.data.toList.drop 51).take 1).map UInt8.toNat = [42] by decide +kernel)
theorem dX12_who_52 : decode cX12_who 52 = .ok (.iload 6, 2) := dc_21 (show ((cX12_who.data.toList.drop 52).take 2).map UInt8.toNat = [21, 6] by decide +kernel) rfl
theorem dX12_who_54 : decode cX12_who 54 = .ok (.iconst 2, 1) := dc_5 (show ((cX12_who.data.toList.drop 54).take 1).map UInt8.toNat = [5] by decide +kernel)
theorem dX12_who_55 : decode cX12_who 55 = .ok (.invokevirtual 230, 3) := dc_182 (show ((cX12_who.data.toList.drop 55).take 3).map UInt8.toNat = [182, 0, 230] by decide +kernel) rfl
theorem dX12_who_58 : decode cX12_who 58 = .ok (.iload_n 3, 1) := dc_29 (show ((cX12_who.data.toList.drop 58).take 1).map UInt8.toNat = [29] by decide +kernel)
theorem dX12_who_59 : decode cX12_who 59 = .ok (.if_icmp .eq 6, 3) := dc_159 (show ((cX12_who.data.toList.drop 59).take 3).map UInt8.toNat = [159, 0, 6] by decide +kernel) rfl
theorem dX12_who_65 : decode cX12_who 65 = .ok (.aload_n 0, 1) := dc_42 (show ((cX12_who.data.toList.drop 65).take 1).map UInt8.toNat = [42] by decide +kernel)
theorem dX12_who_66 : decode cX12_who 66 = .ok (.iload 6, 2) := dc_21 (show ((cX12_who.data.toList.drop 66).take 2).map UInt8.toNat = [21, 6] by decide +kernel) rfl
theorem dX12_who_68 : decode cX12_who 68 = .ok (.putfield 245, 3) := dc_181 (show ((cX12_who.data.toList.drop 68).take 3).map UInt8.toNat = [181, 0, 245] by decide +kernel) rfl
theorem dX12_who_71 : decode cX12_who 71 = .ok (.aload_n 0, 1) := dc_42 (show ((cX12_who.data.toList.drop 71).take 1).map UInt8.toNat = [42] by decide +kernel)
theorem dX12_who_72 : decode cX12_who 72 = .ok (.iload 5, 2) := dc_21 (show ((cX12_who.data.toList.drop 72).take 2).map UInt8.toNat = [21, 5] by decide +kernel) rfl
theorem dX12_who_74 : decode cX12_who 74 = .ok (.invokevirtual 267, 3) := dc_182 (show ((cX12_who.data.toList.drop 74).take 3).map UInt8.toNat = [182, 1, 11] by decide +kernel) rfl
theorem dX12_who_77 : decode cX12_who 77 = .ok (.aload_n 0, 1) := dc_42 (show ((cX12_who.data.toList.drop 77).take 1).map UInt8.toNat = [42] by decide +kernel)
theorem dX12_who_78 : decode cX12_who 78 = .ok (.getfield 236, 3) := dc_180 (show ((cX12_who.data.toList.drop 78).take 3).map UInt8.toNat = [180, 0, 236] by decide +kernel) rfl
theorem dX12_who_81 : decode cX12_who 81 = .ok (.iload 5, 2) := dc_21 (show ((cX12_who.data.toList.drop 81).take 2).map UInt8.toNat = [21, 5] by decide +kernel) rfl
theorem dX12_who_83 : decode cX12_who 83 = .ok (.if_icmp .ne 16, 3) := dc_160 (show ((cX12_who.data.toList.drop 83).take 3).map UInt8.toNat = [160, 0, 16] by decide +kernel) rfl
theorem dX12_who_86 : decode cX12_who 86 = .ok (.aload_n 0, 1) := dc_42 (show ((cX12_who.data.toList.drop 86).take 1).map UInt8.toNat = [42] by decide +kernel)
theorem dX12_who_87 : decode cX12_who 87 = .ok (.iload_n 3, 1) := dc_29 (show ((cX12_who.data.toList.drop 87).take 1).map UInt8.toNat = [29] by decide +kernel)
theorem dX12_who_88 : decode cX12_who 88 = .ok (.invokevirtual 273, 3) := dc_182 (show ((cX12_who.data.toList.drop 88).take 3).map UInt8.toNat = [182, 1, 17] by decide +kernel) rfl
theorem dX12_who_91 : decode cX12_who 91 = .ok (.iload 4, 2) := dc_21 (show ((cX12_who.data.toList.drop 91).take 2).map UInt8.toNat = [21, 4] by decide +kernel) rfl
theorem dX12_who_93 : decode cX12_who 93 = .ok (.if_icmp .ne 6, 3) := dc_160 (show ((cX12_who.data.toList.drop 93).take 3).map UInt8.toNat = [160, 0, 6] by decide +kernel) rfl
theorem dX12_who_96 : decode cX12_who 96 = .ok (.iload 6, 2) := dc_21 (show ((cX12_who.data.toList.drop 96).take 2).map UInt8.toNat = [21, 6] by decide +kernel) rfl
theorem dX12_who_98 : decode cX12_who 98 = .ok (.ireturn, 1) := dc_172 (show ((cX12_who.data.toList.drop 98).take 1).map UInt8.toNat = [172] by decide +kernel)
theorem dX12_who_62 : decode cX12_who 62 = .ok (.goto 37, 3) := dc_167 (show ((cX12_who.data.toList.drop 62).take 3).map UInt8.toNat = [167, 0, 37] by decide +kernel) rfl
def ms_who_34 (n : Nat) : Nat → gb_F → Int64 → Int32 → Int32 → Int32 → Int32 → gb_MR Int32
  | 0, _, _, _, _, _, _ => none
  | mm + 1, f, w, v3, v4, v5, v6 => (if v5 ≤ v6 then some (f, w, (-1)) else gb_bd (ms_deedOf n f w v6 0) (fun f_20 wl_21 r_22 => (if r_22 = 0 then gb_bd (ms_deedOf n f_20 wl_21 v6 2) (fun f_27 wl_28 r_29 => (if r_29 = v3 then gb_lt (gb_u f_27 0 (upd (f_27 0) 24 v6)) (fun f_33 => gb_bd (ms_runs n f_33 wl_28 v5) (fun f_34 wl_35 _ => (if (f_34 0 23) = v5 then gb_bd (ms_tally n f_34 wl_35 v3) (fun f_41 wl_42 r_43 => (if r_43 = v4 then some (f_41, wl_42, v6) else gb_lt (v6 + 1) (fun x_47 => ms_who_34 n mm f_41 wl_42 v3 v4 v5 x_47))) else gb_lt (v6 + 1) (fun x_40 => ms_who_34 n mm f_34 wl_35 v3 v4 v5 x_40)))) else gb_lt (v6 + 1) (fun x_48 => ms_who_34 n mm f_27 wl_28 v3 v4 v5 x_48))) else gb_lt (v6 + 1) (fun x_26 => ms_who_34 n mm f_20 wl_21 v3 v4 v5 x_26))))
def ms_who (n : Nat) (f : gb_F) (w : Int64) (p1 : Int32) (p2 : Int32) (p3 : Int32) (p4 : Int32) : gb_MR Int32 := gb_bd (ms_areTold n f w p1 p2) (fun f_1 wl_2 r_3 => (if r_3 = 0 then some (f_1, wl_2, (-1)) else gb_bd (ms_isPath n f_1 wl_2 p3) (fun f_7 wl_8 r_9 => (if r_9 = 0 then some (f_7, wl_8, (-1)) else gb_bd (ms_runs n f_7 wl_8 24) (fun f_13 wl_14 _ => gb_lt (f_13 0 23) (fun x_18 => ms_who_34 n n f_13 wl_14 p3 p4 x_18 0))))))
set_option maxHeartbeats 8000000 in
set_option maxRecDepth 100000 in
theorem mc_who (l : Launch) (D : va_G) (cT : Nat → ClassId) (tt : Nat → Nat) (b1 b : Nat) (hb1 : b1 ≤ b) (n : Nat) (f : gb_F) (w : Int64) (p1 : Int32) (p2 : Int32) (p3 : Int32) (p4 : Int32) (fE : gb_F) (wE : Int64) (rE : Int32) (h : ms_who n f w p1 p2 p3 p4 = some (fE, wE, rE)) : Met l yX12_who (.code yX12_who cX12_who 7 (some FieldType.int) :: gb_wA) ({ frames := 6, cells := 0, slots := 0, locals := 141 }) (gb_Pc D cT tt b1 [.ref (b + 0), .int p1, .int p2, .int p3, .int p4] (fun h => va_P D vwCl (gb_wl b (gb_MW cT b f w)) h)) (gb_Qi (fun r h => r = rE ∧ va_P D vwCl (gb_wl b (gb_MW cT b fE wE)) h) (gb_fr b 22)) 0 0 (gb_fr b 22) := by
  refine Met.ofW (cc := cX12_who) (maxL := 7) (ret := (some FieldType.int)) (by decide) rfl ?_
  intro p e s m args below meth c s₁ B hml hv
  obtain ⟨rfl, hSt, hP⟩ := hv
  have hx := B.exec
  have hb := B.bytes
  have hr := B.returns
  have hts := atoms_spec (ws := .code yX12_who cX12_who 7 (some FieldType.int) :: gb_wA) B.pre
  have hq : ∀ w ∈ gb_wA, w.before _ s = true := fun w h => hts w (List.mem_cons_of_mem _ h)
  have hown : s.vm.findClass RX12 = some m.cls := findClass_of_methodNamed B.named
  have hlocks := B.notSynchronized
  clear B hts
  have hK := hSt.1
  have hS : va_S (gb_fr b 22) s.heap s.heap [] := va_S.rf
  have hl := lv_entry ([.ref (b + 0), .int p1, .int p2, .int p3, .int p4]) (n := 7) (Nat.le_of_ble_eq_true rfl)
  rw [lg_entry_eq]
  generalize (lg_sl ([.ref (b + 0), .int p1, .int p2, .int p3, .int p4]) ++ List.replicate (7 - (lg_sl ([.ref (b + 0), .int p1, .int p2, .int p3, .int p4])).length) Slot.unset).toArray = ls at hl ⊢
  replace hl : lv_has ls 7 [(0, .ref (b + 0)), (1, .int p1), (2, .int p2), (3, .int p3), (4, .int p4)] := hl
  have L34 : ∀ (mm : Nat) (f : gb_F) (w : Int64) (v3 : Int32) (v4 : Int32) (v5 : Int32) (v6 : Int32) (H : Heap) (locs : List Loc) (ls : Array Slot), ms_who_34 n mm f w v3 v4 v5 v6 = some (fE, wE, rE) → va_P D vwCl (gb_wl b (gb_MW cT b f w)) H → va_S (gb_fr b 22) s.heap H locs → lv_has ls 7 [(0, .ref (b + 0)), (3, .int v3), (4, .int v4), (5, .int v5), (6, .int v6)] → W p l e (headSpec (.code yX12_who cX12_who 7 (some FieldType.int) :: gb_wA) ({ frames := 6, cells := 0, slots := 0, locals := 141 })).room s m ([.ref (b + 0), .int p1, .int p2, .int p3, .int p4]).toArray below meth c H locs 0 0 (MQ below (gb_Qi (fun r h => r = rE ∧ va_P D vwCl (gb_wl b (gb_MW cT b fE wE)) h) (gb_fr b 22)) ([.ref (b + 0), .int p1, .int p2, .int p3, .int p4]).toArray s 0 0 (gb_fr b 22)) (F0 m 34 ls []) := by
    clear h hP hS hl ls f w
    intro mm
    induction mm with
    | zero =>
      intro f w v3 v4 v5 v6 H locs ls h
      cases h
    | succ mm ih =>
      intro f w v3 v4 v5 v6 H locs ls h hP hS hl
      rw [ms_who_34] at h
      refine lv_iload hx hb dX12_who_34 (lv_at hl 4 rfl) ?_
      refine lv_iload hx hb dX12_who_36 (lv_at hl 3 rfl) ?_
      refine lv_icmp_ge (tgt := 105) hx hb dX12_who_38 (by decide) (fun c_19 => ?_) (fun c_19 => ?_)
      · rw [if_pos c_19] at h
        refine lv_iconst (v := (-1)) hx hb dX12_who_105 (by decide) ?_
        obtain ⟨e1, e2, e3⟩ := gb_eq3 h
        exact W.iret (v := (-1)) hx hb hr (fun t ht hW => gb_ri ht ⟨e3, by rw [← e1, ← e2]; exact hP⟩ hS) hS.2.2 dX12_who_106
      · rw [if_neg c_19] at h
        refine lv_aload_n hx hb dX12_who_41 rfl (lv_at hl 0 rfl) ?_
        refine lv_iload hx hb dX12_who_42 (lv_at hl 4 rfl) ?_
        refine lv_iconst (v := 0) hx hb dX12_who_44 (by decide) ?_
        obtain ⟨f_20, wl_21, r_22, z_23, h⟩ := gb_bd_s h
        refine gb_calli (va_runV (C := RX12) (As := [.int v6, .int 0]) (rest := []) ⟨hx, hb, hml, hown, hq⟩ (mc_deedOf l D cT tt b1 b hb1 n f w v6 0 f_20 wl_21 r_22 z_23) (cwV 2 hq (gb_gV w_1420 w_1422 s_4_11 w_14 w_1423) rfl rfl rfl (by decide +kernel) ⟨Nat.le_of_ble_eq_true rfl, Nat.le_of_ble_eq_true rfl⟩) (gb_preV (r := (RX12, TX12, 44)) (ci := 10) (q0 := 0) hSt hP rfl (gb_at b rfl) hS (fun q h => Nat.le_trans hb1 h.1) hP) rfl rfl hl.1 rfl (lv_room (Nat.le_of_ble_eq_true rfl)) dX12_who_45 ⟨Nat.le_of_ble_eq_true rfl, Nat.le_of_ble_eq_true rfl⟩) hS (fun _ h => h) (fun _ h => h) (fun q_24 H locs hY hk hS => ?_)
        obtain ⟨hq_24, hP⟩ := hY
        replace hq_24 := hq_24.symm
        subst hq_24
        refine lv_if_ne (tgt := 99) hx hb dX12_who_48 (by decide) (fun c_25 => ?_) (fun c_25 => ?_)
        · rw [if_neg c_25] at h
          obtain ⟨x_26, ex_26⟩ : ∃ q, q = (v6 + 1) := ⟨_, rfl⟩
          replace h := gb_lt_s ex_26 h
          refine lv_iinc (v := x_26) (lv' := [(6, .int x_26), (0, .ref (b + 0)), (3, .int v3), (4, .int v4), (5, .int v5)]) hx hb dX12_who_99 hl (k := 4) rfl (by rw [ex_26]; rfl) (by decide) rfl (fun ls hl => ?_)
          refine lv_goto (tgt := 34) hx hb dX12_who_102 (by decide) ?_
          exact ih _ _ _ _ _ _ _ _ _ h hP hS (lv_sub hl [1, 2, 3, 4, 0] rfl)
        · rw [if_pos c_25] at h
          refine lv_aload_n hx hb dX12_who_51 rfl (lv_at hl 0 rfl) ?_
          refine lv_iload hx hb dX12_who_52 (lv_at hl 4 rfl) ?_
          refine lv_iconst (v := 2) hx hb dX12_who_54 (by decide) ?_
          obtain ⟨f_27, wl_28, r_29, z_30, h⟩ := gb_bd_s h
          refine gb_calli (va_runV (C := RX12) (As := [.int v6, .int 2]) (rest := []) ⟨hx, hb, hml, hown, hq⟩ (mc_deedOf l D cT tt b1 b hb1 n f_20 wl_21 v6 2 f_27 wl_28 r_29 z_30) (cwV 2 hq (gb_gV w_1420 w_1422 s_4_11 w_14 w_1423) rfl rfl rfl (by decide +kernel) ⟨Nat.le_of_ble_eq_true rfl, Nat.le_of_ble_eq_true rfl⟩) (gb_preV (r := (RX12, TX12, 44)) (ci := 10) (q0 := 0) hSt hP rfl (gb_at b rfl) hS (fun q h => Nat.le_trans hb1 h.1) hP) rfl rfl hl.1 rfl (lv_room (Nat.le_of_ble_eq_true rfl)) dX12_who_55 ⟨Nat.le_of_ble_eq_true rfl, Nat.le_of_ble_eq_true rfl⟩) hS (fun _ h => h) (fun _ h => h) (fun q_31 H locs hY hk hS => ?_)
          obtain ⟨hq_31, hP⟩ := hY
          replace hq_31 := hq_31.symm
          subst hq_31
          refine lv_iload_n hx hb dX12_who_58 rfl (lv_at hl 1 rfl) ?_
          refine lv_icmp_eq (tgt := 65) hx hb dX12_who_59 (by decide) (fun c_32 => ?_) (fun c_32 => ?_)
          · rw [if_pos c_32] at h
            refine lv_aload_n hx hb dX12_who_65 rfl (lv_at hl 0 rfl) ?_
            refine lv_iload hx hb dX12_who_66 (lv_at hl 4 rfl) ?_
            refine gb_put (ci := 10) (v := (.int v6)) (ty := .int) (C := RX12) (T := TX12) (N := 44) hx hb hq i_X12 tyX12 tyX12_ok nmX12 hown hK hP (fun k h => ⟨Nat.le_add_right b k, Nat.add_lt_add_left h b⟩) hS rfl 0 rfl rfl 24 (by decide) (hq _ w_1148) (fun _ h9 => h9) rfl (by decide +kernel) rfl rfl (Nat.le_of_ble_eq_true rfl) dX12_who_68 (fun H locs hP hz_ hS => ?_)
            obtain ⟨f_33, ef_33⟩ : ∃ q, q = (gb_u f_27 0 (upd (f_27 0) 24 v6)) := ⟨_, rfl⟩
            replace hP : va_P D vwCl (gb_wl b (gb_MW cT b f_33 wl_28)) H := by rw [ef_33]; exact hP
            replace h := gb_lt_s ef_33 h
            refine lv_aload_n hx hb dX12_who_71 rfl (lv_at hl 0 rfl) ?_
            refine lv_iload hx hb dX12_who_72 (lv_at hl 3 rfl) ?_
            obtain ⟨f_34, wl_35, r_36, z_37, h⟩ := gb_bd_s h
            refine gb_callv (va_runV (C := RX12) (As := [.int v5]) (rest := []) ⟨hx, hb, hml, hown, hq⟩ (mc_runs l D cT tt b1 b hb1 n f_33 wl_28 v5 f_34 wl_35 r_36 z_37) (cwV 1 hq (gb_gV w_1432 w_1434 s_4_13 w_14 w_1435) rfl rfl rfl (by decide +kernel) ⟨Nat.le_of_ble_eq_true rfl, Nat.le_of_ble_eq_true rfl⟩) (gb_preV (r := (RX12, TX12, 44)) (ci := 10) (q0 := 0) hSt hP rfl (gb_at b rfl) hS (fun q h => Nat.le_trans hb1 h.1) hP) rfl rfl hl.1 rfl (lv_room (Nat.le_of_ble_eq_true rfl)) dX12_who_74 ⟨Nat.le_of_ble_eq_true rfl, Nat.le_of_ble_eq_true rfl⟩) hS (fun _ h => h) (fun _ h => h) (fun H locs hY hk hS => ?_)
            have hP := hY
            refine lv_aload_n hx hb dX12_who_77 rfl (lv_at hl 0 rfl) ?_
            refine va_get (ci := 10) (v := (.int (f_34 0 23))) (C := RX12) (T := TX12) (N := 44) hx hb hq i_X12 hown hK hP 0 (gb_at b rfl) rfl 23 (by decide) (hq _ w_1147) (fun _ h9 => h9) rfl dX12_who_78 ?_
            refine lv_iload hx hb dX12_who_81 (lv_at hl 3 rfl) ?_
            refine lv_icmp_ne (tgt := 99) hx hb dX12_who_83 (by decide) (fun c_39 => ?_) (fun c_39 => ?_)
            · rw [if_neg c_39] at h
              obtain ⟨x_40, ex_40⟩ : ∃ q, q = (v6 + 1) := ⟨_, rfl⟩
              replace h := gb_lt_s ex_40 h
              refine lv_iinc (v := x_40) (lv' := [(6, .int x_40), (0, .ref (b + 0)), (3, .int v3), (4, .int v4), (5, .int v5)]) hx hb dX12_who_99 hl (k := 4) rfl (by rw [ex_40]; rfl) (by decide) rfl (fun ls hl => ?_)
              refine lv_goto (tgt := 34) hx hb dX12_who_102 (by decide) ?_
              exact ih _ _ _ _ _ _ _ _ _ h hP hS (lv_sub hl [1, 2, 3, 4, 0] rfl)
            · rw [if_pos c_39] at h
              refine lv_aload_n hx hb dX12_who_86 rfl (lv_at hl 0 rfl) ?_
              refine lv_iload_n hx hb dX12_who_87 rfl (lv_at hl 1 rfl) ?_
              obtain ⟨f_41, wl_42, r_43, z_44, h⟩ := gb_bd_s h
              refine gb_calli (va_runV (C := RX12) (As := [.int v3]) (rest := []) ⟨hx, hb, hml, hown, hq⟩ (mc_tally l D cT tt b1 b hb1 n f_34 wl_35 v3 f_41 wl_42 r_43 z_44) (cwV 1 hq (gb_gV w_1476 w_1478 s_5_6 w_14 w_1479) rfl rfl rfl (by decide +kernel) ⟨Nat.le_of_ble_eq_true rfl, Nat.le_of_ble_eq_true rfl⟩) (gb_preV (r := (RX12, TX12, 44)) (ci := 10) (q0 := 0) hSt hP rfl (gb_at b rfl) hS (fun q h => Nat.le_trans hb1 h.1) hP) rfl rfl hl.1 rfl (lv_room (Nat.le_of_ble_eq_true rfl)) dX12_who_88 ⟨Nat.le_of_ble_eq_true rfl, Nat.le_of_ble_eq_true rfl⟩) hS (fun _ h => h) (fun _ h => h) (fun q_45 H locs hY hk hS => ?_)
              obtain ⟨hq_45, hP⟩ := hY
              replace hq_45 := hq_45.symm
              subst hq_45
              refine lv_iload hx hb dX12_who_91 (lv_at hl 2 rfl) ?_
              refine lv_icmp_ne (tgt := 99) hx hb dX12_who_93 (by decide) (fun c_46 => ?_) (fun c_46 => ?_)
              · rw [if_neg c_46] at h
                obtain ⟨x_47, ex_47⟩ : ∃ q, q = (v6 + 1) := ⟨_, rfl⟩
                replace h := gb_lt_s ex_47 h
                refine lv_iinc (v := x_47) (lv' := [(6, .int x_47), (0, .ref (b + 0)), (3, .int v3), (4, .int v4), (5, .int v5)]) hx hb dX12_who_99 hl (k := 4) rfl (by rw [ex_47]; rfl) (by decide) rfl (fun ls hl => ?_)
                refine lv_goto (tgt := 34) hx hb dX12_who_102 (by decide) ?_
                exact ih _ _ _ _ _ _ _ _ _ h hP hS (lv_sub hl [1, 2, 3, 4, 0] rfl)
              · rw [if_pos c_46] at h
                refine lv_iload hx hb dX12_who_96 (lv_at hl 4 rfl) ?_
                obtain ⟨e1, e2, e3⟩ := gb_eq3 h
                exact W.iret (v := v6) hx hb hr (fun t ht hW => gb_ri ht ⟨e3, by rw [← e1, ← e2]; exact hP⟩ hS) hS.2.2 dX12_who_98
          · rw [if_neg c_32] at h
            refine lv_goto (tgt := 99) hx hb dX12_who_62 (by decide) ?_
            obtain ⟨x_48, ex_48⟩ : ∃ q, q = (v6 + 1) := ⟨_, rfl⟩
            replace h := gb_lt_s ex_48 h
            refine lv_iinc (v := x_48) (lv' := [(6, .int x_48), (0, .ref (b + 0)), (3, .int v3), (4, .int v4), (5, .int v5)]) hx hb dX12_who_99 hl (k := 4) rfl (by rw [ex_48]; rfl) (by decide) rfl (fun ls hl => ?_)
            refine lv_goto (tgt := 34) hx hb dX12_who_102 (by decide) ?_
            exact ih _ _ _ _ _ _ _ _ _ h hP hS (lv_sub hl [1, 2, 3, 4, 0] rfl)
  unfold ms_who at h
  refine lv_aload_n hx hb dX12_who_0 rfl (lv_at hl 0 rfl) ?_
  refine lv_iload_n hx hb dX12_who_1 rfl (lv_at hl 1 rfl) ?_
  refine lv_iload_n hx hb dX12_who_2 rfl (lv_at hl 2 rfl) ?_
  obtain ⟨f_1, wl_2, r_3, z_4, h⟩ := gb_bd_s h
  refine gb_calli (va_runV (C := RX12) (As := [.int p1, .int p2]) (rest := []) ⟨hx, hb, hml, hown, hq⟩ (mc_areTold l D cT tt b1 b hb1 n f w p1 p2 f_1 wl_2 r_3 z_4) (cwV 2 hq (gb_gV w_1428 w_1430 s_4_12 w_14 w_1431) rfl rfl rfl (by decide +kernel) ⟨Nat.le_of_ble_eq_true rfl, Nat.le_of_ble_eq_true rfl⟩) (gb_preV (r := (RX12, TX12, 44)) (ci := 10) (q0 := 0) hSt hP rfl (gb_at b rfl) hS (fun q h => Nat.le_trans hb1 h.1) hP) rfl rfl hl.1 rfl (lv_room (Nat.le_of_ble_eq_true rfl)) dX12_who_3 ⟨Nat.le_of_ble_eq_true rfl, Nat.le_of_ble_eq_true rfl⟩) hS (fun _ h => h) (fun _ h => h) (fun q_5 H locs hY hk hS => ?_)
  obtain ⟨hq_5, hP⟩ := hY
  replace hq_5 := hq_5.symm
  subst hq_5
  refine lv_if_eq (tgt := 17) hx hb dX12_who_6 (by decide) (fun c_6 => ?_) (fun c_6 => ?_)
  · rw [if_pos c_6] at h
    refine lv_iconst (v := (-1)) hx hb dX12_who_17 (by decide) ?_
    obtain ⟨e1, e2, e3⟩ := gb_eq3 h
    exact W.iret (v := (-1)) hx hb hr (fun t ht hW => gb_ri ht ⟨e3, by rw [← e1, ← e2]; exact hP⟩ hS) hS.2.2 dX12_who_18
  · rw [if_neg c_6] at h
    refine lv_aload_n hx hb dX12_who_9 rfl (lv_at hl 0 rfl) ?_
    refine lv_iload_n hx hb dX12_who_10 rfl (lv_at hl 3 rfl) ?_
    obtain ⟨f_7, wl_8, r_9, z_10, h⟩ := gb_bd_s h
    refine gb_calli (va_runV (C := RX12) (As := [.int p3]) (rest := []) ⟨hx, hb, hml, hown, hq⟩ (mc_isPath l D cT tt b1 b hb1 n f_1 wl_2 p3 f_7 wl_8 r_9 z_10) (cwV 1 hq (gb_gV w_1380 w_1382 s_4_3 w_14 w_1383) rfl rfl rfl (by decide +kernel) ⟨Nat.le_of_ble_eq_true rfl, Nat.le_of_ble_eq_true rfl⟩) (gb_preV (r := (RX12, TX12, 44)) (ci := 10) (q0 := 0) hSt hP rfl (gb_at b rfl) hS (fun q h => Nat.le_trans hb1 h.1) hP) rfl rfl hl.1 rfl (lv_room (Nat.le_of_ble_eq_true rfl)) dX12_who_11 ⟨Nat.le_of_ble_eq_true rfl, Nat.le_of_ble_eq_true rfl⟩) hS (fun _ h => h) (fun _ h => h) (fun q_11 H locs hY hk hS => ?_)
    obtain ⟨hq_11, hP⟩ := hY
    replace hq_11 := hq_11.symm
    subst hq_11
    refine lv_if_ne (tgt := 19) hx hb dX12_who_14 (by decide) (fun c_12 => ?_) (fun c_12 => ?_)
    · rw [if_neg c_12] at h
      refine lv_aload_n hx hb dX12_who_19 rfl (lv_at hl 0 rfl) ?_
      refine lv_bipush (v := 24) hx hb dX12_who_20 (by decide) ?_
      obtain ⟨f_13, wl_14, r_15, z_16, h⟩ := gb_bd_s h
      refine gb_callv (va_runV (C := RX12) (As := [.int 24]) (rest := []) ⟨hx, hb, hml, hown, hq⟩ (mc_runs l D cT tt b1 b hb1 n f_7 wl_8 24 f_13 wl_14 r_15 z_16) (cwV 1 hq (gb_gV w_1432 w_1434 s_4_13 w_14 w_1435) rfl rfl rfl (by decide +kernel) ⟨Nat.le_of_ble_eq_true rfl, Nat.le_of_ble_eq_true rfl⟩) (gb_preV (r := (RX12, TX12, 44)) (ci := 10) (q0 := 0) hSt hP rfl (gb_at b rfl) hS (fun q h => Nat.le_trans hb1 h.1) hP) rfl rfl hl.1 rfl (lv_room (Nat.le_of_ble_eq_true rfl)) dX12_who_22 ⟨Nat.le_of_ble_eq_true rfl, Nat.le_of_ble_eq_true rfl⟩) hS (fun _ h => h) (fun _ h => h) (fun H locs hY hk hS => ?_)
      have hP := hY
      refine lv_aload_n hx hb dX12_who_25 rfl (lv_at hl 0 rfl) ?_
      refine va_get (ci := 10) (v := (.int (f_13 0 23))) (C := RX12) (T := TX12) (N := 44) hx hb hq i_X12 hown hK hP 0 (gb_at b rfl) rfl 23 (by decide) (hq _ w_1147) (fun _ h9 => h9) rfl dX12_who_26 ?_
      refine lv_topi (fun x_18 ex_18 => ?_)
      replace h := gb_lt_s ex_18 h
      refine lv_istore (lv' := [(5, .int x_18), (0, .ref (b + 0)), (1, .int p1), (2, .int p2), (3, .int p3), (4, .int p4)]) hx hb dX12_who_29 hl (by decide) rfl (fun ls hl => ?_)
      refine lv_iconst (v := 0) hx hb dX12_who_31 (by decide) ?_
      refine lv_istore (lv' := [(6, .int 0), (5, .int x_18), (0, .ref (b + 0)), (1, .int p1), (2, .int p2), (3, .int p3), (4, .int p4)]) hx hb dX12_who_32 hl (by decide) rfl (fun ls hl => ?_)
      exact L34 n _ _ _ _ _ _ _ _ _ h hP hS (lv_sub hl [2, 5, 6, 1, 0] rfl)
    · rw [if_pos c_12] at h
      refine lv_iconst (v := (-1)) hx hb dX12_who_17 (by decide) ?_
      obtain ⟨e1, e2, e3⟩ := gb_eq3 h
      exact W.iret (v := (-1)) hx hb hr (fun t ht hW => gb_ri ht ⟨e3, by rw [← e1, ← e2]; exact hP⟩ hS) hS.2.2 dX12_who_18
theorem dX12_below_0 : decode cX12_below 0 = .ok (.aload_n 0, 1) := dc_42 (show ((cX12_below.data.toList.drop 0).take 1).map UInt8.toNat = [42] by decide +kernel)
theorem dX12_below_1 : decode cX12_below 1 = .ok (.aload_n 0, 1) := dc_42 (show ((cX12_below.data.toList.drop 1).take 1).map UInt8.toNat = [42] by decide +kernel)
theorem dX12_below_2 : decode cX12_below 2 = .ok (.getfield 384, 3) := dc_180 (show ((cX12_below.data.toList.drop 2).take 3).map UInt8.toNat = [180, 1, 128] by decide +kernel) rfl
theorem w_1162 : (Cond.fieldLink "GooseBorderModel" (384 : Nat) "GooseBorderModel" "x0" "I") ∈ gb_wA := gb_t5 202 rfl rfl
theorem dX12_below_5 : decode cX12_below 5 = .ok (.ldc_w 387, 3) := dc_19 (show ((cX12_below.data.toList.drop 5).take 3).map UInt8.toNat = [19, 1, 131] by decide +kernel) rfl
theorem w_1661 : (Cond.constant "GooseBorderModel" (387 : Nat) (1103515245 : Int32)) ∈ gb_wA := gb_t7 221 rfl rfl
theorem dX12_below_8 : decode cX12_below 8 = .ok (.imul, 1) := dc_104 (show ((cX12_below.data.toList.drop 8).take 1).map UInt8.toNat = [104] by decide +kernel)
theorem dX12_below_9 : decode cX12_below 9 = .ok (.sipush 12345, 3) := dc_17 (show ((cX12_below.data.toList.drop 9).take 3).map UInt8.toNat = [17, 48, 57] by decide +kernel) rfl
theorem dX12_below_12 : decode cX12_below 12 = .ok (.iadd, 1) := dc_96 (show ((cX12_below.data.toList.drop 12).take 1).map UInt8.toNat = [96] by decide +kernel)
theorem dX12_below_13 : decode cX12_below 13 = .ok (.putfield 384, 3) := dc_181 (show ((cX12_below.data.toList.drop 13).take 3).map UInt8.toNat = [181, 1, 128] by decide +kernel) rfl
theorem dX12_below_16 : decode cX12_below 16 = .ok (.aload_n 0, 1) := dc_42 (show ((cX12_below.data.toList.drop 16).take 1).map UInt8.toNat = [42] by decide +kernel)
theorem dX12_below_17 : decode cX12_below 17 = .ok (.getfield 384, 3) := dc_180 (show ((cX12_below.data.toList.drop 17).take 3).map UInt8.toNat = [180, 1, 128] by decide +kernel) rfl
theorem dX12_below_20 : decode cX12_below 20 = .ok (.bipush 16, 2) := dc_16 (show ((cX12_below.data.toList.drop 20).take 2).map UInt8.toNat = [16, 16] by decide +kernel) rfl
theorem dX12_below_22 : decode cX12_below 22 = .ok (.iushr, 1) := dc_124 (show ((cX12_below.data.toList.drop 22).take 1).map UInt8.toNat = [124] by decide +kernel)
theorem dX12_below_23 : decode cX12_below 23 = .ok (.iload_n 1, 1) := dc_27 (show ((cX12_below.data.toList.drop 23).take 1).map UInt8.toNat = [27] by decide +kernel)
theorem dX12_below_24 : decode cX12_below 24 = .ok (.irem, 1) := dc_112 (show ((cX12_below.data.toList.drop 24).take 1).map UInt8.toNat = [112] by decide +kernel)
theorem dX12_below_25 : decode cX12_below 25 = .ok (.ireturn, 1) := dc_172 (show ((cX12_below.data.toList.drop 25).take 1).map UInt8.toNat = [172] by decide +kernel)
def ms_below (n : Nat) (f : gb_F) (w : Int64) (p1 : Int32) : gb_MR Int32 := gb_lt (gb_u f 0 (upd (f 0) 38 (((f 0 38) * 1103515245) + 12345))) (fun f_1 => gb_nz p1 (gb_lt (((((f_1 0 38) : Int32).toUInt32 >>> ((16 : Int32).toUInt32 &&& Int32.toUInt32 31)).toInt32) - ((((f_1 0 38) : Int32).toUInt32 >>> ((16 : Int32).toUInt32 &&& Int32.toUInt32 31)).toInt32) / p1 * p1) (fun x_3 => some (f_1, w, x_3))))
set_option maxHeartbeats 8000000 in
set_option maxRecDepth 100000 in
theorem mc_below (l : Launch) (D : va_G) (cT : Nat → ClassId) (tt : Nat → Nat) (b1 b : Nat) (hb1 : b1 ≤ b) (n : Nat) (f : gb_F) (w : Int64) (p1 : Int32) (fE : gb_F) (wE : Int64) (rE : Int32) (h : ms_below n f w p1 = some (fE, wE, rE)) : Met l yX12_below (.code yX12_below cX12_below 2 (some FieldType.int) :: gb_wA) ({ frames := 0, cells := 0, slots := 0, locals := 0 }) (gb_Pc D cT tt b1 [.ref (b + 0), .int p1] (fun h => va_P D vwCl (gb_wl b (gb_MW cT b f w)) h)) (gb_Qi (fun r h => r = rE ∧ va_P D vwCl (gb_wl b (gb_MW cT b fE wE)) h) (gb_fr b 22)) 0 0 (gb_fr b 22) := by
  refine Met.ofW (cc := cX12_below) (maxL := 2) (ret := (some FieldType.int)) (by decide) rfl ?_
  intro p e s m args below meth c s₁ B hml hv
  obtain ⟨rfl, hSt, hP⟩ := hv
  have hx := B.exec
  have hb := B.bytes
  have hr := B.returns
  have hts := atoms_spec (ws := .code yX12_below cX12_below 2 (some FieldType.int) :: gb_wA) B.pre
  have hq : ∀ w ∈ gb_wA, w.before _ s = true := fun w h => hts w (List.mem_cons_of_mem _ h)
  have hown : s.vm.findClass RX12 = some m.cls := findClass_of_methodNamed B.named
  have hlocks := B.notSynchronized
  clear B hts
  have hK := hSt.1
  have hS : va_S (gb_fr b 22) s.heap s.heap [] := va_S.rf
  have hl := lv_entry ([.ref (b + 0), .int p1]) (n := 2) (Nat.le_of_ble_eq_true rfl)
  rw [lg_entry_eq]
  generalize (lg_sl ([.ref (b + 0), .int p1]) ++ List.replicate (2 - (lg_sl ([.ref (b + 0), .int p1])).length) Slot.unset).toArray = ls at hl ⊢
  replace hl : lv_has ls 2 [(0, .ref (b + 0)), (1, .int p1)] := hl
  unfold ms_below at h
  refine lv_aload_n hx hb dX12_below_0 rfl (lv_at hl 0 rfl) ?_
  refine lv_aload_n hx hb dX12_below_1 rfl (lv_at hl 0 rfl) ?_
  refine va_get (ci := 10) (v := (.int (f 0 38))) (C := RX12) (T := TX12) (N := 44) hx hb hq i_X12 hown hK hP 0 (gb_at b rfl) rfl 38 (by decide) (hq _ w_1162) (fun _ h9 => h9) rfl dX12_below_2 ?_
  refine lv_ldcw (v := 1103515245) hx hb hown (hq _ w_1661) dX12_below_5 ?_
  refine lv_imul hx hb dX12_below_8 ?_
  refine lv_sipush (v := 12345) hx hb dX12_below_9 (by decide) ?_
  refine lv_iadd hx hb dX12_below_12 ?_
  refine gb_put (ci := 10) (v := (.int (((f 0 38) * 1103515245) + 12345))) (ty := .int) (C := RX12) (T := TX12) (N := 44) hx hb hq i_X12 tyX12 tyX12_ok nmX12 hown hK hP (fun k h => ⟨Nat.le_add_right b k, Nat.add_lt_add_left h b⟩) hS rfl 0 rfl rfl 38 (by decide) (hq _ w_1162) (fun _ h9 => h9) rfl (by decide +kernel) rfl rfl (Nat.le_of_ble_eq_true rfl) dX12_below_13 (fun H locs hP hz_ hS => ?_)
  obtain ⟨f_1, ef_1⟩ : ∃ q, q = (gb_u f 0 (upd (f 0) 38 (((f 0 38) * 1103515245) + 12345))) := ⟨_, rfl⟩
  replace hP : va_P D vwCl (gb_wl b (gb_MW cT b f_1 w)) H := by rw [ef_1]; exact hP
  replace h := gb_lt_s ef_1 h
  refine lv_aload_n hx hb dX12_below_16 rfl (lv_at hl 0 rfl) ?_
  refine va_get (ci := 10) (v := (.int (f_1 0 38))) (C := RX12) (T := TX12) (N := 44) hx hb hq i_X12 hown hK hP 0 (gb_at b rfl) rfl 38 (by decide) (hq _ w_1162) (fun _ h9 => h9) rfl dX12_below_17 ?_
  refine lv_bipush (v := 16) hx hb dX12_below_20 (by decide) ?_
  refine lv_iushr (v := ((((f_1 0 38) : Int32).toUInt32 >>> ((16 : Int32).toUInt32 &&& Int32.toUInt32 31)).toInt32)) hx hb dX12_below_22 rfl ?_
  refine lv_iload_n hx hb dX12_below_23 rfl (lv_at hl 1 rfl) ?_
  obtain ⟨z_2, h⟩ := gb_nz_s h
  refine lv_irem hx hb dX12_below_24 z_2 ?_
  refine lv_topi (fun x_3 ex_3 => ?_)
  replace h := gb_lt_s ex_3 h
  obtain ⟨e1, e2, e3⟩ := gb_eq3 h
  exact W.iret (v := x_3) hx hb hr (fun t ht hW => gb_ri ht ⟨e3, by rw [← e1, ← e2]; exact hP⟩ hS) hS.2.2 dX12_below_25
theorem dX12_draws_0 : decode cX12_draws 0 = .ok (.iconst 0, 1) := dc_3 (show ((cX12_draws.data.toList.drop 0).take 1).map UInt8.toNat = [3] by decide +kernel)
theorem dX12_draws_1 : decode cX12_draws 1 = .ok (.istore_n 1, 1) := dc_60 (show ((cX12_draws.data.toList.drop 1).take 1).map UInt8.toNat = [60] by decide +kernel)
theorem dX12_draws_2 : decode cX12_draws 2 = .ok (.iload_n 1, 1) := dc_27 (show ((cX12_draws.data.toList.drop 2).take 1).map UInt8.toNat = [27] by decide +kernel)
theorem dX12_draws_3 : decode cX12_draws 3 = .ok (.iconst 5, 1) := dc_8 (show ((cX12_draws.data.toList.drop 3).take 1).map UInt8.toNat = [8] by decide +kernel)
theorem dX12_draws_4 : decode cX12_draws 4 = .ok (.if_icmp .ge 16, 3) := dc_162 (show ((cX12_draws.data.toList.drop 4).take 3).map UInt8.toNat = [162, 0, 16] by decide +kernel) rfl
theorem dX12_draws_20 : decode cX12_draws 20 = .ok (.iconst 0, 1) := dc_3 (show ((cX12_draws.data.toList.drop 20).take 1).map UInt8.toNat = [3] by decide +kernel)
theorem dX12_draws_21 : decode cX12_draws 21 = .ok (.istore_n 1, 1) := dc_60 (show ((cX12_draws.data.toList.drop 21).take 1).map UInt8.toNat = [60] by decide +kernel)
theorem dX12_draws_22 : decode cX12_draws 22 = .ok (.iload_n 1, 1) := dc_27 (show ((cX12_draws.data.toList.drop 22).take 1).map UInt8.toNat = [27] by decide +kernel)
theorem dX12_draws_23 : decode cX12_draws 23 = .ok (.aload_n 0, 1) := dc_42 (show ((cX12_draws.data.toList.drop 23).take 1).map UInt8.toNat = [42] by decide +kernel)
theorem dX12_draws_24 : decode cX12_draws 24 = .ok (.invokevirtual 202, 3) := dc_182 (show ((cX12_draws.data.toList.drop 24).take 3).map UInt8.toNat = [182, 0, 202] by decide +kernel) rfl
theorem dX12_draws_27 : decode cX12_draws 27 = .ok (.if_icmp .ge 56, 3) := dc_162 (show ((cX12_draws.data.toList.drop 27).take 3).map UInt8.toNat = [162, 0, 56] by decide +kernel) rfl
theorem dX12_draws_83 : decode cX12_draws 83 = .ok (.aload_n 0, 1) := dc_42 (show ((cX12_draws.data.toList.drop 83).take 1).map UInt8.toNat = [42] by decide +kernel)
theorem dX12_draws_84 : decode cX12_draws 84 = .ok (.bipush 11, 2) := dc_16 (show ((cX12_draws.data.toList.drop 84).take 2).map UInt8.toNat = [16, 11] by decide +kernel) rfl
theorem dX12_draws_86 : decode cX12_draws 86 = .ok (.invokevirtual 388, 3) := dc_182 (show ((cX12_draws.data.toList.drop 86).take 3).map UInt8.toNat = [182, 1, 132] by decide +kernel) rfl
theorem w_1660 : (Cond.code ({ cls := "GooseBorderModel", name := "below", desc := "(I)I" } : MethodName) prog_14_method_101_code (2 : Nat) (Option.some FieldType.int)) ∈ gb_wA := gb_t7 220 rfl rfl
theorem w_1657 : (Cond.methodLink "GooseBorderModel" (388 : Nat) ({ cls := "GooseBorderModel", name := "below", desc := "(I)I" } : MethodName)) ∈ gb_wA := gb_t7 217 rfl rfl
theorem w_1659 : (Cond.instanceMethod ({ cls := "GooseBorderModel", name := "below", desc := "(I)I" } : MethodName)) ∈ gb_wA := gb_t7 219 rfl rfl
theorem s_7_3 : Cond.selects "GooseBorderModel" (⟨"GooseBorderModel", "below", "(I)I"⟩ : MethodName) (⟨"GooseBorderModel", "below", "(I)I"⟩ : MethodName) ∈ gb_wA := gb_s7 3 rfl rfl
theorem dX12_draws_89 : decode cX12_draws 89 = .ok (.istore_n 1, 1) := dc_60 (show ((cX12_draws.data.toList.drop 89).take 1).map UInt8.toNat = [60] by decide +kernel)
theorem dX12_draws_90 : decode cX12_draws 90 = .ok (.iconst 0, 1) := dc_3 (show ((cX12_draws.data.toList.drop 90).take 1).map UInt8.toNat = [3] by decide +kernel)
theorem dX12_draws_91 : decode cX12_draws 91 = .ok (.istore_n 2, 1) := dc_61 (show ((cX12_draws.data.toList.drop 91).take 1).map UInt8.toNat = [61] by decide +kernel)
theorem dX12_draws_92 : decode cX12_draws 92 = .ok (.iload_n 2, 1) := dc_28 (show ((cX12_draws.data.toList.drop 92).take 1).map UInt8.toNat = [28] by decide +kernel)
theorem dX12_draws_93 : decode cX12_draws 93 = .ok (.aload_n 0, 1) := dc_42 (show ((cX12_draws.data.toList.drop 93).take 1).map UInt8.toNat = [42] by decide +kernel)
theorem dX12_draws_94 : decode cX12_draws 94 = .ok (.invokevirtual 199, 3) := dc_182 (show ((cX12_draws.data.toList.drop 94).take 3).map UInt8.toNat = [182, 0, 199] by decide +kernel) rfl
theorem dX12_draws_97 : decode cX12_draws 97 = .ok (.if_icmp .ge 89, 3) := dc_162 (show ((cX12_draws.data.toList.drop 97).take 3).map UInt8.toNat = [162, 0, 89] by decide +kernel) rfl
theorem dX12_draws_186 : decode cX12_draws 186 = .ok (.return_, 1) := dc_177 (show ((cX12_draws.data.toList.drop 186).take 1).map UInt8.toNat = [177] by decide +kernel)
theorem dX12_draws_100 : decode cX12_draws 100 = .ok (.aload_n 0, 1) := dc_42 (show ((cX12_draws.data.toList.drop 100).take 1).map UInt8.toNat = [42] by decide +kernel)
theorem dX12_draws_101 : decode cX12_draws 101 = .ok (.getfield 50, 3) := dc_180 (show ((cX12_draws.data.toList.drop 101).take 3).map UInt8.toNat = [180, 0, 50] by decide +kernel) rfl
theorem dX12_draws_104 : decode cX12_draws 104 = .ok (.iload_n 2, 1) := dc_28 (show ((cX12_draws.data.toList.drop 104).take 1).map UInt8.toNat = [28] by decide +kernel)
theorem dX12_draws_105 : decode cX12_draws 105 = .ok (.iaload, 1) := dc_46 (show ((cX12_draws.data.toList.drop 105).take 1).map UInt8.toNat = [46] by decide +kernel)
theorem dX12_draws_106 : decode cX12_draws 106 = .ok (.aload_n 0, 1) := dc_42 (show ((cX12_draws.data.toList.drop 106).take 1).map UInt8.toNat = [42] by decide +kernel)
theorem dX12_draws_107 : decode cX12_draws 107 = .ok (.getfield 50, 3) := dc_180 (show ((cX12_draws.data.toList.drop 107).take 3).map UInt8.toNat = [180, 0, 50] by decide +kernel) rfl
theorem dX12_draws_110 : decode cX12_draws 110 = .ok (.iload_n 2, 1) := dc_28 (show ((cX12_draws.data.toList.drop 110).take 1).map UInt8.toNat = [28] by decide +kernel)
theorem dX12_draws_111 : decode cX12_draws 111 = .ok (.iaload, 1) := dc_46 (show ((cX12_draws.data.toList.drop 111).take 1).map UInt8.toNat = [46] by decide +kernel)
theorem dX12_draws_112 : decode cX12_draws 112 = .ok (.iload_n 1, 1) := dc_27 (show ((cX12_draws.data.toList.drop 112).take 1).map UInt8.toNat = [27] by decide +kernel)
theorem dX12_draws_113 : decode cX12_draws 113 = .ok (.imul, 1) := dc_104 (show ((cX12_draws.data.toList.drop 113).take 1).map UInt8.toNat = [104] by decide +kernel)
theorem dX12_draws_114 : decode cX12_draws 114 = .ok (.bipush 10, 2) := dc_16 (show ((cX12_draws.data.toList.drop 114).take 2).map UInt8.toNat = [16, 10] by decide +kernel) rfl
theorem dX12_draws_116 : decode cX12_draws 116 = .ok (.idiv, 1) := dc_108 (show ((cX12_draws.data.toList.drop 116).take 1).map UInt8.toNat = [108] by decide +kernel)
theorem dX12_draws_117 : decode cX12_draws 117 = .ok (.isub, 1) := dc_100 (show ((cX12_draws.data.toList.drop 117).take 1).map UInt8.toNat = [100] by decide +kernel)
theorem dX12_draws_118 : decode cX12_draws 118 = .ok (.istore_n 3, 1) := dc_62 (show ((cX12_draws.data.toList.drop 118).take 1).map UInt8.toNat = [62] by decide +kernel)
theorem dX12_draws_119 : decode cX12_draws 119 = .ok (.aload_n 0, 1) := dc_42 (show ((cX12_draws.data.toList.drop 119).take 1).map UInt8.toNat = [42] by decide +kernel)
theorem dX12_draws_120 : decode cX12_draws 120 = .ok (.getfield 65, 3) := dc_180 (show ((cX12_draws.data.toList.drop 120).take 3).map UInt8.toNat = [180, 0, 65] by decide +kernel) rfl
theorem dX12_draws_123 : decode cX12_draws 123 = .ok (.iload_n 2, 1) := dc_28 (show ((cX12_draws.data.toList.drop 123).take 1).map UInt8.toNat = [28] by decide +kernel)
theorem dX12_draws_124 : decode cX12_draws 124 = .ok (.dup2, 1) := dc_92 (show ((cX12_draws.data.toList.drop 124).take 1).map UInt8.toNat = [92] by decide +kernel)
theorem dX12_draws_125 : decode cX12_draws 125 = .ok (.iaload, 1) := dc_46 (show ((cX12_draws.data.toList.drop 125).take 1).map UInt8.toNat = [46] by decide +kernel)
theorem dX12_draws_126 : decode cX12_draws 126 = .ok (.iload_n 3, 1) := dc_29 (show ((cX12_draws.data.toList.drop 126).take 1).map UInt8.toNat = [29] by decide +kernel)
theorem dX12_draws_127 : decode cX12_draws 127 = .ok (.iadd, 1) := dc_96 (show ((cX12_draws.data.toList.drop 127).take 1).map UInt8.toNat = [96] by decide +kernel)
theorem dX12_draws_128 : decode cX12_draws 128 = .ok (.iastore, 1) := dc_79 (show ((cX12_draws.data.toList.drop 128).take 1).map UInt8.toNat = [79] by decide +kernel)
theorem dX12_draws_129 : decode cX12_draws 129 = .ok (.aload_n 0, 1) := dc_42 (show ((cX12_draws.data.toList.drop 129).take 1).map UInt8.toNat = [42] by decide +kernel)
theorem dX12_draws_130 : decode cX12_draws 130 = .ok (.dup, 1) := dc_89 (show ((cX12_draws.data.toList.drop 130).take 1).map UInt8.toNat = [89] by decide +kernel)
theorem dX12_draws_131 : decode cX12_draws 131 = .ok (.getfield 391, 3) := dc_180 (show ((cX12_draws.data.toList.drop 131).take 3).map UInt8.toNat = [180, 1, 135] by decide +kernel) rfl
theorem w_1165 : (Cond.fieldLink "GooseBorderModel" (391 : Nat) "GooseBorderModel" "paid" "I") ∈ gb_wA := gb_t5 205 rfl rfl
theorem dX12_draws_134 : decode cX12_draws 134 = .ok (.aload_n 0, 1) := dc_42 (show ((cX12_draws.data.toList.drop 134).take 1).map UInt8.toNat = [42] by decide +kernel)
theorem dX12_draws_135 : decode cX12_draws 135 = .ok (.iload_n 2, 1) := dc_28 (show ((cX12_draws.data.toList.drop 135).take 1).map UInt8.toNat = [28] by decide +kernel)
theorem dX12_draws_136 : decode cX12_draws 136 = .ok (.iconst 1, 1) := dc_4 (show ((cX12_draws.data.toList.drop 136).take 1).map UInt8.toNat = [4] by decide +kernel)
theorem dX12_draws_137 : decode cX12_draws 137 = .ok (.invokevirtual 211, 3) := dc_182 (show ((cX12_draws.data.toList.drop 137).take 3).map UInt8.toNat = [182, 0, 211] by decide +kernel) rfl
theorem dX12_draws_140 : decode cX12_draws 140 = .ok (.aload_n 0, 1) := dc_42 (show ((cX12_draws.data.toList.drop 140).take 1).map UInt8.toNat = [42] by decide +kernel)
theorem dX12_draws_141 : decode cX12_draws 141 = .ok (.iload_n 3, 1) := dc_29 (show ((cX12_draws.data.toList.drop 141).take 1).map UInt8.toNat = [29] by decide +kernel)
theorem dX12_draws_142 : decode cX12_draws 142 = .ok (.iload_n 2, 1) := dc_28 (show ((cX12_draws.data.toList.drop 142).take 1).map UInt8.toNat = [28] by decide +kernel)
theorem dX12_draws_143 : decode cX12_draws 143 = .ok (.invokevirtual 276, 3) := dc_182 (show ((cX12_draws.data.toList.drop 143).take 3).map UInt8.toNat = [182, 1, 20] by decide +kernel) rfl
theorem dX12_draws_146 : decode cX12_draws 146 = .ok (.imul, 1) := dc_104 (show ((cX12_draws.data.toList.drop 146).take 1).map UInt8.toNat = [104] by decide +kernel)
theorem dX12_draws_147 : decode cX12_draws 147 = .ok (.iadd, 1) := dc_96 (show ((cX12_draws.data.toList.drop 147).take 1).map UInt8.toNat = [96] by decide +kernel)
theorem dX12_draws_148 : decode cX12_draws 148 = .ok (.putfield 391, 3) := dc_181 (show ((cX12_draws.data.toList.drop 148).take 3).map UInt8.toNat = [181, 1, 135] by decide +kernel) rfl
theorem dX12_draws_151 : decode cX12_draws 151 = .ok (.aload_n 0, 1) := dc_42 (show ((cX12_draws.data.toList.drop 151).take 1).map UInt8.toNat = [42] by decide +kernel)
theorem dX12_draws_152 : decode cX12_draws 152 = .ok (.dup, 1) := dc_89 (show ((cX12_draws.data.toList.drop 152).take 1).map UInt8.toNat = [89] by decide +kernel)
theorem dX12_draws_153 : decode cX12_draws 153 = .ok (.getfield 394, 3) := dc_180 (show ((cX12_draws.data.toList.drop 153).take 3).map UInt8.toNat = [180, 1, 138] by decide +kernel) rfl
theorem w_1166 : (Cond.fieldLink "GooseBorderModel" (394 : Nat) "GooseBorderModel" "children" "I") ∈ gb_wA := gb_t5 206 rfl rfl
theorem dX12_draws_156 : decode cX12_draws 156 = .ok (.aload_n 0, 1) := dc_42 (show ((cX12_draws.data.toList.drop 156).take 1).map UInt8.toNat = [42] by decide +kernel)
theorem dX12_draws_157 : decode cX12_draws 157 = .ok (.bipush 10, 2) := dc_16 (show ((cX12_draws.data.toList.drop 157).take 2).map UInt8.toNat = [16, 10] by decide +kernel) rfl
theorem dX12_draws_159 : decode cX12_draws 159 = .ok (.invokevirtual 388, 3) := dc_182 (show ((cX12_draws.data.toList.drop 159).take 3).map UInt8.toNat = [182, 1, 132] by decide +kernel) rfl
theorem dX12_draws_162 : decode cX12_draws 162 = .ok (.aload_n 0, 1) := dc_42 (show ((cX12_draws.data.toList.drop 162).take 1).map UInt8.toNat = [42] by decide +kernel)
theorem dX12_draws_163 : decode cX12_draws 163 = .ok (.iload_n 2, 1) := dc_28 (show ((cX12_draws.data.toList.drop 163).take 1).map UInt8.toNat = [28] by decide +kernel)
theorem dX12_draws_164 : decode cX12_draws 164 = .ok (.iconst 2, 1) := dc_5 (show ((cX12_draws.data.toList.drop 164).take 1).map UInt8.toNat = [5] by decide +kernel)
theorem dX12_draws_165 : decode cX12_draws 165 = .ok (.invokevirtual 211, 3) := dc_182 (show ((cX12_draws.data.toList.drop 165).take 3).map UInt8.toNat = [182, 0, 211] by decide +kernel) rfl
theorem dX12_draws_168 : decode cX12_draws 168 = .ok (.if_icmp .ge 7, 3) := dc_162 (show ((cX12_draws.data.toList.drop 168).take 3).map UInt8.toNat = [162, 0, 7] by decide +kernel) rfl
theorem dX12_draws_175 : decode cX12_draws 175 = .ok (.iconst 0, 1) := dc_3 (show ((cX12_draws.data.toList.drop 175).take 1).map UInt8.toNat = [3] by decide +kernel)
theorem dX12_draws_176 : decode cX12_draws 176 = .ok (.iadd, 1) := dc_96 (show ((cX12_draws.data.toList.drop 176).take 1).map UInt8.toNat = [96] by decide +kernel)
theorem dX12_draws_177 : decode cX12_draws 177 = .ok (.putfield 394, 3) := dc_181 (show ((cX12_draws.data.toList.drop 177).take 3).map UInt8.toNat = [181, 1, 138] by decide +kernel) rfl
theorem dX12_draws_180 : decode cX12_draws 180 = .ok (.iinc 2 1, 3) := dc_132 (show ((cX12_draws.data.toList.drop 180).take 3).map UInt8.toNat = [132, 2, 1] by decide +kernel) rfl
theorem dX12_draws_183 : decode cX12_draws 183 = .ok (.goto (-91), 3) := dc_167 (show ((cX12_draws.data.toList.drop 183).take 3).map UInt8.toNat = [167, 255, 165] by decide +kernel) rfl
theorem dX12_draws_171 : decode cX12_draws 171 = .ok (.iconst 1, 1) := dc_4 (show ((cX12_draws.data.toList.drop 171).take 1).map UInt8.toNat = [4] by decide +kernel)
theorem dX12_draws_172 : decode cX12_draws 172 = .ok (.goto 4, 3) := dc_167 (show ((cX12_draws.data.toList.drop 172).take 3).map UInt8.toNat = [167, 0, 4] by decide +kernel) rfl
theorem dX12_draws_30 : decode cX12_draws 30 = .ok (.aload_n 0, 1) := dc_42 (show ((cX12_draws.data.toList.drop 30).take 1).map UInt8.toNat = [42] by decide +kernel)
theorem dX12_draws_31 : decode cX12_draws 31 = .ok (.aload_n 0, 1) := dc_42 (show ((cX12_draws.data.toList.drop 31).take 1).map UInt8.toNat = [42] by decide +kernel)
theorem dX12_draws_32 : decode cX12_draws 32 = .ok (.invokevirtual 199, 3) := dc_182 (show ((cX12_draws.data.toList.drop 32).take 3).map UInt8.toNat = [182, 0, 199] by decide +kernel) rfl
theorem dX12_draws_35 : decode cX12_draws 35 = .ok (.invokevirtual 388, 3) := dc_182 (show ((cX12_draws.data.toList.drop 35).take 3).map UInt8.toNat = [182, 1, 132] by decide +kernel) rfl
theorem dX12_draws_38 : decode cX12_draws 38 = .ok (.istore_n 2, 1) := dc_61 (show ((cX12_draws.data.toList.drop 38).take 1).map UInt8.toNat = [61] by decide +kernel)
theorem dX12_draws_39 : decode cX12_draws 39 = .ok (.aload_n 0, 1) := dc_42 (show ((cX12_draws.data.toList.drop 39).take 1).map UInt8.toNat = [42] by decide +kernel)
theorem dX12_draws_40 : decode cX12_draws 40 = .ok (.getfield 50, 3) := dc_180 (show ((cX12_draws.data.toList.drop 40).take 3).map UInt8.toNat = [180, 0, 50] by decide +kernel) rfl
theorem dX12_draws_43 : decode cX12_draws 43 = .ok (.iload_n 2, 1) := dc_28 (show ((cX12_draws.data.toList.drop 43).take 1).map UInt8.toNat = [28] by decide +kernel)
theorem dX12_draws_44 : decode cX12_draws 44 = .ok (.dup2, 1) := dc_92 (show ((cX12_draws.data.toList.drop 44).take 1).map UInt8.toNat = [92] by decide +kernel)
theorem dX12_draws_45 : decode cX12_draws 45 = .ok (.iaload, 1) := dc_46 (show ((cX12_draws.data.toList.drop 45).take 1).map UInt8.toNat = [46] by decide +kernel)
theorem dX12_draws_46 : decode cX12_draws 46 = .ok (.aload_n 0, 1) := dc_42 (show ((cX12_draws.data.toList.drop 46).take 1).map UInt8.toNat = [42] by decide +kernel)
theorem dX12_draws_47 : decode cX12_draws 47 = .ok (.getfield 47, 3) := dc_180 (show ((cX12_draws.data.toList.drop 47).take 3).map UInt8.toNat = [180, 0, 47] by decide +kernel) rfl
theorem dX12_draws_50 : decode cX12_draws 50 = .ok (.iconst 5, 1) := dc_8 (show ((cX12_draws.data.toList.drop 50).take 1).map UInt8.toNat = [8] by decide +kernel)
theorem dX12_draws_51 : decode cX12_draws 51 = .ok (.iload_n 1, 1) := dc_27 (show ((cX12_draws.data.toList.drop 51).take 1).map UInt8.toNat = [27] by decide +kernel)
theorem dX12_draws_52 : decode cX12_draws 52 = .ok (.imul, 1) := dc_104 (show ((cX12_draws.data.toList.drop 52).take 1).map UInt8.toNat = [104] by decide +kernel)
theorem dX12_draws_53 : decode cX12_draws 53 = .ok (.iload_n 2, 1) := dc_28 (show ((cX12_draws.data.toList.drop 53).take 1).map UInt8.toNat = [28] by decide +kernel)
theorem dX12_draws_54 : decode cX12_draws 54 = .ok (.iadd, 1) := dc_96 (show ((cX12_draws.data.toList.drop 54).take 1).map UInt8.toNat = [96] by decide +kernel)
theorem dX12_draws_55 : decode cX12_draws 55 = .ok (.iaload, 1) := dc_46 (show ((cX12_draws.data.toList.drop 55).take 1).map UInt8.toNat = [46] by decide +kernel)
theorem dX12_draws_56 : decode cX12_draws 56 = .ok (.iadd, 1) := dc_96 (show ((cX12_draws.data.toList.drop 56).take 1).map UInt8.toNat = [96] by decide +kernel)
theorem dX12_draws_57 : decode cX12_draws 57 = .ok (.iastore, 1) := dc_79 (show ((cX12_draws.data.toList.drop 57).take 1).map UInt8.toNat = [79] by decide +kernel)
theorem dX12_draws_58 : decode cX12_draws 58 = .ok (.aload_n 0, 1) := dc_42 (show ((cX12_draws.data.toList.drop 58).take 1).map UInt8.toNat = [42] by decide +kernel)
theorem dX12_draws_59 : decode cX12_draws 59 = .ok (.getfield 68, 3) := dc_180 (show ((cX12_draws.data.toList.drop 59).take 3).map UInt8.toNat = [180, 0, 68] by decide +kernel) rfl
theorem dX12_draws_62 : decode cX12_draws 62 = .ok (.iload_n 1, 1) := dc_27 (show ((cX12_draws.data.toList.drop 62).take 1).map UInt8.toNat = [27] by decide +kernel)
theorem dX12_draws_63 : decode cX12_draws 63 = .ok (.dup2, 1) := dc_92 (show ((cX12_draws.data.toList.drop 63).take 1).map UInt8.toNat = [92] by decide +kernel)
theorem dX12_draws_64 : decode cX12_draws 64 = .ok (.iaload, 1) := dc_46 (show ((cX12_draws.data.toList.drop 64).take 1).map UInt8.toNat = [46] by decide +kernel)
theorem dX12_draws_65 : decode cX12_draws 65 = .ok (.aload_n 0, 1) := dc_42 (show ((cX12_draws.data.toList.drop 65).take 1).map UInt8.toNat = [42] by decide +kernel)
theorem dX12_draws_66 : decode cX12_draws 66 = .ok (.getfield 47, 3) := dc_180 (show ((cX12_draws.data.toList.drop 66).take 3).map UInt8.toNat = [180, 0, 47] by decide +kernel) rfl
theorem dX12_draws_69 : decode cX12_draws 69 = .ok (.iconst 5, 1) := dc_8 (show ((cX12_draws.data.toList.drop 69).take 1).map UInt8.toNat = [8] by decide +kernel)
theorem dX12_draws_70 : decode cX12_draws 70 = .ok (.iload_n 1, 1) := dc_27 (show ((cX12_draws.data.toList.drop 70).take 1).map UInt8.toNat = [27] by decide +kernel)
theorem dX12_draws_71 : decode cX12_draws 71 = .ok (.imul, 1) := dc_104 (show ((cX12_draws.data.toList.drop 71).take 1).map UInt8.toNat = [104] by decide +kernel)
theorem dX12_draws_72 : decode cX12_draws 72 = .ok (.iload_n 2, 1) := dc_28 (show ((cX12_draws.data.toList.drop 72).take 1).map UInt8.toNat = [28] by decide +kernel)
theorem dX12_draws_73 : decode cX12_draws 73 = .ok (.iadd, 1) := dc_96 (show ((cX12_draws.data.toList.drop 73).take 1).map UInt8.toNat = [96] by decide +kernel)
theorem dX12_draws_74 : decode cX12_draws 74 = .ok (.iaload, 1) := dc_46 (show ((cX12_draws.data.toList.drop 74).take 1).map UInt8.toNat = [46] by decide +kernel)
theorem dX12_draws_75 : decode cX12_draws 75 = .ok (.iadd, 1) := dc_96 (show ((cX12_draws.data.toList.drop 75).take 1).map UInt8.toNat = [96] by decide +kernel)
theorem dX12_draws_76 : decode cX12_draws 76 = .ok (.iastore, 1) := dc_79 (show ((cX12_draws.data.toList.drop 76).take 1).map UInt8.toNat = [79] by decide +kernel)
theorem dX12_draws_77 : decode cX12_draws 77 = .ok (.iinc 1 1, 3) := dc_132 (show ((cX12_draws.data.toList.drop 77).take 3).map UInt8.toNat = [132, 1, 1] by decide +kernel) rfl
theorem dX12_draws_80 : decode cX12_draws 80 = .ok (.goto (-58), 3) := dc_167 (show ((cX12_draws.data.toList.drop 80).take 3).map UInt8.toNat = [167, 255, 198] by decide +kernel) rfl
theorem dX12_draws_7 : decode cX12_draws 7 = .ok (.aload_n 0, 1) := dc_42 (show ((cX12_draws.data.toList.drop 7).take 1).map UInt8.toNat = [42] by decide +kernel)
theorem dX12_draws_8 : decode cX12_draws 8 = .ok (.getfield 50, 3) := dc_180 (show ((cX12_draws.data.toList.drop 8).take 3).map UInt8.toNat = [180, 0, 50] by decide +kernel) rfl
theorem dX12_draws_11 : decode cX12_draws 11 = .ok (.iload_n 1, 1) := dc_27 (show ((cX12_draws.data.toList.drop 11).take 1).map UInt8.toNat = [27] by decide +kernel)
theorem dX12_draws_12 : decode cX12_draws 12 = .ok (.iconst 0, 1) := dc_3 (show ((cX12_draws.data.toList.drop 12).take 1).map UInt8.toNat = [3] by decide +kernel)
theorem dX12_draws_13 : decode cX12_draws 13 = .ok (.iastore, 1) := dc_79 (show ((cX12_draws.data.toList.drop 13).take 1).map UInt8.toNat = [79] by decide +kernel)
theorem dX12_draws_14 : decode cX12_draws 14 = .ok (.iinc 1 1, 3) := dc_132 (show ((cX12_draws.data.toList.drop 14).take 3).map UInt8.toNat = [132, 1, 1] by decide +kernel) rfl
theorem dX12_draws_17 : decode cX12_draws 17 = .ok (.goto (-15), 3) := dc_167 (show ((cX12_draws.data.toList.drop 17).take 3).map UInt8.toNat = [167, 255, 241] by decide +kernel) rfl
def ms_draws_92 (n : Nat) : Nat → gb_F → Int64 → Int32 → Int32 → gb_MR Unit
  | 0, _, _, _, _ => none
  | mm + 1, f, w, v1, v2 => gb_bd (ms_paths n f w) (fun f_13 wl_14 r_15 => (if r_15 ≤ v2 then some (f_13, wl_14, ()) else gb_ck v2 5 (gb_lt (f_13 14 (Int32.toNatClampNeg v2)) (fun x_20 => gb_ck v2 5 (gb_lt (f_13 14 (Int32.toNatClampNeg v2)) (fun x_22 => gb_lt ((x_22 * v1) / 10) (fun x_23 => gb_lt (x_20 - x_23) (fun x_24 => gb_ck v2 5 (gb_lt (f_13 19 (Int32.toNatClampNeg v2)) (fun x_26 => gb_ck v2 5 (gb_lt (gb_u f_13 19 (upd (f_13 19) (Int32.toNatClampNeg v2) (x_26 + x_24))) (fun f_28 => gb_bd (ms_ofPath n f_28 wl_14 v2 1) (fun f_29 wl_30 r_31 => gb_bd (ms_padded n f_29 wl_30 x_24 v2) (fun f_34 wl_35 r_36 => gb_lt (gb_u f_34 0 (upd (f_34 0) 41 ((f_28 0 41) + (r_31 * r_36)))) (fun f_39 => gb_bd (ms_below n f_39 wl_35 10) (fun f_40 wl_41 r_42 => gb_bd (ms_ofPath n f_40 wl_41 v2 2) (fun f_45 wl_46 r_47 => (if r_47 ≤ r_42 then gb_lt (gb_u f_45 0 (upd (f_45 0) 42 ((f_39 0 42) + 0))) (fun f_51 => gb_lt (v2 + 1) (fun x_52 => ms_draws_92 n mm f_51 wl_46 v1 x_52)) else gb_lt (gb_u f_45 0 (upd (f_45 0) 42 ((f_39 0 42) + 1))) (fun f_53 => gb_lt (v2 + 1) (fun x_54 => ms_draws_92 n mm f_53 wl_46 v1 x_54))))))))))))))))))))
def ms_draws_22 (n : Nat) : Nat → gb_F → Int64 → Int32 → gb_MR Unit
  | 0, _, _, _ => none
  | mm + 1, f, w, v1 => gb_bd (ms_geese n f w) (fun f_2 wl_3 r_4 => (if r_4 ≤ v1 then gb_bd (ms_below n f_2 wl_3 11) (fun f_8 wl_9 r_10 => ms_draws_92 n n f_8 wl_9 r_10 0) else gb_bd (ms_paths n f_2 wl_3) (fun f_55 wl_56 r_57 => gb_bd (ms_below n f_55 wl_56 r_57) (fun f_60 wl_61 r_62 => gb_ck r_62 5 (gb_lt (f_60 14 (Int32.toNatClampNeg r_62)) (fun x_66 => gb_ck ((5 * v1) + r_62) 40 (gb_lt (f_60 13 (Int32.toNatClampNeg ((5 * v1) + r_62))) (fun x_68 => gb_ck r_62 5 (gb_lt (gb_u f_60 14 (upd (f_60 14) (Int32.toNatClampNeg r_62) (x_66 + x_68))) (fun f_70 => gb_ck v1 8 (gb_lt (f_70 20 (Int32.toNatClampNeg v1)) (fun x_72 => gb_ck ((5 * v1) + r_62) 40 (gb_lt (f_70 13 (Int32.toNatClampNeg ((5 * v1) + r_62))) (fun x_74 => gb_ck v1 8 (gb_lt (gb_u f_70 20 (upd (f_70 20) (Int32.toNatClampNeg v1) (x_72 + x_74))) (fun f_76 => gb_lt (v1 + 1) (fun x_77 => ms_draws_22 n mm f_76 wl_61 x_77)))))))))))))))))
def ms_draws_2 (n : Nat) : Nat → gb_F → Int64 → Int32 → gb_MR Unit
  | 0, _, _, _ => none
  | mm + 1, f, w, v1 => (if (5 : Int32) ≤ v1 then ms_draws_22 n n f w 0 else gb_ck v1 5 (gb_lt (gb_u f 14 (upd (f 14) (Int32.toNatClampNeg v1) 0)) (fun f_79 => gb_lt (v1 + 1) (fun x_80 => ms_draws_2 n mm f_79 w x_80))))
def ms_draws (n : Nat) (f : gb_F) (w : Int64) : gb_MR Unit := ms_draws_2 n n f w 0
set_option maxHeartbeats 8000000 in
set_option maxRecDepth 100000 in
theorem mc_draws (l : Launch) (D : va_G) (cT : Nat → ClassId) (tt : Nat → Nat) (b1 b : Nat) (hb1 : b1 ≤ b) (n : Nat) (f : gb_F) (w : Int64) (fE : gb_F) (wE : Int64) (rE : Unit) (h : ms_draws n f w = some (fE, wE, rE)) : Met l yX12_draws (.code yX12_draws cX12_draws 4 none :: gb_wA) ({ frames := 3, cells := 0, slots := 0, locals := 65 }) (gb_Pc D cT tt b1 [.ref (b + 0)] (fun h => va_P D vwCl (gb_wl b (gb_MW cT b f w)) h)) (gb_Qv (fun h => va_P D vwCl (gb_wl b (gb_MW cT b fE wE)) h) (gb_fr b 22)) 0 0 (gb_fr b 22) := by
  refine Met.ofW (cc := cX12_draws) (maxL := 4) (ret := none) (by decide) rfl ?_
  intro p e s m args below meth c s₁ B hml hv
  obtain ⟨rfl, hSt, hP⟩ := hv
  have hx := B.exec
  have hb := B.bytes
  have hr := B.returns
  have hts := atoms_spec (ws := .code yX12_draws cX12_draws 4 none :: gb_wA) B.pre
  have hq : ∀ w ∈ gb_wA, w.before _ s = true := fun w h => hts w (List.mem_cons_of_mem _ h)
  have hown : s.vm.findClass RX12 = some m.cls := findClass_of_methodNamed B.named
  have hlocks := B.notSynchronized
  clear B hts
  have hK := hSt.1
  have hS : va_S (gb_fr b 22) s.heap s.heap [] := va_S.rf
  have hl := lv_entry ([.ref (b + 0)]) (n := 4) (Nat.le_of_ble_eq_true rfl)
  rw [lg_entry_eq]
  generalize (lg_sl ([.ref (b + 0)]) ++ List.replicate (4 - (lg_sl ([.ref (b + 0)])).length) Slot.unset).toArray = ls at hl ⊢
  replace hl : lv_has ls 4 [(0, .ref (b + 0))] := hl
  have L92 : ∀ (mm : Nat) (f : gb_F) (w : Int64) (v1 : Int32) (v2 : Int32) (H : Heap) (locs : List Loc) (ls : Array Slot), ms_draws_92 n mm f w v1 v2 = some (fE, wE, rE) → va_P D vwCl (gb_wl b (gb_MW cT b f w)) H → va_S (gb_fr b 22) s.heap H locs → lv_has ls 4 [(0, .ref (b + 0)), (1, .int v1), (2, .int v2)] → W p l e (headSpec (.code yX12_draws cX12_draws 4 none :: gb_wA) ({ frames := 3, cells := 0, slots := 0, locals := 65 })).room s m ([.ref (b + 0)]).toArray below meth c H locs 0 0 (MQ below (gb_Qv (fun h => va_P D vwCl (gb_wl b (gb_MW cT b fE wE)) h) (gb_fr b 22)) ([.ref (b + 0)]).toArray s 0 0 (gb_fr b 22)) (F0 m 92 ls []) := by
    clear h hP hS hl ls f w
    intro mm
    induction mm with
    | zero =>
      intro f w v1 v2 H locs ls h
      cases h
    | succ mm ih =>
      intro f w v1 v2 H locs ls h hP hS hl
      rw [ms_draws_92] at h
      refine lv_iload_n hx hb dX12_draws_92 rfl (lv_at hl 2 rfl) ?_
      refine lv_aload_n hx hb dX12_draws_93 rfl (lv_at hl 0 rfl) ?_
      obtain ⟨f_13, wl_14, r_15, z_16, h⟩ := gb_bd_s h
      refine gb_calli (va_runV (C := RX12) (As := []) (rest := [.int v2]) ⟨hx, hb, hml, hown, hq⟩ (mc_paths l D cT tt b1 b hb1 n f w f_13 wl_14 r_15 z_16) (cwV 0 hq (gb_gV w_1384 w_1386 s_4_4 w_14 w_1387) rfl rfl rfl (by decide +kernel) ⟨Nat.le_of_ble_eq_true rfl, Nat.le_of_ble_eq_true rfl⟩) (gb_preV (r := (RX12, TX12, 44)) (ci := 10) (q0 := 0) hSt hP rfl (gb_at b rfl) hS (fun q h => Nat.le_trans hb1 h.1) hP) rfl rfl hl.1 rfl (lv_room (Nat.le_of_ble_eq_true rfl)) dX12_draws_94 ⟨Nat.le_of_ble_eq_true rfl, Nat.le_of_ble_eq_true rfl⟩) hS (fun _ h => h) (fun _ h => h) (fun q_17 H locs hY hk hS => ?_)
      obtain ⟨hq_17, hP⟩ := hY
      replace hq_17 := hq_17.symm
      subst hq_17
      refine lv_icmp_ge (tgt := 186) hx hb dX12_draws_97 (by decide) (fun c_18 => ?_) (fun c_18 => ?_)
      · rw [if_pos c_18] at h
        obtain ⟨e1, e2, -⟩ := gb_eq3 h
        exact W.vret hx hb hr (fun t ht hW => gb_rv ht (by rw [← e1, ← e2]; exact hP) hS) hS.2.2 dX12_draws_186
      · rw [if_neg c_18] at h
        refine lv_aload_n hx hb dX12_draws_100 rfl (lv_at hl 0 rfl) ?_
        refine va_get (ci := 10) (v := (.ref (b + 14))) (C := RX12) (T := TX12) (N := 44) hx hb hq i_X12 hown hK hP 0 (gb_at b rfl) rfl 27 (by decide) (hq _ w_1151) (fun _ h9 => h9) rfl dX12_draws_101 ?_
        refine lv_iload_n hx hb dX12_draws_104 rfl (lv_at hl 2 rfl) ?_
        obtain ⟨z_19, h⟩ := gb_ck_s h
        refine va_iald hx hb hK hP 14 0 (gb_at b rfl) rfl z_19 dX12_draws_105 ?_
        refine lv_topi (fun x_20 ex_20 => ?_)
        replace h := gb_lt_s ex_20 h
        refine lv_aload_n hx hb dX12_draws_106 rfl (lv_at hl 0 rfl) ?_
        refine va_get (ci := 10) (v := (.ref (b + 14))) (C := RX12) (T := TX12) (N := 44) hx hb hq i_X12 hown hK hP 0 (gb_at b rfl) rfl 27 (by decide) (hq _ w_1151) (fun _ h9 => h9) rfl dX12_draws_107 ?_
        refine lv_iload_n hx hb dX12_draws_110 rfl (lv_at hl 2 rfl) ?_
        obtain ⟨z_21, h⟩ := gb_ck_s h
        refine va_iald hx hb hK hP 14 0 (gb_at b rfl) rfl z_21 dX12_draws_111 ?_
        refine lv_topi (fun x_22 ex_22 => ?_)
        replace h := gb_lt_s ex_22 h
        refine lv_iload_n hx hb dX12_draws_112 rfl (lv_at hl 1 rfl) ?_
        refine lv_imul hx hb dX12_draws_113 ?_
        refine lv_bipush (v := 10) hx hb dX12_draws_114 (by decide) ?_
        refine lv_idiv hx hb dX12_draws_116 (by decide) ?_
        refine lv_topi (fun x_23 ex_23 => ?_)
        replace h := gb_lt_s ex_23 h
        refine lv_isub hx hb dX12_draws_117 ?_
        refine lv_topi (fun x_24 ex_24 => ?_)
        replace h := gb_lt_s ex_24 h
        refine lv_istore_n (lv' := [(3, .int x_24), (0, .ref (b + 0)), (1, .int v1), (2, .int v2)]) hx hb dX12_draws_118 rfl hl (by decide) rfl (fun ls hl => ?_)
        refine lv_aload_n hx hb dX12_draws_119 rfl (lv_at hl 1 rfl) ?_
        refine va_get (ci := 10) (v := (.ref (b + 19))) (C := RX12) (T := TX12) (N := 44) hx hb hq i_X12 hown hK hP 0 (gb_at b rfl) rfl 39 (by decide) (hq _ w_1163) (fun _ h9 => h9) rfl dX12_draws_120 ?_
        refine lv_iload_n hx hb dX12_draws_123 rfl (lv_at hl 3 rfl) ?_
        refine lv_dup2_11 hx hb dX12_draws_124 rfl rfl ?_
        obtain ⟨z_25, h⟩ := gb_ck_s h
        refine va_iald hx hb hK hP 19 0 (gb_at b rfl) rfl z_25 dX12_draws_125 ?_
        refine lv_topi (fun x_26 ex_26 => ?_)
        replace h := gb_lt_s ex_26 h
        refine lv_iload_n hx hb dX12_draws_126 rfl (lv_at hl 0 rfl) ?_
        refine lv_iadd hx hb dX12_draws_127 ?_
        obtain ⟨z_27, h⟩ := gb_ck_s h
        refine gb_iast (x := (x_26 + x_24)) hx hb hK hP (fun k h => ⟨Nat.le_add_right b k, Nat.add_lt_add_left h b⟩) hS rfl 19 0 rfl rfl z_27 dX12_draws_128 (fun H locs hP hz_ hS => ?_)
        obtain ⟨f_28, ef_28⟩ : ∃ q, q = (gb_u f_13 19 (upd (f_13 19) (Int32.toNatClampNeg v2) (x_26 + x_24))) := ⟨_, rfl⟩
        replace hP : va_P D vwCl (gb_wl b (gb_MW cT b f_28 wl_14)) H := by rw [ef_28]; exact hP
        replace h := gb_lt_s ef_28 h
        refine lv_aload_n hx hb dX12_draws_129 rfl (lv_at hl 1 rfl) ?_
        refine lv_dup hx hb dX12_draws_130 rfl ?_
        refine va_get (ci := 10) (v := (.int (f_28 0 41))) (C := RX12) (T := TX12) (N := 44) hx hb hq i_X12 hown hK hP 0 (gb_at b rfl) rfl 41 (by decide) (hq _ w_1165) (fun _ h9 => h9) rfl dX12_draws_131 ?_
        refine lv_aload_n hx hb dX12_draws_134 rfl (lv_at hl 1 rfl) ?_
        refine lv_iload_n hx hb dX12_draws_135 rfl (lv_at hl 3 rfl) ?_
        refine lv_iconst (v := 1) hx hb dX12_draws_136 (by decide) ?_
        obtain ⟨f_29, wl_30, r_31, z_32, h⟩ := gb_bd_s h
        refine gb_calli (va_runV (C := RX12) (As := [.int v2, .int 1]) (rest := [.int (f_28 0 41), .ref (b + 0)]) ⟨hx, hb, hml, hown, hq⟩ (mc_ofPath l D cT tt b1 b hb1 n f_28 wl_14 v2 1 f_29 wl_30 r_31 z_32) (cwV 2 hq (gb_gV w_1388 w_1390 s_4_5 w_14 w_1391) rfl rfl rfl (by decide +kernel) ⟨Nat.le_of_ble_eq_true rfl, Nat.le_of_ble_eq_true rfl⟩) (gb_preV (r := (RX12, TX12, 44)) (ci := 10) (q0 := 0) hSt hP rfl (gb_at b rfl) hS (fun q h => Nat.le_trans hb1 h.1) hP) rfl rfl hl.1 rfl (lv_room (Nat.le_of_ble_eq_true rfl)) dX12_draws_137 ⟨Nat.le_of_ble_eq_true rfl, Nat.le_of_ble_eq_true rfl⟩) hS (fun _ h => h) (fun _ h => h) (fun q_33 H locs hY hk hS => ?_)
        obtain ⟨hq_33, hP⟩ := hY
        replace hq_33 := hq_33.symm
        subst hq_33
        refine lv_aload_n hx hb dX12_draws_140 rfl (lv_at hl 1 rfl) ?_
        refine lv_iload_n hx hb dX12_draws_141 rfl (lv_at hl 0 rfl) ?_
        refine lv_iload_n hx hb dX12_draws_142 rfl (lv_at hl 3 rfl) ?_
        obtain ⟨f_34, wl_35, r_36, z_37, h⟩ := gb_bd_s h
        refine gb_calli (va_runV (C := RX12) (As := [.int x_24, .int v2]) (rest := [.int r_31, .int (f_28 0 41), .ref (b + 0)]) ⟨hx, hb, hml, hown, hq⟩ (mc_padded l D cT tt b1 b hb1 n f_29 wl_30 x_24 v2 f_34 wl_35 r_36 z_37) (cwV 2 hq (gb_gV w_1480 w_1482 s_5_7 w_14 w_1483) rfl rfl rfl (by decide +kernel) ⟨Nat.le_of_ble_eq_true rfl, Nat.le_of_ble_eq_true rfl⟩) (gb_preV (r := (RX12, TX12, 44)) (ci := 10) (q0 := 0) hSt hP rfl (gb_at b rfl) hS (fun q h => Nat.le_trans hb1 h.1) hP) rfl rfl hl.1 rfl (lv_room (Nat.le_of_ble_eq_true rfl)) dX12_draws_143 ⟨Nat.le_of_ble_eq_true rfl, Nat.le_of_ble_eq_true rfl⟩) hS (fun _ h => h) (fun _ h => h) (fun q_38 H locs hY hk hS => ?_)
        obtain ⟨hq_38, hP⟩ := hY
        replace hq_38 := hq_38.symm
        subst hq_38
        refine lv_imul hx hb dX12_draws_146 ?_
        refine lv_iadd hx hb dX12_draws_147 ?_
        refine gb_put (ci := 10) (v := (.int ((f_28 0 41) + (r_31 * r_36)))) (ty := .int) (C := RX12) (T := TX12) (N := 44) hx hb hq i_X12 tyX12 tyX12_ok nmX12 hown hK hP (fun k h => ⟨Nat.le_add_right b k, Nat.add_lt_add_left h b⟩) hS rfl 0 rfl rfl 41 (by decide) (hq _ w_1165) (fun _ h9 => h9) rfl (by decide +kernel) rfl rfl (Nat.le_of_ble_eq_true rfl) dX12_draws_148 (fun H locs hP hz_ hS => ?_)
        obtain ⟨f_39, ef_39⟩ : ∃ q, q = (gb_u f_34 0 (upd (f_34 0) 41 ((f_28 0 41) + (r_31 * r_36)))) := ⟨_, rfl⟩
        replace hP : va_P D vwCl (gb_wl b (gb_MW cT b f_39 wl_35)) H := by rw [ef_39]; exact hP
        replace h := gb_lt_s ef_39 h
        refine lv_aload_n hx hb dX12_draws_151 rfl (lv_at hl 1 rfl) ?_
        refine lv_dup hx hb dX12_draws_152 rfl ?_
        refine va_get (ci := 10) (v := (.int (f_39 0 42))) (C := RX12) (T := TX12) (N := 44) hx hb hq i_X12 hown hK hP 0 (gb_at b rfl) rfl 42 (by decide) (hq _ w_1166) (fun _ h9 => h9) rfl dX12_draws_153 ?_
        refine lv_aload_n hx hb dX12_draws_156 rfl (lv_at hl 1 rfl) ?_
        refine lv_bipush (v := 10) hx hb dX12_draws_157 (by decide) ?_
        obtain ⟨f_40, wl_41, r_42, z_43, h⟩ := gb_bd_s h
        refine gb_calli (va_runV (C := RX12) (As := [.int 10]) (rest := [.int (f_39 0 42), .ref (b + 0)]) ⟨hx, hb, hml, hown, hq⟩ (mc_below l D cT tt b1 b hb1 n f_39 wl_35 10 f_40 wl_41 r_42 z_43) (cwV 1 hq (gb_gV w_1657 w_1659 s_7_3 w_14 w_1660) rfl rfl rfl (by decide +kernel) ⟨Nat.le_of_ble_eq_true rfl, Nat.le_of_ble_eq_true rfl⟩) (gb_preV (r := (RX12, TX12, 44)) (ci := 10) (q0 := 0) hSt hP rfl (gb_at b rfl) hS (fun q h => Nat.le_trans hb1 h.1) hP) rfl rfl hl.1 rfl (lv_room (Nat.le_of_ble_eq_true rfl)) dX12_draws_159 ⟨Nat.le_of_ble_eq_true rfl, Nat.le_of_ble_eq_true rfl⟩) hS (fun _ h => h) (fun _ h => h) (fun q_44 H locs hY hk hS => ?_)
        obtain ⟨hq_44, hP⟩ := hY
        replace hq_44 := hq_44.symm
        subst hq_44
        refine lv_aload_n hx hb dX12_draws_162 rfl (lv_at hl 1 rfl) ?_
        refine lv_iload_n hx hb dX12_draws_163 rfl (lv_at hl 3 rfl) ?_
        refine lv_iconst (v := 2) hx hb dX12_draws_164 (by decide) ?_
        obtain ⟨f_45, wl_46, r_47, z_48, h⟩ := gb_bd_s h
        refine gb_calli (va_runV (C := RX12) (As := [.int v2, .int 2]) (rest := [.int r_42, .int (f_39 0 42), .ref (b + 0)]) ⟨hx, hb, hml, hown, hq⟩ (mc_ofPath l D cT tt b1 b hb1 n f_40 wl_41 v2 2 f_45 wl_46 r_47 z_48) (cwV 2 hq (gb_gV w_1388 w_1390 s_4_5 w_14 w_1391) rfl rfl rfl (by decide +kernel) ⟨Nat.le_of_ble_eq_true rfl, Nat.le_of_ble_eq_true rfl⟩) (gb_preV (r := (RX12, TX12, 44)) (ci := 10) (q0 := 0) hSt hP rfl (gb_at b rfl) hS (fun q h => Nat.le_trans hb1 h.1) hP) rfl rfl hl.1 rfl (lv_room (Nat.le_of_ble_eq_true rfl)) dX12_draws_165 ⟨Nat.le_of_ble_eq_true rfl, Nat.le_of_ble_eq_true rfl⟩) hS (fun _ h => h) (fun _ h => h) (fun q_49 H locs hY hk hS => ?_)
        obtain ⟨hq_49, hP⟩ := hY
        replace hq_49 := hq_49.symm
        subst hq_49
        refine lv_icmp_ge (tgt := 175) hx hb dX12_draws_168 (by decide) (fun c_50 => ?_) (fun c_50 => ?_)
        · rw [if_pos c_50] at h
          refine lv_iconst (v := 0) hx hb dX12_draws_175 (by decide) ?_
          refine lv_iadd hx hb dX12_draws_176 ?_
          refine gb_put (ci := 10) (v := (.int ((f_39 0 42) + 0))) (ty := .int) (C := RX12) (T := TX12) (N := 44) hx hb hq i_X12 tyX12 tyX12_ok nmX12 hown hK hP (fun k h => ⟨Nat.le_add_right b k, Nat.add_lt_add_left h b⟩) hS rfl 0 rfl rfl 42 (by decide) (hq _ w_1166) (fun _ h9 => h9) rfl (by decide +kernel) rfl rfl (Nat.le_of_ble_eq_true rfl) dX12_draws_177 (fun H locs hP hz_ hS => ?_)
          obtain ⟨f_51, ef_51⟩ : ∃ q, q = (gb_u f_45 0 (upd (f_45 0) 42 ((f_39 0 42) + 0))) := ⟨_, rfl⟩
          replace hP : va_P D vwCl (gb_wl b (gb_MW cT b f_51 wl_46)) H := by rw [ef_51]; exact hP
          replace h := gb_lt_s ef_51 h
          obtain ⟨x_52, ex_52⟩ : ∃ q, q = (v2 + 1) := ⟨_, rfl⟩
          replace h := gb_lt_s ex_52 h
          refine lv_iinc (v := x_52) (lv' := [(2, .int x_52), (3, .int x_24), (0, .ref (b + 0)), (1, .int v1)]) hx hb dX12_draws_180 hl (k := 3) rfl (by rw [ex_52]; rfl) (by decide) rfl (fun ls hl => ?_)
          refine lv_goto (tgt := 92) hx hb dX12_draws_183 (by decide) ?_
          exact ih _ _ _ _ _ _ _ h hP hS (lv_sub hl [2, 3, 0] rfl)
        · rw [if_neg c_50] at h
          refine lv_iconst (v := 1) hx hb dX12_draws_171 (by decide) ?_
          refine lv_goto (tgt := 176) hx hb dX12_draws_172 (by decide) ?_
          refine lv_iadd hx hb dX12_draws_176 ?_
          refine gb_put (ci := 10) (v := (.int ((f_39 0 42) + 1))) (ty := .int) (C := RX12) (T := TX12) (N := 44) hx hb hq i_X12 tyX12 tyX12_ok nmX12 hown hK hP (fun k h => ⟨Nat.le_add_right b k, Nat.add_lt_add_left h b⟩) hS rfl 0 rfl rfl 42 (by decide) (hq _ w_1166) (fun _ h9 => h9) rfl (by decide +kernel) rfl rfl (Nat.le_of_ble_eq_true rfl) dX12_draws_177 (fun H locs hP hz_ hS => ?_)
          obtain ⟨f_53, ef_53⟩ : ∃ q, q = (gb_u f_45 0 (upd (f_45 0) 42 ((f_39 0 42) + 1))) := ⟨_, rfl⟩
          replace hP : va_P D vwCl (gb_wl b (gb_MW cT b f_53 wl_46)) H := by rw [ef_53]; exact hP
          replace h := gb_lt_s ef_53 h
          obtain ⟨x_54, ex_54⟩ : ∃ q, q = (v2 + 1) := ⟨_, rfl⟩
          replace h := gb_lt_s ex_54 h
          refine lv_iinc (v := x_54) (lv' := [(2, .int x_54), (3, .int x_24), (0, .ref (b + 0)), (1, .int v1)]) hx hb dX12_draws_180 hl (k := 3) rfl (by rw [ex_54]; rfl) (by decide) rfl (fun ls hl => ?_)
          refine lv_goto (tgt := 92) hx hb dX12_draws_183 (by decide) ?_
          exact ih _ _ _ _ _ _ _ h hP hS (lv_sub hl [2, 3, 0] rfl)
  have L22 : ∀ (mm : Nat) (f : gb_F) (w : Int64) (v1 : Int32) (H : Heap) (locs : List Loc) (ls : Array Slot), ms_draws_22 n mm f w v1 = some (fE, wE, rE) → va_P D vwCl (gb_wl b (gb_MW cT b f w)) H → va_S (gb_fr b 22) s.heap H locs → lv_has ls 4 [(0, .ref (b + 0)), (1, .int v1)] → W p l e (headSpec (.code yX12_draws cX12_draws 4 none :: gb_wA) ({ frames := 3, cells := 0, slots := 0, locals := 65 })).room s m ([.ref (b + 0)]).toArray below meth c H locs 0 0 (MQ below (gb_Qv (fun h => va_P D vwCl (gb_wl b (gb_MW cT b fE wE)) h) (gb_fr b 22)) ([.ref (b + 0)]).toArray s 0 0 (gb_fr b 22)) (F0 m 22 ls []) := by
    clear h hP hS hl ls f w
    intro mm
    induction mm with
    | zero =>
      intro f w v1 H locs ls h
      cases h
    | succ mm ih =>
      intro f w v1 H locs ls h hP hS hl
      rw [ms_draws_22] at h
      refine lv_iload_n hx hb dX12_draws_22 rfl (lv_at hl 1 rfl) ?_
      refine lv_aload_n hx hb dX12_draws_23 rfl (lv_at hl 0 rfl) ?_
      obtain ⟨f_2, wl_3, r_4, z_5, h⟩ := gb_bd_s h
      refine gb_calli (va_runV (C := RX12) (As := []) (rest := [.int v1]) ⟨hx, hb, hml, hown, hq⟩ (mc_geese l D cT tt b1 b hb1 n f w f_2 wl_3 r_4 z_5) (cwV 0 hq (gb_gV w_1396 w_1398 s_4_7 w_14 w_1399) rfl rfl rfl (by decide +kernel) ⟨Nat.le_of_ble_eq_true rfl, Nat.le_of_ble_eq_true rfl⟩) (gb_preV (r := (RX12, TX12, 44)) (ci := 10) (q0 := 0) hSt hP rfl (gb_at b rfl) hS (fun q h => Nat.le_trans hb1 h.1) hP) rfl rfl hl.1 rfl (lv_room (Nat.le_of_ble_eq_true rfl)) dX12_draws_24 ⟨Nat.le_of_ble_eq_true rfl, Nat.le_of_ble_eq_true rfl⟩) hS (fun _ h => h) (fun _ h => h) (fun q_6 H locs hY hk hS => ?_)
      obtain ⟨hq_6, hP⟩ := hY
      replace hq_6 := hq_6.symm
      subst hq_6
      refine lv_icmp_ge (tgt := 83) hx hb dX12_draws_27 (by decide) (fun c_7 => ?_) (fun c_7 => ?_)
      · rw [if_pos c_7] at h
        refine lv_aload_n hx hb dX12_draws_83 rfl (lv_at hl 0 rfl) ?_
        refine lv_bipush (v := 11) hx hb dX12_draws_84 (by decide) ?_
        obtain ⟨f_8, wl_9, r_10, z_11, h⟩ := gb_bd_s h
        refine gb_calli (va_runV (C := RX12) (As := [.int 11]) (rest := []) ⟨hx, hb, hml, hown, hq⟩ (mc_below l D cT tt b1 b hb1 n f_2 wl_3 11 f_8 wl_9 r_10 z_11) (cwV 1 hq (gb_gV w_1657 w_1659 s_7_3 w_14 w_1660) rfl rfl rfl (by decide +kernel) ⟨Nat.le_of_ble_eq_true rfl, Nat.le_of_ble_eq_true rfl⟩) (gb_preV (r := (RX12, TX12, 44)) (ci := 10) (q0 := 0) hSt hP rfl (gb_at b rfl) hS (fun q h => Nat.le_trans hb1 h.1) hP) rfl rfl hl.1 rfl (lv_room (Nat.le_of_ble_eq_true rfl)) dX12_draws_86 ⟨Nat.le_of_ble_eq_true rfl, Nat.le_of_ble_eq_true rfl⟩) hS (fun _ h => h) (fun _ h => h) (fun q_12 H locs hY hk hS => ?_)
        obtain ⟨hq_12, hP⟩ := hY
        replace hq_12 := hq_12.symm
        subst hq_12
        refine lv_istore_n (lv' := [(1, .int r_10), (0, .ref (b + 0))]) hx hb dX12_draws_89 rfl hl (by decide) rfl (fun ls hl => ?_)
        refine lv_iconst (v := 0) hx hb dX12_draws_90 (by decide) ?_
        refine lv_istore_n (lv' := [(2, .int 0), (1, .int r_10), (0, .ref (b + 0))]) hx hb dX12_draws_91 rfl hl (by decide) rfl (fun ls hl => ?_)
        exact L92 n _ _ _ _ _ _ _ h hP hS (lv_sub hl [2, 1, 0] rfl)
      · rw [if_neg c_7] at h
        refine lv_aload_n hx hb dX12_draws_30 rfl (lv_at hl 0 rfl) ?_
        refine lv_aload_n hx hb dX12_draws_31 rfl (lv_at hl 0 rfl) ?_
        obtain ⟨f_55, wl_56, r_57, z_58, h⟩ := gb_bd_s h
        refine gb_calli (va_runV (C := RX12) (As := []) (rest := [.ref (b + 0)]) ⟨hx, hb, hml, hown, hq⟩ (mc_paths l D cT tt b1 b hb1 n f_2 wl_3 f_55 wl_56 r_57 z_58) (cwV 0 hq (gb_gV w_1384 w_1386 s_4_4 w_14 w_1387) rfl rfl rfl (by decide +kernel) ⟨Nat.le_of_ble_eq_true rfl, Nat.le_of_ble_eq_true rfl⟩) (gb_preV (r := (RX12, TX12, 44)) (ci := 10) (q0 := 0) hSt hP rfl (gb_at b rfl) hS (fun q h => Nat.le_trans hb1 h.1) hP) rfl rfl hl.1 rfl (lv_room (Nat.le_of_ble_eq_true rfl)) dX12_draws_32 ⟨Nat.le_of_ble_eq_true rfl, Nat.le_of_ble_eq_true rfl⟩) hS (fun _ h => h) (fun _ h => h) (fun q_59 H locs hY hk hS => ?_)
        obtain ⟨hq_59, hP⟩ := hY
        replace hq_59 := hq_59.symm
        subst hq_59
        obtain ⟨f_60, wl_61, r_62, z_63, h⟩ := gb_bd_s h
        refine gb_calli (va_runV (C := RX12) (As := [.int r_57]) (rest := []) ⟨hx, hb, hml, hown, hq⟩ (mc_below l D cT tt b1 b hb1 n f_55 wl_56 r_57 f_60 wl_61 r_62 z_63) (cwV 1 hq (gb_gV w_1657 w_1659 s_7_3 w_14 w_1660) rfl rfl rfl (by decide +kernel) ⟨Nat.le_of_ble_eq_true rfl, Nat.le_of_ble_eq_true rfl⟩) (gb_preV (r := (RX12, TX12, 44)) (ci := 10) (q0 := 0) hSt hP rfl (gb_at b rfl) hS (fun q h => Nat.le_trans hb1 h.1) hP) rfl rfl hl.1 rfl (lv_room (Nat.le_of_ble_eq_true rfl)) dX12_draws_35 ⟨Nat.le_of_ble_eq_true rfl, Nat.le_of_ble_eq_true rfl⟩) hS (fun _ h => h) (fun _ h => h) (fun q_64 H locs hY hk hS => ?_)
        obtain ⟨hq_64, hP⟩ := hY
        replace hq_64 := hq_64.symm
        subst hq_64
        refine lv_istore_n (lv' := [(2, .int r_62), (0, .ref (b + 0)), (1, .int v1)]) hx hb dX12_draws_38 rfl hl (by decide) rfl (fun ls hl => ?_)
        refine lv_aload_n hx hb dX12_draws_39 rfl (lv_at hl 1 rfl) ?_
        refine va_get (ci := 10) (v := (.ref (b + 14))) (C := RX12) (T := TX12) (N := 44) hx hb hq i_X12 hown hK hP 0 (gb_at b rfl) rfl 27 (by decide) (hq _ w_1151) (fun _ h9 => h9) rfl dX12_draws_40 ?_
        refine lv_iload_n hx hb dX12_draws_43 rfl (lv_at hl 0 rfl) ?_
        refine lv_dup2_11 hx hb dX12_draws_44 rfl rfl ?_
        obtain ⟨z_65, h⟩ := gb_ck_s h
        refine va_iald hx hb hK hP 14 0 (gb_at b rfl) rfl z_65 dX12_draws_45 ?_
        refine lv_topi (fun x_66 ex_66 => ?_)
        replace h := gb_lt_s ex_66 h
        refine lv_aload_n hx hb dX12_draws_46 rfl (lv_at hl 1 rfl) ?_
        refine va_get (ci := 10) (v := (.ref (b + 13))) (C := RX12) (T := TX12) (N := 44) hx hb hq i_X12 hown hK hP 0 (gb_at b rfl) rfl 26 (by decide) (hq _ w_1150) (fun _ h9 => h9) rfl dX12_draws_47 ?_
        refine lv_iconst (v := 5) hx hb dX12_draws_50 (by decide) ?_
        refine lv_iload_n hx hb dX12_draws_51 rfl (lv_at hl 2 rfl) ?_
        refine lv_imul hx hb dX12_draws_52 ?_
        refine lv_iload_n hx hb dX12_draws_53 rfl (lv_at hl 0 rfl) ?_
        refine lv_iadd hx hb dX12_draws_54 ?_
        obtain ⟨z_67, h⟩ := gb_ck_s h
        refine va_iald hx hb hK hP 13 0 (gb_at b rfl) rfl z_67 dX12_draws_55 ?_
        refine lv_topi (fun x_68 ex_68 => ?_)
        replace h := gb_lt_s ex_68 h
        refine lv_iadd hx hb dX12_draws_56 ?_
        obtain ⟨z_69, h⟩ := gb_ck_s h
        refine gb_iast (x := (x_66 + x_68)) hx hb hK hP (fun k h => ⟨Nat.le_add_right b k, Nat.add_lt_add_left h b⟩) hS rfl 14 0 rfl rfl z_69 dX12_draws_57 (fun H locs hP hz_ hS => ?_)
        obtain ⟨f_70, ef_70⟩ : ∃ q, q = (gb_u f_60 14 (upd (f_60 14) (Int32.toNatClampNeg r_62) (x_66 + x_68))) := ⟨_, rfl⟩
        replace hP : va_P D vwCl (gb_wl b (gb_MW cT b f_70 wl_61)) H := by rw [ef_70]; exact hP
        replace h := gb_lt_s ef_70 h
        refine lv_aload_n hx hb dX12_draws_58 rfl (lv_at hl 1 rfl) ?_
        refine va_get (ci := 10) (v := (.ref (b + 20))) (C := RX12) (T := TX12) (N := 44) hx hb hq i_X12 hown hK hP 0 (gb_at b rfl) rfl 40 (by decide) (hq _ w_1164) (fun _ h9 => h9) rfl dX12_draws_59 ?_
        refine lv_iload_n hx hb dX12_draws_62 rfl (lv_at hl 2 rfl) ?_
        refine lv_dup2_11 hx hb dX12_draws_63 rfl rfl ?_
        obtain ⟨z_71, h⟩ := gb_ck_s h
        refine va_iald hx hb hK hP 20 0 (gb_at b rfl) rfl z_71 dX12_draws_64 ?_
        refine lv_topi (fun x_72 ex_72 => ?_)
        replace h := gb_lt_s ex_72 h
        refine lv_aload_n hx hb dX12_draws_65 rfl (lv_at hl 1 rfl) ?_
        refine va_get (ci := 10) (v := (.ref (b + 13))) (C := RX12) (T := TX12) (N := 44) hx hb hq i_X12 hown hK hP 0 (gb_at b rfl) rfl 26 (by decide) (hq _ w_1150) (fun _ h9 => h9) rfl dX12_draws_66 ?_
        refine lv_iconst (v := 5) hx hb dX12_draws_69 (by decide) ?_
        refine lv_iload_n hx hb dX12_draws_70 rfl (lv_at hl 2 rfl) ?_
        refine lv_imul hx hb dX12_draws_71 ?_
        refine lv_iload_n hx hb dX12_draws_72 rfl (lv_at hl 0 rfl) ?_
        refine lv_iadd hx hb dX12_draws_73 ?_
        obtain ⟨z_73, h⟩ := gb_ck_s h
        refine va_iald hx hb hK hP 13 0 (gb_at b rfl) rfl z_73 dX12_draws_74 ?_
        refine lv_topi (fun x_74 ex_74 => ?_)
        replace h := gb_lt_s ex_74 h
        refine lv_iadd hx hb dX12_draws_75 ?_
        obtain ⟨z_75, h⟩ := gb_ck_s h
        refine gb_iast (x := (x_72 + x_74)) hx hb hK hP (fun k h => ⟨Nat.le_add_right b k, Nat.add_lt_add_left h b⟩) hS rfl 20 0 rfl rfl z_75 dX12_draws_76 (fun H locs hP hz_ hS => ?_)
        obtain ⟨f_76, ef_76⟩ : ∃ q, q = (gb_u f_70 20 (upd (f_70 20) (Int32.toNatClampNeg v1) (x_72 + x_74))) := ⟨_, rfl⟩
        replace hP : va_P D vwCl (gb_wl b (gb_MW cT b f_76 wl_61)) H := by rw [ef_76]; exact hP
        replace h := gb_lt_s ef_76 h
        obtain ⟨x_77, ex_77⟩ : ∃ q, q = (v1 + 1) := ⟨_, rfl⟩
        replace h := gb_lt_s ex_77 h
        refine lv_iinc (v := x_77) (lv' := [(1, .int x_77), (2, .int r_62), (0, .ref (b + 0))]) hx hb dX12_draws_77 hl (k := 2) rfl (by rw [ex_77]; rfl) (by decide) rfl (fun ls hl => ?_)
        refine lv_goto (tgt := 22) hx hb dX12_draws_80 (by decide) ?_
        exact ih _ _ _ _ _ _ h hP hS (lv_sub hl [2, 0] rfl)
  have L2 : ∀ (mm : Nat) (f : gb_F) (w : Int64) (v1 : Int32) (H : Heap) (locs : List Loc) (ls : Array Slot), ms_draws_2 n mm f w v1 = some (fE, wE, rE) → va_P D vwCl (gb_wl b (gb_MW cT b f w)) H → va_S (gb_fr b 22) s.heap H locs → lv_has ls 4 [(0, .ref (b + 0)), (1, .int v1)] → W p l e (headSpec (.code yX12_draws cX12_draws 4 none :: gb_wA) ({ frames := 3, cells := 0, slots := 0, locals := 65 })).room s m ([.ref (b + 0)]).toArray below meth c H locs 0 0 (MQ below (gb_Qv (fun h => va_P D vwCl (gb_wl b (gb_MW cT b fE wE)) h) (gb_fr b 22)) ([.ref (b + 0)]).toArray s 0 0 (gb_fr b 22)) (F0 m 2 ls []) := by
    clear h hP hS hl ls f w
    intro mm
    induction mm with
    | zero =>
      intro f w v1 H locs ls h
      cases h
    | succ mm ih =>
      intro f w v1 H locs ls h hP hS hl
      rw [ms_draws_2] at h
      refine lv_iload_n hx hb dX12_draws_2 rfl (lv_at hl 1 rfl) ?_
      refine lv_iconst (v := 5) hx hb dX12_draws_3 (by decide) ?_
      refine lv_icmp_ge (tgt := 20) hx hb dX12_draws_4 (by decide) (fun c_1 => ?_) (fun c_1 => ?_)
      · rw [if_pos c_1] at h
        refine lv_iconst (v := 0) hx hb dX12_draws_20 (by decide) ?_
        refine lv_istore_n (lv' := [(1, .int 0), (0, .ref (b + 0))]) hx hb dX12_draws_21 rfl hl (by decide) rfl (fun ls hl => ?_)
        exact L22 n _ _ _ _ _ _ h hP hS (lv_sub hl [1, 0] rfl)
      · rw [if_neg c_1] at h
        refine lv_aload_n hx hb dX12_draws_7 rfl (lv_at hl 0 rfl) ?_
        refine va_get (ci := 10) (v := (.ref (b + 14))) (C := RX12) (T := TX12) (N := 44) hx hb hq i_X12 hown hK hP 0 (gb_at b rfl) rfl 27 (by decide) (hq _ w_1151) (fun _ h9 => h9) rfl dX12_draws_8 ?_
        refine lv_iload_n hx hb dX12_draws_11 rfl (lv_at hl 1 rfl) ?_
        refine lv_iconst (v := 0) hx hb dX12_draws_12 (by decide) ?_
        obtain ⟨z_78, h⟩ := gb_ck_s h
        refine gb_iast (x := 0) hx hb hK hP (fun k h => ⟨Nat.le_add_right b k, Nat.add_lt_add_left h b⟩) hS rfl 14 0 rfl rfl z_78 dX12_draws_13 (fun H locs hP hz_ hS => ?_)
        obtain ⟨f_79, ef_79⟩ : ∃ q, q = (gb_u f 14 (upd (f 14) (Int32.toNatClampNeg v1) 0)) := ⟨_, rfl⟩
        replace hP : va_P D vwCl (gb_wl b (gb_MW cT b f_79 w)) H := by rw [ef_79]; exact hP
        replace h := gb_lt_s ef_79 h
        obtain ⟨x_80, ex_80⟩ : ∃ q, q = (v1 + 1) := ⟨_, rfl⟩
        replace h := gb_lt_s ex_80 h
        refine lv_iinc (v := x_80) (lv' := [(1, .int x_80), (0, .ref (b + 0))]) hx hb dX12_draws_14 hl (k := 1) rfl (by rw [ex_80]; rfl) (by decide) rfl (fun ls hl => ?_)
        refine lv_goto (tgt := 2) hx hb dX12_draws_17 (by decide) ?_
        exact ih _ _ _ _ _ _ h hP hS (lv_sub hl [1, 0] rfl)
  unfold ms_draws at h
  refine lv_iconst (v := 0) hx hb dX12_draws_0 (by decide) ?_
  refine lv_istore_n (lv' := [(1, .int 0), (0, .ref (b + 0))]) hx hb dX12_draws_1 rfl hl (by decide) rfl (fun ls hl => ?_)
  exact L2 n _ _ _ _ _ _ h hP hS (lv_sub hl [1, 0] rfl)
theorem dX12_drawn_0 : decode cX12_drawn 0 = .ok (.aload_n 0, 1) := dc_42 (show ((cX12_drawn.data.toList.drop 0).take 1).map UInt8.toNat = [42] by decide +kernel)
theorem dX12_drawn_1 : decode cX12_drawn 1 = .ok (.iload_n 1, 1) := dc_27 (show ((cX12_drawn.data.toList.drop 1).take 1).map UInt8.toNat = [27] by decide +kernel)
theorem dX12_drawn_2 : decode cX12_drawn 2 = .ok (.invokevirtual 205, 3) := dc_182 (show ((cX12_drawn.data.toList.drop 2).take 3).map UInt8.toNat = [182, 0, 205] by decide +kernel) rfl
theorem dX12_drawn_5 : decode cX12_drawn 5 = .ok (.ifCond .eq 54, 3) := dc_153 (show ((cX12_drawn.data.toList.drop 5).take 3).map UInt8.toNat = [153, 0, 54] by decide +kernel) rfl
theorem dX12_drawn_59 : decode cX12_drawn 59 = .ok (.iconst (-1), 1) := dc_2 (show ((cX12_drawn.data.toList.drop 59).take 1).map UInt8.toNat = [2] by decide +kernel)
theorem dX12_drawn_60 : decode cX12_drawn 60 = .ok (.ireturn, 1) := dc_172 (show ((cX12_drawn.data.toList.drop 60).take 1).map UInt8.toNat = [172] by decide +kernel)
theorem dX12_drawn_8 : decode cX12_drawn 8 = .ok (.aload_n 0, 1) := dc_42 (show ((cX12_drawn.data.toList.drop 8).take 1).map UInt8.toNat = [42] by decide +kernel)
theorem dX12_drawn_9 : decode cX12_drawn 9 = .ok (.invokevirtual 199, 3) := dc_182 (show ((cX12_drawn.data.toList.drop 9).take 3).map UInt8.toNat = [182, 0, 199] by decide +kernel) rfl
theorem dX12_drawn_12 : decode cX12_drawn 12 = .ok (.ifCond .eq 47, 3) := dc_153 (show ((cX12_drawn.data.toList.drop 12).take 3).map UInt8.toNat = [153, 0, 47] by decide +kernel) rfl
theorem dX12_drawn_15 : decode cX12_drawn 15 = .ok (.iload_n 3, 1) := dc_29 (show ((cX12_drawn.data.toList.drop 15).take 1).map UInt8.toNat = [29] by decide +kernel)
theorem dX12_drawn_16 : decode cX12_drawn 16 = .ok (.iconst 1, 1) := dc_4 (show ((cX12_drawn.data.toList.drop 16).take 1).map UInt8.toNat = [4] by decide +kernel)
theorem dX12_drawn_17 : decode cX12_drawn 17 = .ok (.bipush 20, 2) := dc_16 (show ((cX12_drawn.data.toList.drop 17).take 2).map UInt8.toNat = [16, 20] by decide +kernel) rfl
theorem dX12_drawn_19 : decode cX12_drawn 19 = .ok (.invokestatic 129, 3) := dc_184 (show ((cX12_drawn.data.toList.drop 19).take 3).map UInt8.toNat = [184, 0, 129] by decide +kernel) rfl
theorem dX12_drawn_22 : decode cX12_drawn 22 = .ok (.ifCond .eq 37, 3) := dc_153 (show ((cX12_drawn.data.toList.drop 22).take 3).map UInt8.toNat = [153, 0, 37] by decide +kernel) rfl
theorem dX12_drawn_25 : decode cX12_drawn 25 = .ok (.iload 4, 2) := dc_21 (show ((cX12_drawn.data.toList.drop 25).take 2).map UInt8.toNat = [21, 4] by decide +kernel) rfl
theorem dX12_drawn_27 : decode cX12_drawn 27 = .ok (.iconst 0, 1) := dc_3 (show ((cX12_drawn.data.toList.drop 27).take 1).map UInt8.toNat = [3] by decide +kernel)
theorem dX12_drawn_28 : decode cX12_drawn 28 = .ok (.iconst 2, 1) := dc_5 (show ((cX12_drawn.data.toList.drop 28).take 1).map UInt8.toNat = [5] by decide +kernel)
theorem dX12_drawn_29 : decode cX12_drawn 29 = .ok (.invokestatic 129, 3) := dc_184 (show ((cX12_drawn.data.toList.drop 29).take 3).map UInt8.toNat = [184, 0, 129] by decide +kernel) rfl
theorem dX12_drawn_32 : decode cX12_drawn 32 = .ok (.ifCond .ne 29, 3) := dc_154 (show ((cX12_drawn.data.toList.drop 32).take 3).map UInt8.toNat = [154, 0, 29] by decide +kernel) rfl
theorem dX12_drawn_61 : decode cX12_drawn 61 = .ok (.aload_n 0, 1) := dc_42 (show ((cX12_drawn.data.toList.drop 61).take 1).map UInt8.toNat = [42] by decide +kernel)
theorem dX12_drawn_62 : decode cX12_drawn 62 = .ok (.invokevirtual 306, 3) := dc_182 (show ((cX12_drawn.data.toList.drop 62).take 3).map UInt8.toNat = [182, 1, 50] by decide +kernel) rfl
theorem dX12_drawn_65 : decode cX12_drawn 65 = .ok (.aload_n 0, 1) := dc_42 (show ((cX12_drawn.data.toList.drop 65).take 1).map UInt8.toNat = [42] by decide +kernel)
theorem dX12_drawn_66 : decode cX12_drawn 66 = .ok (.iload_n 2, 1) := dc_28 (show ((cX12_drawn.data.toList.drop 66).take 1).map UInt8.toNat = [28] by decide +kernel)
theorem dX12_drawn_67 : decode cX12_drawn 67 = .ok (.putfield 384, 3) := dc_181 (show ((cX12_drawn.data.toList.drop 67).take 3).map UInt8.toNat = [181, 1, 128] by decide +kernel) rfl
theorem dX12_drawn_70 : decode cX12_drawn 70 = .ok (.aload_n 0, 1) := dc_42 (show ((cX12_drawn.data.toList.drop 70).take 1).map UInt8.toNat = [42] by decide +kernel)
theorem dX12_drawn_71 : decode cX12_drawn 71 = .ok (.iconst 0, 1) := dc_3 (show ((cX12_drawn.data.toList.drop 71).take 1).map UInt8.toNat = [3] by decide +kernel)
theorem dX12_drawn_72 : decode cX12_drawn 72 = .ok (.putfield 391, 3) := dc_181 (show ((cX12_drawn.data.toList.drop 72).take 3).map UInt8.toNat = [181, 1, 135] by decide +kernel) rfl
theorem dX12_drawn_75 : decode cX12_drawn 75 = .ok (.aload_n 0, 1) := dc_42 (show ((cX12_drawn.data.toList.drop 75).take 1).map UInt8.toNat = [42] by decide +kernel)
theorem dX12_drawn_76 : decode cX12_drawn 76 = .ok (.iconst 0, 1) := dc_3 (show ((cX12_drawn.data.toList.drop 76).take 1).map UInt8.toNat = [3] by decide +kernel)
theorem dX12_drawn_77 : decode cX12_drawn 77 = .ok (.putfield 394, 3) := dc_181 (show ((cX12_drawn.data.toList.drop 77).take 3).map UInt8.toNat = [181, 1, 138] by decide +kernel) rfl
theorem dX12_drawn_80 : decode cX12_drawn 80 = .ok (.iconst 0, 1) := dc_3 (show ((cX12_drawn.data.toList.drop 80).take 1).map UInt8.toNat = [3] by decide +kernel)
theorem dX12_drawn_81 : decode cX12_drawn 81 = .ok (.istore 5, 2) := dc_54 (show ((cX12_drawn.data.toList.drop 81).take 2).map UInt8.toNat = [54, 5] by decide +kernel) rfl
theorem dX12_drawn_83 : decode cX12_drawn 83 = .ok (.iload 5, 2) := dc_21 (show ((cX12_drawn.data.toList.drop 83).take 2).map UInt8.toNat = [21, 5] by decide +kernel) rfl
theorem dX12_drawn_85 : decode cX12_drawn 85 = .ok (.iconst 5, 1) := dc_8 (show ((cX12_drawn.data.toList.drop 85).take 1).map UInt8.toNat = [8] by decide +kernel)
theorem dX12_drawn_86 : decode cX12_drawn 86 = .ok (.if_icmp .ge 17, 3) := dc_162 (show ((cX12_drawn.data.toList.drop 86).take 3).map UInt8.toNat = [162, 0, 17] by decide +kernel) rfl
theorem dX12_drawn_103 : decode cX12_drawn 103 = .ok (.iconst 0, 1) := dc_3 (show ((cX12_drawn.data.toList.drop 103).take 1).map UInt8.toNat = [3] by decide +kernel)
theorem dX12_drawn_104 : decode cX12_drawn 104 = .ok (.istore 5, 2) := dc_54 (show ((cX12_drawn.data.toList.drop 104).take 2).map UInt8.toNat = [54, 5] by decide +kernel) rfl
theorem dX12_drawn_106 : decode cX12_drawn 106 = .ok (.iload 5, 2) := dc_21 (show ((cX12_drawn.data.toList.drop 106).take 2).map UInt8.toNat = [21, 5] by decide +kernel) rfl
theorem dX12_drawn_108 : decode cX12_drawn 108 = .ok (.bipush 8, 2) := dc_16 (show ((cX12_drawn.data.toList.drop 108).take 2).map UInt8.toNat = [16, 8] by decide +kernel) rfl
theorem dX12_drawn_110 : decode cX12_drawn 110 = .ok (.if_icmp .ge 17, 3) := dc_162 (show ((cX12_drawn.data.toList.drop 110).take 3).map UInt8.toNat = [162, 0, 17] by decide +kernel) rfl
theorem dX12_drawn_127 : decode cX12_drawn 127 = .ok (.iconst 0, 1) := dc_3 (show ((cX12_drawn.data.toList.drop 127).take 1).map UInt8.toNat = [3] by decide +kernel)
theorem dX12_drawn_128 : decode cX12_drawn 128 = .ok (.istore 5, 2) := dc_54 (show ((cX12_drawn.data.toList.drop 128).take 2).map UInt8.toNat = [54, 5] by decide +kernel) rfl
theorem dX12_drawn_130 : decode cX12_drawn 130 = .ok (.iload 5, 2) := dc_21 (show ((cX12_drawn.data.toList.drop 130).take 2).map UInt8.toNat = [21, 5] by decide +kernel) rfl
theorem dX12_drawn_132 : decode cX12_drawn 132 = .ok (.iload_n 3, 1) := dc_29 (show ((cX12_drawn.data.toList.drop 132).take 1).map UInt8.toNat = [29] by decide +kernel)
theorem dX12_drawn_133 : decode cX12_drawn 133 = .ok (.if_icmp .ge 13, 3) := dc_162 (show ((cX12_drawn.data.toList.drop 133).take 3).map UInt8.toNat = [162, 0, 13] by decide +kernel) rfl
theorem dX12_drawn_146 : decode cX12_drawn 146 = .ok (.iload 4, 2) := dc_21 (show ((cX12_drawn.data.toList.drop 146).take 2).map UInt8.toNat = [21, 4] by decide +kernel) rfl
theorem dX12_drawn_148 : decode cX12_drawn 148 = .ok (.iconst 1, 1) := dc_4 (show ((cX12_drawn.data.toList.drop 148).take 1).map UInt8.toNat = [4] by decide +kernel)
theorem dX12_drawn_149 : decode cX12_drawn 149 = .ok (.if_icmp .ne 8, 3) := dc_160 (show ((cX12_drawn.data.toList.drop 149).take 3).map UInt8.toNat = [160, 0, 8] by decide +kernel) rfl
theorem dX12_drawn_157 : decode cX12_drawn 157 = .ok (.iload 4, 2) := dc_21 (show ((cX12_drawn.data.toList.drop 157).take 2).map UInt8.toNat = [21, 4] by decide +kernel) rfl
theorem dX12_drawn_159 : decode cX12_drawn 159 = .ok (.iconst 2, 1) := dc_5 (show ((cX12_drawn.data.toList.drop 159).take 1).map UInt8.toNat = [5] by decide +kernel)
theorem dX12_drawn_160 : decode cX12_drawn 160 = .ok (.if_icmp .ne 8, 3) := dc_160 (show ((cX12_drawn.data.toList.drop 160).take 3).map UInt8.toNat = [160, 0, 8] by decide +kernel) rfl
theorem dX12_drawn_168 : decode cX12_drawn 168 = .ok (.iload 4, 2) := dc_21 (show ((cX12_drawn.data.toList.drop 168).take 2).map UInt8.toNat = [21, 4] by decide +kernel) rfl
theorem dX12_drawn_170 : decode cX12_drawn 170 = .ok (.bipush 10, 2) := dc_16 (show ((cX12_drawn.data.toList.drop 170).take 2).map UInt8.toNat = [16, 10] by decide +kernel) rfl
theorem dX12_drawn_172 : decode cX12_drawn 172 = .ok (.if_icmp .lt 34, 3) := dc_161 (show ((cX12_drawn.data.toList.drop 172).take 3).map UInt8.toNat = [161, 0, 34] by decide +kernel) rfl
theorem dX12_drawn_206 : decode cX12_drawn 206 = .ok (.iconst 0, 1) := dc_3 (show ((cX12_drawn.data.toList.drop 206).take 1).map UInt8.toNat = [3] by decide +kernel)
theorem dX12_drawn_207 : decode cX12_drawn 207 = .ok (.istore 5, 2) := dc_54 (show ((cX12_drawn.data.toList.drop 207).take 2).map UInt8.toNat = [54, 5] by decide +kernel) rfl
theorem dX12_drawn_209 : decode cX12_drawn 209 = .ok (.iconst 0, 1) := dc_3 (show ((cX12_drawn.data.toList.drop 209).take 1).map UInt8.toNat = [3] by decide +kernel)
theorem dX12_drawn_210 : decode cX12_drawn 210 = .ok (.istore 6, 2) := dc_54 (show ((cX12_drawn.data.toList.drop 210).take 2).map UInt8.toNat = [54, 6] by decide +kernel) rfl
theorem dX12_drawn_212 : decode cX12_drawn 212 = .ok (.iload 6, 2) := dc_21 (show ((cX12_drawn.data.toList.drop 212).take 2).map UInt8.toNat = [21, 6] by decide +kernel) rfl
theorem dX12_drawn_214 : decode cX12_drawn 214 = .ok (.iconst 5, 1) := dc_8 (show ((cX12_drawn.data.toList.drop 214).take 1).map UInt8.toNat = [8] by decide +kernel)
theorem dX12_drawn_215 : decode cX12_drawn 215 = .ok (.if_icmp .ge 21, 3) := dc_162 (show ((cX12_drawn.data.toList.drop 215).take 3).map UInt8.toNat = [162, 0, 21] by decide +kernel) rfl
theorem dX12_drawn_236 : decode cX12_drawn 236 = .ok (.iload 5, 2) := dc_21 (show ((cX12_drawn.data.toList.drop 236).take 2).map UInt8.toNat = [21, 5] by decide +kernel) rfl
theorem dX12_drawn_238 : decode cX12_drawn 238 = .ok (.ireturn, 1) := dc_172 (show ((cX12_drawn.data.toList.drop 238).take 1).map UInt8.toNat = [172] by decide +kernel)
theorem dX12_drawn_218 : decode cX12_drawn 218 = .ok (.iload 5, 2) := dc_21 (show ((cX12_drawn.data.toList.drop 218).take 2).map UInt8.toNat = [21, 5] by decide +kernel) rfl
theorem dX12_drawn_220 : decode cX12_drawn 220 = .ok (.aload_n 0, 1) := dc_42 (show ((cX12_drawn.data.toList.drop 220).take 1).map UInt8.toNat = [42] by decide +kernel)
theorem dX12_drawn_221 : decode cX12_drawn 221 = .ok (.getfield 65, 3) := dc_180 (show ((cX12_drawn.data.toList.drop 221).take 3).map UInt8.toNat = [180, 0, 65] by decide +kernel) rfl
theorem dX12_drawn_224 : decode cX12_drawn 224 = .ok (.iload 6, 2) := dc_21 (show ((cX12_drawn.data.toList.drop 224).take 2).map UInt8.toNat = [21, 6] by decide +kernel) rfl
theorem dX12_drawn_226 : decode cX12_drawn 226 = .ok (.iaload, 1) := dc_46 (show ((cX12_drawn.data.toList.drop 226).take 1).map UInt8.toNat = [46] by decide +kernel)
theorem dX12_drawn_227 : decode cX12_drawn 227 = .ok (.iadd, 1) := dc_96 (show ((cX12_drawn.data.toList.drop 227).take 1).map UInt8.toNat = [96] by decide +kernel)
theorem dX12_drawn_228 : decode cX12_drawn 228 = .ok (.istore 5, 2) := dc_54 (show ((cX12_drawn.data.toList.drop 228).take 2).map UInt8.toNat = [54, 5] by decide +kernel) rfl
theorem dX12_drawn_230 : decode cX12_drawn 230 = .ok (.iinc 6 1, 3) := dc_132 (show ((cX12_drawn.data.toList.drop 230).take 3).map UInt8.toNat = [132, 6, 1] by decide +kernel) rfl
theorem dX12_drawn_233 : decode cX12_drawn 233 = .ok (.goto (-21), 3) := dc_167 (show ((cX12_drawn.data.toList.drop 233).take 3).map UInt8.toNat = [167, 255, 235] by decide +kernel) rfl
theorem dX12_drawn_175 : decode cX12_drawn 175 = .ok (.iload 4, 2) := dc_21 (show ((cX12_drawn.data.toList.drop 175).take 2).map UInt8.toNat = [21, 4] by decide +kernel) rfl
theorem dX12_drawn_177 : decode cX12_drawn 177 = .ok (.bipush 20, 2) := dc_16 (show ((cX12_drawn.data.toList.drop 177).take 2).map UInt8.toNat = [16, 20] by decide +kernel) rfl
theorem dX12_drawn_179 : decode cX12_drawn 179 = .ok (.if_icmp .ge 16, 3) := dc_162 (show ((cX12_drawn.data.toList.drop 179).take 3).map UInt8.toNat = [162, 0, 16] by decide +kernel) rfl
theorem dX12_drawn_195 : decode cX12_drawn 195 = .ok (.aload_n 0, 1) := dc_42 (show ((cX12_drawn.data.toList.drop 195).take 1).map UInt8.toNat = [42] by decide +kernel)
theorem dX12_drawn_196 : decode cX12_drawn 196 = .ok (.getfield 68, 3) := dc_180 (show ((cX12_drawn.data.toList.drop 196).take 3).map UInt8.toNat = [180, 0, 68] by decide +kernel) rfl
theorem dX12_drawn_199 : decode cX12_drawn 199 = .ok (.iload 4, 2) := dc_21 (show ((cX12_drawn.data.toList.drop 199).take 2).map UInt8.toNat = [21, 4] by decide +kernel) rfl
theorem dX12_drawn_201 : decode cX12_drawn 201 = .ok (.bipush 20, 2) := dc_16 (show ((cX12_drawn.data.toList.drop 201).take 2).map UInt8.toNat = [16, 20] by decide +kernel) rfl
theorem dX12_drawn_203 : decode cX12_drawn 203 = .ok (.isub, 1) := dc_100 (show ((cX12_drawn.data.toList.drop 203).take 1).map UInt8.toNat = [100] by decide +kernel)
theorem dX12_drawn_204 : decode cX12_drawn 204 = .ok (.iaload, 1) := dc_46 (show ((cX12_drawn.data.toList.drop 204).take 1).map UInt8.toNat = [46] by decide +kernel)
theorem dX12_drawn_205 : decode cX12_drawn 205 = .ok (.ireturn, 1) := dc_172 (show ((cX12_drawn.data.toList.drop 205).take 1).map UInt8.toNat = [172] by decide +kernel)
theorem dX12_drawn_182 : decode cX12_drawn 182 = .ok (.aload_n 0, 1) := dc_42 (show ((cX12_drawn.data.toList.drop 182).take 1).map UInt8.toNat = [42] by decide +kernel)
theorem dX12_drawn_183 : decode cX12_drawn 183 = .ok (.getfield 65, 3) := dc_180 (show ((cX12_drawn.data.toList.drop 183).take 3).map UInt8.toNat = [180, 0, 65] by decide +kernel) rfl
theorem dX12_drawn_186 : decode cX12_drawn 186 = .ok (.iload 4, 2) := dc_21 (show ((cX12_drawn.data.toList.drop 186).take 2).map UInt8.toNat = [21, 4] by decide +kernel) rfl
theorem dX12_drawn_188 : decode cX12_drawn 188 = .ok (.bipush 10, 2) := dc_16 (show ((cX12_drawn.data.toList.drop 188).take 2).map UInt8.toNat = [16, 10] by decide +kernel) rfl
theorem dX12_drawn_190 : decode cX12_drawn 190 = .ok (.isub, 1) := dc_100 (show ((cX12_drawn.data.toList.drop 190).take 1).map UInt8.toNat = [100] by decide +kernel)
theorem dX12_drawn_191 : decode cX12_drawn 191 = .ok (.iaload, 1) := dc_46 (show ((cX12_drawn.data.toList.drop 191).take 1).map UInt8.toNat = [46] by decide +kernel)
theorem dX12_drawn_192 : decode cX12_drawn 192 = .ok (.goto 13, 3) := dc_167 (show ((cX12_drawn.data.toList.drop 192).take 3).map UInt8.toNat = [167, 0, 13] by decide +kernel) rfl
theorem dX12_drawn_163 : decode cX12_drawn 163 = .ok (.aload_n 0, 1) := dc_42 (show ((cX12_drawn.data.toList.drop 163).take 1).map UInt8.toNat = [42] by decide +kernel)
theorem dX12_drawn_164 : decode cX12_drawn 164 = .ok (.getfield 394, 3) := dc_180 (show ((cX12_drawn.data.toList.drop 164).take 3).map UInt8.toNat = [180, 1, 138] by decide +kernel) rfl
theorem dX12_drawn_167 : decode cX12_drawn 167 = .ok (.ireturn, 1) := dc_172 (show ((cX12_drawn.data.toList.drop 167).take 1).map UInt8.toNat = [172] by decide +kernel)
theorem dX12_drawn_152 : decode cX12_drawn 152 = .ok (.aload_n 0, 1) := dc_42 (show ((cX12_drawn.data.toList.drop 152).take 1).map UInt8.toNat = [42] by decide +kernel)
theorem dX12_drawn_153 : decode cX12_drawn 153 = .ok (.getfield 391, 3) := dc_180 (show ((cX12_drawn.data.toList.drop 153).take 3).map UInt8.toNat = [180, 1, 135] by decide +kernel) rfl
theorem dX12_drawn_156 : decode cX12_drawn 156 = .ok (.ireturn, 1) := dc_172 (show ((cX12_drawn.data.toList.drop 156).take 1).map UInt8.toNat = [172] by decide +kernel)
theorem dX12_drawn_136 : decode cX12_drawn 136 = .ok (.aload_n 0, 1) := dc_42 (show ((cX12_drawn.data.toList.drop 136).take 1).map UInt8.toNat = [42] by decide +kernel)
theorem dX12_drawn_137 : decode cX12_drawn 137 = .ok (.invokevirtual 397, 3) := dc_182 (show ((cX12_drawn.data.toList.drop 137).take 3).map UInt8.toNat = [182, 1, 141] by decide +kernel) rfl
theorem w_1656 : (Cond.code ({ cls := "GooseBorderModel", name := "draws", desc := "()V" } : MethodName) prog_14_method_102_code (4 : Nat) (Option.none : Option FieldType)) ∈ gb_wA := gb_t7 216 rfl rfl
theorem w_1653 : (Cond.methodLink "GooseBorderModel" (397 : Nat) ({ cls := "GooseBorderModel", name := "draws", desc := "()V" } : MethodName)) ∈ gb_wA := gb_t7 213 rfl rfl
theorem w_1655 : (Cond.instanceMethod ({ cls := "GooseBorderModel", name := "draws", desc := "()V" } : MethodName)) ∈ gb_wA := gb_t7 215 rfl rfl
theorem s_7_2 : Cond.selects "GooseBorderModel" (⟨"GooseBorderModel", "draws", "()V"⟩ : MethodName) (⟨"GooseBorderModel", "draws", "()V"⟩ : MethodName) ∈ gb_wA := gb_s7 2 rfl rfl
theorem dX12_drawn_140 : decode cX12_drawn 140 = .ok (.iinc 5 1, 3) := dc_132 (show ((cX12_drawn.data.toList.drop 140).take 3).map UInt8.toNat = [132, 5, 1] by decide +kernel) rfl
theorem dX12_drawn_143 : decode cX12_drawn 143 = .ok (.goto (-13), 3) := dc_167 (show ((cX12_drawn.data.toList.drop 143).take 3).map UInt8.toNat = [167, 255, 243] by decide +kernel) rfl
theorem dX12_drawn_113 : decode cX12_drawn 113 = .ok (.aload_n 0, 1) := dc_42 (show ((cX12_drawn.data.toList.drop 113).take 1).map UInt8.toNat = [42] by decide +kernel)
theorem dX12_drawn_114 : decode cX12_drawn 114 = .ok (.getfield 68, 3) := dc_180 (show ((cX12_drawn.data.toList.drop 114).take 3).map UInt8.toNat = [180, 0, 68] by decide +kernel) rfl
theorem dX12_drawn_117 : decode cX12_drawn 117 = .ok (.iload 5, 2) := dc_21 (show ((cX12_drawn.data.toList.drop 117).take 2).map UInt8.toNat = [21, 5] by decide +kernel) rfl
theorem dX12_drawn_119 : decode cX12_drawn 119 = .ok (.iconst 0, 1) := dc_3 (show ((cX12_drawn.data.toList.drop 119).take 1).map UInt8.toNat = [3] by decide +kernel)
theorem dX12_drawn_120 : decode cX12_drawn 120 = .ok (.iastore, 1) := dc_79 (show ((cX12_drawn.data.toList.drop 120).take 1).map UInt8.toNat = [79] by decide +kernel)
theorem dX12_drawn_121 : decode cX12_drawn 121 = .ok (.iinc 5 1, 3) := dc_132 (show ((cX12_drawn.data.toList.drop 121).take 3).map UInt8.toNat = [132, 5, 1] by decide +kernel) rfl
theorem dX12_drawn_124 : decode cX12_drawn 124 = .ok (.goto (-18), 3) := dc_167 (show ((cX12_drawn.data.toList.drop 124).take 3).map UInt8.toNat = [167, 255, 238] by decide +kernel) rfl
theorem dX12_drawn_89 : decode cX12_drawn 89 = .ok (.aload_n 0, 1) := dc_42 (show ((cX12_drawn.data.toList.drop 89).take 1).map UInt8.toNat = [42] by decide +kernel)
theorem dX12_drawn_90 : decode cX12_drawn 90 = .ok (.getfield 65, 3) := dc_180 (show ((cX12_drawn.data.toList.drop 90).take 3).map UInt8.toNat = [180, 0, 65] by decide +kernel) rfl
theorem dX12_drawn_93 : decode cX12_drawn 93 = .ok (.iload 5, 2) := dc_21 (show ((cX12_drawn.data.toList.drop 93).take 2).map UInt8.toNat = [21, 5] by decide +kernel) rfl
theorem dX12_drawn_95 : decode cX12_drawn 95 = .ok (.iconst 0, 1) := dc_3 (show ((cX12_drawn.data.toList.drop 95).take 1).map UInt8.toNat = [3] by decide +kernel)
theorem dX12_drawn_96 : decode cX12_drawn 96 = .ok (.iastore, 1) := dc_79 (show ((cX12_drawn.data.toList.drop 96).take 1).map UInt8.toNat = [79] by decide +kernel)
theorem dX12_drawn_97 : decode cX12_drawn 97 = .ok (.iinc 5 1, 3) := dc_132 (show ((cX12_drawn.data.toList.drop 97).take 3).map UInt8.toNat = [132, 5, 1] by decide +kernel) rfl
theorem dX12_drawn_100 : decode cX12_drawn 100 = .ok (.goto (-17), 3) := dc_167 (show ((cX12_drawn.data.toList.drop 100).take 3).map UInt8.toNat = [167, 255, 239] by decide +kernel) rfl
theorem dX12_drawn_35 : decode cX12_drawn 35 = .ok (.aload_n 0, 1) := dc_42 (show ((cX12_drawn.data.toList.drop 35).take 1).map UInt8.toNat = [42] by decide +kernel)
theorem dX12_drawn_36 : decode cX12_drawn 36 = .ok (.iload 4, 2) := dc_21 (show ((cX12_drawn.data.toList.drop 36).take 2).map UInt8.toNat = [21, 4] by decide +kernel) rfl
theorem dX12_drawn_38 : decode cX12_drawn 38 = .ok (.bipush 10, 2) := dc_16 (show ((cX12_drawn.data.toList.drop 38).take 2).map UInt8.toNat = [16, 10] by decide +kernel) rfl
theorem dX12_drawn_40 : decode cX12_drawn 40 = .ok (.isub, 1) := dc_100 (show ((cX12_drawn.data.toList.drop 40).take 1).map UInt8.toNat = [100] by decide +kernel)
theorem dX12_drawn_41 : decode cX12_drawn 41 = .ok (.invokevirtual 208, 3) := dc_182 (show ((cX12_drawn.data.toList.drop 41).take 3).map UInt8.toNat = [182, 0, 208] by decide +kernel) rfl
theorem dX12_drawn_44 : decode cX12_drawn 44 = .ok (.ifCond .ne 17, 3) := dc_154 (show ((cX12_drawn.data.toList.drop 44).take 3).map UInt8.toNat = [154, 0, 17] by decide +kernel) rfl
theorem dX12_drawn_47 : decode cX12_drawn 47 = .ok (.aload_n 0, 1) := dc_42 (show ((cX12_drawn.data.toList.drop 47).take 1).map UInt8.toNat = [42] by decide +kernel)
theorem dX12_drawn_48 : decode cX12_drawn 48 = .ok (.iload 4, 2) := dc_21 (show ((cX12_drawn.data.toList.drop 48).take 2).map UInt8.toNat = [21, 4] by decide +kernel) rfl
theorem dX12_drawn_50 : decode cX12_drawn 50 = .ok (.bipush 20, 2) := dc_16 (show ((cX12_drawn.data.toList.drop 50).take 2).map UInt8.toNat = [16, 20] by decide +kernel) rfl
theorem dX12_drawn_52 : decode cX12_drawn 52 = .ok (.isub, 1) := dc_100 (show ((cX12_drawn.data.toList.drop 52).take 1).map UInt8.toNat = [100] by decide +kernel)
theorem dX12_drawn_53 : decode cX12_drawn 53 = .ok (.invokevirtual 214, 3) := dc_182 (show ((cX12_drawn.data.toList.drop 53).take 3).map UInt8.toNat = [182, 0, 214] by decide +kernel) rfl
theorem dX12_drawn_56 : decode cX12_drawn 56 = .ok (.ifCond .ne 5, 3) := dc_154 (show ((cX12_drawn.data.toList.drop 56).take 3).map UInt8.toNat = [154, 0, 5] by decide +kernel) rfl
def ms_drawn_212 (n : Nat) : Nat → gb_F → Int64 → Int32 → Int32 → gb_MR Int32
  | 0, _, _, _, _ => none
  | mm + 1, f, w, v5, v6 => (if (5 : Int32) ≤ v6 then some (f, w, v5) else gb_ck v6 5 (gb_lt (f 19 (Int32.toNatClampNeg v6)) (fun x_41 => gb_lt (v5 + x_41) (fun x_42 => gb_lt (v6 + 1) (fun x_43 => ms_drawn_212 n mm f w x_42 x_43)))))
def ms_drawn_130 (n : Nat) : Nat → gb_F → Int64 → Int32 → Int32 → Int32 → gb_MR Int32
  | 0, _, _, _, _, _ => none
  | mm + 1, f, w, v3, v4, v5 => (if v3 ≤ v5 then (if v4 = 1 then some (f, w, (f 0 41)) else (if v4 = 2 then some (f, w, (f 0 42)) else (if v4 < 10 then ms_drawn_212 n n f w 0 0 else (if (20 : Int32) ≤ v4 then gb_ck (v4 - 20) 8 (gb_lt (f 20 (Int32.toNatClampNeg (v4 - 20))) (fun x_46 => some (f, w, x_46))) else gb_ck (v4 - 10) 5 (gb_lt (f 19 (Int32.toNatClampNeg (v4 - 10))) (fun x_48 => some (f, w, x_48))))))) else gb_bd (ms_draws n f w) (fun f_49 wl_50 _ => gb_lt (v5 + 1) (fun x_54 => ms_drawn_130 n mm f_49 wl_50 v3 v4 x_54)))
def ms_drawn_106 (n : Nat) : Nat → gb_F → Int64 → Int32 → Int32 → Int32 → gb_MR Int32
  | 0, _, _, _, _, _ => none
  | mm + 1, f, w, v3, v4, v5 => (if (8 : Int32) ≤ v5 then ms_drawn_130 n n f w v3 v4 0 else gb_ck v5 8 (gb_lt (gb_u f 20 (upd (f 20) (Int32.toNatClampNeg v5) 0)) (fun f_56 => gb_lt (v5 + 1) (fun x_57 => ms_drawn_106 n mm f_56 w v3 v4 x_57))))
def ms_drawn_83 (n : Nat) : Nat → gb_F → Int64 → Int32 → Int32 → Int32 → gb_MR Int32
  | 0, _, _, _, _, _ => none
  | mm + 1, f, w, v3, v4, v5 => (if (5 : Int32) ≤ v5 then ms_drawn_106 n n f w v3 v4 0 else gb_ck v5 5 (gb_lt (gb_u f 19 (upd (f 19) (Int32.toNatClampNeg v5) 0)) (fun f_59 => gb_lt (v5 + 1) (fun x_60 => ms_drawn_83 n mm f_59 w v3 v4 x_60))))
def ms_drawn (n : Nat) (f : gb_F) (w : Int64) (p1 : Int32) (p2 : Int32) (p3 : Int32) (p4 : Int32) : gb_MR Int32 := gb_bd (ms_isBorder n f w p1) (fun f_1 wl_2 r_3 => (if r_3 = 0 then some (f_1, wl_2, (-1)) else gb_bd (ms_paths n f_1 wl_2) (fun f_7 wl_8 r_9 => (if r_9 = 0 then some (f_7, wl_8, (-1)) else gb_bd (ms_isIn n f_7 wl_8 p3 1 20) (fun f_13 wl_14 r_15 => (if r_15 = 0 then some (f_13, wl_14, (-1)) else gb_bd (ms_isIn n f_13 wl_14 p4 0 2) (fun f_19 wl_20 r_21 => (if r_21 = 0 then gb_bd (ms_isPath n f_19 wl_20 (p4 - 10)) (fun f_61 wl_62 r_63 => (if r_63 = 0 then gb_bd (ms_isGoose n f_61 wl_62 (p4 - 20)) (fun f_75 wl_76 r_77 => (if r_77 = 0 then some (f_75, wl_76, (-1)) else gb_bd (ms_measures n f_75 wl_76) (fun f_81 wl_82 _ => gb_lt (gb_u f_81 0 (upd (f_81 0) 38 p2)) (fun f_86 => gb_lt (gb_u f_86 0 (upd (f_86 0) 41 0)) (fun f_87 => gb_lt (gb_u f_87 0 (upd (f_87 0) 42 0)) (fun f_88 => ms_drawn_83 n n f_88 wl_82 p3 p4 0)))))) else gb_bd (ms_measures n f_61 wl_62) (fun f_67 wl_68 _ => gb_lt (gb_u f_67 0 (upd (f_67 0) 38 p2)) (fun f_72 => gb_lt (gb_u f_72 0 (upd (f_72 0) 41 0)) (fun f_73 => gb_lt (gb_u f_73 0 (upd (f_73 0) 42 0)) (fun f_74 => ms_drawn_83 n n f_74 wl_68 p3 p4 0)))))) else gb_bd (ms_measures n f_19 wl_20) (fun f_25 wl_26 _ => gb_lt (gb_u f_25 0 (upd (f_25 0) 38 p2)) (fun f_30 => gb_lt (gb_u f_30 0 (upd (f_30 0) 41 0)) (fun f_31 => gb_lt (gb_u f_31 0 (upd (f_31 0) 42 0)) (fun f_32 => ms_drawn_83 n n f_32 wl_26 p3 p4 0))))))))))))
set_option maxHeartbeats 8000000 in
set_option maxRecDepth 100000 in
theorem mc_drawn (l : Launch) (D : va_G) (cT : Nat → ClassId) (tt : Nat → Nat) (b1 b : Nat) (hb1 : b1 ≤ b) (n : Nat) (f : gb_F) (w : Int64) (p1 : Int32) (p2 : Int32) (p3 : Int32) (p4 : Int32) (fE : gb_F) (wE : Int64) (rE : Int32) (h : ms_drawn n f w p1 p2 p3 p4 = some (fE, wE, rE)) : Met l yX12_drawn (.code yX12_drawn cX12_drawn 7 (some FieldType.int) :: gb_wA) ({ frames := 5, cells := 0, slots := 0, locals := 114 }) (gb_Pc D cT tt b1 [.ref (b + 0), .int p1, .int p2, .int p3, .int p4] (fun h => va_P D vwCl (gb_wl b (gb_MW cT b f w)) h)) (gb_Qi (fun r h => r = rE ∧ va_P D vwCl (gb_wl b (gb_MW cT b fE wE)) h) (gb_fr b 22)) 0 0 (gb_fr b 22) := by
  refine Met.ofW (cc := cX12_drawn) (maxL := 7) (ret := (some FieldType.int)) (by decide) rfl ?_
  intro p e s m args below meth c s₁ B hml hv
  obtain ⟨rfl, hSt, hP⟩ := hv
  have hx := B.exec
  have hb := B.bytes
  have hr := B.returns
  have hts := atoms_spec (ws := .code yX12_drawn cX12_drawn 7 (some FieldType.int) :: gb_wA) B.pre
  have hq : ∀ w ∈ gb_wA, w.before _ s = true := fun w h => hts w (List.mem_cons_of_mem _ h)
  have hown : s.vm.findClass RX12 = some m.cls := findClass_of_methodNamed B.named
  have hlocks := B.notSynchronized
  clear B hts
  have hK := hSt.1
  have hS : va_S (gb_fr b 22) s.heap s.heap [] := va_S.rf
  have hl := lv_entry ([.ref (b + 0), .int p1, .int p2, .int p3, .int p4]) (n := 7) (Nat.le_of_ble_eq_true rfl)
  rw [lg_entry_eq]
  generalize (lg_sl ([.ref (b + 0), .int p1, .int p2, .int p3, .int p4]) ++ List.replicate (7 - (lg_sl ([.ref (b + 0), .int p1, .int p2, .int p3, .int p4])).length) Slot.unset).toArray = ls at hl ⊢
  replace hl : lv_has ls 7 [(0, .ref (b + 0)), (1, .int p1), (2, .int p2), (3, .int p3), (4, .int p4)] := hl
  have L212 : ∀ (mm : Nat) (f : gb_F) (w : Int64) (v5 : Int32) (v6 : Int32) (H : Heap) (locs : List Loc) (ls : Array Slot), ms_drawn_212 n mm f w v5 v6 = some (fE, wE, rE) → va_P D vwCl (gb_wl b (gb_MW cT b f w)) H → va_S (gb_fr b 22) s.heap H locs → lv_has ls 7 [(0, .ref (b + 0)), (5, .int v5), (6, .int v6)] → W p l e (headSpec (.code yX12_drawn cX12_drawn 7 (some FieldType.int) :: gb_wA) ({ frames := 5, cells := 0, slots := 0, locals := 114 })).room s m ([.ref (b + 0), .int p1, .int p2, .int p3, .int p4]).toArray below meth c H locs 0 0 (MQ below (gb_Qi (fun r h => r = rE ∧ va_P D vwCl (gb_wl b (gb_MW cT b fE wE)) h) (gb_fr b 22)) ([.ref (b + 0), .int p1, .int p2, .int p3, .int p4]).toArray s 0 0 (gb_fr b 22)) (F0 m 212 ls []) := by
    clear h hP hS hl ls f w
    intro mm
    induction mm with
    | zero =>
      intro f w v5 v6 H locs ls h
      cases h
    | succ mm ih =>
      intro f w v5 v6 H locs ls h hP hS hl
      rw [ms_drawn_212] at h
      refine lv_iload hx hb dX12_drawn_212 (lv_at hl 2 rfl) ?_
      refine lv_iconst (v := 5) hx hb dX12_drawn_214 (by decide) ?_
      refine lv_icmp_ge (tgt := 236) hx hb dX12_drawn_215 (by decide) (fun c_39 => ?_) (fun c_39 => ?_)
      · rw [if_pos c_39] at h
        refine lv_iload hx hb dX12_drawn_236 (lv_at hl 1 rfl) ?_
        obtain ⟨e1, e2, e3⟩ := gb_eq3 h
        exact W.iret (v := v5) hx hb hr (fun t ht hW => gb_ri ht ⟨e3, by rw [← e1, ← e2]; exact hP⟩ hS) hS.2.2 dX12_drawn_238
      · rw [if_neg c_39] at h
        refine lv_iload hx hb dX12_drawn_218 (lv_at hl 1 rfl) ?_
        refine lv_aload_n hx hb dX12_drawn_220 rfl (lv_at hl 0 rfl) ?_
        refine va_get (ci := 10) (v := (.ref (b + 19))) (C := RX12) (T := TX12) (N := 44) hx hb hq i_X12 hown hK hP 0 (gb_at b rfl) rfl 39 (by decide) (hq _ w_1163) (fun _ h9 => h9) rfl dX12_drawn_221 ?_
        refine lv_iload hx hb dX12_drawn_224 (lv_at hl 2 rfl) ?_
        obtain ⟨z_40, h⟩ := gb_ck_s h
        refine va_iald hx hb hK hP 19 0 (gb_at b rfl) rfl z_40 dX12_drawn_226 ?_
        refine lv_topi (fun x_41 ex_41 => ?_)
        replace h := gb_lt_s ex_41 h
        refine lv_iadd hx hb dX12_drawn_227 ?_
        refine lv_topi (fun x_42 ex_42 => ?_)
        replace h := gb_lt_s ex_42 h
        refine lv_istore (lv' := [(5, .int x_42), (0, .ref (b + 0)), (6, .int v6)]) hx hb dX12_drawn_228 hl (by decide) rfl (fun ls hl => ?_)
        obtain ⟨x_43, ex_43⟩ : ∃ q, q = (v6 + 1) := ⟨_, rfl⟩
        replace h := gb_lt_s ex_43 h
        refine lv_iinc (v := x_43) (lv' := [(6, .int x_43), (5, .int x_42), (0, .ref (b + 0))]) hx hb dX12_drawn_230 hl (k := 2) rfl (by rw [ex_43]; rfl) (by decide) rfl (fun ls hl => ?_)
        refine lv_goto (tgt := 212) hx hb dX12_drawn_233 (by decide) ?_
        exact ih _ _ _ _ _ _ _ h hP hS (lv_sub hl [2, 1, 0] rfl)
  have L130 : ∀ (mm : Nat) (f : gb_F) (w : Int64) (v3 : Int32) (v4 : Int32) (v5 : Int32) (H : Heap) (locs : List Loc) (ls : Array Slot), ms_drawn_130 n mm f w v3 v4 v5 = some (fE, wE, rE) → va_P D vwCl (gb_wl b (gb_MW cT b f w)) H → va_S (gb_fr b 22) s.heap H locs → lv_has ls 7 [(0, .ref (b + 0)), (3, .int v3), (4, .int v4), (5, .int v5)] → W p l e (headSpec (.code yX12_drawn cX12_drawn 7 (some FieldType.int) :: gb_wA) ({ frames := 5, cells := 0, slots := 0, locals := 114 })).room s m ([.ref (b + 0), .int p1, .int p2, .int p3, .int p4]).toArray below meth c H locs 0 0 (MQ below (gb_Qi (fun r h => r = rE ∧ va_P D vwCl (gb_wl b (gb_MW cT b fE wE)) h) (gb_fr b 22)) ([.ref (b + 0), .int p1, .int p2, .int p3, .int p4]).toArray s 0 0 (gb_fr b 22)) (F0 m 130 ls []) := by
    clear h hP hS hl ls f w
    intro mm
    induction mm with
    | zero =>
      intro f w v3 v4 v5 H locs ls h
      cases h
    | succ mm ih =>
      intro f w v3 v4 v5 H locs ls h hP hS hl
      rw [ms_drawn_130] at h
      refine lv_iload hx hb dX12_drawn_130 (lv_at hl 3 rfl) ?_
      refine lv_iload_n hx hb dX12_drawn_132 rfl (lv_at hl 1 rfl) ?_
      refine lv_icmp_ge (tgt := 146) hx hb dX12_drawn_133 (by decide) (fun c_35 => ?_) (fun c_35 => ?_)
      · rw [if_pos c_35] at h
        refine lv_iload hx hb dX12_drawn_146 (lv_at hl 2 rfl) ?_
        refine lv_iconst (v := 1) hx hb dX12_drawn_148 (by decide) ?_
        refine lv_icmp_ne (tgt := 157) hx hb dX12_drawn_149 (by decide) (fun c_36 => ?_) (fun c_36 => ?_)
        · rw [if_neg c_36] at h
          refine lv_iload hx hb dX12_drawn_157 (lv_at hl 2 rfl) ?_
          refine lv_iconst (v := 2) hx hb dX12_drawn_159 (by decide) ?_
          refine lv_icmp_ne (tgt := 168) hx hb dX12_drawn_160 (by decide) (fun c_37 => ?_) (fun c_37 => ?_)
          · rw [if_neg c_37] at h
            refine lv_iload hx hb dX12_drawn_168 (lv_at hl 2 rfl) ?_
            refine lv_bipush (v := 10) hx hb dX12_drawn_170 (by decide) ?_
            refine lv_icmp_lt (tgt := 206) hx hb dX12_drawn_172 (by decide) (fun c_38 => ?_) (fun c_38 => ?_)
            · rw [if_pos c_38] at h
              refine lv_iconst (v := 0) hx hb dX12_drawn_206 (by decide) ?_
              refine lv_istore (lv' := [(5, .int 0), (0, .ref (b + 0)), (3, .int v3), (4, .int v4)]) hx hb dX12_drawn_207 hl (by decide) rfl (fun ls hl => ?_)
              refine lv_iconst (v := 0) hx hb dX12_drawn_209 (by decide) ?_
              refine lv_istore (lv' := [(6, .int 0), (5, .int 0), (0, .ref (b + 0)), (3, .int v3), (4, .int v4)]) hx hb dX12_drawn_210 hl (by decide) rfl (fun ls hl => ?_)
              exact L212 n _ _ _ _ _ _ _ h hP hS (lv_sub hl [2, 1, 0] rfl)
            · rw [if_neg c_38] at h
              refine lv_iload hx hb dX12_drawn_175 (lv_at hl 2 rfl) ?_
              refine lv_bipush (v := 20) hx hb dX12_drawn_177 (by decide) ?_
              refine lv_icmp_ge (tgt := 195) hx hb dX12_drawn_179 (by decide) (fun c_44 => ?_) (fun c_44 => ?_)
              · rw [if_pos c_44] at h
                refine lv_aload_n hx hb dX12_drawn_195 rfl (lv_at hl 0 rfl) ?_
                refine va_get (ci := 10) (v := (.ref (b + 20))) (C := RX12) (T := TX12) (N := 44) hx hb hq i_X12 hown hK hP 0 (gb_at b rfl) rfl 40 (by decide) (hq _ w_1164) (fun _ h9 => h9) rfl dX12_drawn_196 ?_
                refine lv_iload hx hb dX12_drawn_199 (lv_at hl 2 rfl) ?_
                refine lv_bipush (v := 20) hx hb dX12_drawn_201 (by decide) ?_
                refine lv_isub hx hb dX12_drawn_203 ?_
                obtain ⟨z_45, h⟩ := gb_ck_s h
                refine va_iald hx hb hK hP 20 0 (gb_at b rfl) rfl z_45 dX12_drawn_204 ?_
                refine lv_topi (fun x_46 ex_46 => ?_)
                replace h := gb_lt_s ex_46 h
                obtain ⟨e1, e2, e3⟩ := gb_eq3 h
                exact W.iret (v := x_46) hx hb hr (fun t ht hW => gb_ri ht ⟨e3, by rw [← e1, ← e2]; exact hP⟩ hS) hS.2.2 dX12_drawn_205
              · rw [if_neg c_44] at h
                refine lv_aload_n hx hb dX12_drawn_182 rfl (lv_at hl 0 rfl) ?_
                refine va_get (ci := 10) (v := (.ref (b + 19))) (C := RX12) (T := TX12) (N := 44) hx hb hq i_X12 hown hK hP 0 (gb_at b rfl) rfl 39 (by decide) (hq _ w_1163) (fun _ h9 => h9) rfl dX12_drawn_183 ?_
                refine lv_iload hx hb dX12_drawn_186 (lv_at hl 2 rfl) ?_
                refine lv_bipush (v := 10) hx hb dX12_drawn_188 (by decide) ?_
                refine lv_isub hx hb dX12_drawn_190 ?_
                obtain ⟨z_47, h⟩ := gb_ck_s h
                refine va_iald hx hb hK hP 19 0 (gb_at b rfl) rfl z_47 dX12_drawn_191 ?_
                refine lv_topi (fun x_48 ex_48 => ?_)
                replace h := gb_lt_s ex_48 h
                refine lv_goto (tgt := 205) hx hb dX12_drawn_192 (by decide) ?_
                obtain ⟨e1, e2, e3⟩ := gb_eq3 h
                exact W.iret (v := x_48) hx hb hr (fun t ht hW => gb_ri ht ⟨e3, by rw [← e1, ← e2]; exact hP⟩ hS) hS.2.2 dX12_drawn_205
          · rw [if_pos c_37] at h
            refine lv_aload_n hx hb dX12_drawn_163 rfl (lv_at hl 0 rfl) ?_
            refine va_get (ci := 10) (v := (.int (f 0 42))) (C := RX12) (T := TX12) (N := 44) hx hb hq i_X12 hown hK hP 0 (gb_at b rfl) rfl 42 (by decide) (hq _ w_1166) (fun _ h9 => h9) rfl dX12_drawn_164 ?_
            obtain ⟨e1, e2, e3⟩ := gb_eq3 h
            exact W.iret (v := (f 0 42)) hx hb hr (fun t ht hW => gb_ri ht ⟨e3, by rw [← e1, ← e2]; exact hP⟩ hS) hS.2.2 dX12_drawn_167
        · rw [if_pos c_36] at h
          refine lv_aload_n hx hb dX12_drawn_152 rfl (lv_at hl 0 rfl) ?_
          refine va_get (ci := 10) (v := (.int (f 0 41))) (C := RX12) (T := TX12) (N := 44) hx hb hq i_X12 hown hK hP 0 (gb_at b rfl) rfl 41 (by decide) (hq _ w_1165) (fun _ h9 => h9) rfl dX12_drawn_153 ?_
          obtain ⟨e1, e2, e3⟩ := gb_eq3 h
          exact W.iret (v := (f 0 41)) hx hb hr (fun t ht hW => gb_ri ht ⟨e3, by rw [← e1, ← e2]; exact hP⟩ hS) hS.2.2 dX12_drawn_156
      · rw [if_neg c_35] at h
        refine lv_aload_n hx hb dX12_drawn_136 rfl (lv_at hl 0 rfl) ?_
        obtain ⟨f_49, wl_50, r_51, z_52, h⟩ := gb_bd_s h
        refine gb_callv (va_runV (C := RX12) (As := []) (rest := []) ⟨hx, hb, hml, hown, hq⟩ (mc_draws l D cT tt b1 b hb1 n f w f_49 wl_50 r_51 z_52) (cwV 0 hq (gb_gV w_1653 w_1655 s_7_2 w_14 w_1656) rfl rfl rfl (by decide +kernel) ⟨Nat.le_of_ble_eq_true rfl, Nat.le_of_ble_eq_true rfl⟩) (gb_preV (r := (RX12, TX12, 44)) (ci := 10) (q0 := 0) hSt hP rfl (gb_at b rfl) hS (fun q h => Nat.le_trans hb1 h.1) hP) rfl rfl hl.1 rfl (lv_room (Nat.le_of_ble_eq_true rfl)) dX12_drawn_137 ⟨Nat.le_of_ble_eq_true rfl, Nat.le_of_ble_eq_true rfl⟩) hS (fun _ h => h) (fun _ h => h) (fun H locs hY hk hS => ?_)
        have hP := hY
        obtain ⟨x_54, ex_54⟩ : ∃ q, q = (v5 + 1) := ⟨_, rfl⟩
        replace h := gb_lt_s ex_54 h
        refine lv_iinc (v := x_54) (lv' := [(5, .int x_54), (0, .ref (b + 0)), (3, .int v3), (4, .int v4)]) hx hb dX12_drawn_140 hl (k := 3) rfl (by rw [ex_54]; rfl) (by decide) rfl (fun ls hl => ?_)
        refine lv_goto (tgt := 130) hx hb dX12_drawn_143 (by decide) ?_
        exact ih _ _ _ _ _ _ _ _ h hP hS (lv_sub hl [1, 2, 3, 0] rfl)
  have L106 : ∀ (mm : Nat) (f : gb_F) (w : Int64) (v3 : Int32) (v4 : Int32) (v5 : Int32) (H : Heap) (locs : List Loc) (ls : Array Slot), ms_drawn_106 n mm f w v3 v4 v5 = some (fE, wE, rE) → va_P D vwCl (gb_wl b (gb_MW cT b f w)) H → va_S (gb_fr b 22) s.heap H locs → lv_has ls 7 [(0, .ref (b + 0)), (3, .int v3), (4, .int v4), (5, .int v5)] → W p l e (headSpec (.code yX12_drawn cX12_drawn 7 (some FieldType.int) :: gb_wA) ({ frames := 5, cells := 0, slots := 0, locals := 114 })).room s m ([.ref (b + 0), .int p1, .int p2, .int p3, .int p4]).toArray below meth c H locs 0 0 (MQ below (gb_Qi (fun r h => r = rE ∧ va_P D vwCl (gb_wl b (gb_MW cT b fE wE)) h) (gb_fr b 22)) ([.ref (b + 0), .int p1, .int p2, .int p3, .int p4]).toArray s 0 0 (gb_fr b 22)) (F0 m 106 ls []) := by
    clear h hP hS hl ls f w
    intro mm
    induction mm with
    | zero =>
      intro f w v3 v4 v5 H locs ls h
      cases h
    | succ mm ih =>
      intro f w v3 v4 v5 H locs ls h hP hS hl
      rw [ms_drawn_106] at h
      refine lv_iload hx hb dX12_drawn_106 (lv_at hl 3 rfl) ?_
      refine lv_bipush (v := 8) hx hb dX12_drawn_108 (by decide) ?_
      refine lv_icmp_ge (tgt := 127) hx hb dX12_drawn_110 (by decide) (fun c_34 => ?_) (fun c_34 => ?_)
      · rw [if_pos c_34] at h
        refine lv_iconst (v := 0) hx hb dX12_drawn_127 (by decide) ?_
        refine lv_istore (lv' := [(5, .int 0), (0, .ref (b + 0)), (3, .int v3), (4, .int v4)]) hx hb dX12_drawn_128 hl (by decide) rfl (fun ls hl => ?_)
        exact L130 n _ _ _ _ _ _ _ _ h hP hS (lv_sub hl [1, 2, 3, 0] rfl)
      · rw [if_neg c_34] at h
        refine lv_aload_n hx hb dX12_drawn_113 rfl (lv_at hl 0 rfl) ?_
        refine va_get (ci := 10) (v := (.ref (b + 20))) (C := RX12) (T := TX12) (N := 44) hx hb hq i_X12 hown hK hP 0 (gb_at b rfl) rfl 40 (by decide) (hq _ w_1164) (fun _ h9 => h9) rfl dX12_drawn_114 ?_
        refine lv_iload hx hb dX12_drawn_117 (lv_at hl 3 rfl) ?_
        refine lv_iconst (v := 0) hx hb dX12_drawn_119 (by decide) ?_
        obtain ⟨z_55, h⟩ := gb_ck_s h
        refine gb_iast (x := 0) hx hb hK hP (fun k h => ⟨Nat.le_add_right b k, Nat.add_lt_add_left h b⟩) hS rfl 20 0 rfl rfl z_55 dX12_drawn_120 (fun H locs hP hz_ hS => ?_)
        obtain ⟨f_56, ef_56⟩ : ∃ q, q = (gb_u f 20 (upd (f 20) (Int32.toNatClampNeg v5) 0)) := ⟨_, rfl⟩
        replace hP : va_P D vwCl (gb_wl b (gb_MW cT b f_56 w)) H := by rw [ef_56]; exact hP
        replace h := gb_lt_s ef_56 h
        obtain ⟨x_57, ex_57⟩ : ∃ q, q = (v5 + 1) := ⟨_, rfl⟩
        replace h := gb_lt_s ex_57 h
        refine lv_iinc (v := x_57) (lv' := [(5, .int x_57), (0, .ref (b + 0)), (3, .int v3), (4, .int v4)]) hx hb dX12_drawn_121 hl (k := 3) rfl (by rw [ex_57]; rfl) (by decide) rfl (fun ls hl => ?_)
        refine lv_goto (tgt := 106) hx hb dX12_drawn_124 (by decide) ?_
        exact ih _ _ _ _ _ _ _ _ h hP hS (lv_sub hl [1, 2, 3, 0] rfl)
  have L83 : ∀ (mm : Nat) (f : gb_F) (w : Int64) (v3 : Int32) (v4 : Int32) (v5 : Int32) (H : Heap) (locs : List Loc) (ls : Array Slot), ms_drawn_83 n mm f w v3 v4 v5 = some (fE, wE, rE) → va_P D vwCl (gb_wl b (gb_MW cT b f w)) H → va_S (gb_fr b 22) s.heap H locs → lv_has ls 7 [(0, .ref (b + 0)), (3, .int v3), (4, .int v4), (5, .int v5)] → W p l e (headSpec (.code yX12_drawn cX12_drawn 7 (some FieldType.int) :: gb_wA) ({ frames := 5, cells := 0, slots := 0, locals := 114 })).room s m ([.ref (b + 0), .int p1, .int p2, .int p3, .int p4]).toArray below meth c H locs 0 0 (MQ below (gb_Qi (fun r h => r = rE ∧ va_P D vwCl (gb_wl b (gb_MW cT b fE wE)) h) (gb_fr b 22)) ([.ref (b + 0), .int p1, .int p2, .int p3, .int p4]).toArray s 0 0 (gb_fr b 22)) (F0 m 83 ls []) := by
    clear h hP hS hl ls f w
    intro mm
    induction mm with
    | zero =>
      intro f w v3 v4 v5 H locs ls h
      cases h
    | succ mm ih =>
      intro f w v3 v4 v5 H locs ls h hP hS hl
      rw [ms_drawn_83] at h
      refine lv_iload hx hb dX12_drawn_83 (lv_at hl 3 rfl) ?_
      refine lv_iconst (v := 5) hx hb dX12_drawn_85 (by decide) ?_
      refine lv_icmp_ge (tgt := 103) hx hb dX12_drawn_86 (by decide) (fun c_33 => ?_) (fun c_33 => ?_)
      · rw [if_pos c_33] at h
        refine lv_iconst (v := 0) hx hb dX12_drawn_103 (by decide) ?_
        refine lv_istore (lv' := [(5, .int 0), (0, .ref (b + 0)), (3, .int v3), (4, .int v4)]) hx hb dX12_drawn_104 hl (by decide) rfl (fun ls hl => ?_)
        exact L106 n _ _ _ _ _ _ _ _ h hP hS (lv_sub hl [1, 2, 3, 0] rfl)
      · rw [if_neg c_33] at h
        refine lv_aload_n hx hb dX12_drawn_89 rfl (lv_at hl 0 rfl) ?_
        refine va_get (ci := 10) (v := (.ref (b + 19))) (C := RX12) (T := TX12) (N := 44) hx hb hq i_X12 hown hK hP 0 (gb_at b rfl) rfl 39 (by decide) (hq _ w_1163) (fun _ h9 => h9) rfl dX12_drawn_90 ?_
        refine lv_iload hx hb dX12_drawn_93 (lv_at hl 3 rfl) ?_
        refine lv_iconst (v := 0) hx hb dX12_drawn_95 (by decide) ?_
        obtain ⟨z_58, h⟩ := gb_ck_s h
        refine gb_iast (x := 0) hx hb hK hP (fun k h => ⟨Nat.le_add_right b k, Nat.add_lt_add_left h b⟩) hS rfl 19 0 rfl rfl z_58 dX12_drawn_96 (fun H locs hP hz_ hS => ?_)
        obtain ⟨f_59, ef_59⟩ : ∃ q, q = (gb_u f 19 (upd (f 19) (Int32.toNatClampNeg v5) 0)) := ⟨_, rfl⟩
        replace hP : va_P D vwCl (gb_wl b (gb_MW cT b f_59 w)) H := by rw [ef_59]; exact hP
        replace h := gb_lt_s ef_59 h
        obtain ⟨x_60, ex_60⟩ : ∃ q, q = (v5 + 1) := ⟨_, rfl⟩
        replace h := gb_lt_s ex_60 h
        refine lv_iinc (v := x_60) (lv' := [(5, .int x_60), (0, .ref (b + 0)), (3, .int v3), (4, .int v4)]) hx hb dX12_drawn_97 hl (k := 3) rfl (by rw [ex_60]; rfl) (by decide) rfl (fun ls hl => ?_)
        refine lv_goto (tgt := 83) hx hb dX12_drawn_100 (by decide) ?_
        exact ih _ _ _ _ _ _ _ _ h hP hS (lv_sub hl [1, 2, 3, 0] rfl)
  unfold ms_drawn at h
  refine lv_aload_n hx hb dX12_drawn_0 rfl (lv_at hl 0 rfl) ?_
  refine lv_iload_n hx hb dX12_drawn_1 rfl (lv_at hl 1 rfl) ?_
  obtain ⟨f_1, wl_2, r_3, z_4, h⟩ := gb_bd_s h
  refine gb_calli (va_runV (C := RX12) (As := [.int p1]) (rest := []) ⟨hx, hb, hml, hown, hq⟩ (mc_isBorder l D cT tt b1 b hb1 n f w p1 f_1 wl_2 r_3 z_4) (cwV 1 hq (gb_gV w_1372 w_1374 s_4_1 w_14 w_1375) rfl rfl rfl (by decide +kernel) ⟨Nat.le_of_ble_eq_true rfl, Nat.le_of_ble_eq_true rfl⟩) (gb_preV (r := (RX12, TX12, 44)) (ci := 10) (q0 := 0) hSt hP rfl (gb_at b rfl) hS (fun q h => Nat.le_trans hb1 h.1) hP) rfl rfl hl.1 rfl (lv_room (Nat.le_of_ble_eq_true rfl)) dX12_drawn_2 ⟨Nat.le_of_ble_eq_true rfl, Nat.le_of_ble_eq_true rfl⟩) hS (fun _ h => h) (fun _ h => h) (fun q_5 H locs hY hk hS => ?_)
  obtain ⟨hq_5, hP⟩ := hY
  replace hq_5 := hq_5.symm
  subst hq_5
  refine lv_if_eq (tgt := 59) hx hb dX12_drawn_5 (by decide) (fun c_6 => ?_) (fun c_6 => ?_)
  · rw [if_pos c_6] at h
    refine lv_iconst (v := (-1)) hx hb dX12_drawn_59 (by decide) ?_
    obtain ⟨e1, e2, e3⟩ := gb_eq3 h
    exact W.iret (v := (-1)) hx hb hr (fun t ht hW => gb_ri ht ⟨e3, by rw [← e1, ← e2]; exact hP⟩ hS) hS.2.2 dX12_drawn_60
  · rw [if_neg c_6] at h
    refine lv_aload_n hx hb dX12_drawn_8 rfl (lv_at hl 0 rfl) ?_
    obtain ⟨f_7, wl_8, r_9, z_10, h⟩ := gb_bd_s h
    refine gb_calli (va_runV (C := RX12) (As := []) (rest := []) ⟨hx, hb, hml, hown, hq⟩ (mc_paths l D cT tt b1 b hb1 n f_1 wl_2 f_7 wl_8 r_9 z_10) (cwV 0 hq (gb_gV w_1384 w_1386 s_4_4 w_14 w_1387) rfl rfl rfl (by decide +kernel) ⟨Nat.le_of_ble_eq_true rfl, Nat.le_of_ble_eq_true rfl⟩) (gb_preV (r := (RX12, TX12, 44)) (ci := 10) (q0 := 0) hSt hP rfl (gb_at b rfl) hS (fun q h => Nat.le_trans hb1 h.1) hP) rfl rfl hl.1 rfl (lv_room (Nat.le_of_ble_eq_true rfl)) dX12_drawn_9 ⟨Nat.le_of_ble_eq_true rfl, Nat.le_of_ble_eq_true rfl⟩) hS (fun _ h => h) (fun _ h => h) (fun q_11 H locs hY hk hS => ?_)
    obtain ⟨hq_11, hP⟩ := hY
    replace hq_11 := hq_11.symm
    subst hq_11
    refine lv_if_eq (tgt := 59) hx hb dX12_drawn_12 (by decide) (fun c_12 => ?_) (fun c_12 => ?_)
    · rw [if_pos c_12] at h
      refine lv_iconst (v := (-1)) hx hb dX12_drawn_59 (by decide) ?_
      obtain ⟨e1, e2, e3⟩ := gb_eq3 h
      exact W.iret (v := (-1)) hx hb hr (fun t ht hW => gb_ri ht ⟨e3, by rw [← e1, ← e2]; exact hP⟩ hS) hS.2.2 dX12_drawn_60
    · rw [if_neg c_12] at h
      refine lv_iload_n hx hb dX12_drawn_15 rfl (lv_at hl 3 rfl) ?_
      refine lv_iconst (v := 1) hx hb dX12_drawn_16 (by decide) ?_
      refine lv_bipush (v := 20) hx hb dX12_drawn_17 (by decide) ?_
      obtain ⟨f_13, wl_14, r_15, z_16, h⟩ := gb_bd_s h
      refine gb_calli (va_runS (As := [.int p3, .int 1, .int 20]) (rest := []) ⟨hx, hb, hml, hown, hq⟩ (mc_isIn l D cT tt b1 b hb1 n f_7 wl_8 p3 1 20 f_13 wl_14 r_15 z_16) (va_cwS 3 hq (gb_gS w_1269 w_1270 w_14 w_1271) rfl rfl rfl (by decide +kernel) ⟨Nat.le_of_ble_eq_true rfl, Nat.le_of_ble_eq_true rfl⟩) (gb_preS hSt hS (fun q h => Nat.le_trans hb1 h.1) hP) rfl rfl hl.1 rfl (lv_room (Nat.le_of_ble_eq_true rfl)) dX12_drawn_19 ⟨Nat.le_of_ble_eq_true rfl, Nat.le_of_ble_eq_true rfl⟩) hS (fun _ h => h) (fun _ h => h) (fun q_17 H locs hY hk hS => ?_)
      obtain ⟨hq_17, hP⟩ := hY
      replace hq_17 := hq_17.symm
      subst hq_17
      refine lv_if_eq (tgt := 59) hx hb dX12_drawn_22 (by decide) (fun c_18 => ?_) (fun c_18 => ?_)
      · rw [if_pos c_18] at h
        refine lv_iconst (v := (-1)) hx hb dX12_drawn_59 (by decide) ?_
        obtain ⟨e1, e2, e3⟩ := gb_eq3 h
        exact W.iret (v := (-1)) hx hb hr (fun t ht hW => gb_ri ht ⟨e3, by rw [← e1, ← e2]; exact hP⟩ hS) hS.2.2 dX12_drawn_60
      · rw [if_neg c_18] at h
        refine lv_iload hx hb dX12_drawn_25 (lv_at hl 4 rfl) ?_
        refine lv_iconst (v := 0) hx hb dX12_drawn_27 (by decide) ?_
        refine lv_iconst (v := 2) hx hb dX12_drawn_28 (by decide) ?_
        obtain ⟨f_19, wl_20, r_21, z_22, h⟩ := gb_bd_s h
        refine gb_calli (va_runS (As := [.int p4, .int 0, .int 2]) (rest := []) ⟨hx, hb, hml, hown, hq⟩ (mc_isIn l D cT tt b1 b hb1 n f_13 wl_14 p4 0 2 f_19 wl_20 r_21 z_22) (va_cwS 3 hq (gb_gS w_1269 w_1270 w_14 w_1271) rfl rfl rfl (by decide +kernel) ⟨Nat.le_of_ble_eq_true rfl, Nat.le_of_ble_eq_true rfl⟩) (gb_preS hSt hS (fun q h => Nat.le_trans hb1 h.1) hP) rfl rfl hl.1 rfl (lv_room (Nat.le_of_ble_eq_true rfl)) dX12_drawn_29 ⟨Nat.le_of_ble_eq_true rfl, Nat.le_of_ble_eq_true rfl⟩) hS (fun _ h => h) (fun _ h => h) (fun q_23 H locs hY hk hS => ?_)
        obtain ⟨hq_23, hP⟩ := hY
        replace hq_23 := hq_23.symm
        subst hq_23
        refine lv_if_ne (tgt := 61) hx hb dX12_drawn_32 (by decide) (fun c_24 => ?_) (fun c_24 => ?_)
        · rw [if_neg c_24] at h
          refine lv_aload_n hx hb dX12_drawn_61 rfl (lv_at hl 0 rfl) ?_
          obtain ⟨f_25, wl_26, r_27, z_28, h⟩ := gb_bd_s h
          refine gb_callv (va_runV (C := RX12) (As := []) (rest := []) ⟨hx, hb, hml, hown, hq⟩ (mc_measures l D cT tt b1 b hb1 n f_19 wl_20 f_25 wl_26 r_27 z_28) (cwV 0 hq (gb_gV w_1528 w_1530 s_5_15 w_14 w_1531) rfl rfl rfl (by decide +kernel) ⟨Nat.le_of_ble_eq_true rfl, Nat.le_of_ble_eq_true rfl⟩) (gb_preV (r := (RX12, TX12, 44)) (ci := 10) (q0 := 0) hSt hP rfl (gb_at b rfl) hS (fun q h => Nat.le_trans hb1 h.1) hP) rfl rfl hl.1 rfl (lv_room (Nat.le_of_ble_eq_true rfl)) dX12_drawn_62 ⟨Nat.le_of_ble_eq_true rfl, Nat.le_of_ble_eq_true rfl⟩) hS (fun _ h => h) (fun _ h => h) (fun H locs hY hk hS => ?_)
          have hP := hY
          refine lv_aload_n hx hb dX12_drawn_65 rfl (lv_at hl 0 rfl) ?_
          refine lv_iload_n hx hb dX12_drawn_66 rfl (lv_at hl 2 rfl) ?_
          refine gb_put (ci := 10) (v := (.int p2)) (ty := .int) (C := RX12) (T := TX12) (N := 44) hx hb hq i_X12 tyX12 tyX12_ok nmX12 hown hK hP (fun k h => ⟨Nat.le_add_right b k, Nat.add_lt_add_left h b⟩) hS rfl 0 rfl rfl 38 (by decide) (hq _ w_1162) (fun _ h9 => h9) rfl (by decide +kernel) rfl rfl (Nat.le_of_ble_eq_true rfl) dX12_drawn_67 (fun H locs hP hz_ hS => ?_)
          obtain ⟨f_30, ef_30⟩ : ∃ q, q = (gb_u f_25 0 (upd (f_25 0) 38 p2)) := ⟨_, rfl⟩
          replace hP : va_P D vwCl (gb_wl b (gb_MW cT b f_30 wl_26)) H := by rw [ef_30]; exact hP
          replace h := gb_lt_s ef_30 h
          refine lv_aload_n hx hb dX12_drawn_70 rfl (lv_at hl 0 rfl) ?_
          refine lv_iconst (v := 0) hx hb dX12_drawn_71 (by decide) ?_
          refine gb_put (ci := 10) (v := (.int 0)) (ty := .int) (C := RX12) (T := TX12) (N := 44) hx hb hq i_X12 tyX12 tyX12_ok nmX12 hown hK hP (fun k h => ⟨Nat.le_add_right b k, Nat.add_lt_add_left h b⟩) hS rfl 0 rfl rfl 41 (by decide) (hq _ w_1165) (fun _ h9 => h9) rfl (by decide +kernel) rfl rfl (Nat.le_of_ble_eq_true rfl) dX12_drawn_72 (fun H locs hP hz_ hS => ?_)
          obtain ⟨f_31, ef_31⟩ : ∃ q, q = (gb_u f_30 0 (upd (f_30 0) 41 0)) := ⟨_, rfl⟩
          replace hP : va_P D vwCl (gb_wl b (gb_MW cT b f_31 wl_26)) H := by rw [ef_31]; exact hP
          replace h := gb_lt_s ef_31 h
          refine lv_aload_n hx hb dX12_drawn_75 rfl (lv_at hl 0 rfl) ?_
          refine lv_iconst (v := 0) hx hb dX12_drawn_76 (by decide) ?_
          refine gb_put (ci := 10) (v := (.int 0)) (ty := .int) (C := RX12) (T := TX12) (N := 44) hx hb hq i_X12 tyX12 tyX12_ok nmX12 hown hK hP (fun k h => ⟨Nat.le_add_right b k, Nat.add_lt_add_left h b⟩) hS rfl 0 rfl rfl 42 (by decide) (hq _ w_1166) (fun _ h9 => h9) rfl (by decide +kernel) rfl rfl (Nat.le_of_ble_eq_true rfl) dX12_drawn_77 (fun H locs hP hz_ hS => ?_)
          obtain ⟨f_32, ef_32⟩ : ∃ q, q = (gb_u f_31 0 (upd (f_31 0) 42 0)) := ⟨_, rfl⟩
          replace hP : va_P D vwCl (gb_wl b (gb_MW cT b f_32 wl_26)) H := by rw [ef_32]; exact hP
          replace h := gb_lt_s ef_32 h
          refine lv_iconst (v := 0) hx hb dX12_drawn_80 (by decide) ?_
          refine lv_istore (lv' := [(5, .int 0), (0, .ref (b + 0)), (1, .int p1), (2, .int p2), (3, .int p3), (4, .int p4)]) hx hb dX12_drawn_81 hl (by decide) rfl (fun ls hl => ?_)
          exact L83 n _ _ _ _ _ _ _ _ h hP hS (lv_sub hl [1, 4, 5, 0] rfl)
        · rw [if_pos c_24] at h
          refine lv_aload_n hx hb dX12_drawn_35 rfl (lv_at hl 0 rfl) ?_
          refine lv_iload hx hb dX12_drawn_36 (lv_at hl 4 rfl) ?_
          refine lv_bipush (v := 10) hx hb dX12_drawn_38 (by decide) ?_
          refine lv_isub hx hb dX12_drawn_40 ?_
          obtain ⟨f_61, wl_62, r_63, z_64, h⟩ := gb_bd_s h
          refine gb_calli (va_runV (C := RX12) (As := [.int (p4 - 10)]) (rest := []) ⟨hx, hb, hml, hown, hq⟩ (mc_isPath l D cT tt b1 b hb1 n f_19 wl_20 (p4 - 10) f_61 wl_62 r_63 z_64) (cwV 1 hq (gb_gV w_1380 w_1382 s_4_3 w_14 w_1383) rfl rfl rfl (by decide +kernel) ⟨Nat.le_of_ble_eq_true rfl, Nat.le_of_ble_eq_true rfl⟩) (gb_preV (r := (RX12, TX12, 44)) (ci := 10) (q0 := 0) hSt hP rfl (gb_at b rfl) hS (fun q h => Nat.le_trans hb1 h.1) hP) rfl rfl hl.1 rfl (lv_room (Nat.le_of_ble_eq_true rfl)) dX12_drawn_41 ⟨Nat.le_of_ble_eq_true rfl, Nat.le_of_ble_eq_true rfl⟩) hS (fun _ h => h) (fun _ h => h) (fun q_65 H locs hY hk hS => ?_)
          obtain ⟨hq_65, hP⟩ := hY
          replace hq_65 := hq_65.symm
          subst hq_65
          refine lv_if_ne (tgt := 61) hx hb dX12_drawn_44 (by decide) (fun c_66 => ?_) (fun c_66 => ?_)
          · rw [if_neg c_66] at h
            refine lv_aload_n hx hb dX12_drawn_61 rfl (lv_at hl 0 rfl) ?_
            obtain ⟨f_67, wl_68, r_69, z_70, h⟩ := gb_bd_s h
            refine gb_callv (va_runV (C := RX12) (As := []) (rest := []) ⟨hx, hb, hml, hown, hq⟩ (mc_measures l D cT tt b1 b hb1 n f_61 wl_62 f_67 wl_68 r_69 z_70) (cwV 0 hq (gb_gV w_1528 w_1530 s_5_15 w_14 w_1531) rfl rfl rfl (by decide +kernel) ⟨Nat.le_of_ble_eq_true rfl, Nat.le_of_ble_eq_true rfl⟩) (gb_preV (r := (RX12, TX12, 44)) (ci := 10) (q0 := 0) hSt hP rfl (gb_at b rfl) hS (fun q h => Nat.le_trans hb1 h.1) hP) rfl rfl hl.1 rfl (lv_room (Nat.le_of_ble_eq_true rfl)) dX12_drawn_62 ⟨Nat.le_of_ble_eq_true rfl, Nat.le_of_ble_eq_true rfl⟩) hS (fun _ h => h) (fun _ h => h) (fun H locs hY hk hS => ?_)
            have hP := hY
            refine lv_aload_n hx hb dX12_drawn_65 rfl (lv_at hl 0 rfl) ?_
            refine lv_iload_n hx hb dX12_drawn_66 rfl (lv_at hl 2 rfl) ?_
            refine gb_put (ci := 10) (v := (.int p2)) (ty := .int) (C := RX12) (T := TX12) (N := 44) hx hb hq i_X12 tyX12 tyX12_ok nmX12 hown hK hP (fun k h => ⟨Nat.le_add_right b k, Nat.add_lt_add_left h b⟩) hS rfl 0 rfl rfl 38 (by decide) (hq _ w_1162) (fun _ h9 => h9) rfl (by decide +kernel) rfl rfl (Nat.le_of_ble_eq_true rfl) dX12_drawn_67 (fun H locs hP hz_ hS => ?_)
            obtain ⟨f_72, ef_72⟩ : ∃ q, q = (gb_u f_67 0 (upd (f_67 0) 38 p2)) := ⟨_, rfl⟩
            replace hP : va_P D vwCl (gb_wl b (gb_MW cT b f_72 wl_68)) H := by rw [ef_72]; exact hP
            replace h := gb_lt_s ef_72 h
            refine lv_aload_n hx hb dX12_drawn_70 rfl (lv_at hl 0 rfl) ?_
            refine lv_iconst (v := 0) hx hb dX12_drawn_71 (by decide) ?_
            refine gb_put (ci := 10) (v := (.int 0)) (ty := .int) (C := RX12) (T := TX12) (N := 44) hx hb hq i_X12 tyX12 tyX12_ok nmX12 hown hK hP (fun k h => ⟨Nat.le_add_right b k, Nat.add_lt_add_left h b⟩) hS rfl 0 rfl rfl 41 (by decide) (hq _ w_1165) (fun _ h9 => h9) rfl (by decide +kernel) rfl rfl (Nat.le_of_ble_eq_true rfl) dX12_drawn_72 (fun H locs hP hz_ hS => ?_)
            obtain ⟨f_73, ef_73⟩ : ∃ q, q = (gb_u f_72 0 (upd (f_72 0) 41 0)) := ⟨_, rfl⟩
            replace hP : va_P D vwCl (gb_wl b (gb_MW cT b f_73 wl_68)) H := by rw [ef_73]; exact hP
            replace h := gb_lt_s ef_73 h
            refine lv_aload_n hx hb dX12_drawn_75 rfl (lv_at hl 0 rfl) ?_
            refine lv_iconst (v := 0) hx hb dX12_drawn_76 (by decide) ?_
            refine gb_put (ci := 10) (v := (.int 0)) (ty := .int) (C := RX12) (T := TX12) (N := 44) hx hb hq i_X12 tyX12 tyX12_ok nmX12 hown hK hP (fun k h => ⟨Nat.le_add_right b k, Nat.add_lt_add_left h b⟩) hS rfl 0 rfl rfl 42 (by decide) (hq _ w_1166) (fun _ h9 => h9) rfl (by decide +kernel) rfl rfl (Nat.le_of_ble_eq_true rfl) dX12_drawn_77 (fun H locs hP hz_ hS => ?_)
            obtain ⟨f_74, ef_74⟩ : ∃ q, q = (gb_u f_73 0 (upd (f_73 0) 42 0)) := ⟨_, rfl⟩
            replace hP : va_P D vwCl (gb_wl b (gb_MW cT b f_74 wl_68)) H := by rw [ef_74]; exact hP
            replace h := gb_lt_s ef_74 h
            refine lv_iconst (v := 0) hx hb dX12_drawn_80 (by decide) ?_
            refine lv_istore (lv' := [(5, .int 0), (0, .ref (b + 0)), (1, .int p1), (2, .int p2), (3, .int p3), (4, .int p4)]) hx hb dX12_drawn_81 hl (by decide) rfl (fun ls hl => ?_)
            exact L83 n _ _ _ _ _ _ _ _ h hP hS (lv_sub hl [1, 4, 5, 0] rfl)
          · rw [if_pos c_66] at h
            refine lv_aload_n hx hb dX12_drawn_47 rfl (lv_at hl 0 rfl) ?_
            refine lv_iload hx hb dX12_drawn_48 (lv_at hl 4 rfl) ?_
            refine lv_bipush (v := 20) hx hb dX12_drawn_50 (by decide) ?_
            refine lv_isub hx hb dX12_drawn_52 ?_
            obtain ⟨f_75, wl_76, r_77, z_78, h⟩ := gb_bd_s h
            refine gb_calli (va_runV (C := RX12) (As := [.int (p4 - 20)]) (rest := []) ⟨hx, hb, hml, hown, hq⟩ (mc_isGoose l D cT tt b1 b hb1 n f_61 wl_62 (p4 - 20) f_75 wl_76 r_77 z_78) (cwV 1 hq (gb_gV w_1392 w_1394 s_4_6 w_14 w_1395) rfl rfl rfl (by decide +kernel) ⟨Nat.le_of_ble_eq_true rfl, Nat.le_of_ble_eq_true rfl⟩) (gb_preV (r := (RX12, TX12, 44)) (ci := 10) (q0 := 0) hSt hP rfl (gb_at b rfl) hS (fun q h => Nat.le_trans hb1 h.1) hP) rfl rfl hl.1 rfl (lv_room (Nat.le_of_ble_eq_true rfl)) dX12_drawn_53 ⟨Nat.le_of_ble_eq_true rfl, Nat.le_of_ble_eq_true rfl⟩) hS (fun _ h => h) (fun _ h => h) (fun q_79 H locs hY hk hS => ?_)
            obtain ⟨hq_79, hP⟩ := hY
            replace hq_79 := hq_79.symm
            subst hq_79
            refine lv_if_ne (tgt := 61) hx hb dX12_drawn_56 (by decide) (fun c_80 => ?_) (fun c_80 => ?_)
            · rw [if_neg c_80] at h
              refine lv_aload_n hx hb dX12_drawn_61 rfl (lv_at hl 0 rfl) ?_
              obtain ⟨f_81, wl_82, r_83, z_84, h⟩ := gb_bd_s h
              refine gb_callv (va_runV (C := RX12) (As := []) (rest := []) ⟨hx, hb, hml, hown, hq⟩ (mc_measures l D cT tt b1 b hb1 n f_75 wl_76 f_81 wl_82 r_83 z_84) (cwV 0 hq (gb_gV w_1528 w_1530 s_5_15 w_14 w_1531) rfl rfl rfl (by decide +kernel) ⟨Nat.le_of_ble_eq_true rfl, Nat.le_of_ble_eq_true rfl⟩) (gb_preV (r := (RX12, TX12, 44)) (ci := 10) (q0 := 0) hSt hP rfl (gb_at b rfl) hS (fun q h => Nat.le_trans hb1 h.1) hP) rfl rfl hl.1 rfl (lv_room (Nat.le_of_ble_eq_true rfl)) dX12_drawn_62 ⟨Nat.le_of_ble_eq_true rfl, Nat.le_of_ble_eq_true rfl⟩) hS (fun _ h => h) (fun _ h => h) (fun H locs hY hk hS => ?_)
              have hP := hY
              refine lv_aload_n hx hb dX12_drawn_65 rfl (lv_at hl 0 rfl) ?_
              refine lv_iload_n hx hb dX12_drawn_66 rfl (lv_at hl 2 rfl) ?_
              refine gb_put (ci := 10) (v := (.int p2)) (ty := .int) (C := RX12) (T := TX12) (N := 44) hx hb hq i_X12 tyX12 tyX12_ok nmX12 hown hK hP (fun k h => ⟨Nat.le_add_right b k, Nat.add_lt_add_left h b⟩) hS rfl 0 rfl rfl 38 (by decide) (hq _ w_1162) (fun _ h9 => h9) rfl (by decide +kernel) rfl rfl (Nat.le_of_ble_eq_true rfl) dX12_drawn_67 (fun H locs hP hz_ hS => ?_)
              obtain ⟨f_86, ef_86⟩ : ∃ q, q = (gb_u f_81 0 (upd (f_81 0) 38 p2)) := ⟨_, rfl⟩
              replace hP : va_P D vwCl (gb_wl b (gb_MW cT b f_86 wl_82)) H := by rw [ef_86]; exact hP
              replace h := gb_lt_s ef_86 h
              refine lv_aload_n hx hb dX12_drawn_70 rfl (lv_at hl 0 rfl) ?_
              refine lv_iconst (v := 0) hx hb dX12_drawn_71 (by decide) ?_
              refine gb_put (ci := 10) (v := (.int 0)) (ty := .int) (C := RX12) (T := TX12) (N := 44) hx hb hq i_X12 tyX12 tyX12_ok nmX12 hown hK hP (fun k h => ⟨Nat.le_add_right b k, Nat.add_lt_add_left h b⟩) hS rfl 0 rfl rfl 41 (by decide) (hq _ w_1165) (fun _ h9 => h9) rfl (by decide +kernel) rfl rfl (Nat.le_of_ble_eq_true rfl) dX12_drawn_72 (fun H locs hP hz_ hS => ?_)
              obtain ⟨f_87, ef_87⟩ : ∃ q, q = (gb_u f_86 0 (upd (f_86 0) 41 0)) := ⟨_, rfl⟩
              replace hP : va_P D vwCl (gb_wl b (gb_MW cT b f_87 wl_82)) H := by rw [ef_87]; exact hP
              replace h := gb_lt_s ef_87 h
              refine lv_aload_n hx hb dX12_drawn_75 rfl (lv_at hl 0 rfl) ?_
              refine lv_iconst (v := 0) hx hb dX12_drawn_76 (by decide) ?_
              refine gb_put (ci := 10) (v := (.int 0)) (ty := .int) (C := RX12) (T := TX12) (N := 44) hx hb hq i_X12 tyX12 tyX12_ok nmX12 hown hK hP (fun k h => ⟨Nat.le_add_right b k, Nat.add_lt_add_left h b⟩) hS rfl 0 rfl rfl 42 (by decide) (hq _ w_1166) (fun _ h9 => h9) rfl (by decide +kernel) rfl rfl (Nat.le_of_ble_eq_true rfl) dX12_drawn_77 (fun H locs hP hz_ hS => ?_)
              obtain ⟨f_88, ef_88⟩ : ∃ q, q = (gb_u f_87 0 (upd (f_87 0) 42 0)) := ⟨_, rfl⟩
              replace hP : va_P D vwCl (gb_wl b (gb_MW cT b f_88 wl_82)) H := by rw [ef_88]; exact hP
              replace h := gb_lt_s ef_88 h
              refine lv_iconst (v := 0) hx hb dX12_drawn_80 (by decide) ?_
              refine lv_istore (lv' := [(5, .int 0), (0, .ref (b + 0)), (1, .int p1), (2, .int p2), (3, .int p3), (4, .int p4)]) hx hb dX12_drawn_81 hl (by decide) rfl (fun ls hl => ?_)
              exact L83 n _ _ _ _ _ _ _ _ h hP hS (lv_sub hl [1, 4, 5, 0] rfl)
            · rw [if_pos c_80] at h
              refine lv_iconst (v := (-1)) hx hb dX12_drawn_59 (by decide) ?_
              obtain ⟨e1, e2, e3⟩ := gb_eq3 h
              exact W.iret (v := (-1)) hx hb hr (fun t ht hW => gb_ri ht ⟨e3, by rw [← e1, ← e2]; exact hP⟩ hS) hS.2.2 dX12_drawn_60
