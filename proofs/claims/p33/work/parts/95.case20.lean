theorem dL_law_1076 : decode cL_law 1076 = .ok (.aload_n 1, 1) := dc_43 (dc_cut (j := 52) (n := 1) (l := [43]) dq_cL_law_1024 (by decide +kernel) (by decide))
theorem dL_law_1077 : decode cL_law 1077 = .ok (.aload_n 0, 1) := dc_42 (dc_cut (j := 53) (n := 1) (l := [42]) dq_cL_law_1024 (by decide +kernel) (by decide))
theorem dL_law_1078 : decode cL_law 1078 = .ok (.iload_n 3, 1) := dc_29 (dc_cut (j := 54) (n := 1) (l := [29]) dq_cL_law_1024 (by decide +kernel) (by decide))
theorem dL_law_1079 : decode cL_law 1079 = .ok (.iconst 1, 1) := dc_4 (dc_cut (j := 55) (n := 1) (l := [4]) dq_cL_law_1024 (by decide +kernel) (by decide))
theorem dL_law_1080 : decode cL_law 1080 = .ok (.iadd, 1) := dc_96 (dc_cut (j := 56) (n := 1) (l := [96]) dq_cL_law_1024 (by decide +kernel) (by decide))
theorem dL_law_1081 : decode cL_law 1081 = .ok (.iaload, 1) := dc_46 (dc_cut (j := 57) (n := 1) (l := [46]) dq_cL_law_1024 (by decide +kernel) (by decide))
theorem dL_law_1082 : decode cL_law 1082 = .ok (.aload_n 0, 1) := dc_42 (dc_cut (j := 58) (n := 1) (l := [42]) dq_cL_law_1024 (by decide +kernel) (by decide))
theorem dL_law_1083 : decode cL_law 1083 = .ok (.iload_n 3, 1) := dc_29 (dc_cut (j := 59) (n := 1) (l := [29]) dq_cL_law_1024 (by decide +kernel) (by decide))
theorem dL_law_1084 : decode cL_law 1084 = .ok (.iconst 2, 1) := dc_5 (dc_cut (j := 60) (n := 1) (l := [5]) dq_cL_law_1024 (by decide +kernel) (by decide))
theorem dL_law_1085 : decode cL_law 1085 = .ok (.iadd, 1) := dc_96 (dc_cut (j := 61) (n := 1) (l := [96]) dq_cL_law_1024 (by decide +kernel) (by decide))
theorem dL_law_1086 : decode cL_law 1086 = .ok (.iaload, 1) := dc_46 (dc_cut (j := 62) (n := 1) (l := [46]) dq_cL_law_1024 (by decide +kernel) (by decide))
theorem dL_law_1087 : decode cL_law 1087 = .ok (.invokevirtual 99, 3) := dc_182 (dc_cut (j := 63) (n := 3) (l := [182, 0, 99]) dq_cL_law_1024 (by decide +kernel) (by decide)) rfl
theorem w_1039 : (Cond.methodLink "GooseBorderLaw" (99 : Nat) ({ cls := "GooseBorder", name := "fits", desc := "(II)J" } : MethodName)) ∈ gb_wA := gb_t5 79 rfl rfl
theorem w_1040 : (Cond.instanceMethod ({ cls := "GooseBorder", name := "fits", desc := "(II)J" } : MethodName)) ∈ gb_wA := gb_t5 80 rfl rfl
theorem w_1041 : (Cond.selects "GooseBorder" ({ cls := "GooseBorder", name := "fits", desc := "(II)J" } : MethodName) ({ cls := "GooseBorder", name := "fits", desc := "(II)J" } : MethodName)) ∈ gb_wA := gb_t5 81 rfl rfl
theorem w_1042 : (Cond.code ({ cls := "GooseBorder", name := "fits", desc := "(II)J" } : MethodName) prog_1_method_45_code (5 : Nat) (Option.some FieldType.long)) ∈ gb_wA := gb_t5 82 rfl rfl
theorem dq_cL_law_1088 : ((cL_law.data.toList.drop 1088).take 67).map UInt8.toNat = [0, 99, 88, 44, 42, 29, 4, 96, 46, 42, 29, 5, 96, 46, 182, 0, 103, 88, 167, 3, 16, 43, 42, 29, 4, 96, 46, 42, 29, 5, 96, 46, 42, 29, 6, 96, 46, 182, 0, 104, 87, 44, 42, 29, 4, 96, 46, 42, 29, 5, 96, 46, 42, 29, 6, 96, 46, 182, 0, 107, 87, 167, 2, 229, 43, 42, 29] := by decide +kernel
theorem dL_law_1090 : decode cL_law 1090 = .ok (.pop2, 1) := dc_88 (dc_cut (j := 2) (n := 1) (l := [88]) dq_cL_law_1088 (by decide +kernel) (by decide))
theorem dL_law_1091 : decode cL_law 1091 = .ok (.aload_n 2, 1) := dc_44 (dc_cut (j := 3) (n := 1) (l := [44]) dq_cL_law_1088 (by decide +kernel) (by decide))
theorem dL_law_1092 : decode cL_law 1092 = .ok (.aload_n 0, 1) := dc_42 (dc_cut (j := 4) (n := 1) (l := [42]) dq_cL_law_1088 (by decide +kernel) (by decide))
theorem dL_law_1093 : decode cL_law 1093 = .ok (.iload_n 3, 1) := dc_29 (dc_cut (j := 5) (n := 1) (l := [29]) dq_cL_law_1088 (by decide +kernel) (by decide))
theorem dL_law_1094 : decode cL_law 1094 = .ok (.iconst 1, 1) := dc_4 (dc_cut (j := 6) (n := 1) (l := [4]) dq_cL_law_1088 (by decide +kernel) (by decide))
theorem dL_law_1095 : decode cL_law 1095 = .ok (.iadd, 1) := dc_96 (dc_cut (j := 7) (n := 1) (l := [96]) dq_cL_law_1088 (by decide +kernel) (by decide))
theorem dL_law_1096 : decode cL_law 1096 = .ok (.iaload, 1) := dc_46 (dc_cut (j := 8) (n := 1) (l := [46]) dq_cL_law_1088 (by decide +kernel) (by decide))
theorem dL_law_1097 : decode cL_law 1097 = .ok (.aload_n 0, 1) := dc_42 (dc_cut (j := 9) (n := 1) (l := [42]) dq_cL_law_1088 (by decide +kernel) (by decide))
theorem dL_law_1098 : decode cL_law 1098 = .ok (.iload_n 3, 1) := dc_29 (dc_cut (j := 10) (n := 1) (l := [29]) dq_cL_law_1088 (by decide +kernel) (by decide))
theorem dL_law_1099 : decode cL_law 1099 = .ok (.iconst 2, 1) := dc_5 (dc_cut (j := 11) (n := 1) (l := [5]) dq_cL_law_1088 (by decide +kernel) (by decide))
theorem dL_law_1100 : decode cL_law 1100 = .ok (.iadd, 1) := dc_96 (dc_cut (j := 12) (n := 1) (l := [96]) dq_cL_law_1088 (by decide +kernel) (by decide))
theorem dL_law_1101 : decode cL_law 1101 = .ok (.iaload, 1) := dc_46 (dc_cut (j := 13) (n := 1) (l := [46]) dq_cL_law_1088 (by decide +kernel) (by decide))
theorem dL_law_1102 : decode cL_law 1102 = .ok (.invokevirtual 103, 3) := dc_182 (dc_cut (j := 14) (n := 3) (l := [182, 0, 103]) dq_cL_law_1088 (by decide +kernel) (by decide)) rfl
theorem w_1604 : (Cond.methodLink "GooseBorderLaw" (103 : Nat) ({ cls := "GooseBorderModel", name := "fits", desc := "(II)J" } : MethodName)) ∈ gb_wA := gb_t7 164 rfl rfl
theorem w_1605 : (Cond.instanceMethod ({ cls := "GooseBorderModel", name := "fits", desc := "(II)J" } : MethodName)) ∈ gb_wA := gb_t7 165 rfl rfl
theorem w_1606 : (Cond.selects "GooseBorderModel" ({ cls := "GooseBorderModel", name := "fits", desc := "(II)J" } : MethodName) ({ cls := "GooseBorderModel", name := "fits", desc := "(II)J" } : MethodName)) ∈ gb_wA := gb_t7 166 rfl rfl
theorem w_1607 : (Cond.code ({ cls := "GooseBorderModel", name := "fits", desc := "(II)J" } : MethodName) prog_14_method_96_code (3 : Nat) (Option.some FieldType.long)) ∈ gb_wA := gb_t7 167 rfl rfl
theorem dL_law_1105 : decode cL_law 1105 = .ok (.pop2, 1) := dc_88 (dc_cut (j := 17) (n := 1) (l := [88]) dq_cL_law_1088 (by decide +kernel) (by decide))
theorem dL_law_1106 : decode cL_law 1106 = .ok (.goto 784, 3) := dc_167 (dc_cut (j := 18) (n := 3) (l := [167, 3, 16]) dq_cL_law_1088 (by decide +kernel) (by decide)) rfl
set_option maxHeartbeats 4000000 in
set_option maxRecDepth 100000 in
theorem law_c20 {p : Program} {l : Launch} {e : Env} {s : State} {m : MethodId} {below : List Frame} {meth : Method} {c : Code} {b z L : Nat} {xs : Nat → Int32} (C0 : lw_At p s m meth c b L xs) (hzz : Array.size s.heap = z) {D : va_G} {cT : Nat → ClassId} {tt ak av : Nat → Nat} (hSt2 : gb_St2 D cT tt ak av z s) {i : Int32} (h1 : vp_in (i + 1) L) (h2 : vp_in (i + 2) L) (h3 : vp_in (i + 3) L) (h4 : vp_in (i + 4) L) (h5 : vp_in (i + 5) L) (hend : ∀ (σ : gb_S) (f : gb_F) (w : Int64) (H : Heap) (locs : List Loc) (ls : Array Slot), gb_Inv σ f → va_P D vwCl (gb_wl z (gb_CW cT z σ)) H → va_P D vwCl (gb_wl (z + 135) (gb_MW cT (z + 135) f w)) H → va_S (gb_ge z) s.heap H locs → lv_has ls 4 [(3, .int i), (2, .ref (z + 135 + 0)), (1, .ref (z + 0)), (0, .ref b)] → W p l e room_1 s m #[Value.ref b] below meth c H locs 157 10381 (lw_Z below #[Value.ref b] s) (F0 m 1890 ls [])) : ∀ (σ : gb_S) (f : gb_F) (w : Int64) (H : Heap) (locs : List Loc) (ls : Array Slot), gb_Inv σ f → va_P D vwCl (gb_wl z (gb_CW cT z σ)) H → va_P D vwCl (gb_wl (z + 135) (gb_MW cT (z + 135) f w)) H → va_S (gb_ge z) s.heap H locs → lv_has ls 4 [(3, .int i), (2, .ref (z + 135 + 0)), (1, .ref (z + 0)), (0, .ref b)] → W p l e room_1 s m #[Value.ref b] below meth c H locs 157 10381 (lw_Z below #[Value.ref b] s) (F0 m 1076 ls []) := by
  obtain ⟨hx, hb, hr, hml, hown, hts, hX, hbl, hlocks, hgv⟩ := C0
  have hq : ∀ w ∈ gb_wA, w.before #[Value.ref b] s = true := fun w h => hts w (gb_wA_tbl w h)
  have hbA : ¬ gb_ge z b := Nat.not_le.mpr (by rw [← hzz]; exact hbl)
  intro σ f w H locs ls hI hPc hPm hS hl
  refine lv_aload_n hx hb dL_law_1076 rfl (lv_at hl 2 rfl) ?_
  refine lv_aload_n hx hb dL_law_1077 rfl (lv_at hl 3 rfl) ?_
  refine lv_iload_n hx hb dL_law_1078 rfl (lv_at hl 0 rfl) ?_
  refine lv_iconst (v := 1) hx hb dL_law_1079 (by decide) ?_
  refine lv_iadd hx hb dL_law_1080 ?_
  refine va_sld hx hb hX hbl hbA hS h1 dL_law_1081 ?_
  refine lv_aload_n hx hb dL_law_1082 rfl (lv_at hl 3 rfl) ?_
  refine lv_iload_n hx hb dL_law_1083 rfl (lv_at hl 0 rfl) ?_
  refine lv_iconst (v := 2) hx hb dL_law_1084 (by decide) ?_
  refine lv_iadd hx hb dL_law_1085 ?_
  refine va_sld hx hb hX hbl hbA hS h2 dL_law_1086 ?_
  obtain ⟨σ2, ra, f2, w2, qa, ec, em, hI2, hcmp⟩ := law_s_fits (xs (Int32.toNatClampNeg (i + 1))) (xs (Int32.toNatClampNeg (i + 2))) w hI
  refine gb_calll (va_runV (C := RX11) (As := [.int (xs (Int32.toNatClampNeg (i + 1))), .int (xs (Int32.toNatClampNeg (i + 2)))]) (rest := []) ⟨hx, hb, hml, hown, hq⟩ (cc_Face_fits l D cT tt z z (Nat.le_refl z) gb_N σ (xs (Int32.toNatClampNeg (i + 1))) (xs (Int32.toNatClampNeg (i + 2))) σ2 ra ec) (cwV 2 hq (gb_gV w_1039 w_1040 w_1041 w_1 w_1042) rfl rfl rfl (by decide +kernel) ⟨Nat.le_of_ble_eq_true rfl, Nat.le_of_ble_eq_true rfl⟩) (gb_preV (r := (RX11, TX11, 10)) (ci := 9) (q0 := 0) hSt2.1 hPc rfl (gb_at z rfl) hS (fun q h => h) hPc) rfl rfl hl.1 rfl (lv_room (Nat.le_of_ble_eq_true rfl)) dL_law_1087 ⟨Nat.le_of_ble_eq_true rfl, Nat.le_of_ble_eq_true rfl⟩) hS (fun q h => h.1) (fun q h => h.1) (fun rc H2 locs2 hY hk hS => ?_)
  obtain ⟨hr_, hY⟩ := hY
  subst hr_
  have hPm := gb_kept hPm (fun q h1 h2 => hk q (Nat.lt_of_lt_of_le h2 ((hPm 21 _ (gb_at (z + 135) rfl)).lt)) (fun h3 => Nat.not_lt.mpr h1 h3.2))
  have hPc := hY
  clear hY
  refine lv_pop2_2 hx hb dL_law_1090 rfl ?_
  refine lv_aload_n hx hb dL_law_1091 rfl (lv_at hl 1 rfl) ?_
  refine lv_aload_n hx hb dL_law_1092 rfl (lv_at hl 3 rfl) ?_
  refine lv_iload_n hx hb dL_law_1093 rfl (lv_at hl 0 rfl) ?_
  refine lv_iconst (v := 1) hx hb dL_law_1094 (by decide) ?_
  refine lv_iadd hx hb dL_law_1095 ?_
  refine va_sld hx hb hX hbl hbA hS h1 dL_law_1096 ?_
  refine lv_aload_n hx hb dL_law_1097 rfl (lv_at hl 3 rfl) ?_
  refine lv_iload_n hx hb dL_law_1098 rfl (lv_at hl 0 rfl) ?_
  refine lv_iconst (v := 2) hx hb dL_law_1099 (by decide) ?_
  refine lv_iadd hx hb dL_law_1100 ?_
  refine va_sld hx hb hX hbl hbA hS h2 dL_law_1101 ?_
  refine gb_calll (va_runV (C := RX12) (As := [.int (xs (Int32.toNatClampNeg (i + 1))), .int (xs (Int32.toNatClampNeg (i + 2)))]) (rest := []) ⟨hx, hb, hml, hown, hq⟩ (mc_fits l D cT tt z (z + 135) (Nat.le_add_right z 135) gb_N f w (xs (Int32.toNatClampNeg (i + 1))) (xs (Int32.toNatClampNeg (i + 2))) f2 w2 qa em) (cwV 2 hq (gb_gV w_1604 w_1605 w_1606 w_14 w_1607) rfl rfl rfl (by decide +kernel) ⟨Nat.le_of_ble_eq_true rfl, Nat.le_of_ble_eq_true rfl⟩) (gb_preV (r := (RX12, TX12, 44)) (ci := 10) (q0 := 0) hSt2.1 hPm rfl (gb_at (z + 135) rfl) hS (fun q h => h) hPm) rfl rfl hl.1 rfl (lv_room (Nat.le_of_ble_eq_true rfl)) dL_law_1102 ⟨Nat.le_of_ble_eq_true rfl, Nat.le_of_ble_eq_true rfl⟩) hS (fun q h => Nat.le_trans (Nat.le_add_right z 135) h.1) (fun q h => Nat.le_trans (Nat.le_add_right z 135) h.1) (fun rm H2 locs2 hY hk hS => ?_)
  obtain ⟨hr_, hY⟩ := hY
  subst hr_
  have hPc := gb_kept hPc (fun q h1 h2 => hk q (Nat.lt_of_lt_of_le h2 (Nat.le_of_lt (Nat.lt_of_le_of_lt (Nat.le_add_right (z + 135) 21) ((hPm 21 _ (gb_at (z + 135) rfl)).lt)))) (fun h3 => Nat.not_lt.mpr h3.1 h2))
  have hPm := hY
  clear hY
  refine lv_pop2_2 hx hb dL_law_1105 rfl ?_
  refine lv_goto (tgt := 1890) hx hb dL_law_1106 (by decide) ?_
  exact hend _ _ _ _ _ _ hI2 hPc hPm hS hl
theorem dL_law_1109 : decode cL_law 1109 = .ok (.aload_n 1, 1) := dc_43 (dc_cut (j := 21) (n := 1) (l := [43]) dq_cL_law_1088 (by decide +kernel) (by decide))
theorem dL_law_1110 : decode cL_law 1110 = .ok (.aload_n 0, 1) := dc_42 (dc_cut (j := 22) (n := 1) (l := [42]) dq_cL_law_1088 (by decide +kernel) (by decide))
theorem dL_law_1111 : decode cL_law 1111 = .ok (.iload_n 3, 1) := dc_29 (dc_cut (j := 23) (n := 1) (l := [29]) dq_cL_law_1088 (by decide +kernel) (by decide))
theorem dL_law_1112 : decode cL_law 1112 = .ok (.iconst 1, 1) := dc_4 (dc_cut (j := 24) (n := 1) (l := [4]) dq_cL_law_1088 (by decide +kernel) (by decide))
theorem dL_law_1113 : decode cL_law 1113 = .ok (.iadd, 1) := dc_96 (dc_cut (j := 25) (n := 1) (l := [96]) dq_cL_law_1088 (by decide +kernel) (by decide))
theorem dL_law_1114 : decode cL_law 1114 = .ok (.iaload, 1) := dc_46 (dc_cut (j := 26) (n := 1) (l := [46]) dq_cL_law_1088 (by decide +kernel) (by decide))
theorem dL_law_1115 : decode cL_law 1115 = .ok (.aload_n 0, 1) := dc_42 (dc_cut (j := 27) (n := 1) (l := [42]) dq_cL_law_1088 (by decide +kernel) (by decide))
theorem dL_law_1116 : decode cL_law 1116 = .ok (.iload_n 3, 1) := dc_29 (dc_cut (j := 28) (n := 1) (l := [29]) dq_cL_law_1088 (by decide +kernel) (by decide))
theorem dL_law_1117 : decode cL_law 1117 = .ok (.iconst 2, 1) := dc_5 (dc_cut (j := 29) (n := 1) (l := [5]) dq_cL_law_1088 (by decide +kernel) (by decide))
theorem dL_law_1118 : decode cL_law 1118 = .ok (.iadd, 1) := dc_96 (dc_cut (j := 30) (n := 1) (l := [96]) dq_cL_law_1088 (by decide +kernel) (by decide))
theorem dL_law_1119 : decode cL_law 1119 = .ok (.iaload, 1) := dc_46 (dc_cut (j := 31) (n := 1) (l := [46]) dq_cL_law_1088 (by decide +kernel) (by decide))
theorem dL_law_1120 : decode cL_law 1120 = .ok (.aload_n 0, 1) := dc_42 (dc_cut (j := 32) (n := 1) (l := [42]) dq_cL_law_1088 (by decide +kernel) (by decide))
theorem dL_law_1121 : decode cL_law 1121 = .ok (.iload_n 3, 1) := dc_29 (dc_cut (j := 33) (n := 1) (l := [29]) dq_cL_law_1088 (by decide +kernel) (by decide))
theorem dL_law_1122 : decode cL_law 1122 = .ok (.iconst 3, 1) := dc_6 (dc_cut (j := 34) (n := 1) (l := [6]) dq_cL_law_1088 (by decide +kernel) (by decide))
theorem dL_law_1123 : decode cL_law 1123 = .ok (.iadd, 1) := dc_96 (dc_cut (j := 35) (n := 1) (l := [96]) dq_cL_law_1088 (by decide +kernel) (by decide))
theorem dL_law_1124 : decode cL_law 1124 = .ok (.iaload, 1) := dc_46 (dc_cut (j := 36) (n := 1) (l := [46]) dq_cL_law_1088 (by decide +kernel) (by decide))
theorem dL_law_1125 : decode cL_law 1125 = .ok (.invokevirtual 104, 3) := dc_182 (dc_cut (j := 37) (n := 3) (l := [182, 0, 104]) dq_cL_law_1088 (by decide +kernel) (by decide)) rfl
theorem w_1067 : (Cond.methodLink "GooseBorderLaw" (104 : Nat) ({ cls := "GooseBorder", name := "told", desc := "(III)I" } : MethodName)) ∈ gb_wA := gb_t5 107 rfl rfl
theorem w_1068 : (Cond.instanceMethod ({ cls := "GooseBorder", name := "told", desc := "(III)I" } : MethodName)) ∈ gb_wA := gb_t5 108 rfl rfl
theorem w_1069 : (Cond.selects "GooseBorder" ({ cls := "GooseBorder", name := "told", desc := "(III)I" } : MethodName) ({ cls := "GooseBorder", name := "told", desc := "(III)I" } : MethodName)) ∈ gb_wA := gb_t5 109 rfl rfl
theorem w_1070 : (Cond.code ({ cls := "GooseBorder", name := "told", desc := "(III)I" } : MethodName) prog_1_method_46_code (7 : Nat) (Option.some FieldType.int)) ∈ gb_wA := gb_t5 110 rfl rfl
theorem dL_law_1128 : decode cL_law 1128 = .ok (.pop, 1) := dc_87 (dc_cut (j := 40) (n := 1) (l := [87]) dq_cL_law_1088 (by decide +kernel) (by decide))
theorem dL_law_1129 : decode cL_law 1129 = .ok (.aload_n 2, 1) := dc_44 (dc_cut (j := 41) (n := 1) (l := [44]) dq_cL_law_1088 (by decide +kernel) (by decide))
theorem dL_law_1130 : decode cL_law 1130 = .ok (.aload_n 0, 1) := dc_42 (dc_cut (j := 42) (n := 1) (l := [42]) dq_cL_law_1088 (by decide +kernel) (by decide))
theorem dL_law_1131 : decode cL_law 1131 = .ok (.iload_n 3, 1) := dc_29 (dc_cut (j := 43) (n := 1) (l := [29]) dq_cL_law_1088 (by decide +kernel) (by decide))
theorem dL_law_1132 : decode cL_law 1132 = .ok (.iconst 1, 1) := dc_4 (dc_cut (j := 44) (n := 1) (l := [4]) dq_cL_law_1088 (by decide +kernel) (by decide))
theorem dL_law_1133 : decode cL_law 1133 = .ok (.iadd, 1) := dc_96 (dc_cut (j := 45) (n := 1) (l := [96]) dq_cL_law_1088 (by decide +kernel) (by decide))
theorem dL_law_1134 : decode cL_law 1134 = .ok (.iaload, 1) := dc_46 (dc_cut (j := 46) (n := 1) (l := [46]) dq_cL_law_1088 (by decide +kernel) (by decide))
theorem dL_law_1135 : decode cL_law 1135 = .ok (.aload_n 0, 1) := dc_42 (dc_cut (j := 47) (n := 1) (l := [42]) dq_cL_law_1088 (by decide +kernel) (by decide))
theorem dL_law_1136 : decode cL_law 1136 = .ok (.iload_n 3, 1) := dc_29 (dc_cut (j := 48) (n := 1) (l := [29]) dq_cL_law_1088 (by decide +kernel) (by decide))
theorem dL_law_1137 : decode cL_law 1137 = .ok (.iconst 2, 1) := dc_5 (dc_cut (j := 49) (n := 1) (l := [5]) dq_cL_law_1088 (by decide +kernel) (by decide))
theorem dL_law_1138 : decode cL_law 1138 = .ok (.iadd, 1) := dc_96 (dc_cut (j := 50) (n := 1) (l := [96]) dq_cL_law_1088 (by decide +kernel) (by decide))
theorem dL_law_1139 : decode cL_law 1139 = .ok (.iaload, 1) := dc_46 (dc_cut (j := 51) (n := 1) (l := [46]) dq_cL_law_1088 (by decide +kernel) (by decide))
theorem dL_law_1140 : decode cL_law 1140 = .ok (.aload_n 0, 1) := dc_42 (dc_cut (j := 52) (n := 1) (l := [42]) dq_cL_law_1088 (by decide +kernel) (by decide))
theorem dL_law_1141 : decode cL_law 1141 = .ok (.iload_n 3, 1) := dc_29 (dc_cut (j := 53) (n := 1) (l := [29]) dq_cL_law_1088 (by decide +kernel) (by decide))
theorem dL_law_1142 : decode cL_law 1142 = .ok (.iconst 3, 1) := dc_6 (dc_cut (j := 54) (n := 1) (l := [6]) dq_cL_law_1088 (by decide +kernel) (by decide))
theorem dL_law_1143 : decode cL_law 1143 = .ok (.iadd, 1) := dc_96 (dc_cut (j := 55) (n := 1) (l := [96]) dq_cL_law_1088 (by decide +kernel) (by decide))
theorem dL_law_1144 : decode cL_law 1144 = .ok (.iaload, 1) := dc_46 (dc_cut (j := 56) (n := 1) (l := [46]) dq_cL_law_1088 (by decide +kernel) (by decide))
theorem dL_law_1145 : decode cL_law 1145 = .ok (.invokevirtual 107, 3) := dc_182 (dc_cut (j := 57) (n := 3) (l := [182, 0, 107]) dq_cL_law_1088 (by decide +kernel) (by decide)) rfl
theorem w_1633 : (Cond.methodLink "GooseBorderLaw" (107 : Nat) ({ cls := "GooseBorderModel", name := "told", desc := "(III)I" } : MethodName)) ∈ gb_wA := gb_t7 193 rfl rfl
theorem w_1634 : (Cond.instanceMethod ({ cls := "GooseBorderModel", name := "told", desc := "(III)I" } : MethodName)) ∈ gb_wA := gb_t7 194 rfl rfl
theorem w_1635 : (Cond.selects "GooseBorderModel" ({ cls := "GooseBorderModel", name := "told", desc := "(III)I" } : MethodName) ({ cls := "GooseBorderModel", name := "told", desc := "(III)I" } : MethodName)) ∈ gb_wA := gb_t7 195 rfl rfl
theorem w_1636 : (Cond.code ({ cls := "GooseBorderModel", name := "told", desc := "(III)I" } : MethodName) prog_14_method_98_code (4 : Nat) (Option.some FieldType.int)) ∈ gb_wA := gb_t7 196 rfl rfl
theorem dL_law_1148 : decode cL_law 1148 = .ok (.pop, 1) := dc_87 (dc_cut (j := 60) (n := 1) (l := [87]) dq_cL_law_1088 (by decide +kernel) (by decide))
theorem dL_law_1149 : decode cL_law 1149 = .ok (.goto 741, 3) := dc_167 (dc_cut (j := 61) (n := 3) (l := [167, 2, 229]) dq_cL_law_1088 (by decide +kernel) (by decide)) rfl
set_option maxHeartbeats 4000000 in
set_option maxRecDepth 100000 in
theorem law_c21 {p : Program} {l : Launch} {e : Env} {s : State} {m : MethodId} {below : List Frame} {meth : Method} {c : Code} {b z L : Nat} {xs : Nat → Int32} (C0 : lw_At p s m meth c b L xs) (hzz : Array.size s.heap = z) {D : va_G} {cT : Nat → ClassId} {tt ak av : Nat → Nat} (hSt2 : gb_St2 D cT tt ak av z s) {i : Int32} (h1 : vp_in (i + 1) L) (h2 : vp_in (i + 2) L) (h3 : vp_in (i + 3) L) (h4 : vp_in (i + 4) L) (h5 : vp_in (i + 5) L) (hend : ∀ (σ : gb_S) (f : gb_F) (w : Int64) (H : Heap) (locs : List Loc) (ls : Array Slot), gb_Inv σ f → va_P D vwCl (gb_wl z (gb_CW cT z σ)) H → va_P D vwCl (gb_wl (z + 135) (gb_MW cT (z + 135) f w)) H → va_S (gb_ge z) s.heap H locs → lv_has ls 4 [(3, .int i), (2, .ref (z + 135 + 0)), (1, .ref (z + 0)), (0, .ref b)] → W p l e room_1 s m #[Value.ref b] below meth c H locs 157 10381 (lw_Z below #[Value.ref b] s) (F0 m 1890 ls [])) : ∀ (σ : gb_S) (f : gb_F) (w : Int64) (H : Heap) (locs : List Loc) (ls : Array Slot), gb_Inv σ f → va_P D vwCl (gb_wl z (gb_CW cT z σ)) H → va_P D vwCl (gb_wl (z + 135) (gb_MW cT (z + 135) f w)) H → va_S (gb_ge z) s.heap H locs → lv_has ls 4 [(3, .int i), (2, .ref (z + 135 + 0)), (1, .ref (z + 0)), (0, .ref b)] → W p l e room_1 s m #[Value.ref b] below meth c H locs 157 10381 (lw_Z below #[Value.ref b] s) (F0 m 1109 ls []) := by
  obtain ⟨hx, hb, hr, hml, hown, hts, hX, hbl, hlocks, hgv⟩ := C0
  have hq : ∀ w ∈ gb_wA, w.before #[Value.ref b] s = true := fun w h => hts w (gb_wA_tbl w h)
  have hbA : ¬ gb_ge z b := Nat.not_le.mpr (by rw [← hzz]; exact hbl)
  intro σ f w H locs ls hI hPc hPm hS hl
  refine lv_aload_n hx hb dL_law_1109 rfl (lv_at hl 2 rfl) ?_
  refine lv_aload_n hx hb dL_law_1110 rfl (lv_at hl 3 rfl) ?_
  refine lv_iload_n hx hb dL_law_1111 rfl (lv_at hl 0 rfl) ?_
  refine lv_iconst (v := 1) hx hb dL_law_1112 (by decide) ?_
  refine lv_iadd hx hb dL_law_1113 ?_
  refine va_sld hx hb hX hbl hbA hS h1 dL_law_1114 ?_
  refine lv_aload_n hx hb dL_law_1115 rfl (lv_at hl 3 rfl) ?_
  refine lv_iload_n hx hb dL_law_1116 rfl (lv_at hl 0 rfl) ?_
  refine lv_iconst (v := 2) hx hb dL_law_1117 (by decide) ?_
  refine lv_iadd hx hb dL_law_1118 ?_
  refine va_sld hx hb hX hbl hbA hS h2 dL_law_1119 ?_
  refine lv_aload_n hx hb dL_law_1120 rfl (lv_at hl 3 rfl) ?_
  refine lv_iload_n hx hb dL_law_1121 rfl (lv_at hl 0 rfl) ?_
  refine lv_iconst (v := 3) hx hb dL_law_1122 (by decide) ?_
  refine lv_iadd hx hb dL_law_1123 ?_
  refine va_sld hx hb hX hbl hbA hS h3 dL_law_1124 ?_
  obtain ⟨σ2, ra, f2, w2, qa, ec, em, hI2, hcmp⟩ := law_s_told (xs (Int32.toNatClampNeg (i + 1))) (xs (Int32.toNatClampNeg (i + 2))) (xs (Int32.toNatClampNeg (i + 3))) w hI
  refine gb_calli (va_runV (C := RX11) (As := [.int (xs (Int32.toNatClampNeg (i + 1))), .int (xs (Int32.toNatClampNeg (i + 2))), .int (xs (Int32.toNatClampNeg (i + 3)))]) (rest := []) ⟨hx, hb, hml, hown, hq⟩ (cc_Face_told l D cT tt z z (Nat.le_refl z) gb_N σ (xs (Int32.toNatClampNeg (i + 1))) (xs (Int32.toNatClampNeg (i + 2))) (xs (Int32.toNatClampNeg (i + 3))) σ2 ra ec) (cwV 3 hq (gb_gV w_1067 w_1068 w_1069 w_1 w_1070) rfl rfl rfl (by decide +kernel) ⟨Nat.le_of_ble_eq_true rfl, Nat.le_of_ble_eq_true rfl⟩) (gb_preV (r := (RX11, TX11, 10)) (ci := 9) (q0 := 0) hSt2.1 hPc rfl (gb_at z rfl) hS (fun q h => h) hPc) rfl rfl hl.1 rfl (lv_room (Nat.le_of_ble_eq_true rfl)) dL_law_1125 ⟨Nat.le_of_ble_eq_true rfl, Nat.le_of_ble_eq_true rfl⟩) hS (fun q h => h.1) (fun q h => h.1) (fun rc H2 locs2 hY hk hS => ?_)
  obtain ⟨hr_, hY⟩ := hY
  subst hr_
  have hPm := gb_kept hPm (fun q h1 h2 => hk q (Nat.lt_of_lt_of_le h2 ((hPm 21 _ (gb_at (z + 135) rfl)).lt)) (fun h3 => Nat.not_lt.mpr h1 h3.2))
  have hPc := hY
  clear hY
  refine lv_pop hx hb dL_law_1128 rfl ?_
  refine lv_aload_n hx hb dL_law_1129 rfl (lv_at hl 1 rfl) ?_
  refine lv_aload_n hx hb dL_law_1130 rfl (lv_at hl 3 rfl) ?_
  refine lv_iload_n hx hb dL_law_1131 rfl (lv_at hl 0 rfl) ?_
  refine lv_iconst (v := 1) hx hb dL_law_1132 (by decide) ?_
  refine lv_iadd hx hb dL_law_1133 ?_
  refine va_sld hx hb hX hbl hbA hS h1 dL_law_1134 ?_
  refine lv_aload_n hx hb dL_law_1135 rfl (lv_at hl 3 rfl) ?_
  refine lv_iload_n hx hb dL_law_1136 rfl (lv_at hl 0 rfl) ?_
  refine lv_iconst (v := 2) hx hb dL_law_1137 (by decide) ?_
  refine lv_iadd hx hb dL_law_1138 ?_
  refine va_sld hx hb hX hbl hbA hS h2 dL_law_1139 ?_
  refine lv_aload_n hx hb dL_law_1140 rfl (lv_at hl 3 rfl) ?_
  refine lv_iload_n hx hb dL_law_1141 rfl (lv_at hl 0 rfl) ?_
  refine lv_iconst (v := 3) hx hb dL_law_1142 (by decide) ?_
  refine lv_iadd hx hb dL_law_1143 ?_
  refine va_sld hx hb hX hbl hbA hS h3 dL_law_1144 ?_
  refine gb_calli (va_runV (C := RX12) (As := [.int (xs (Int32.toNatClampNeg (i + 1))), .int (xs (Int32.toNatClampNeg (i + 2))), .int (xs (Int32.toNatClampNeg (i + 3)))]) (rest := []) ⟨hx, hb, hml, hown, hq⟩ (mc_told l D cT tt z (z + 135) (Nat.le_add_right z 135) gb_N f w (xs (Int32.toNatClampNeg (i + 1))) (xs (Int32.toNatClampNeg (i + 2))) (xs (Int32.toNatClampNeg (i + 3))) f2 w2 qa em) (cwV 3 hq (gb_gV w_1633 w_1634 w_1635 w_14 w_1636) rfl rfl rfl (by decide +kernel) ⟨Nat.le_of_ble_eq_true rfl, Nat.le_of_ble_eq_true rfl⟩) (gb_preV (r := (RX12, TX12, 44)) (ci := 10) (q0 := 0) hSt2.1 hPm rfl (gb_at (z + 135) rfl) hS (fun q h => h) hPm) rfl rfl hl.1 rfl (lv_room (Nat.le_of_ble_eq_true rfl)) dL_law_1145 ⟨Nat.le_of_ble_eq_true rfl, Nat.le_of_ble_eq_true rfl⟩) hS (fun q h => Nat.le_trans (Nat.le_add_right z 135) h.1) (fun q h => Nat.le_trans (Nat.le_add_right z 135) h.1) (fun rm H2 locs2 hY hk hS => ?_)
  obtain ⟨hr_, hY⟩ := hY
  subst hr_
  have hPc := gb_kept hPc (fun q h1 h2 => hk q (Nat.lt_of_lt_of_le h2 (Nat.le_of_lt (Nat.lt_of_le_of_lt (Nat.le_add_right (z + 135) 21) ((hPm 21 _ (gb_at (z + 135) rfl)).lt)))) (fun h3 => Nat.not_lt.mpr h3.1 h2))
  have hPm := hY
  clear hY
  refine lv_pop hx hb dL_law_1148 rfl ?_
  refine lv_goto (tgt := 1890) hx hb dL_law_1149 (by decide) ?_
  exact hend _ _ _ _ _ _ hI2 hPc hPm hS hl
theorem dq_cL_law_1152 : ((cL_law.data.toList.drop 1152).take 67).map UInt8.toNat = [43, 42, 29, 4, 96, 46, 42, 29, 5, 96, 46, 42, 29, 6, 96, 46, 182, 0, 108, 87, 44, 42, 29, 4, 96, 46, 42, 29, 5, 96, 46, 42, 29, 6, 96, 46, 182, 0, 111, 87, 167, 2, 186, 43, 42, 29, 4, 96, 46, 42, 29, 5, 96, 46, 42, 29, 6, 96, 46, 42, 29, 7, 96, 46, 182, 0, 112] := by decide +kernel
theorem dL_law_1152 : decode cL_law 1152 = .ok (.aload_n 1, 1) := dc_43 (dc_cut (j := 0) (n := 1) (l := [43]) dq_cL_law_1152 (by decide +kernel) (by decide))
theorem dL_law_1153 : decode cL_law 1153 = .ok (.aload_n 0, 1) := dc_42 (dc_cut (j := 1) (n := 1) (l := [42]) dq_cL_law_1152 (by decide +kernel) (by decide))
theorem dL_law_1154 : decode cL_law 1154 = .ok (.iload_n 3, 1) := dc_29 (dc_cut (j := 2) (n := 1) (l := [29]) dq_cL_law_1152 (by decide +kernel) (by decide))
theorem dL_law_1155 : decode cL_law 1155 = .ok (.iconst 1, 1) := dc_4 (dc_cut (j := 3) (n := 1) (l := [4]) dq_cL_law_1152 (by decide +kernel) (by decide))
theorem dL_law_1156 : decode cL_law 1156 = .ok (.iadd, 1) := dc_96 (dc_cut (j := 4) (n := 1) (l := [96]) dq_cL_law_1152 (by decide +kernel) (by decide))
theorem dL_law_1157 : decode cL_law 1157 = .ok (.iaload, 1) := dc_46 (dc_cut (j := 5) (n := 1) (l := [46]) dq_cL_law_1152 (by decide +kernel) (by decide))
theorem dL_law_1158 : decode cL_law 1158 = .ok (.aload_n 0, 1) := dc_42 (dc_cut (j := 6) (n := 1) (l := [42]) dq_cL_law_1152 (by decide +kernel) (by decide))
theorem dL_law_1159 : decode cL_law 1159 = .ok (.iload_n 3, 1) := dc_29 (dc_cut (j := 7) (n := 1) (l := [29]) dq_cL_law_1152 (by decide +kernel) (by decide))
theorem dL_law_1160 : decode cL_law 1160 = .ok (.iconst 2, 1) := dc_5 (dc_cut (j := 8) (n := 1) (l := [5]) dq_cL_law_1152 (by decide +kernel) (by decide))
theorem dL_law_1161 : decode cL_law 1161 = .ok (.iadd, 1) := dc_96 (dc_cut (j := 9) (n := 1) (l := [96]) dq_cL_law_1152 (by decide +kernel) (by decide))
theorem dL_law_1162 : decode cL_law 1162 = .ok (.iaload, 1) := dc_46 (dc_cut (j := 10) (n := 1) (l := [46]) dq_cL_law_1152 (by decide +kernel) (by decide))
theorem dL_law_1163 : decode cL_law 1163 = .ok (.aload_n 0, 1) := dc_42 (dc_cut (j := 11) (n := 1) (l := [42]) dq_cL_law_1152 (by decide +kernel) (by decide))
theorem dL_law_1164 : decode cL_law 1164 = .ok (.iload_n 3, 1) := dc_29 (dc_cut (j := 12) (n := 1) (l := [29]) dq_cL_law_1152 (by decide +kernel) (by decide))
theorem dL_law_1165 : decode cL_law 1165 = .ok (.iconst 3, 1) := dc_6 (dc_cut (j := 13) (n := 1) (l := [6]) dq_cL_law_1152 (by decide +kernel) (by decide))
theorem dL_law_1166 : decode cL_law 1166 = .ok (.iadd, 1) := dc_96 (dc_cut (j := 14) (n := 1) (l := [96]) dq_cL_law_1152 (by decide +kernel) (by decide))
theorem dL_law_1167 : decode cL_law 1167 = .ok (.iaload, 1) := dc_46 (dc_cut (j := 15) (n := 1) (l := [46]) dq_cL_law_1152 (by decide +kernel) (by decide))
theorem dL_law_1168 : decode cL_law 1168 = .ok (.invokevirtual 108, 3) := dc_182 (dc_cut (j := 16) (n := 3) (l := [182, 0, 108]) dq_cL_law_1152 (by decide +kernel) (by decide)) rfl
theorem w_850 : (Cond.methodLink "GooseBorderLaw" (108 : Nat) ({ cls := "GooseBorder", name := "lacks", desc := "(III)I" } : MethodName)) ∈ gb_wA := gb_t4 130 rfl rfl
theorem w_851 : (Cond.instanceMethod ({ cls := "GooseBorder", name := "lacks", desc := "(III)I" } : MethodName)) ∈ gb_wA := gb_t4 131 rfl rfl
theorem w_852 : (Cond.selects "GooseBorder" ({ cls := "GooseBorder", name := "lacks", desc := "(III)I" } : MethodName) ({ cls := "GooseBorder", name := "lacks", desc := "(III)I" } : MethodName)) ∈ gb_wA := gb_t4 132 rfl rfl
theorem w_853 : (Cond.code ({ cls := "GooseBorder", name := "lacks", desc := "(III)I" } : MethodName) prog_1_method_29_code (8 : Nat) (Option.some FieldType.int)) ∈ gb_wA := gb_t4 133 rfl rfl
theorem dL_law_1171 : decode cL_law 1171 = .ok (.pop, 1) := dc_87 (dc_cut (j := 19) (n := 1) (l := [87]) dq_cL_law_1152 (by decide +kernel) (by decide))
theorem dL_law_1172 : decode cL_law 1172 = .ok (.aload_n 2, 1) := dc_44 (dc_cut (j := 20) (n := 1) (l := [44]) dq_cL_law_1152 (by decide +kernel) (by decide))
theorem dL_law_1173 : decode cL_law 1173 = .ok (.aload_n 0, 1) := dc_42 (dc_cut (j := 21) (n := 1) (l := [42]) dq_cL_law_1152 (by decide +kernel) (by decide))
theorem dL_law_1174 : decode cL_law 1174 = .ok (.iload_n 3, 1) := dc_29 (dc_cut (j := 22) (n := 1) (l := [29]) dq_cL_law_1152 (by decide +kernel) (by decide))
theorem dL_law_1175 : decode cL_law 1175 = .ok (.iconst 1, 1) := dc_4 (dc_cut (j := 23) (n := 1) (l := [4]) dq_cL_law_1152 (by decide +kernel) (by decide))
theorem dL_law_1176 : decode cL_law 1176 = .ok (.iadd, 1) := dc_96 (dc_cut (j := 24) (n := 1) (l := [96]) dq_cL_law_1152 (by decide +kernel) (by decide))
theorem dL_law_1177 : decode cL_law 1177 = .ok (.iaload, 1) := dc_46 (dc_cut (j := 25) (n := 1) (l := [46]) dq_cL_law_1152 (by decide +kernel) (by decide))
theorem dL_law_1178 : decode cL_law 1178 = .ok (.aload_n 0, 1) := dc_42 (dc_cut (j := 26) (n := 1) (l := [42]) dq_cL_law_1152 (by decide +kernel) (by decide))
theorem dL_law_1179 : decode cL_law 1179 = .ok (.iload_n 3, 1) := dc_29 (dc_cut (j := 27) (n := 1) (l := [29]) dq_cL_law_1152 (by decide +kernel) (by decide))
theorem dL_law_1180 : decode cL_law 1180 = .ok (.iconst 2, 1) := dc_5 (dc_cut (j := 28) (n := 1) (l := [5]) dq_cL_law_1152 (by decide +kernel) (by decide))
theorem dL_law_1181 : decode cL_law 1181 = .ok (.iadd, 1) := dc_96 (dc_cut (j := 29) (n := 1) (l := [96]) dq_cL_law_1152 (by decide +kernel) (by decide))
theorem dL_law_1182 : decode cL_law 1182 = .ok (.iaload, 1) := dc_46 (dc_cut (j := 30) (n := 1) (l := [46]) dq_cL_law_1152 (by decide +kernel) (by decide))
theorem dL_law_1183 : decode cL_law 1183 = .ok (.aload_n 0, 1) := dc_42 (dc_cut (j := 31) (n := 1) (l := [42]) dq_cL_law_1152 (by decide +kernel) (by decide))
theorem dL_law_1184 : decode cL_law 1184 = .ok (.iload_n 3, 1) := dc_29 (dc_cut (j := 32) (n := 1) (l := [29]) dq_cL_law_1152 (by decide +kernel) (by decide))
theorem dL_law_1185 : decode cL_law 1185 = .ok (.iconst 3, 1) := dc_6 (dc_cut (j := 33) (n := 1) (l := [6]) dq_cL_law_1152 (by decide +kernel) (by decide))
theorem dL_law_1186 : decode cL_law 1186 = .ok (.iadd, 1) := dc_96 (dc_cut (j := 34) (n := 1) (l := [96]) dq_cL_law_1152 (by decide +kernel) (by decide))
theorem dL_law_1187 : decode cL_law 1187 = .ok (.iaload, 1) := dc_46 (dc_cut (j := 35) (n := 1) (l := [46]) dq_cL_law_1152 (by decide +kernel) (by decide))
theorem dL_law_1188 : decode cL_law 1188 = .ok (.invokevirtual 111, 3) := dc_182 (dc_cut (j := 36) (n := 3) (l := [182, 0, 111]) dq_cL_law_1152 (by decide +kernel) (by decide)) rfl
theorem w_1641 : (Cond.methodLink "GooseBorderLaw" (111 : Nat) ({ cls := "GooseBorderModel", name := "lacks", desc := "(III)I" } : MethodName)) ∈ gb_wA := gb_t7 201 rfl rfl
theorem w_1642 : (Cond.instanceMethod ({ cls := "GooseBorderModel", name := "lacks", desc := "(III)I" } : MethodName)) ∈ gb_wA := gb_t7 202 rfl rfl
theorem w_1643 : (Cond.selects "GooseBorderModel" ({ cls := "GooseBorderModel", name := "lacks", desc := "(III)I" } : MethodName) ({ cls := "GooseBorderModel", name := "lacks", desc := "(III)I" } : MethodName)) ∈ gb_wA := gb_t7 203 rfl rfl
theorem w_1644 : (Cond.code ({ cls := "GooseBorderModel", name := "lacks", desc := "(III)I" } : MethodName) prog_14_method_99_code (6 : Nat) (Option.some FieldType.int)) ∈ gb_wA := gb_t7 204 rfl rfl
theorem dL_law_1191 : decode cL_law 1191 = .ok (.pop, 1) := dc_87 (dc_cut (j := 39) (n := 1) (l := [87]) dq_cL_law_1152 (by decide +kernel) (by decide))
theorem dL_law_1192 : decode cL_law 1192 = .ok (.goto 698, 3) := dc_167 (dc_cut (j := 40) (n := 3) (l := [167, 2, 186]) dq_cL_law_1152 (by decide +kernel) (by decide)) rfl
set_option maxHeartbeats 4000000 in
set_option maxRecDepth 100000 in
theorem law_c22 {p : Program} {l : Launch} {e : Env} {s : State} {m : MethodId} {below : List Frame} {meth : Method} {c : Code} {b z L : Nat} {xs : Nat → Int32} (C0 : lw_At p s m meth c b L xs) (hzz : Array.size s.heap = z) {D : va_G} {cT : Nat → ClassId} {tt ak av : Nat → Nat} (hSt2 : gb_St2 D cT tt ak av z s) {i : Int32} (h1 : vp_in (i + 1) L) (h2 : vp_in (i + 2) L) (h3 : vp_in (i + 3) L) (h4 : vp_in (i + 4) L) (h5 : vp_in (i + 5) L) (hend : ∀ (σ : gb_S) (f : gb_F) (w : Int64) (H : Heap) (locs : List Loc) (ls : Array Slot), gb_Inv σ f → va_P D vwCl (gb_wl z (gb_CW cT z σ)) H → va_P D vwCl (gb_wl (z + 135) (gb_MW cT (z + 135) f w)) H → va_S (gb_ge z) s.heap H locs → lv_has ls 4 [(3, .int i), (2, .ref (z + 135 + 0)), (1, .ref (z + 0)), (0, .ref b)] → W p l e room_1 s m #[Value.ref b] below meth c H locs 157 10381 (lw_Z below #[Value.ref b] s) (F0 m 1890 ls [])) : ∀ (σ : gb_S) (f : gb_F) (w : Int64) (H : Heap) (locs : List Loc) (ls : Array Slot), gb_Inv σ f → va_P D vwCl (gb_wl z (gb_CW cT z σ)) H → va_P D vwCl (gb_wl (z + 135) (gb_MW cT (z + 135) f w)) H → va_S (gb_ge z) s.heap H locs → lv_has ls 4 [(3, .int i), (2, .ref (z + 135 + 0)), (1, .ref (z + 0)), (0, .ref b)] → W p l e room_1 s m #[Value.ref b] below meth c H locs 157 10381 (lw_Z below #[Value.ref b] s) (F0 m 1152 ls []) := by
  obtain ⟨hx, hb, hr, hml, hown, hts, hX, hbl, hlocks, hgv⟩ := C0
  have hq : ∀ w ∈ gb_wA, w.before #[Value.ref b] s = true := fun w h => hts w (gb_wA_tbl w h)
  have hbA : ¬ gb_ge z b := Nat.not_le.mpr (by rw [← hzz]; exact hbl)
  intro σ f w H locs ls hI hPc hPm hS hl
  refine lv_aload_n hx hb dL_law_1152 rfl (lv_at hl 2 rfl) ?_
  refine lv_aload_n hx hb dL_law_1153 rfl (lv_at hl 3 rfl) ?_
  refine lv_iload_n hx hb dL_law_1154 rfl (lv_at hl 0 rfl) ?_
  refine lv_iconst (v := 1) hx hb dL_law_1155 (by decide) ?_
  refine lv_iadd hx hb dL_law_1156 ?_
  refine va_sld hx hb hX hbl hbA hS h1 dL_law_1157 ?_
  refine lv_aload_n hx hb dL_law_1158 rfl (lv_at hl 3 rfl) ?_
  refine lv_iload_n hx hb dL_law_1159 rfl (lv_at hl 0 rfl) ?_
  refine lv_iconst (v := 2) hx hb dL_law_1160 (by decide) ?_
  refine lv_iadd hx hb dL_law_1161 ?_
  refine va_sld hx hb hX hbl hbA hS h2 dL_law_1162 ?_
  refine lv_aload_n hx hb dL_law_1163 rfl (lv_at hl 3 rfl) ?_
  refine lv_iload_n hx hb dL_law_1164 rfl (lv_at hl 0 rfl) ?_
  refine lv_iconst (v := 3) hx hb dL_law_1165 (by decide) ?_
  refine lv_iadd hx hb dL_law_1166 ?_
  refine va_sld hx hb hX hbl hbA hS h3 dL_law_1167 ?_
  obtain ⟨σ2, ra, f2, w2, qa, ec, em, hI2, hcmp⟩ := law_s_lacks (xs (Int32.toNatClampNeg (i + 1))) (xs (Int32.toNatClampNeg (i + 2))) (xs (Int32.toNatClampNeg (i + 3))) w hI
  refine gb_calli (va_runV (C := RX11) (As := [.int (xs (Int32.toNatClampNeg (i + 1))), .int (xs (Int32.toNatClampNeg (i + 2))), .int (xs (Int32.toNatClampNeg (i + 3)))]) (rest := []) ⟨hx, hb, hml, hown, hq⟩ (cc_Face_lacks l D cT tt z z (Nat.le_refl z) gb_N σ (xs (Int32.toNatClampNeg (i + 1))) (xs (Int32.toNatClampNeg (i + 2))) (xs (Int32.toNatClampNeg (i + 3))) σ2 ra ec) (cwV 3 hq (gb_gV w_850 w_851 w_852 w_1 w_853) rfl rfl rfl (by decide +kernel) ⟨Nat.le_of_ble_eq_true rfl, Nat.le_of_ble_eq_true rfl⟩) (gb_preV (r := (RX11, TX11, 10)) (ci := 9) (q0 := 0) hSt2.1 hPc rfl (gb_at z rfl) hS (fun q h => h) hPc) rfl rfl hl.1 rfl (lv_room (Nat.le_of_ble_eq_true rfl)) dL_law_1168 ⟨Nat.le_of_ble_eq_true rfl, Nat.le_of_ble_eq_true rfl⟩) hS (fun q h => h.1) (fun q h => h.1) (fun rc H2 locs2 hY hk hS => ?_)
  obtain ⟨hr_, hY⟩ := hY
  subst hr_
  have hPm := gb_kept hPm (fun q h1 h2 => hk q (Nat.lt_of_lt_of_le h2 ((hPm 21 _ (gb_at (z + 135) rfl)).lt)) (fun h3 => Nat.not_lt.mpr h1 h3.2))
  have hPc := hY
  clear hY
  refine lv_pop hx hb dL_law_1171 rfl ?_
  refine lv_aload_n hx hb dL_law_1172 rfl (lv_at hl 1 rfl) ?_
  refine lv_aload_n hx hb dL_law_1173 rfl (lv_at hl 3 rfl) ?_
  refine lv_iload_n hx hb dL_law_1174 rfl (lv_at hl 0 rfl) ?_
  refine lv_iconst (v := 1) hx hb dL_law_1175 (by decide) ?_
  refine lv_iadd hx hb dL_law_1176 ?_
  refine va_sld hx hb hX hbl hbA hS h1 dL_law_1177 ?_
  refine lv_aload_n hx hb dL_law_1178 rfl (lv_at hl 3 rfl) ?_
  refine lv_iload_n hx hb dL_law_1179 rfl (lv_at hl 0 rfl) ?_
  refine lv_iconst (v := 2) hx hb dL_law_1180 (by decide) ?_
  refine lv_iadd hx hb dL_law_1181 ?_
  refine va_sld hx hb hX hbl hbA hS h2 dL_law_1182 ?_
  refine lv_aload_n hx hb dL_law_1183 rfl (lv_at hl 3 rfl) ?_
  refine lv_iload_n hx hb dL_law_1184 rfl (lv_at hl 0 rfl) ?_
  refine lv_iconst (v := 3) hx hb dL_law_1185 (by decide) ?_
  refine lv_iadd hx hb dL_law_1186 ?_
  refine va_sld hx hb hX hbl hbA hS h3 dL_law_1187 ?_
  refine gb_calli (va_runV (C := RX12) (As := [.int (xs (Int32.toNatClampNeg (i + 1))), .int (xs (Int32.toNatClampNeg (i + 2))), .int (xs (Int32.toNatClampNeg (i + 3)))]) (rest := []) ⟨hx, hb, hml, hown, hq⟩ (mc_lacks l D cT tt z (z + 135) (Nat.le_add_right z 135) gb_N f w (xs (Int32.toNatClampNeg (i + 1))) (xs (Int32.toNatClampNeg (i + 2))) (xs (Int32.toNatClampNeg (i + 3))) f2 w2 qa em) (cwV 3 hq (gb_gV w_1641 w_1642 w_1643 w_14 w_1644) rfl rfl rfl (by decide +kernel) ⟨Nat.le_of_ble_eq_true rfl, Nat.le_of_ble_eq_true rfl⟩) (gb_preV (r := (RX12, TX12, 44)) (ci := 10) (q0 := 0) hSt2.1 hPm rfl (gb_at (z + 135) rfl) hS (fun q h => h) hPm) rfl rfl hl.1 rfl (lv_room (Nat.le_of_ble_eq_true rfl)) dL_law_1188 ⟨Nat.le_of_ble_eq_true rfl, Nat.le_of_ble_eq_true rfl⟩) hS (fun q h => Nat.le_trans (Nat.le_add_right z 135) h.1) (fun q h => Nat.le_trans (Nat.le_add_right z 135) h.1) (fun rm H2 locs2 hY hk hS => ?_)
  obtain ⟨hr_, hY⟩ := hY
  subst hr_
  have hPc := gb_kept hPc (fun q h1 h2 => hk q (Nat.lt_of_lt_of_le h2 (Nat.le_of_lt (Nat.lt_of_le_of_lt (Nat.le_add_right (z + 135) 21) ((hPm 21 _ (gb_at (z + 135) rfl)).lt)))) (fun h3 => Nat.not_lt.mpr h3.1 h2))
  have hPm := hY
  clear hY
  refine lv_pop hx hb dL_law_1191 rfl ?_
  refine lv_goto (tgt := 1890) hx hb dL_law_1192 (by decide) ?_
  exact hend _ _ _ _ _ _ hI2 hPc hPm hS hl
theorem dL_law_1195 : decode cL_law 1195 = .ok (.aload_n 1, 1) := dc_43 (dc_cut (j := 43) (n := 1) (l := [43]) dq_cL_law_1152 (by decide +kernel) (by decide))
theorem dL_law_1196 : decode cL_law 1196 = .ok (.aload_n 0, 1) := dc_42 (dc_cut (j := 44) (n := 1) (l := [42]) dq_cL_law_1152 (by decide +kernel) (by decide))
theorem dL_law_1197 : decode cL_law 1197 = .ok (.iload_n 3, 1) := dc_29 (dc_cut (j := 45) (n := 1) (l := [29]) dq_cL_law_1152 (by decide +kernel) (by decide))
theorem dL_law_1198 : decode cL_law 1198 = .ok (.iconst 1, 1) := dc_4 (dc_cut (j := 46) (n := 1) (l := [4]) dq_cL_law_1152 (by decide +kernel) (by decide))
theorem dL_law_1199 : decode cL_law 1199 = .ok (.iadd, 1) := dc_96 (dc_cut (j := 47) (n := 1) (l := [96]) dq_cL_law_1152 (by decide +kernel) (by decide))
theorem dL_law_1200 : decode cL_law 1200 = .ok (.iaload, 1) := dc_46 (dc_cut (j := 48) (n := 1) (l := [46]) dq_cL_law_1152 (by decide +kernel) (by decide))
theorem dL_law_1201 : decode cL_law 1201 = .ok (.aload_n 0, 1) := dc_42 (dc_cut (j := 49) (n := 1) (l := [42]) dq_cL_law_1152 (by decide +kernel) (by decide))
theorem dL_law_1202 : decode cL_law 1202 = .ok (.iload_n 3, 1) := dc_29 (dc_cut (j := 50) (n := 1) (l := [29]) dq_cL_law_1152 (by decide +kernel) (by decide))
theorem dL_law_1203 : decode cL_law 1203 = .ok (.iconst 2, 1) := dc_5 (dc_cut (j := 51) (n := 1) (l := [5]) dq_cL_law_1152 (by decide +kernel) (by decide))
theorem dL_law_1204 : decode cL_law 1204 = .ok (.iadd, 1) := dc_96 (dc_cut (j := 52) (n := 1) (l := [96]) dq_cL_law_1152 (by decide +kernel) (by decide))
theorem dL_law_1205 : decode cL_law 1205 = .ok (.iaload, 1) := dc_46 (dc_cut (j := 53) (n := 1) (l := [46]) dq_cL_law_1152 (by decide +kernel) (by decide))
theorem dL_law_1206 : decode cL_law 1206 = .ok (.aload_n 0, 1) := dc_42 (dc_cut (j := 54) (n := 1) (l := [42]) dq_cL_law_1152 (by decide +kernel) (by decide))
theorem dL_law_1207 : decode cL_law 1207 = .ok (.iload_n 3, 1) := dc_29 (dc_cut (j := 55) (n := 1) (l := [29]) dq_cL_law_1152 (by decide +kernel) (by decide))
theorem dL_law_1208 : decode cL_law 1208 = .ok (.iconst 3, 1) := dc_6 (dc_cut (j := 56) (n := 1) (l := [6]) dq_cL_law_1152 (by decide +kernel) (by decide))
theorem dL_law_1209 : decode cL_law 1209 = .ok (.iadd, 1) := dc_96 (dc_cut (j := 57) (n := 1) (l := [96]) dq_cL_law_1152 (by decide +kernel) (by decide))
theorem dL_law_1210 : decode cL_law 1210 = .ok (.iaload, 1) := dc_46 (dc_cut (j := 58) (n := 1) (l := [46]) dq_cL_law_1152 (by decide +kernel) (by decide))
theorem dL_law_1211 : decode cL_law 1211 = .ok (.aload_n 0, 1) := dc_42 (dc_cut (j := 59) (n := 1) (l := [42]) dq_cL_law_1152 (by decide +kernel) (by decide))
theorem dL_law_1212 : decode cL_law 1212 = .ok (.iload_n 3, 1) := dc_29 (dc_cut (j := 60) (n := 1) (l := [29]) dq_cL_law_1152 (by decide +kernel) (by decide))
theorem dL_law_1213 : decode cL_law 1213 = .ok (.iconst 4, 1) := dc_7 (dc_cut (j := 61) (n := 1) (l := [7]) dq_cL_law_1152 (by decide +kernel) (by decide))
theorem dL_law_1214 : decode cL_law 1214 = .ok (.iadd, 1) := dc_96 (dc_cut (j := 62) (n := 1) (l := [96]) dq_cL_law_1152 (by decide +kernel) (by decide))
theorem dL_law_1215 : decode cL_law 1215 = .ok (.iaload, 1) := dc_46 (dc_cut (j := 63) (n := 1) (l := [46]) dq_cL_law_1152 (by decide +kernel) (by decide))
theorem dq_cL_law_1216 : ((cL_law.data.toList.drop 1216).take 67).map UInt8.toNat = [182, 0, 112, 87, 44, 42, 29, 4, 96, 46, 42, 29, 5, 96, 46, 42, 29, 6, 96, 46, 42, 29, 7, 96, 46, 182, 0, 115, 87, 167, 2, 133, 43, 42, 29, 4, 96, 46, 42, 29, 5, 96, 46, 42, 29, 6, 96, 46, 42, 29, 7, 96, 46, 182, 0, 116, 87, 44, 42, 29, 4, 96, 46, 42, 29, 5, 96] := by decide +kernel
theorem dL_law_1216 : decode cL_law 1216 = .ok (.invokevirtual 112, 3) := dc_182 (dc_cut (j := 0) (n := 3) (l := [182, 0, 112]) dq_cL_law_1216 (by decide +kernel) (by decide)) rfl
theorem w_862 : (Cond.methodLink "GooseBorderLaw" (112 : Nat) ({ cls := "GooseBorder", name := "who", desc := "(IIII)I" } : MethodName)) ∈ gb_wA := gb_t4 142 rfl rfl
theorem w_863 : (Cond.instanceMethod ({ cls := "GooseBorder", name := "who", desc := "(IIII)I" } : MethodName)) ∈ gb_wA := gb_t4 143 rfl rfl
theorem w_864 : (Cond.selects "GooseBorder" ({ cls := "GooseBorder", name := "who", desc := "(IIII)I" } : MethodName) ({ cls := "GooseBorder", name := "who", desc := "(IIII)I" } : MethodName)) ∈ gb_wA := gb_t4 144 rfl rfl
theorem w_865 : (Cond.code ({ cls := "GooseBorder", name := "who", desc := "(IIII)I" } : MethodName) prog_1_method_30_code (9 : Nat) (Option.some FieldType.int)) ∈ gb_wA := gb_t4 145 rfl rfl
theorem dL_law_1219 : decode cL_law 1219 = .ok (.pop, 1) := dc_87 (dc_cut (j := 3) (n := 1) (l := [87]) dq_cL_law_1216 (by decide +kernel) (by decide))
theorem dL_law_1220 : decode cL_law 1220 = .ok (.aload_n 2, 1) := dc_44 (dc_cut (j := 4) (n := 1) (l := [44]) dq_cL_law_1216 (by decide +kernel) (by decide))
theorem dL_law_1221 : decode cL_law 1221 = .ok (.aload_n 0, 1) := dc_42 (dc_cut (j := 5) (n := 1) (l := [42]) dq_cL_law_1216 (by decide +kernel) (by decide))
theorem dL_law_1222 : decode cL_law 1222 = .ok (.iload_n 3, 1) := dc_29 (dc_cut (j := 6) (n := 1) (l := [29]) dq_cL_law_1216 (by decide +kernel) (by decide))
theorem dL_law_1223 : decode cL_law 1223 = .ok (.iconst 1, 1) := dc_4 (dc_cut (j := 7) (n := 1) (l := [4]) dq_cL_law_1216 (by decide +kernel) (by decide))
theorem dL_law_1224 : decode cL_law 1224 = .ok (.iadd, 1) := dc_96 (dc_cut (j := 8) (n := 1) (l := [96]) dq_cL_law_1216 (by decide +kernel) (by decide))
theorem dL_law_1225 : decode cL_law 1225 = .ok (.iaload, 1) := dc_46 (dc_cut (j := 9) (n := 1) (l := [46]) dq_cL_law_1216 (by decide +kernel) (by decide))
theorem dL_law_1226 : decode cL_law 1226 = .ok (.aload_n 0, 1) := dc_42 (dc_cut (j := 10) (n := 1) (l := [42]) dq_cL_law_1216 (by decide +kernel) (by decide))
theorem dL_law_1227 : decode cL_law 1227 = .ok (.iload_n 3, 1) := dc_29 (dc_cut (j := 11) (n := 1) (l := [29]) dq_cL_law_1216 (by decide +kernel) (by decide))
theorem dL_law_1228 : decode cL_law 1228 = .ok (.iconst 2, 1) := dc_5 (dc_cut (j := 12) (n := 1) (l := [5]) dq_cL_law_1216 (by decide +kernel) (by decide))
theorem dL_law_1229 : decode cL_law 1229 = .ok (.iadd, 1) := dc_96 (dc_cut (j := 13) (n := 1) (l := [96]) dq_cL_law_1216 (by decide +kernel) (by decide))
theorem dL_law_1230 : decode cL_law 1230 = .ok (.iaload, 1) := dc_46 (dc_cut (j := 14) (n := 1) (l := [46]) dq_cL_law_1216 (by decide +kernel) (by decide))
theorem dL_law_1231 : decode cL_law 1231 = .ok (.aload_n 0, 1) := dc_42 (dc_cut (j := 15) (n := 1) (l := [42]) dq_cL_law_1216 (by decide +kernel) (by decide))
theorem dL_law_1232 : decode cL_law 1232 = .ok (.iload_n 3, 1) := dc_29 (dc_cut (j := 16) (n := 1) (l := [29]) dq_cL_law_1216 (by decide +kernel) (by decide))
theorem dL_law_1233 : decode cL_law 1233 = .ok (.iconst 3, 1) := dc_6 (dc_cut (j := 17) (n := 1) (l := [6]) dq_cL_law_1216 (by decide +kernel) (by decide))
theorem dL_law_1234 : decode cL_law 1234 = .ok (.iadd, 1) := dc_96 (dc_cut (j := 18) (n := 1) (l := [96]) dq_cL_law_1216 (by decide +kernel) (by decide))
theorem dL_law_1235 : decode cL_law 1235 = .ok (.iaload, 1) := dc_46 (dc_cut (j := 19) (n := 1) (l := [46]) dq_cL_law_1216 (by decide +kernel) (by decide))
theorem dL_law_1236 : decode cL_law 1236 = .ok (.aload_n 0, 1) := dc_42 (dc_cut (j := 20) (n := 1) (l := [42]) dq_cL_law_1216 (by decide +kernel) (by decide))
theorem dL_law_1237 : decode cL_law 1237 = .ok (.iload_n 3, 1) := dc_29 (dc_cut (j := 21) (n := 1) (l := [29]) dq_cL_law_1216 (by decide +kernel) (by decide))
theorem dL_law_1238 : decode cL_law 1238 = .ok (.iconst 4, 1) := dc_7 (dc_cut (j := 22) (n := 1) (l := [7]) dq_cL_law_1216 (by decide +kernel) (by decide))
theorem dL_law_1239 : decode cL_law 1239 = .ok (.iadd, 1) := dc_96 (dc_cut (j := 23) (n := 1) (l := [96]) dq_cL_law_1216 (by decide +kernel) (by decide))
theorem dL_law_1240 : decode cL_law 1240 = .ok (.iaload, 1) := dc_46 (dc_cut (j := 24) (n := 1) (l := [46]) dq_cL_law_1216 (by decide +kernel) (by decide))
theorem dL_law_1241 : decode cL_law 1241 = .ok (.invokevirtual 115, 3) := dc_182 (dc_cut (j := 25) (n := 3) (l := [182, 0, 115]) dq_cL_law_1216 (by decide +kernel) (by decide)) rfl
theorem w_1645 : (Cond.methodLink "GooseBorderLaw" (115 : Nat) ({ cls := "GooseBorderModel", name := "who", desc := "(IIII)I" } : MethodName)) ∈ gb_wA := gb_t7 205 rfl rfl
theorem w_1646 : (Cond.instanceMethod ({ cls := "GooseBorderModel", name := "who", desc := "(IIII)I" } : MethodName)) ∈ gb_wA := gb_t7 206 rfl rfl
theorem w_1647 : (Cond.selects "GooseBorderModel" ({ cls := "GooseBorderModel", name := "who", desc := "(IIII)I" } : MethodName) ({ cls := "GooseBorderModel", name := "who", desc := "(IIII)I" } : MethodName)) ∈ gb_wA := gb_t7 207 rfl rfl
theorem w_1648 : (Cond.code ({ cls := "GooseBorderModel", name := "who", desc := "(IIII)I" } : MethodName) prog_14_method_100_code (7 : Nat) (Option.some FieldType.int)) ∈ gb_wA := gb_t7 208 rfl rfl
theorem dL_law_1244 : decode cL_law 1244 = .ok (.pop, 1) := dc_87 (dc_cut (j := 28) (n := 1) (l := [87]) dq_cL_law_1216 (by decide +kernel) (by decide))
theorem dL_law_1245 : decode cL_law 1245 = .ok (.goto 645, 3) := dc_167 (dc_cut (j := 29) (n := 3) (l := [167, 2, 133]) dq_cL_law_1216 (by decide +kernel) (by decide)) rfl
set_option maxHeartbeats 4000000 in
set_option maxRecDepth 100000 in
theorem law_c23 {p : Program} {l : Launch} {e : Env} {s : State} {m : MethodId} {below : List Frame} {meth : Method} {c : Code} {b z L : Nat} {xs : Nat → Int32} (C0 : lw_At p s m meth c b L xs) (hzz : Array.size s.heap = z) {D : va_G} {cT : Nat → ClassId} {tt ak av : Nat → Nat} (hSt2 : gb_St2 D cT tt ak av z s) {i : Int32} (h1 : vp_in (i + 1) L) (h2 : vp_in (i + 2) L) (h3 : vp_in (i + 3) L) (h4 : vp_in (i + 4) L) (h5 : vp_in (i + 5) L) (hend : ∀ (σ : gb_S) (f : gb_F) (w : Int64) (H : Heap) (locs : List Loc) (ls : Array Slot), gb_Inv σ f → va_P D vwCl (gb_wl z (gb_CW cT z σ)) H → va_P D vwCl (gb_wl (z + 135) (gb_MW cT (z + 135) f w)) H → va_S (gb_ge z) s.heap H locs → lv_has ls 4 [(3, .int i), (2, .ref (z + 135 + 0)), (1, .ref (z + 0)), (0, .ref b)] → W p l e room_1 s m #[Value.ref b] below meth c H locs 157 10381 (lw_Z below #[Value.ref b] s) (F0 m 1890 ls [])) : ∀ (σ : gb_S) (f : gb_F) (w : Int64) (H : Heap) (locs : List Loc) (ls : Array Slot), gb_Inv σ f → va_P D vwCl (gb_wl z (gb_CW cT z σ)) H → va_P D vwCl (gb_wl (z + 135) (gb_MW cT (z + 135) f w)) H → va_S (gb_ge z) s.heap H locs → lv_has ls 4 [(3, .int i), (2, .ref (z + 135 + 0)), (1, .ref (z + 0)), (0, .ref b)] → W p l e room_1 s m #[Value.ref b] below meth c H locs 157 10381 (lw_Z below #[Value.ref b] s) (F0 m 1195 ls []) := by
  obtain ⟨hx, hb, hr, hml, hown, hts, hX, hbl, hlocks, hgv⟩ := C0
  have hq : ∀ w ∈ gb_wA, w.before #[Value.ref b] s = true := fun w h => hts w (gb_wA_tbl w h)
  have hbA : ¬ gb_ge z b := Nat.not_le.mpr (by rw [← hzz]; exact hbl)
  intro σ f w H locs ls hI hPc hPm hS hl
  refine lv_aload_n hx hb dL_law_1195 rfl (lv_at hl 2 rfl) ?_
  refine lv_aload_n hx hb dL_law_1196 rfl (lv_at hl 3 rfl) ?_
  refine lv_iload_n hx hb dL_law_1197 rfl (lv_at hl 0 rfl) ?_
  refine lv_iconst (v := 1) hx hb dL_law_1198 (by decide) ?_
  refine lv_iadd hx hb dL_law_1199 ?_
  refine va_sld hx hb hX hbl hbA hS h1 dL_law_1200 ?_
  refine lv_aload_n hx hb dL_law_1201 rfl (lv_at hl 3 rfl) ?_
  refine lv_iload_n hx hb dL_law_1202 rfl (lv_at hl 0 rfl) ?_
  refine lv_iconst (v := 2) hx hb dL_law_1203 (by decide) ?_
  refine lv_iadd hx hb dL_law_1204 ?_
  refine va_sld hx hb hX hbl hbA hS h2 dL_law_1205 ?_
  refine lv_aload_n hx hb dL_law_1206 rfl (lv_at hl 3 rfl) ?_
  refine lv_iload_n hx hb dL_law_1207 rfl (lv_at hl 0 rfl) ?_
  refine lv_iconst (v := 3) hx hb dL_law_1208 (by decide) ?_
  refine lv_iadd hx hb dL_law_1209 ?_
  refine va_sld hx hb hX hbl hbA hS h3 dL_law_1210 ?_
  refine lv_aload_n hx hb dL_law_1211 rfl (lv_at hl 3 rfl) ?_
  refine lv_iload_n hx hb dL_law_1212 rfl (lv_at hl 0 rfl) ?_
  refine lv_iconst (v := 4) hx hb dL_law_1213 (by decide) ?_
  refine lv_iadd hx hb dL_law_1214 ?_
  refine va_sld hx hb hX hbl hbA hS h4 dL_law_1215 ?_
  obtain ⟨σ2, ra, f2, w2, qa, ec, em, hI2, hcmp⟩ := law_s_who (xs (Int32.toNatClampNeg (i + 1))) (xs (Int32.toNatClampNeg (i + 2))) (xs (Int32.toNatClampNeg (i + 3))) (xs (Int32.toNatClampNeg (i + 4))) w hI
  refine gb_calli (va_runV (C := RX11) (As := [.int (xs (Int32.toNatClampNeg (i + 1))), .int (xs (Int32.toNatClampNeg (i + 2))), .int (xs (Int32.toNatClampNeg (i + 3))), .int (xs (Int32.toNatClampNeg (i + 4)))]) (rest := []) ⟨hx, hb, hml, hown, hq⟩ (cc_Face_who l D cT tt z z (Nat.le_refl z) gb_N σ (xs (Int32.toNatClampNeg (i + 1))) (xs (Int32.toNatClampNeg (i + 2))) (xs (Int32.toNatClampNeg (i + 3))) (xs (Int32.toNatClampNeg (i + 4))) σ2 ra ec) (cwV 4 hq (gb_gV w_862 w_863 w_864 w_1 w_865) rfl rfl rfl (by decide +kernel) ⟨Nat.le_of_ble_eq_true rfl, Nat.le_of_ble_eq_true rfl⟩) (gb_preV (r := (RX11, TX11, 10)) (ci := 9) (q0 := 0) hSt2.1 hPc rfl (gb_at z rfl) hS (fun q h => h) hPc) rfl rfl hl.1 rfl (lv_room (Nat.le_of_ble_eq_true rfl)) dL_law_1216 ⟨Nat.le_of_ble_eq_true rfl, Nat.le_of_ble_eq_true rfl⟩) hS (fun q h => h.1) (fun q h => h.1) (fun rc H2 locs2 hY hk hS => ?_)
  obtain ⟨hr_, hY⟩ := hY
  subst hr_
  have hPm := gb_kept hPm (fun q h1 h2 => hk q (Nat.lt_of_lt_of_le h2 ((hPm 21 _ (gb_at (z + 135) rfl)).lt)) (fun h3 => Nat.not_lt.mpr h1 h3.2))
  have hPc := hY
  clear hY
  refine lv_pop hx hb dL_law_1219 rfl ?_
  refine lv_aload_n hx hb dL_law_1220 rfl (lv_at hl 1 rfl) ?_
  refine lv_aload_n hx hb dL_law_1221 rfl (lv_at hl 3 rfl) ?_
  refine lv_iload_n hx hb dL_law_1222 rfl (lv_at hl 0 rfl) ?_
  refine lv_iconst (v := 1) hx hb dL_law_1223 (by decide) ?_
  refine lv_iadd hx hb dL_law_1224 ?_
  refine va_sld hx hb hX hbl hbA hS h1 dL_law_1225 ?_
  refine lv_aload_n hx hb dL_law_1226 rfl (lv_at hl 3 rfl) ?_
  refine lv_iload_n hx hb dL_law_1227 rfl (lv_at hl 0 rfl) ?_
  refine lv_iconst (v := 2) hx hb dL_law_1228 (by decide) ?_
  refine lv_iadd hx hb dL_law_1229 ?_
  refine va_sld hx hb hX hbl hbA hS h2 dL_law_1230 ?_
  refine lv_aload_n hx hb dL_law_1231 rfl (lv_at hl 3 rfl) ?_
  refine lv_iload_n hx hb dL_law_1232 rfl (lv_at hl 0 rfl) ?_
  refine lv_iconst (v := 3) hx hb dL_law_1233 (by decide) ?_
  refine lv_iadd hx hb dL_law_1234 ?_
  refine va_sld hx hb hX hbl hbA hS h3 dL_law_1235 ?_
  refine lv_aload_n hx hb dL_law_1236 rfl (lv_at hl 3 rfl) ?_
  refine lv_iload_n hx hb dL_law_1237 rfl (lv_at hl 0 rfl) ?_
  refine lv_iconst (v := 4) hx hb dL_law_1238 (by decide) ?_
  refine lv_iadd hx hb dL_law_1239 ?_
  refine va_sld hx hb hX hbl hbA hS h4 dL_law_1240 ?_
  refine gb_calli (va_runV (C := RX12) (As := [.int (xs (Int32.toNatClampNeg (i + 1))), .int (xs (Int32.toNatClampNeg (i + 2))), .int (xs (Int32.toNatClampNeg (i + 3))), .int (xs (Int32.toNatClampNeg (i + 4)))]) (rest := []) ⟨hx, hb, hml, hown, hq⟩ (mc_who l D cT tt z (z + 135) (Nat.le_add_right z 135) gb_N f w (xs (Int32.toNatClampNeg (i + 1))) (xs (Int32.toNatClampNeg (i + 2))) (xs (Int32.toNatClampNeg (i + 3))) (xs (Int32.toNatClampNeg (i + 4))) f2 w2 qa em) (cwV 4 hq (gb_gV w_1645 w_1646 w_1647 w_14 w_1648) rfl rfl rfl (by decide +kernel) ⟨Nat.le_of_ble_eq_true rfl, Nat.le_of_ble_eq_true rfl⟩) (gb_preV (r := (RX12, TX12, 44)) (ci := 10) (q0 := 0) hSt2.1 hPm rfl (gb_at (z + 135) rfl) hS (fun q h => h) hPm) rfl rfl hl.1 rfl (lv_room (Nat.le_of_ble_eq_true rfl)) dL_law_1241 ⟨Nat.le_of_ble_eq_true rfl, Nat.le_of_ble_eq_true rfl⟩) hS (fun q h => Nat.le_trans (Nat.le_add_right z 135) h.1) (fun q h => Nat.le_trans (Nat.le_add_right z 135) h.1) (fun rm H2 locs2 hY hk hS => ?_)
  obtain ⟨hr_, hY⟩ := hY
  subst hr_
  have hPc := gb_kept hPc (fun q h1 h2 => hk q (Nat.lt_of_lt_of_le h2 (Nat.le_of_lt (Nat.lt_of_le_of_lt (Nat.le_add_right (z + 135) 21) ((hPm 21 _ (gb_at (z + 135) rfl)).lt)))) (fun h3 => Nat.not_lt.mpr h3.1 h2))
  have hPm := hY
  clear hY
  refine lv_pop hx hb dL_law_1244 rfl ?_
  refine lv_goto (tgt := 1890) hx hb dL_law_1245 (by decide) ?_
  exact hend _ _ _ _ _ _ hI2 hPc hPm hS hl
theorem dL_law_1248 : decode cL_law 1248 = .ok (.aload_n 1, 1) := dc_43 (dc_cut (j := 32) (n := 1) (l := [43]) dq_cL_law_1216 (by decide +kernel) (by decide))
theorem dL_law_1249 : decode cL_law 1249 = .ok (.aload_n 0, 1) := dc_42 (dc_cut (j := 33) (n := 1) (l := [42]) dq_cL_law_1216 (by decide +kernel) (by decide))
theorem dL_law_1250 : decode cL_law 1250 = .ok (.iload_n 3, 1) := dc_29 (dc_cut (j := 34) (n := 1) (l := [29]) dq_cL_law_1216 (by decide +kernel) (by decide))
theorem dL_law_1251 : decode cL_law 1251 = .ok (.iconst 1, 1) := dc_4 (dc_cut (j := 35) (n := 1) (l := [4]) dq_cL_law_1216 (by decide +kernel) (by decide))
theorem dL_law_1252 : decode cL_law 1252 = .ok (.iadd, 1) := dc_96 (dc_cut (j := 36) (n := 1) (l := [96]) dq_cL_law_1216 (by decide +kernel) (by decide))
theorem dL_law_1253 : decode cL_law 1253 = .ok (.iaload, 1) := dc_46 (dc_cut (j := 37) (n := 1) (l := [46]) dq_cL_law_1216 (by decide +kernel) (by decide))
theorem dL_law_1254 : decode cL_law 1254 = .ok (.aload_n 0, 1) := dc_42 (dc_cut (j := 38) (n := 1) (l := [42]) dq_cL_law_1216 (by decide +kernel) (by decide))
theorem dL_law_1255 : decode cL_law 1255 = .ok (.iload_n 3, 1) := dc_29 (dc_cut (j := 39) (n := 1) (l := [29]) dq_cL_law_1216 (by decide +kernel) (by decide))
theorem dL_law_1256 : decode cL_law 1256 = .ok (.iconst 2, 1) := dc_5 (dc_cut (j := 40) (n := 1) (l := [5]) dq_cL_law_1216 (by decide +kernel) (by decide))
theorem dL_law_1257 : decode cL_law 1257 = .ok (.iadd, 1) := dc_96 (dc_cut (j := 41) (n := 1) (l := [96]) dq_cL_law_1216 (by decide +kernel) (by decide))
theorem dL_law_1258 : decode cL_law 1258 = .ok (.iaload, 1) := dc_46 (dc_cut (j := 42) (n := 1) (l := [46]) dq_cL_law_1216 (by decide +kernel) (by decide))
theorem dL_law_1259 : decode cL_law 1259 = .ok (.aload_n 0, 1) := dc_42 (dc_cut (j := 43) (n := 1) (l := [42]) dq_cL_law_1216 (by decide +kernel) (by decide))
theorem dL_law_1260 : decode cL_law 1260 = .ok (.iload_n 3, 1) := dc_29 (dc_cut (j := 44) (n := 1) (l := [29]) dq_cL_law_1216 (by decide +kernel) (by decide))
theorem dL_law_1261 : decode cL_law 1261 = .ok (.iconst 3, 1) := dc_6 (dc_cut (j := 45) (n := 1) (l := [6]) dq_cL_law_1216 (by decide +kernel) (by decide))
theorem dL_law_1262 : decode cL_law 1262 = .ok (.iadd, 1) := dc_96 (dc_cut (j := 46) (n := 1) (l := [96]) dq_cL_law_1216 (by decide +kernel) (by decide))
theorem dL_law_1263 : decode cL_law 1263 = .ok (.iaload, 1) := dc_46 (dc_cut (j := 47) (n := 1) (l := [46]) dq_cL_law_1216 (by decide +kernel) (by decide))
theorem dL_law_1264 : decode cL_law 1264 = .ok (.aload_n 0, 1) := dc_42 (dc_cut (j := 48) (n := 1) (l := [42]) dq_cL_law_1216 (by decide +kernel) (by decide))
theorem dL_law_1265 : decode cL_law 1265 = .ok (.iload_n 3, 1) := dc_29 (dc_cut (j := 49) (n := 1) (l := [29]) dq_cL_law_1216 (by decide +kernel) (by decide))
theorem dL_law_1266 : decode cL_law 1266 = .ok (.iconst 4, 1) := dc_7 (dc_cut (j := 50) (n := 1) (l := [7]) dq_cL_law_1216 (by decide +kernel) (by decide))
theorem dL_law_1267 : decode cL_law 1267 = .ok (.iadd, 1) := dc_96 (dc_cut (j := 51) (n := 1) (l := [96]) dq_cL_law_1216 (by decide +kernel) (by decide))
theorem dL_law_1268 : decode cL_law 1268 = .ok (.iaload, 1) := dc_46 (dc_cut (j := 52) (n := 1) (l := [46]) dq_cL_law_1216 (by decide +kernel) (by decide))
theorem dL_law_1269 : decode cL_law 1269 = .ok (.invokevirtual 116, 3) := dc_182 (dc_cut (j := 53) (n := 3) (l := [182, 0, 116]) dq_cL_law_1216 (by decide +kernel) (by decide)) rfl
theorem w_1094 : (Cond.methodLink "GooseBorderLaw" (116 : Nat) ({ cls := "GooseBorder", name := "drawn", desc := "(IIII)I" } : MethodName)) ∈ gb_wA := gb_t5 134 rfl rfl
theorem w_1095 : (Cond.instanceMethod ({ cls := "GooseBorder", name := "drawn", desc := "(IIII)I" } : MethodName)) ∈ gb_wA := gb_t5 135 rfl rfl
theorem w_1096 : (Cond.selects "GooseBorder" ({ cls := "GooseBorder", name := "drawn", desc := "(IIII)I" } : MethodName) ({ cls := "GooseBorder", name := "drawn", desc := "(IIII)I" } : MethodName)) ∈ gb_wA := gb_t5 136 rfl rfl
theorem w_1097 : (Cond.code ({ cls := "GooseBorder", name := "drawn", desc := "(IIII)I" } : MethodName) prog_1_method_48_code (8 : Nat) (Option.some FieldType.int)) ∈ gb_wA := gb_t5 137 rfl rfl
theorem dL_law_1272 : decode cL_law 1272 = .ok (.pop, 1) := dc_87 (dc_cut (j := 56) (n := 1) (l := [87]) dq_cL_law_1216 (by decide +kernel) (by decide))
theorem dL_law_1273 : decode cL_law 1273 = .ok (.aload_n 2, 1) := dc_44 (dc_cut (j := 57) (n := 1) (l := [44]) dq_cL_law_1216 (by decide +kernel) (by decide))
theorem dL_law_1274 : decode cL_law 1274 = .ok (.aload_n 0, 1) := dc_42 (dc_cut (j := 58) (n := 1) (l := [42]) dq_cL_law_1216 (by decide +kernel) (by decide))
theorem dL_law_1275 : decode cL_law 1275 = .ok (.iload_n 3, 1) := dc_29 (dc_cut (j := 59) (n := 1) (l := [29]) dq_cL_law_1216 (by decide +kernel) (by decide))
theorem dL_law_1276 : decode cL_law 1276 = .ok (.iconst 1, 1) := dc_4 (dc_cut (j := 60) (n := 1) (l := [4]) dq_cL_law_1216 (by decide +kernel) (by decide))
theorem dL_law_1277 : decode cL_law 1277 = .ok (.iadd, 1) := dc_96 (dc_cut (j := 61) (n := 1) (l := [96]) dq_cL_law_1216 (by decide +kernel) (by decide))
theorem dL_law_1278 : decode cL_law 1278 = .ok (.iaload, 1) := dc_46 (dc_cut (j := 62) (n := 1) (l := [46]) dq_cL_law_1216 (by decide +kernel) (by decide))
theorem dL_law_1279 : decode cL_law 1279 = .ok (.aload_n 0, 1) := dc_42 (dc_cut (j := 63) (n := 1) (l := [42]) dq_cL_law_1216 (by decide +kernel) (by decide))
theorem dq_cL_law_1280 : ((cL_law.data.toList.drop 1280).take 67).map UInt8.toNat = [29, 5, 96, 46, 42, 29, 6, 96, 46, 42, 29, 7, 96, 46, 182, 0, 119, 87, 167, 2, 80, 43, 42, 29, 4, 96, 46, 42, 29, 5, 96, 46, 42, 29, 6, 96, 46, 182, 0, 120, 87, 44, 42, 29, 4, 96, 46, 42, 29, 5, 96, 46, 42, 29, 6, 96, 46, 182, 0, 123, 87, 167, 2, 37, 43, 42, 29] := by decide +kernel
theorem dL_law_1280 : decode cL_law 1280 = .ok (.iload_n 3, 1) := dc_29 (dc_cut (j := 0) (n := 1) (l := [29]) dq_cL_law_1280 (by decide +kernel) (by decide))
theorem dL_law_1281 : decode cL_law 1281 = .ok (.iconst 2, 1) := dc_5 (dc_cut (j := 1) (n := 1) (l := [5]) dq_cL_law_1280 (by decide +kernel) (by decide))
theorem dL_law_1282 : decode cL_law 1282 = .ok (.iadd, 1) := dc_96 (dc_cut (j := 2) (n := 1) (l := [96]) dq_cL_law_1280 (by decide +kernel) (by decide))
theorem dL_law_1283 : decode cL_law 1283 = .ok (.iaload, 1) := dc_46 (dc_cut (j := 3) (n := 1) (l := [46]) dq_cL_law_1280 (by decide +kernel) (by decide))
theorem dL_law_1284 : decode cL_law 1284 = .ok (.aload_n 0, 1) := dc_42 (dc_cut (j := 4) (n := 1) (l := [42]) dq_cL_law_1280 (by decide +kernel) (by decide))
theorem dL_law_1285 : decode cL_law 1285 = .ok (.iload_n 3, 1) := dc_29 (dc_cut (j := 5) (n := 1) (l := [29]) dq_cL_law_1280 (by decide +kernel) (by decide))
theorem dL_law_1286 : decode cL_law 1286 = .ok (.iconst 3, 1) := dc_6 (dc_cut (j := 6) (n := 1) (l := [6]) dq_cL_law_1280 (by decide +kernel) (by decide))
theorem dL_law_1287 : decode cL_law 1287 = .ok (.iadd, 1) := dc_96 (dc_cut (j := 7) (n := 1) (l := [96]) dq_cL_law_1280 (by decide +kernel) (by decide))
theorem dL_law_1288 : decode cL_law 1288 = .ok (.iaload, 1) := dc_46 (dc_cut (j := 8) (n := 1) (l := [46]) dq_cL_law_1280 (by decide +kernel) (by decide))
theorem dL_law_1289 : decode cL_law 1289 = .ok (.aload_n 0, 1) := dc_42 (dc_cut (j := 9) (n := 1) (l := [42]) dq_cL_law_1280 (by decide +kernel) (by decide))
theorem dL_law_1290 : decode cL_law 1290 = .ok (.iload_n 3, 1) := dc_29 (dc_cut (j := 10) (n := 1) (l := [29]) dq_cL_law_1280 (by decide +kernel) (by decide))
theorem dL_law_1291 : decode cL_law 1291 = .ok (.iconst 4, 1) := dc_7 (dc_cut (j := 11) (n := 1) (l := [7]) dq_cL_law_1280 (by decide +kernel) (by decide))
theorem dL_law_1292 : decode cL_law 1292 = .ok (.iadd, 1) := dc_96 (dc_cut (j := 12) (n := 1) (l := [96]) dq_cL_law_1280 (by decide +kernel) (by decide))
theorem dL_law_1293 : decode cL_law 1293 = .ok (.iaload, 1) := dc_46 (dc_cut (j := 13) (n := 1) (l := [46]) dq_cL_law_1280 (by decide +kernel) (by decide))
theorem dL_law_1294 : decode cL_law 1294 = .ok (.invokevirtual 119, 3) := dc_182 (dc_cut (j := 14) (n := 3) (l := [182, 0, 119]) dq_cL_law_1280 (by decide +kernel) (by decide)) rfl
theorem w_1649 : (Cond.methodLink "GooseBorderLaw" (119 : Nat) ({ cls := "GooseBorderModel", name := "drawn", desc := "(IIII)I" } : MethodName)) ∈ gb_wA := gb_t7 209 rfl rfl
theorem w_1650 : (Cond.instanceMethod ({ cls := "GooseBorderModel", name := "drawn", desc := "(IIII)I" } : MethodName)) ∈ gb_wA := gb_t7 210 rfl rfl
theorem w_1651 : (Cond.selects "GooseBorderModel" ({ cls := "GooseBorderModel", name := "drawn", desc := "(IIII)I" } : MethodName) ({ cls := "GooseBorderModel", name := "drawn", desc := "(IIII)I" } : MethodName)) ∈ gb_wA := gb_t7 211 rfl rfl
theorem w_1652 : (Cond.code ({ cls := "GooseBorderModel", name := "drawn", desc := "(IIII)I" } : MethodName) prog_14_method_103_code (7 : Nat) (Option.some FieldType.int)) ∈ gb_wA := gb_t7 212 rfl rfl
theorem dL_law_1297 : decode cL_law 1297 = .ok (.pop, 1) := dc_87 (dc_cut (j := 17) (n := 1) (l := [87]) dq_cL_law_1280 (by decide +kernel) (by decide))
theorem dL_law_1298 : decode cL_law 1298 = .ok (.goto 592, 3) := dc_167 (dc_cut (j := 18) (n := 3) (l := [167, 2, 80]) dq_cL_law_1280 (by decide +kernel) (by decide)) rfl
set_option maxHeartbeats 4000000 in
set_option maxRecDepth 100000 in
theorem law_c24 {p : Program} {l : Launch} {e : Env} {s : State} {m : MethodId} {below : List Frame} {meth : Method} {c : Code} {b z L : Nat} {xs : Nat → Int32} (C0 : lw_At p s m meth c b L xs) (hzz : Array.size s.heap = z) {D : va_G} {cT : Nat → ClassId} {tt ak av : Nat → Nat} (hSt2 : gb_St2 D cT tt ak av z s) {i : Int32} (h1 : vp_in (i + 1) L) (h2 : vp_in (i + 2) L) (h3 : vp_in (i + 3) L) (h4 : vp_in (i + 4) L) (h5 : vp_in (i + 5) L) (hend : ∀ (σ : gb_S) (f : gb_F) (w : Int64) (H : Heap) (locs : List Loc) (ls : Array Slot), gb_Inv σ f → va_P D vwCl (gb_wl z (gb_CW cT z σ)) H → va_P D vwCl (gb_wl (z + 135) (gb_MW cT (z + 135) f w)) H → va_S (gb_ge z) s.heap H locs → lv_has ls 4 [(3, .int i), (2, .ref (z + 135 + 0)), (1, .ref (z + 0)), (0, .ref b)] → W p l e room_1 s m #[Value.ref b] below meth c H locs 157 10381 (lw_Z below #[Value.ref b] s) (F0 m 1890 ls [])) : ∀ (σ : gb_S) (f : gb_F) (w : Int64) (H : Heap) (locs : List Loc) (ls : Array Slot), gb_Inv σ f → va_P D vwCl (gb_wl z (gb_CW cT z σ)) H → va_P D vwCl (gb_wl (z + 135) (gb_MW cT (z + 135) f w)) H → va_S (gb_ge z) s.heap H locs → lv_has ls 4 [(3, .int i), (2, .ref (z + 135 + 0)), (1, .ref (z + 0)), (0, .ref b)] → W p l e room_1 s m #[Value.ref b] below meth c H locs 157 10381 (lw_Z below #[Value.ref b] s) (F0 m 1248 ls []) := by
  obtain ⟨hx, hb, hr, hml, hown, hts, hX, hbl, hlocks, hgv⟩ := C0
  have hq : ∀ w ∈ gb_wA, w.before #[Value.ref b] s = true := fun w h => hts w (gb_wA_tbl w h)
  have hbA : ¬ gb_ge z b := Nat.not_le.mpr (by rw [← hzz]; exact hbl)
  intro σ f w H locs ls hI hPc hPm hS hl
  refine lv_aload_n hx hb dL_law_1248 rfl (lv_at hl 2 rfl) ?_
  refine lv_aload_n hx hb dL_law_1249 rfl (lv_at hl 3 rfl) ?_
  refine lv_iload_n hx hb dL_law_1250 rfl (lv_at hl 0 rfl) ?_
  refine lv_iconst (v := 1) hx hb dL_law_1251 (by decide) ?_
  refine lv_iadd hx hb dL_law_1252 ?_
  refine va_sld hx hb hX hbl hbA hS h1 dL_law_1253 ?_
  refine lv_aload_n hx hb dL_law_1254 rfl (lv_at hl 3 rfl) ?_
  refine lv_iload_n hx hb dL_law_1255 rfl (lv_at hl 0 rfl) ?_
  refine lv_iconst (v := 2) hx hb dL_law_1256 (by decide) ?_
  refine lv_iadd hx hb dL_law_1257 ?_
  refine va_sld hx hb hX hbl hbA hS h2 dL_law_1258 ?_
  refine lv_aload_n hx hb dL_law_1259 rfl (lv_at hl 3 rfl) ?_
  refine lv_iload_n hx hb dL_law_1260 rfl (lv_at hl 0 rfl) ?_
  refine lv_iconst (v := 3) hx hb dL_law_1261 (by decide) ?_
  refine lv_iadd hx hb dL_law_1262 ?_
  refine va_sld hx hb hX hbl hbA hS h3 dL_law_1263 ?_
  refine lv_aload_n hx hb dL_law_1264 rfl (lv_at hl 3 rfl) ?_
  refine lv_iload_n hx hb dL_law_1265 rfl (lv_at hl 0 rfl) ?_
  refine lv_iconst (v := 4) hx hb dL_law_1266 (by decide) ?_
  refine lv_iadd hx hb dL_law_1267 ?_
  refine va_sld hx hb hX hbl hbA hS h4 dL_law_1268 ?_
  obtain ⟨σ2, ra, f2, w2, qa, ec, em, hI2, hcmp⟩ := law_s_drawn (xs (Int32.toNatClampNeg (i + 1))) (xs (Int32.toNatClampNeg (i + 2))) (xs (Int32.toNatClampNeg (i + 3))) (xs (Int32.toNatClampNeg (i + 4))) w hI
  refine gb_calli (va_runV (C := RX11) (As := [.int (xs (Int32.toNatClampNeg (i + 1))), .int (xs (Int32.toNatClampNeg (i + 2))), .int (xs (Int32.toNatClampNeg (i + 3))), .int (xs (Int32.toNatClampNeg (i + 4)))]) (rest := []) ⟨hx, hb, hml, hown, hq⟩ (cc_Face_drawn l D cT tt z z (Nat.le_refl z) gb_N σ (xs (Int32.toNatClampNeg (i + 1))) (xs (Int32.toNatClampNeg (i + 2))) (xs (Int32.toNatClampNeg (i + 3))) (xs (Int32.toNatClampNeg (i + 4))) σ2 ra ec) (cwV 4 hq (gb_gV w_1094 w_1095 w_1096 w_1 w_1097) rfl rfl rfl (by decide +kernel) ⟨Nat.le_of_ble_eq_true rfl, Nat.le_of_ble_eq_true rfl⟩) (gb_preV (r := (RX11, TX11, 10)) (ci := 9) (q0 := 0) hSt2.1 hPc rfl (gb_at z rfl) hS (fun q h => h) hPc) rfl rfl hl.1 rfl (lv_room (Nat.le_of_ble_eq_true rfl)) dL_law_1269 ⟨Nat.le_of_ble_eq_true rfl, Nat.le_of_ble_eq_true rfl⟩) hS (fun q h => h.1) (fun q h => h.1) (fun rc H2 locs2 hY hk hS => ?_)
  obtain ⟨hr_, hY⟩ := hY
  subst hr_
  have hPm := gb_kept hPm (fun q h1 h2 => hk q (Nat.lt_of_lt_of_le h2 ((hPm 21 _ (gb_at (z + 135) rfl)).lt)) (fun h3 => Nat.not_lt.mpr h1 h3.2))
  have hPc := hY
  clear hY
  refine lv_pop hx hb dL_law_1272 rfl ?_
  refine lv_aload_n hx hb dL_law_1273 rfl (lv_at hl 1 rfl) ?_
  refine lv_aload_n hx hb dL_law_1274 rfl (lv_at hl 3 rfl) ?_
  refine lv_iload_n hx hb dL_law_1275 rfl (lv_at hl 0 rfl) ?_
  refine lv_iconst (v := 1) hx hb dL_law_1276 (by decide) ?_
  refine lv_iadd hx hb dL_law_1277 ?_
  refine va_sld hx hb hX hbl hbA hS h1 dL_law_1278 ?_
  refine lv_aload_n hx hb dL_law_1279 rfl (lv_at hl 3 rfl) ?_
  refine lv_iload_n hx hb dL_law_1280 rfl (lv_at hl 0 rfl) ?_
  refine lv_iconst (v := 2) hx hb dL_law_1281 (by decide) ?_
  refine lv_iadd hx hb dL_law_1282 ?_
  refine va_sld hx hb hX hbl hbA hS h2 dL_law_1283 ?_
  refine lv_aload_n hx hb dL_law_1284 rfl (lv_at hl 3 rfl) ?_
  refine lv_iload_n hx hb dL_law_1285 rfl (lv_at hl 0 rfl) ?_
  refine lv_iconst (v := 3) hx hb dL_law_1286 (by decide) ?_
  refine lv_iadd hx hb dL_law_1287 ?_
  refine va_sld hx hb hX hbl hbA hS h3 dL_law_1288 ?_
  refine lv_aload_n hx hb dL_law_1289 rfl (lv_at hl 3 rfl) ?_
  refine lv_iload_n hx hb dL_law_1290 rfl (lv_at hl 0 rfl) ?_
  refine lv_iconst (v := 4) hx hb dL_law_1291 (by decide) ?_
  refine lv_iadd hx hb dL_law_1292 ?_
  refine va_sld hx hb hX hbl hbA hS h4 dL_law_1293 ?_
  refine gb_calli (va_runV (C := RX12) (As := [.int (xs (Int32.toNatClampNeg (i + 1))), .int (xs (Int32.toNatClampNeg (i + 2))), .int (xs (Int32.toNatClampNeg (i + 3))), .int (xs (Int32.toNatClampNeg (i + 4)))]) (rest := []) ⟨hx, hb, hml, hown, hq⟩ (mc_drawn l D cT tt z (z + 135) (Nat.le_add_right z 135) gb_N f w (xs (Int32.toNatClampNeg (i + 1))) (xs (Int32.toNatClampNeg (i + 2))) (xs (Int32.toNatClampNeg (i + 3))) (xs (Int32.toNatClampNeg (i + 4))) f2 w2 qa em) (cwV 4 hq (gb_gV w_1649 w_1650 w_1651 w_14 w_1652) rfl rfl rfl (by decide +kernel) ⟨Nat.le_of_ble_eq_true rfl, Nat.le_of_ble_eq_true rfl⟩) (gb_preV (r := (RX12, TX12, 44)) (ci := 10) (q0 := 0) hSt2.1 hPm rfl (gb_at (z + 135) rfl) hS (fun q h => h) hPm) rfl rfl hl.1 rfl (lv_room (Nat.le_of_ble_eq_true rfl)) dL_law_1294 ⟨Nat.le_of_ble_eq_true rfl, Nat.le_of_ble_eq_true rfl⟩) hS (fun q h => Nat.le_trans (Nat.le_add_right z 135) h.1) (fun q h => Nat.le_trans (Nat.le_add_right z 135) h.1) (fun rm H2 locs2 hY hk hS => ?_)
  obtain ⟨hr_, hY⟩ := hY
  subst hr_
  have hPc := gb_kept hPc (fun q h1 h2 => hk q (Nat.lt_of_lt_of_le h2 (Nat.le_of_lt (Nat.lt_of_le_of_lt (Nat.le_add_right (z + 135) 21) ((hPm 21 _ (gb_at (z + 135) rfl)).lt)))) (fun h3 => Nat.not_lt.mpr h3.1 h2))
  have hPm := hY
  clear hY
  refine lv_pop hx hb dL_law_1297 rfl ?_
  refine lv_goto (tgt := 1890) hx hb dL_law_1298 (by decide) ?_
  exact hend _ _ _ _ _ _ hI2 hPc hPm hS hl
theorem dL_law_1301 : decode cL_law 1301 = .ok (.aload_n 1, 1) := dc_43 (dc_cut (j := 21) (n := 1) (l := [43]) dq_cL_law_1280 (by decide +kernel) (by decide))
theorem dL_law_1302 : decode cL_law 1302 = .ok (.aload_n 0, 1) := dc_42 (dc_cut (j := 22) (n := 1) (l := [42]) dq_cL_law_1280 (by decide +kernel) (by decide))
theorem dL_law_1303 : decode cL_law 1303 = .ok (.iload_n 3, 1) := dc_29 (dc_cut (j := 23) (n := 1) (l := [29]) dq_cL_law_1280 (by decide +kernel) (by decide))
theorem dL_law_1304 : decode cL_law 1304 = .ok (.iconst 1, 1) := dc_4 (dc_cut (j := 24) (n := 1) (l := [4]) dq_cL_law_1280 (by decide +kernel) (by decide))
theorem dL_law_1305 : decode cL_law 1305 = .ok (.iadd, 1) := dc_96 (dc_cut (j := 25) (n := 1) (l := [96]) dq_cL_law_1280 (by decide +kernel) (by decide))
theorem dL_law_1306 : decode cL_law 1306 = .ok (.iaload, 1) := dc_46 (dc_cut (j := 26) (n := 1) (l := [46]) dq_cL_law_1280 (by decide +kernel) (by decide))
theorem dL_law_1307 : decode cL_law 1307 = .ok (.aload_n 0, 1) := dc_42 (dc_cut (j := 27) (n := 1) (l := [42]) dq_cL_law_1280 (by decide +kernel) (by decide))
theorem dL_law_1308 : decode cL_law 1308 = .ok (.iload_n 3, 1) := dc_29 (dc_cut (j := 28) (n := 1) (l := [29]) dq_cL_law_1280 (by decide +kernel) (by decide))
theorem dL_law_1309 : decode cL_law 1309 = .ok (.iconst 2, 1) := dc_5 (dc_cut (j := 29) (n := 1) (l := [5]) dq_cL_law_1280 (by decide +kernel) (by decide))
theorem dL_law_1310 : decode cL_law 1310 = .ok (.iadd, 1) := dc_96 (dc_cut (j := 30) (n := 1) (l := [96]) dq_cL_law_1280 (by decide +kernel) (by decide))
theorem dL_law_1311 : decode cL_law 1311 = .ok (.iaload, 1) := dc_46 (dc_cut (j := 31) (n := 1) (l := [46]) dq_cL_law_1280 (by decide +kernel) (by decide))
theorem dL_law_1312 : decode cL_law 1312 = .ok (.aload_n 0, 1) := dc_42 (dc_cut (j := 32) (n := 1) (l := [42]) dq_cL_law_1280 (by decide +kernel) (by decide))
theorem dL_law_1313 : decode cL_law 1313 = .ok (.iload_n 3, 1) := dc_29 (dc_cut (j := 33) (n := 1) (l := [29]) dq_cL_law_1280 (by decide +kernel) (by decide))
theorem dL_law_1314 : decode cL_law 1314 = .ok (.iconst 3, 1) := dc_6 (dc_cut (j := 34) (n := 1) (l := [6]) dq_cL_law_1280 (by decide +kernel) (by decide))
theorem dL_law_1315 : decode cL_law 1315 = .ok (.iadd, 1) := dc_96 (dc_cut (j := 35) (n := 1) (l := [96]) dq_cL_law_1280 (by decide +kernel) (by decide))
theorem dL_law_1316 : decode cL_law 1316 = .ok (.iaload, 1) := dc_46 (dc_cut (j := 36) (n := 1) (l := [46]) dq_cL_law_1280 (by decide +kernel) (by decide))
theorem dL_law_1317 : decode cL_law 1317 = .ok (.invokevirtual 120, 3) := dc_182 (dc_cut (j := 37) (n := 3) (l := [182, 0, 120]) dq_cL_law_1280 (by decide +kernel) (by decide)) rfl
theorem w_970 : (Cond.methodLink "GooseBorderLaw" (120 : Nat) ({ cls := "GooseBorder", name := "alike", desc := "(III)I" } : MethodName)) ∈ gb_wA := gb_t5 10 rfl rfl
theorem w_971 : (Cond.instanceMethod ({ cls := "GooseBorder", name := "alike", desc := "(III)I" } : MethodName)) ∈ gb_wA := gb_t5 11 rfl rfl
theorem w_972 : (Cond.selects "GooseBorder" ({ cls := "GooseBorder", name := "alike", desc := "(III)I" } : MethodName) ({ cls := "GooseBorder", name := "alike", desc := "(III)I" } : MethodName)) ∈ gb_wA := gb_t5 12 rfl rfl
theorem w_973 : (Cond.code ({ cls := "GooseBorder", name := "alike", desc := "(III)I" } : MethodName) prog_1_method_39_code (7 : Nat) (Option.some FieldType.int)) ∈ gb_wA := gb_t5 13 rfl rfl
theorem dL_law_1320 : decode cL_law 1320 = .ok (.pop, 1) := dc_87 (dc_cut (j := 40) (n := 1) (l := [87]) dq_cL_law_1280 (by decide +kernel) (by decide))
theorem dL_law_1321 : decode cL_law 1321 = .ok (.aload_n 2, 1) := dc_44 (dc_cut (j := 41) (n := 1) (l := [44]) dq_cL_law_1280 (by decide +kernel) (by decide))
theorem dL_law_1322 : decode cL_law 1322 = .ok (.aload_n 0, 1) := dc_42 (dc_cut (j := 42) (n := 1) (l := [42]) dq_cL_law_1280 (by decide +kernel) (by decide))
theorem dL_law_1323 : decode cL_law 1323 = .ok (.iload_n 3, 1) := dc_29 (dc_cut (j := 43) (n := 1) (l := [29]) dq_cL_law_1280 (by decide +kernel) (by decide))
theorem dL_law_1324 : decode cL_law 1324 = .ok (.iconst 1, 1) := dc_4 (dc_cut (j := 44) (n := 1) (l := [4]) dq_cL_law_1280 (by decide +kernel) (by decide))
theorem dL_law_1325 : decode cL_law 1325 = .ok (.iadd, 1) := dc_96 (dc_cut (j := 45) (n := 1) (l := [96]) dq_cL_law_1280 (by decide +kernel) (by decide))
theorem dL_law_1326 : decode cL_law 1326 = .ok (.iaload, 1) := dc_46 (dc_cut (j := 46) (n := 1) (l := [46]) dq_cL_law_1280 (by decide +kernel) (by decide))
theorem dL_law_1327 : decode cL_law 1327 = .ok (.aload_n 0, 1) := dc_42 (dc_cut (j := 47) (n := 1) (l := [42]) dq_cL_law_1280 (by decide +kernel) (by decide))
theorem dL_law_1328 : decode cL_law 1328 = .ok (.iload_n 3, 1) := dc_29 (dc_cut (j := 48) (n := 1) (l := [29]) dq_cL_law_1280 (by decide +kernel) (by decide))
theorem dL_law_1329 : decode cL_law 1329 = .ok (.iconst 2, 1) := dc_5 (dc_cut (j := 49) (n := 1) (l := [5]) dq_cL_law_1280 (by decide +kernel) (by decide))
theorem dL_law_1330 : decode cL_law 1330 = .ok (.iadd, 1) := dc_96 (dc_cut (j := 50) (n := 1) (l := [96]) dq_cL_law_1280 (by decide +kernel) (by decide))
theorem dL_law_1331 : decode cL_law 1331 = .ok (.iaload, 1) := dc_46 (dc_cut (j := 51) (n := 1) (l := [46]) dq_cL_law_1280 (by decide +kernel) (by decide))
theorem dL_law_1332 : decode cL_law 1332 = .ok (.aload_n 0, 1) := dc_42 (dc_cut (j := 52) (n := 1) (l := [42]) dq_cL_law_1280 (by decide +kernel) (by decide))
theorem dL_law_1333 : decode cL_law 1333 = .ok (.iload_n 3, 1) := dc_29 (dc_cut (j := 53) (n := 1) (l := [29]) dq_cL_law_1280 (by decide +kernel) (by decide))
theorem dL_law_1334 : decode cL_law 1334 = .ok (.iconst 3, 1) := dc_6 (dc_cut (j := 54) (n := 1) (l := [6]) dq_cL_law_1280 (by decide +kernel) (by decide))
theorem dL_law_1335 : decode cL_law 1335 = .ok (.iadd, 1) := dc_96 (dc_cut (j := 55) (n := 1) (l := [96]) dq_cL_law_1280 (by decide +kernel) (by decide))
theorem dL_law_1336 : decode cL_law 1336 = .ok (.iaload, 1) := dc_46 (dc_cut (j := 56) (n := 1) (l := [46]) dq_cL_law_1280 (by decide +kernel) (by decide))
theorem dL_law_1337 : decode cL_law 1337 = .ok (.invokevirtual 123, 3) := dc_182 (dc_cut (j := 57) (n := 3) (l := [182, 0, 123]) dq_cL_law_1280 (by decide +kernel) (by decide)) rfl
theorem w_1662 : (Cond.methodLink "GooseBorderLaw" (123 : Nat) ({ cls := "GooseBorderModel", name := "alike", desc := "(III)I" } : MethodName)) ∈ gb_wA := gb_t7 222 rfl rfl
theorem w_1663 : (Cond.instanceMethod ({ cls := "GooseBorderModel", name := "alike", desc := "(III)I" } : MethodName)) ∈ gb_wA := gb_t7 223 rfl rfl
theorem w_1664 : (Cond.selects "GooseBorderModel" ({ cls := "GooseBorderModel", name := "alike", desc := "(III)I" } : MethodName) ({ cls := "GooseBorderModel", name := "alike", desc := "(III)I" } : MethodName)) ∈ gb_wA := gb_t7 224 rfl rfl
theorem w_1665 : (Cond.code ({ cls := "GooseBorderModel", name := "alike", desc := "(III)I" } : MethodName) prog_14_method_104_code (6 : Nat) (Option.some FieldType.int)) ∈ gb_wA := gb_t7 225 rfl rfl
theorem dL_law_1340 : decode cL_law 1340 = .ok (.pop, 1) := dc_87 (dc_cut (j := 60) (n := 1) (l := [87]) dq_cL_law_1280 (by decide +kernel) (by decide))
theorem dL_law_1341 : decode cL_law 1341 = .ok (.goto 549, 3) := dc_167 (dc_cut (j := 61) (n := 3) (l := [167, 2, 37]) dq_cL_law_1280 (by decide +kernel) (by decide)) rfl
set_option maxHeartbeats 4000000 in
set_option maxRecDepth 100000 in
theorem law_c25 {p : Program} {l : Launch} {e : Env} {s : State} {m : MethodId} {below : List Frame} {meth : Method} {c : Code} {b z L : Nat} {xs : Nat → Int32} (C0 : lw_At p s m meth c b L xs) (hzz : Array.size s.heap = z) {D : va_G} {cT : Nat → ClassId} {tt ak av : Nat → Nat} (hSt2 : gb_St2 D cT tt ak av z s) {i : Int32} (h1 : vp_in (i + 1) L) (h2 : vp_in (i + 2) L) (h3 : vp_in (i + 3) L) (h4 : vp_in (i + 4) L) (h5 : vp_in (i + 5) L) (hend : ∀ (σ : gb_S) (f : gb_F) (w : Int64) (H : Heap) (locs : List Loc) (ls : Array Slot), gb_Inv σ f → va_P D vwCl (gb_wl z (gb_CW cT z σ)) H → va_P D vwCl (gb_wl (z + 135) (gb_MW cT (z + 135) f w)) H → va_S (gb_ge z) s.heap H locs → lv_has ls 4 [(3, .int i), (2, .ref (z + 135 + 0)), (1, .ref (z + 0)), (0, .ref b)] → W p l e room_1 s m #[Value.ref b] below meth c H locs 157 10381 (lw_Z below #[Value.ref b] s) (F0 m 1890 ls [])) : ∀ (σ : gb_S) (f : gb_F) (w : Int64) (H : Heap) (locs : List Loc) (ls : Array Slot), gb_Inv σ f → va_P D vwCl (gb_wl z (gb_CW cT z σ)) H → va_P D vwCl (gb_wl (z + 135) (gb_MW cT (z + 135) f w)) H → va_S (gb_ge z) s.heap H locs → lv_has ls 4 [(3, .int i), (2, .ref (z + 135 + 0)), (1, .ref (z + 0)), (0, .ref b)] → W p l e room_1 s m #[Value.ref b] below meth c H locs 157 10381 (lw_Z below #[Value.ref b] s) (F0 m 1301 ls []) := by
  obtain ⟨hx, hb, hr, hml, hown, hts, hX, hbl, hlocks, hgv⟩ := C0
  have hq : ∀ w ∈ gb_wA, w.before #[Value.ref b] s = true := fun w h => hts w (gb_wA_tbl w h)
  have hbA : ¬ gb_ge z b := Nat.not_le.mpr (by rw [← hzz]; exact hbl)
  intro σ f w H locs ls hI hPc hPm hS hl
  refine lv_aload_n hx hb dL_law_1301 rfl (lv_at hl 2 rfl) ?_
  refine lv_aload_n hx hb dL_law_1302 rfl (lv_at hl 3 rfl) ?_
  refine lv_iload_n hx hb dL_law_1303 rfl (lv_at hl 0 rfl) ?_
  refine lv_iconst (v := 1) hx hb dL_law_1304 (by decide) ?_
  refine lv_iadd hx hb dL_law_1305 ?_
  refine va_sld hx hb hX hbl hbA hS h1 dL_law_1306 ?_
  refine lv_aload_n hx hb dL_law_1307 rfl (lv_at hl 3 rfl) ?_
  refine lv_iload_n hx hb dL_law_1308 rfl (lv_at hl 0 rfl) ?_
  refine lv_iconst (v := 2) hx hb dL_law_1309 (by decide) ?_
  refine lv_iadd hx hb dL_law_1310 ?_
  refine va_sld hx hb hX hbl hbA hS h2 dL_law_1311 ?_
  refine lv_aload_n hx hb dL_law_1312 rfl (lv_at hl 3 rfl) ?_
  refine lv_iload_n hx hb dL_law_1313 rfl (lv_at hl 0 rfl) ?_
  refine lv_iconst (v := 3) hx hb dL_law_1314 (by decide) ?_
  refine lv_iadd hx hb dL_law_1315 ?_
  refine va_sld hx hb hX hbl hbA hS h3 dL_law_1316 ?_
  obtain ⟨σ2, ra, f2, w2, qa, ec, em, hI2, hcmp⟩ := law_s_alike (xs (Int32.toNatClampNeg (i + 1))) (xs (Int32.toNatClampNeg (i + 2))) (xs (Int32.toNatClampNeg (i + 3))) w hI
  refine gb_calli (va_runV (C := RX11) (As := [.int (xs (Int32.toNatClampNeg (i + 1))), .int (xs (Int32.toNatClampNeg (i + 2))), .int (xs (Int32.toNatClampNeg (i + 3)))]) (rest := []) ⟨hx, hb, hml, hown, hq⟩ (cc_Face_alike l D cT tt z z (Nat.le_refl z) gb_N σ (xs (Int32.toNatClampNeg (i + 1))) (xs (Int32.toNatClampNeg (i + 2))) (xs (Int32.toNatClampNeg (i + 3))) σ2 ra ec) (cwV 3 hq (gb_gV w_970 w_971 w_972 w_1 w_973) rfl rfl rfl (by decide +kernel) ⟨Nat.le_of_ble_eq_true rfl, Nat.le_of_ble_eq_true rfl⟩) (gb_preV (r := (RX11, TX11, 10)) (ci := 9) (q0 := 0) hSt2.1 hPc rfl (gb_at z rfl) hS (fun q h => h) hPc) rfl rfl hl.1 rfl (lv_room (Nat.le_of_ble_eq_true rfl)) dL_law_1317 ⟨Nat.le_of_ble_eq_true rfl, Nat.le_of_ble_eq_true rfl⟩) hS (fun q h => h.1) (fun q h => h.1) (fun rc H2 locs2 hY hk hS => ?_)
  obtain ⟨hr_, hY⟩ := hY
  subst hr_
  have hPm := gb_kept hPm (fun q h1 h2 => hk q (Nat.lt_of_lt_of_le h2 ((hPm 21 _ (gb_at (z + 135) rfl)).lt)) (fun h3 => Nat.not_lt.mpr h1 h3.2))
  have hPc := hY
  clear hY
  refine lv_pop hx hb dL_law_1320 rfl ?_
  refine lv_aload_n hx hb dL_law_1321 rfl (lv_at hl 1 rfl) ?_
  refine lv_aload_n hx hb dL_law_1322 rfl (lv_at hl 3 rfl) ?_
  refine lv_iload_n hx hb dL_law_1323 rfl (lv_at hl 0 rfl) ?_
  refine lv_iconst (v := 1) hx hb dL_law_1324 (by decide) ?_
  refine lv_iadd hx hb dL_law_1325 ?_
  refine va_sld hx hb hX hbl hbA hS h1 dL_law_1326 ?_
  refine lv_aload_n hx hb dL_law_1327 rfl (lv_at hl 3 rfl) ?_
  refine lv_iload_n hx hb dL_law_1328 rfl (lv_at hl 0 rfl) ?_
  refine lv_iconst (v := 2) hx hb dL_law_1329 (by decide) ?_
  refine lv_iadd hx hb dL_law_1330 ?_
  refine va_sld hx hb hX hbl hbA hS h2 dL_law_1331 ?_
  refine lv_aload_n hx hb dL_law_1332 rfl (lv_at hl 3 rfl) ?_
  refine lv_iload_n hx hb dL_law_1333 rfl (lv_at hl 0 rfl) ?_
  refine lv_iconst (v := 3) hx hb dL_law_1334 (by decide) ?_
  refine lv_iadd hx hb dL_law_1335 ?_
  refine va_sld hx hb hX hbl hbA hS h3 dL_law_1336 ?_
  refine gb_calli (va_runV (C := RX12) (As := [.int (xs (Int32.toNatClampNeg (i + 1))), .int (xs (Int32.toNatClampNeg (i + 2))), .int (xs (Int32.toNatClampNeg (i + 3)))]) (rest := []) ⟨hx, hb, hml, hown, hq⟩ (mc_alike l D cT tt z (z + 135) (Nat.le_add_right z 135) gb_N f w (xs (Int32.toNatClampNeg (i + 1))) (xs (Int32.toNatClampNeg (i + 2))) (xs (Int32.toNatClampNeg (i + 3))) f2 w2 qa em) (cwV 3 hq (gb_gV w_1662 w_1663 w_1664 w_14 w_1665) rfl rfl rfl (by decide +kernel) ⟨Nat.le_of_ble_eq_true rfl, Nat.le_of_ble_eq_true rfl⟩) (gb_preV (r := (RX12, TX12, 44)) (ci := 10) (q0 := 0) hSt2.1 hPm rfl (gb_at (z + 135) rfl) hS (fun q h => h) hPm) rfl rfl hl.1 rfl (lv_room (Nat.le_of_ble_eq_true rfl)) dL_law_1337 ⟨Nat.le_of_ble_eq_true rfl, Nat.le_of_ble_eq_true rfl⟩) hS (fun q h => Nat.le_trans (Nat.le_add_right z 135) h.1) (fun q h => Nat.le_trans (Nat.le_add_right z 135) h.1) (fun rm H2 locs2 hY hk hS => ?_)
  obtain ⟨hr_, hY⟩ := hY
  subst hr_
  have hPc := gb_kept hPc (fun q h1 h2 => hk q (Nat.lt_of_lt_of_le h2 (Nat.le_of_lt (Nat.lt_of_le_of_lt (Nat.le_add_right (z + 135) 21) ((hPm 21 _ (gb_at (z + 135) rfl)).lt)))) (fun h3 => Nat.not_lt.mpr h3.1 h2))
  have hPm := hY
  clear hY
  refine lv_pop hx hb dL_law_1340 rfl ?_
  refine lv_goto (tgt := 1890) hx hb dL_law_1341 (by decide) ?_
  exact hend _ _ _ _ _ _ hI2 hPc hPm hS hl
theorem dq_cL_law_1344 : ((cL_law.data.toList.drop 1344).take 67).map UInt8.toNat = [43, 42, 29, 4, 96, 46, 42, 29, 5, 96, 46, 42, 29, 6, 96, 46, 42, 29, 7, 96, 46, 153, 0, 7, 4, 167, 0, 4, 3, 182, 0, 124, 87, 44, 42, 29, 4, 96, 46, 42, 29, 5, 96, 46, 42, 29, 6, 96, 46, 42, 29, 7, 96, 46, 153, 0, 7, 4, 167, 0, 4, 3, 182, 0, 127, 87, 167] := by decide +kernel
theorem dL_law_1344 : decode cL_law 1344 = .ok (.aload_n 1, 1) := dc_43 (dc_cut (j := 0) (n := 1) (l := [43]) dq_cL_law_1344 (by decide +kernel) (by decide))
theorem dL_law_1345 : decode cL_law 1345 = .ok (.aload_n 0, 1) := dc_42 (dc_cut (j := 1) (n := 1) (l := [42]) dq_cL_law_1344 (by decide +kernel) (by decide))
theorem dL_law_1346 : decode cL_law 1346 = .ok (.iload_n 3, 1) := dc_29 (dc_cut (j := 2) (n := 1) (l := [29]) dq_cL_law_1344 (by decide +kernel) (by decide))
theorem dL_law_1347 : decode cL_law 1347 = .ok (.iconst 1, 1) := dc_4 (dc_cut (j := 3) (n := 1) (l := [4]) dq_cL_law_1344 (by decide +kernel) (by decide))
theorem dL_law_1348 : decode cL_law 1348 = .ok (.iadd, 1) := dc_96 (dc_cut (j := 4) (n := 1) (l := [96]) dq_cL_law_1344 (by decide +kernel) (by decide))
theorem dL_law_1349 : decode cL_law 1349 = .ok (.iaload, 1) := dc_46 (dc_cut (j := 5) (n := 1) (l := [46]) dq_cL_law_1344 (by decide +kernel) (by decide))
theorem dL_law_1350 : decode cL_law 1350 = .ok (.aload_n 0, 1) := dc_42 (dc_cut (j := 6) (n := 1) (l := [42]) dq_cL_law_1344 (by decide +kernel) (by decide))
theorem dL_law_1351 : decode cL_law 1351 = .ok (.iload_n 3, 1) := dc_29 (dc_cut (j := 7) (n := 1) (l := [29]) dq_cL_law_1344 (by decide +kernel) (by decide))
theorem dL_law_1352 : decode cL_law 1352 = .ok (.iconst 2, 1) := dc_5 (dc_cut (j := 8) (n := 1) (l := [5]) dq_cL_law_1344 (by decide +kernel) (by decide))
theorem dL_law_1353 : decode cL_law 1353 = .ok (.iadd, 1) := dc_96 (dc_cut (j := 9) (n := 1) (l := [96]) dq_cL_law_1344 (by decide +kernel) (by decide))
theorem dL_law_1354 : decode cL_law 1354 = .ok (.iaload, 1) := dc_46 (dc_cut (j := 10) (n := 1) (l := [46]) dq_cL_law_1344 (by decide +kernel) (by decide))
theorem dL_law_1355 : decode cL_law 1355 = .ok (.aload_n 0, 1) := dc_42 (dc_cut (j := 11) (n := 1) (l := [42]) dq_cL_law_1344 (by decide +kernel) (by decide))
theorem dL_law_1356 : decode cL_law 1356 = .ok (.iload_n 3, 1) := dc_29 (dc_cut (j := 12) (n := 1) (l := [29]) dq_cL_law_1344 (by decide +kernel) (by decide))
theorem dL_law_1357 : decode cL_law 1357 = .ok (.iconst 3, 1) := dc_6 (dc_cut (j := 13) (n := 1) (l := [6]) dq_cL_law_1344 (by decide +kernel) (by decide))
theorem dL_law_1358 : decode cL_law 1358 = .ok (.iadd, 1) := dc_96 (dc_cut (j := 14) (n := 1) (l := [96]) dq_cL_law_1344 (by decide +kernel) (by decide))
theorem dL_law_1359 : decode cL_law 1359 = .ok (.iaload, 1) := dc_46 (dc_cut (j := 15) (n := 1) (l := [46]) dq_cL_law_1344 (by decide +kernel) (by decide))
theorem dL_law_1360 : decode cL_law 1360 = .ok (.aload_n 0, 1) := dc_42 (dc_cut (j := 16) (n := 1) (l := [42]) dq_cL_law_1344 (by decide +kernel) (by decide))
theorem dL_law_1361 : decode cL_law 1361 = .ok (.iload_n 3, 1) := dc_29 (dc_cut (j := 17) (n := 1) (l := [29]) dq_cL_law_1344 (by decide +kernel) (by decide))
theorem dL_law_1362 : decode cL_law 1362 = .ok (.iconst 4, 1) := dc_7 (dc_cut (j := 18) (n := 1) (l := [7]) dq_cL_law_1344 (by decide +kernel) (by decide))
theorem dL_law_1363 : decode cL_law 1363 = .ok (.iadd, 1) := dc_96 (dc_cut (j := 19) (n := 1) (l := [96]) dq_cL_law_1344 (by decide +kernel) (by decide))
theorem dL_law_1364 : decode cL_law 1364 = .ok (.iaload, 1) := dc_46 (dc_cut (j := 20) (n := 1) (l := [46]) dq_cL_law_1344 (by decide +kernel) (by decide))
theorem dL_law_1365 : decode cL_law 1365 = .ok (.ifCond .eq 7, 3) := dc_153 (dc_cut (j := 21) (n := 3) (l := [153, 0, 7]) dq_cL_law_1344 (by decide +kernel) (by decide)) rfl
theorem dL_law_1372 : decode cL_law 1372 = .ok (.iconst 0, 1) := dc_3 (dc_cut (j := 28) (n := 1) (l := [3]) dq_cL_law_1344 (by decide +kernel) (by decide))
theorem dL_law_1373 : decode cL_law 1373 = .ok (.invokevirtual 124, 3) := dc_182 (dc_cut (j := 29) (n := 3) (l := [182, 0, 124]) dq_cL_law_1344 (by decide +kernel) (by decide)) rfl
theorem w_974 : (Cond.methodLink "GooseBorderLaw" (124 : Nat) ({ cls := "GooseBorder", name := "span", desc := "(IIIZ)I" } : MethodName)) ∈ gb_wA := gb_t5 14 rfl rfl
theorem w_975 : (Cond.instanceMethod ({ cls := "GooseBorder", name := "span", desc := "(IIIZ)I" } : MethodName)) ∈ gb_wA := gb_t5 15 rfl rfl
theorem w_976 : (Cond.selects "GooseBorder" ({ cls := "GooseBorder", name := "span", desc := "(IIIZ)I" } : MethodName) ({ cls := "GooseBorder", name := "span", desc := "(IIIZ)I" } : MethodName)) ∈ gb_wA := gb_t5 16 rfl rfl
theorem w_977 : (Cond.code ({ cls := "GooseBorder", name := "span", desc := "(IIIZ)I" } : MethodName) prog_1_method_40_code (6 : Nat) (Option.some FieldType.int)) ∈ gb_wA := gb_t5 17 rfl rfl
theorem dL_law_1376 : decode cL_law 1376 = .ok (.pop, 1) := dc_87 (dc_cut (j := 32) (n := 1) (l := [87]) dq_cL_law_1344 (by decide +kernel) (by decide))
theorem dL_law_1377 : decode cL_law 1377 = .ok (.aload_n 2, 1) := dc_44 (dc_cut (j := 33) (n := 1) (l := [44]) dq_cL_law_1344 (by decide +kernel) (by decide))
theorem dL_law_1378 : decode cL_law 1378 = .ok (.aload_n 0, 1) := dc_42 (dc_cut (j := 34) (n := 1) (l := [42]) dq_cL_law_1344 (by decide +kernel) (by decide))
theorem dL_law_1379 : decode cL_law 1379 = .ok (.iload_n 3, 1) := dc_29 (dc_cut (j := 35) (n := 1) (l := [29]) dq_cL_law_1344 (by decide +kernel) (by decide))
theorem dL_law_1380 : decode cL_law 1380 = .ok (.iconst 1, 1) := dc_4 (dc_cut (j := 36) (n := 1) (l := [4]) dq_cL_law_1344 (by decide +kernel) (by decide))
theorem dL_law_1381 : decode cL_law 1381 = .ok (.iadd, 1) := dc_96 (dc_cut (j := 37) (n := 1) (l := [96]) dq_cL_law_1344 (by decide +kernel) (by decide))
theorem dL_law_1382 : decode cL_law 1382 = .ok (.iaload, 1) := dc_46 (dc_cut (j := 38) (n := 1) (l := [46]) dq_cL_law_1344 (by decide +kernel) (by decide))
theorem dL_law_1383 : decode cL_law 1383 = .ok (.aload_n 0, 1) := dc_42 (dc_cut (j := 39) (n := 1) (l := [42]) dq_cL_law_1344 (by decide +kernel) (by decide))
theorem dL_law_1384 : decode cL_law 1384 = .ok (.iload_n 3, 1) := dc_29 (dc_cut (j := 40) (n := 1) (l := [29]) dq_cL_law_1344 (by decide +kernel) (by decide))
theorem dL_law_1385 : decode cL_law 1385 = .ok (.iconst 2, 1) := dc_5 (dc_cut (j := 41) (n := 1) (l := [5]) dq_cL_law_1344 (by decide +kernel) (by decide))
theorem dL_law_1386 : decode cL_law 1386 = .ok (.iadd, 1) := dc_96 (dc_cut (j := 42) (n := 1) (l := [96]) dq_cL_law_1344 (by decide +kernel) (by decide))
theorem dL_law_1387 : decode cL_law 1387 = .ok (.iaload, 1) := dc_46 (dc_cut (j := 43) (n := 1) (l := [46]) dq_cL_law_1344 (by decide +kernel) (by decide))
theorem dL_law_1388 : decode cL_law 1388 = .ok (.aload_n 0, 1) := dc_42 (dc_cut (j := 44) (n := 1) (l := [42]) dq_cL_law_1344 (by decide +kernel) (by decide))
theorem dL_law_1389 : decode cL_law 1389 = .ok (.iload_n 3, 1) := dc_29 (dc_cut (j := 45) (n := 1) (l := [29]) dq_cL_law_1344 (by decide +kernel) (by decide))
theorem dL_law_1390 : decode cL_law 1390 = .ok (.iconst 3, 1) := dc_6 (dc_cut (j := 46) (n := 1) (l := [6]) dq_cL_law_1344 (by decide +kernel) (by decide))
theorem dL_law_1391 : decode cL_law 1391 = .ok (.iadd, 1) := dc_96 (dc_cut (j := 47) (n := 1) (l := [96]) dq_cL_law_1344 (by decide +kernel) (by decide))
theorem dL_law_1392 : decode cL_law 1392 = .ok (.iaload, 1) := dc_46 (dc_cut (j := 48) (n := 1) (l := [46]) dq_cL_law_1344 (by decide +kernel) (by decide))
theorem dL_law_1393 : decode cL_law 1393 = .ok (.aload_n 0, 1) := dc_42 (dc_cut (j := 49) (n := 1) (l := [42]) dq_cL_law_1344 (by decide +kernel) (by decide))
theorem dL_law_1394 : decode cL_law 1394 = .ok (.iload_n 3, 1) := dc_29 (dc_cut (j := 50) (n := 1) (l := [29]) dq_cL_law_1344 (by decide +kernel) (by decide))
theorem dL_law_1395 : decode cL_law 1395 = .ok (.iconst 4, 1) := dc_7 (dc_cut (j := 51) (n := 1) (l := [7]) dq_cL_law_1344 (by decide +kernel) (by decide))
theorem dL_law_1396 : decode cL_law 1396 = .ok (.iadd, 1) := dc_96 (dc_cut (j := 52) (n := 1) (l := [96]) dq_cL_law_1344 (by decide +kernel) (by decide))
theorem dL_law_1397 : decode cL_law 1397 = .ok (.iaload, 1) := dc_46 (dc_cut (j := 53) (n := 1) (l := [46]) dq_cL_law_1344 (by decide +kernel) (by decide))
theorem dL_law_1398 : decode cL_law 1398 = .ok (.ifCond .eq 7, 3) := dc_153 (dc_cut (j := 54) (n := 3) (l := [153, 0, 7]) dq_cL_law_1344 (by decide +kernel) (by decide)) rfl
theorem dL_law_1405 : decode cL_law 1405 = .ok (.iconst 0, 1) := dc_3 (dc_cut (j := 61) (n := 1) (l := [3]) dq_cL_law_1344 (by decide +kernel) (by decide))
theorem dL_law_1406 : decode cL_law 1406 = .ok (.invokevirtual 127, 3) := dc_182 (dc_cut (j := 62) (n := 3) (l := [182, 0, 127]) dq_cL_law_1344 (by decide +kernel) (by decide)) rfl
theorem w_1666 : (Cond.methodLink "GooseBorderLaw" (127 : Nat) ({ cls := "GooseBorderModel", name := "span", desc := "(IIIZ)I" } : MethodName)) ∈ gb_wA := gb_t7 226 rfl rfl
theorem w_1667 : (Cond.instanceMethod ({ cls := "GooseBorderModel", name := "span", desc := "(IIIZ)I" } : MethodName)) ∈ gb_wA := gb_t7 227 rfl rfl
theorem w_1668 : (Cond.selects "GooseBorderModel" ({ cls := "GooseBorderModel", name := "span", desc := "(IIIZ)I" } : MethodName) ({ cls := "GooseBorderModel", name := "span", desc := "(IIIZ)I" } : MethodName)) ∈ gb_wA := gb_t7 228 rfl rfl
theorem w_1669 : (Cond.code ({ cls := "GooseBorderModel", name := "span", desc := "(IIIZ)I" } : MethodName) prog_14_method_105_code (10 : Nat) (Option.some FieldType.int)) ∈ gb_wA := gb_t7 229 rfl rfl
theorem dq_cL_law_1408 : ((cL_law.data.toList.drop 1408).take 67).map UInt8.toNat = [127, 87, 167, 1, 224, 43, 42, 29, 4, 96, 46, 42, 29, 5, 96, 46, 42, 29, 6, 96, 46, 182, 0, 128, 87, 44, 42, 29, 4, 96, 46, 42, 29, 5, 96, 46, 42, 29, 6, 96, 46, 182, 0, 131, 87, 167, 1, 181, 43, 42, 29, 4, 96, 46, 42, 29, 5, 96, 46, 42, 29, 6, 96, 46, 42, 29, 7] := by decide +kernel
theorem dL_law_1409 : decode cL_law 1409 = .ok (.pop, 1) := dc_87 (dc_cut (j := 1) (n := 1) (l := [87]) dq_cL_law_1408 (by decide +kernel) (by decide))
theorem dL_law_1410 : decode cL_law 1410 = .ok (.goto 480, 3) := dc_167 (dc_cut (j := 2) (n := 3) (l := [167, 1, 224]) dq_cL_law_1408 (by decide +kernel) (by decide)) rfl
theorem dL_law_1368 : decode cL_law 1368 = .ok (.iconst 1, 1) := dc_4 (dc_cut (j := 24) (n := 1) (l := [4]) dq_cL_law_1344 (by decide +kernel) (by decide))
theorem dL_law_1369 : decode cL_law 1369 = .ok (.goto 4, 3) := dc_167 (dc_cut (j := 25) (n := 3) (l := [167, 0, 4]) dq_cL_law_1344 (by decide +kernel) (by decide)) rfl
theorem dL_law_1401 : decode cL_law 1401 = .ok (.iconst 1, 1) := dc_4 (dc_cut (j := 57) (n := 1) (l := [4]) dq_cL_law_1344 (by decide +kernel) (by decide))
theorem dL_law_1402 : decode cL_law 1402 = .ok (.goto 4, 3) := dc_167 (dc_cut (j := 58) (n := 3) (l := [167, 0, 4]) dq_cL_law_1344 (by decide +kernel) (by decide)) rfl
set_option maxHeartbeats 4000000 in
set_option maxRecDepth 100000 in
theorem law_c26 {p : Program} {l : Launch} {e : Env} {s : State} {m : MethodId} {below : List Frame} {meth : Method} {c : Code} {b z L : Nat} {xs : Nat → Int32} (C0 : lw_At p s m meth c b L xs) (hzz : Array.size s.heap = z) {D : va_G} {cT : Nat → ClassId} {tt ak av : Nat → Nat} (hSt2 : gb_St2 D cT tt ak av z s) {i : Int32} (h1 : vp_in (i + 1) L) (h2 : vp_in (i + 2) L) (h3 : vp_in (i + 3) L) (h4 : vp_in (i + 4) L) (h5 : vp_in (i + 5) L) (hend : ∀ (σ : gb_S) (f : gb_F) (w : Int64) (H : Heap) (locs : List Loc) (ls : Array Slot), gb_Inv σ f → va_P D vwCl (gb_wl z (gb_CW cT z σ)) H → va_P D vwCl (gb_wl (z + 135) (gb_MW cT (z + 135) f w)) H → va_S (gb_ge z) s.heap H locs → lv_has ls 4 [(3, .int i), (2, .ref (z + 135 + 0)), (1, .ref (z + 0)), (0, .ref b)] → W p l e room_1 s m #[Value.ref b] below meth c H locs 157 10381 (lw_Z below #[Value.ref b] s) (F0 m 1890 ls [])) : ∀ (σ : gb_S) (f : gb_F) (w : Int64) (H : Heap) (locs : List Loc) (ls : Array Slot), gb_Inv σ f → va_P D vwCl (gb_wl z (gb_CW cT z σ)) H → va_P D vwCl (gb_wl (z + 135) (gb_MW cT (z + 135) f w)) H → va_S (gb_ge z) s.heap H locs → lv_has ls 4 [(3, .int i), (2, .ref (z + 135 + 0)), (1, .ref (z + 0)), (0, .ref b)] → W p l e room_1 s m #[Value.ref b] below meth c H locs 157 10381 (lw_Z below #[Value.ref b] s) (F0 m 1344 ls []) := by
  obtain ⟨hx, hb, hr, hml, hown, hts, hX, hbl, hlocks, hgv⟩ := C0
  have hq : ∀ w ∈ gb_wA, w.before #[Value.ref b] s = true := fun w h => hts w (gb_wA_tbl w h)
  have hbA : ¬ gb_ge z b := Nat.not_le.mpr (by rw [← hzz]; exact hbl)
  intro σ f w H locs ls hI hPc hPm hS hl
  refine lv_aload_n hx hb dL_law_1344 rfl (lv_at hl 2 rfl) ?_
  refine lv_aload_n hx hb dL_law_1345 rfl (lv_at hl 3 rfl) ?_
  refine lv_iload_n hx hb dL_law_1346 rfl (lv_at hl 0 rfl) ?_
  refine lv_iconst (v := 1) hx hb dL_law_1347 (by decide) ?_
  refine lv_iadd hx hb dL_law_1348 ?_
  refine va_sld hx hb hX hbl hbA hS h1 dL_law_1349 ?_
  refine lv_aload_n hx hb dL_law_1350 rfl (lv_at hl 3 rfl) ?_
  refine lv_iload_n hx hb dL_law_1351 rfl (lv_at hl 0 rfl) ?_
  refine lv_iconst (v := 2) hx hb dL_law_1352 (by decide) ?_
  refine lv_iadd hx hb dL_law_1353 ?_
  refine va_sld hx hb hX hbl hbA hS h2 dL_law_1354 ?_
  refine lv_aload_n hx hb dL_law_1355 rfl (lv_at hl 3 rfl) ?_
  refine lv_iload_n hx hb dL_law_1356 rfl (lv_at hl 0 rfl) ?_
  refine lv_iconst (v := 3) hx hb dL_law_1357 (by decide) ?_
  refine lv_iadd hx hb dL_law_1358 ?_
  refine va_sld hx hb hX hbl hbA hS h3 dL_law_1359 ?_
  refine lv_aload_n hx hb dL_law_1360 rfl (lv_at hl 3 rfl) ?_
  refine lv_iload_n hx hb dL_law_1361 rfl (lv_at hl 0 rfl) ?_
  refine lv_iconst (v := 4) hx hb dL_law_1362 (by decide) ?_
  refine lv_iadd hx hb dL_law_1363 ?_
  refine va_sld hx hb hX hbl hbA hS h4 dL_law_1364 ?_
  by_cases hz_ : (xs (Int32.toNatClampNeg (i + 4))) = 0
  · refine lv_if_eq (tgt := 1372) hx hb dL_law_1365 (by decide) (fun _ => ?_) (fun hc => absurd hz_ hc)
    refine lv_iconst (v := 0) hx hb dL_law_1372 (by decide) ?_
    obtain ⟨σ2, ra, f2, w2, qa, ec, em, hI2, hcmp⟩ := law_s_span (xs (Int32.toNatClampNeg (i + 1))) (xs (Int32.toNatClampNeg (i + 2))) (xs (Int32.toNatClampNeg (i + 3))) 0 w hI
    refine gb_calli (va_runV (C := RX11) (As := [.int (xs (Int32.toNatClampNeg (i + 1))), .int (xs (Int32.toNatClampNeg (i + 2))), .int (xs (Int32.toNatClampNeg (i + 3))), .int 0]) (rest := []) ⟨hx, hb, hml, hown, hq⟩ (cc_Face_span l D cT tt z z (Nat.le_refl z) gb_N σ (xs (Int32.toNatClampNeg (i + 1))) (xs (Int32.toNatClampNeg (i + 2))) (xs (Int32.toNatClampNeg (i + 3))) 0 σ2 ra ec) (cwV 4 hq (gb_gV w_974 w_975 w_976 w_1 w_977) rfl rfl rfl (by decide +kernel) ⟨Nat.le_of_ble_eq_true rfl, Nat.le_of_ble_eq_true rfl⟩) (gb_preV (r := (RX11, TX11, 10)) (ci := 9) (q0 := 0) hSt2.1 hPc rfl (gb_at z rfl) hS (fun q h => h) hPc) rfl rfl hl.1 rfl (lv_room (Nat.le_of_ble_eq_true rfl)) dL_law_1373 ⟨Nat.le_of_ble_eq_true rfl, Nat.le_of_ble_eq_true rfl⟩) hS (fun q h => h.1) (fun q h => h.1) (fun rc H2 locs2 hY hk hS => ?_)
    obtain ⟨hr_, hY⟩ := hY
    subst hr_
    have hPm := gb_kept hPm (fun q h1 h2 => hk q (Nat.lt_of_lt_of_le h2 ((hPm 21 _ (gb_at (z + 135) rfl)).lt)) (fun h3 => Nat.not_lt.mpr h1 h3.2))
    have hPc := hY
    clear hY
    refine lv_pop hx hb dL_law_1376 rfl ?_
    refine lv_aload_n hx hb dL_law_1377 rfl (lv_at hl 1 rfl) ?_
    refine lv_aload_n hx hb dL_law_1378 rfl (lv_at hl 3 rfl) ?_
    refine lv_iload_n hx hb dL_law_1379 rfl (lv_at hl 0 rfl) ?_
    refine lv_iconst (v := 1) hx hb dL_law_1380 (by decide) ?_
    refine lv_iadd hx hb dL_law_1381 ?_
    refine va_sld hx hb hX hbl hbA hS h1 dL_law_1382 ?_
    refine lv_aload_n hx hb dL_law_1383 rfl (lv_at hl 3 rfl) ?_
    refine lv_iload_n hx hb dL_law_1384 rfl (lv_at hl 0 rfl) ?_
    refine lv_iconst (v := 2) hx hb dL_law_1385 (by decide) ?_
    refine lv_iadd hx hb dL_law_1386 ?_
    refine va_sld hx hb hX hbl hbA hS h2 dL_law_1387 ?_
    refine lv_aload_n hx hb dL_law_1388 rfl (lv_at hl 3 rfl) ?_
    refine lv_iload_n hx hb dL_law_1389 rfl (lv_at hl 0 rfl) ?_
    refine lv_iconst (v := 3) hx hb dL_law_1390 (by decide) ?_
    refine lv_iadd hx hb dL_law_1391 ?_
    refine va_sld hx hb hX hbl hbA hS h3 dL_law_1392 ?_
    refine lv_aload_n hx hb dL_law_1393 rfl (lv_at hl 3 rfl) ?_
    refine lv_iload_n hx hb dL_law_1394 rfl (lv_at hl 0 rfl) ?_
    refine lv_iconst (v := 4) hx hb dL_law_1395 (by decide) ?_
    refine lv_iadd hx hb dL_law_1396 ?_
    refine va_sld hx hb hX hbl hbA hS h4 dL_law_1397 ?_
    refine lv_if_eq (tgt := 1405) hx hb dL_law_1398 (by decide) (fun _ => ?_) (fun hc => absurd hz_ hc)
    refine lv_iconst (v := 0) hx hb dL_law_1405 (by decide) ?_
    refine gb_calli (va_runV (C := RX12) (As := [.int (xs (Int32.toNatClampNeg (i + 1))), .int (xs (Int32.toNatClampNeg (i + 2))), .int (xs (Int32.toNatClampNeg (i + 3))), .int 0]) (rest := []) ⟨hx, hb, hml, hown, hq⟩ (mc_span l D cT tt z (z + 135) (Nat.le_add_right z 135) gb_N f w (xs (Int32.toNatClampNeg (i + 1))) (xs (Int32.toNatClampNeg (i + 2))) (xs (Int32.toNatClampNeg (i + 3))) 0 f2 w2 qa em) (cwV 4 hq (gb_gV w_1666 w_1667 w_1668 w_14 w_1669) rfl rfl rfl (by decide +kernel) ⟨Nat.le_of_ble_eq_true rfl, Nat.le_of_ble_eq_true rfl⟩) (gb_preV (r := (RX12, TX12, 44)) (ci := 10) (q0 := 0) hSt2.1 hPm rfl (gb_at (z + 135) rfl) hS (fun q h => h) hPm) rfl rfl hl.1 rfl (lv_room (Nat.le_of_ble_eq_true rfl)) dL_law_1406 ⟨Nat.le_of_ble_eq_true rfl, Nat.le_of_ble_eq_true rfl⟩) hS (fun q h => Nat.le_trans (Nat.le_add_right z 135) h.1) (fun q h => Nat.le_trans (Nat.le_add_right z 135) h.1) (fun rm H2 locs2 hY hk hS => ?_)
    obtain ⟨hr_, hY⟩ := hY
    subst hr_
    have hPc := gb_kept hPc (fun q h1 h2 => hk q (Nat.lt_of_lt_of_le h2 (Nat.le_of_lt (Nat.lt_of_le_of_lt (Nat.le_add_right (z + 135) 21) ((hPm 21 _ (gb_at (z + 135) rfl)).lt)))) (fun h3 => Nat.not_lt.mpr h3.1 h2))
    have hPm := hY
    clear hY
    refine lv_pop hx hb dL_law_1409 rfl ?_
    refine lv_goto (tgt := 1890) hx hb dL_law_1410 (by decide) ?_
    exact hend _ _ _ _ _ _ hI2 hPc hPm hS hl
  · refine lv_if_eq (tgt := 1372) hx hb dL_law_1365 (by decide) (fun hc => absurd hc hz_) (fun _ => ?_)
    refine lv_iconst (v := 1) hx hb dL_law_1368 (by decide) ?_
    refine lv_goto (tgt := 1373) hx hb dL_law_1369 (by decide) ?_
    obtain ⟨σ2, ra, f2, w2, qa, ec, em, hI2, hcmp⟩ := law_s_span (xs (Int32.toNatClampNeg (i + 1))) (xs (Int32.toNatClampNeg (i + 2))) (xs (Int32.toNatClampNeg (i + 3))) 1 w hI
    refine gb_calli (va_runV (C := RX11) (As := [.int (xs (Int32.toNatClampNeg (i + 1))), .int (xs (Int32.toNatClampNeg (i + 2))), .int (xs (Int32.toNatClampNeg (i + 3))), .int 1]) (rest := []) ⟨hx, hb, hml, hown, hq⟩ (cc_Face_span l D cT tt z z (Nat.le_refl z) gb_N σ (xs (Int32.toNatClampNeg (i + 1))) (xs (Int32.toNatClampNeg (i + 2))) (xs (Int32.toNatClampNeg (i + 3))) 1 σ2 ra ec) (cwV 4 hq (gb_gV w_974 w_975 w_976 w_1 w_977) rfl rfl rfl (by decide +kernel) ⟨Nat.le_of_ble_eq_true rfl, Nat.le_of_ble_eq_true rfl⟩) (gb_preV (r := (RX11, TX11, 10)) (ci := 9) (q0 := 0) hSt2.1 hPc rfl (gb_at z rfl) hS (fun q h => h) hPc) rfl rfl hl.1 rfl (lv_room (Nat.le_of_ble_eq_true rfl)) dL_law_1373 ⟨Nat.le_of_ble_eq_true rfl, Nat.le_of_ble_eq_true rfl⟩) hS (fun q h => h.1) (fun q h => h.1) (fun rc H2 locs2 hY hk hS => ?_)
    obtain ⟨hr_, hY⟩ := hY
    subst hr_
    have hPm := gb_kept hPm (fun q h1 h2 => hk q (Nat.lt_of_lt_of_le h2 ((hPm 21 _ (gb_at (z + 135) rfl)).lt)) (fun h3 => Nat.not_lt.mpr h1 h3.2))
    have hPc := hY
    clear hY
    refine lv_pop hx hb dL_law_1376 rfl ?_
    refine lv_aload_n hx hb dL_law_1377 rfl (lv_at hl 1 rfl) ?_
    refine lv_aload_n hx hb dL_law_1378 rfl (lv_at hl 3 rfl) ?_
    refine lv_iload_n hx hb dL_law_1379 rfl (lv_at hl 0 rfl) ?_
    refine lv_iconst (v := 1) hx hb dL_law_1380 (by decide) ?_
    refine lv_iadd hx hb dL_law_1381 ?_
    refine va_sld hx hb hX hbl hbA hS h1 dL_law_1382 ?_
    refine lv_aload_n hx hb dL_law_1383 rfl (lv_at hl 3 rfl) ?_
    refine lv_iload_n hx hb dL_law_1384 rfl (lv_at hl 0 rfl) ?_
    refine lv_iconst (v := 2) hx hb dL_law_1385 (by decide) ?_
    refine lv_iadd hx hb dL_law_1386 ?_
    refine va_sld hx hb hX hbl hbA hS h2 dL_law_1387 ?_
    refine lv_aload_n hx hb dL_law_1388 rfl (lv_at hl 3 rfl) ?_
    refine lv_iload_n hx hb dL_law_1389 rfl (lv_at hl 0 rfl) ?_
    refine lv_iconst (v := 3) hx hb dL_law_1390 (by decide) ?_
    refine lv_iadd hx hb dL_law_1391 ?_
    refine va_sld hx hb hX hbl hbA hS h3 dL_law_1392 ?_
    refine lv_aload_n hx hb dL_law_1393 rfl (lv_at hl 3 rfl) ?_
    refine lv_iload_n hx hb dL_law_1394 rfl (lv_at hl 0 rfl) ?_
    refine lv_iconst (v := 4) hx hb dL_law_1395 (by decide) ?_
    refine lv_iadd hx hb dL_law_1396 ?_
    refine va_sld hx hb hX hbl hbA hS h4 dL_law_1397 ?_
    refine lv_if_eq (tgt := 1405) hx hb dL_law_1398 (by decide) (fun hc => absurd hc hz_) (fun _ => ?_)
    refine lv_iconst (v := 1) hx hb dL_law_1401 (by decide) ?_
    refine lv_goto (tgt := 1406) hx hb dL_law_1402 (by decide) ?_
    refine gb_calli (va_runV (C := RX12) (As := [.int (xs (Int32.toNatClampNeg (i + 1))), .int (xs (Int32.toNatClampNeg (i + 2))), .int (xs (Int32.toNatClampNeg (i + 3))), .int 1]) (rest := []) ⟨hx, hb, hml, hown, hq⟩ (mc_span l D cT tt z (z + 135) (Nat.le_add_right z 135) gb_N f w (xs (Int32.toNatClampNeg (i + 1))) (xs (Int32.toNatClampNeg (i + 2))) (xs (Int32.toNatClampNeg (i + 3))) 1 f2 w2 qa em) (cwV 4 hq (gb_gV w_1666 w_1667 w_1668 w_14 w_1669) rfl rfl rfl (by decide +kernel) ⟨Nat.le_of_ble_eq_true rfl, Nat.le_of_ble_eq_true rfl⟩) (gb_preV (r := (RX12, TX12, 44)) (ci := 10) (q0 := 0) hSt2.1 hPm rfl (gb_at (z + 135) rfl) hS (fun q h => h) hPm) rfl rfl hl.1 rfl (lv_room (Nat.le_of_ble_eq_true rfl)) dL_law_1406 ⟨Nat.le_of_ble_eq_true rfl, Nat.le_of_ble_eq_true rfl⟩) hS (fun q h => Nat.le_trans (Nat.le_add_right z 135) h.1) (fun q h => Nat.le_trans (Nat.le_add_right z 135) h.1) (fun rm H2 locs2 hY hk hS => ?_)
    obtain ⟨hr_, hY⟩ := hY
    subst hr_
    have hPc := gb_kept hPc (fun q h1 h2 => hk q (Nat.lt_of_lt_of_le h2 (Nat.le_of_lt (Nat.lt_of_le_of_lt (Nat.le_add_right (z + 135) 21) ((hPm 21 _ (gb_at (z + 135) rfl)).lt)))) (fun h3 => Nat.not_lt.mpr h3.1 h2))
    have hPm := hY
    clear hY
    refine lv_pop hx hb dL_law_1409 rfl ?_
    refine lv_goto (tgt := 1890) hx hb dL_law_1410 (by decide) ?_
    exact hend _ _ _ _ _ _ hI2 hPc hPm hS hl
theorem dL_law_1413 : decode cL_law 1413 = .ok (.aload_n 1, 1) := dc_43 (dc_cut (j := 5) (n := 1) (l := [43]) dq_cL_law_1408 (by decide +kernel) (by decide))
theorem dL_law_1414 : decode cL_law 1414 = .ok (.aload_n 0, 1) := dc_42 (dc_cut (j := 6) (n := 1) (l := [42]) dq_cL_law_1408 (by decide +kernel) (by decide))
theorem dL_law_1415 : decode cL_law 1415 = .ok (.iload_n 3, 1) := dc_29 (dc_cut (j := 7) (n := 1) (l := [29]) dq_cL_law_1408 (by decide +kernel) (by decide))
theorem dL_law_1416 : decode cL_law 1416 = .ok (.iconst 1, 1) := dc_4 (dc_cut (j := 8) (n := 1) (l := [4]) dq_cL_law_1408 (by decide +kernel) (by decide))
theorem dL_law_1417 : decode cL_law 1417 = .ok (.iadd, 1) := dc_96 (dc_cut (j := 9) (n := 1) (l := [96]) dq_cL_law_1408 (by decide +kernel) (by decide))
theorem dL_law_1418 : decode cL_law 1418 = .ok (.iaload, 1) := dc_46 (dc_cut (j := 10) (n := 1) (l := [46]) dq_cL_law_1408 (by decide +kernel) (by decide))
theorem dL_law_1419 : decode cL_law 1419 = .ok (.aload_n 0, 1) := dc_42 (dc_cut (j := 11) (n := 1) (l := [42]) dq_cL_law_1408 (by decide +kernel) (by decide))
theorem dL_law_1420 : decode cL_law 1420 = .ok (.iload_n 3, 1) := dc_29 (dc_cut (j := 12) (n := 1) (l := [29]) dq_cL_law_1408 (by decide +kernel) (by decide))
theorem dL_law_1421 : decode cL_law 1421 = .ok (.iconst 2, 1) := dc_5 (dc_cut (j := 13) (n := 1) (l := [5]) dq_cL_law_1408 (by decide +kernel) (by decide))
theorem dL_law_1422 : decode cL_law 1422 = .ok (.iadd, 1) := dc_96 (dc_cut (j := 14) (n := 1) (l := [96]) dq_cL_law_1408 (by decide +kernel) (by decide))
theorem dL_law_1423 : decode cL_law 1423 = .ok (.iaload, 1) := dc_46 (dc_cut (j := 15) (n := 1) (l := [46]) dq_cL_law_1408 (by decide +kernel) (by decide))
theorem dL_law_1424 : decode cL_law 1424 = .ok (.aload_n 0, 1) := dc_42 (dc_cut (j := 16) (n := 1) (l := [42]) dq_cL_law_1408 (by decide +kernel) (by decide))
theorem dL_law_1425 : decode cL_law 1425 = .ok (.iload_n 3, 1) := dc_29 (dc_cut (j := 17) (n := 1) (l := [29]) dq_cL_law_1408 (by decide +kernel) (by decide))
theorem dL_law_1426 : decode cL_law 1426 = .ok (.iconst 3, 1) := dc_6 (dc_cut (j := 18) (n := 1) (l := [6]) dq_cL_law_1408 (by decide +kernel) (by decide))
theorem dL_law_1427 : decode cL_law 1427 = .ok (.iadd, 1) := dc_96 (dc_cut (j := 19) (n := 1) (l := [96]) dq_cL_law_1408 (by decide +kernel) (by decide))
theorem dL_law_1428 : decode cL_law 1428 = .ok (.iaload, 1) := dc_46 (dc_cut (j := 20) (n := 1) (l := [46]) dq_cL_law_1408 (by decide +kernel) (by decide))
theorem dL_law_1429 : decode cL_law 1429 = .ok (.invokevirtual 128, 3) := dc_182 (dc_cut (j := 21) (n := 3) (l := [182, 0, 128]) dq_cL_law_1408 (by decide +kernel) (by decide)) rfl
theorem w_845 : (Cond.methodLink "GooseBorderLaw" (128 : Nat) ({ cls := "GooseBorder", name := "honest", desc := "(III)I" } : MethodName)) ∈ gb_wA := gb_t4 125 rfl rfl
theorem w_846 : (Cond.instanceMethod ({ cls := "GooseBorder", name := "honest", desc := "(III)I" } : MethodName)) ∈ gb_wA := gb_t4 126 rfl rfl
theorem w_847 : (Cond.selects "GooseBorder" ({ cls := "GooseBorder", name := "honest", desc := "(III)I" } : MethodName) ({ cls := "GooseBorder", name := "honest", desc := "(III)I" } : MethodName)) ∈ gb_wA := gb_t4 127 rfl rfl
theorem w_848 : (Cond.code ({ cls := "GooseBorder", name := "honest", desc := "(III)I" } : MethodName) prog_1_method_28_code (6 : Nat) (Option.some FieldType.int)) ∈ gb_wA := gb_t4 128 rfl rfl
theorem dL_law_1432 : decode cL_law 1432 = .ok (.pop, 1) := dc_87 (dc_cut (j := 24) (n := 1) (l := [87]) dq_cL_law_1408 (by decide +kernel) (by decide))
theorem dL_law_1433 : decode cL_law 1433 = .ok (.aload_n 2, 1) := dc_44 (dc_cut (j := 25) (n := 1) (l := [44]) dq_cL_law_1408 (by decide +kernel) (by decide))
theorem dL_law_1434 : decode cL_law 1434 = .ok (.aload_n 0, 1) := dc_42 (dc_cut (j := 26) (n := 1) (l := [42]) dq_cL_law_1408 (by decide +kernel) (by decide))
theorem dL_law_1435 : decode cL_law 1435 = .ok (.iload_n 3, 1) := dc_29 (dc_cut (j := 27) (n := 1) (l := [29]) dq_cL_law_1408 (by decide +kernel) (by decide))
theorem dL_law_1436 : decode cL_law 1436 = .ok (.iconst 1, 1) := dc_4 (dc_cut (j := 28) (n := 1) (l := [4]) dq_cL_law_1408 (by decide +kernel) (by decide))
theorem dL_law_1437 : decode cL_law 1437 = .ok (.iadd, 1) := dc_96 (dc_cut (j := 29) (n := 1) (l := [96]) dq_cL_law_1408 (by decide +kernel) (by decide))
theorem dL_law_1438 : decode cL_law 1438 = .ok (.iaload, 1) := dc_46 (dc_cut (j := 30) (n := 1) (l := [46]) dq_cL_law_1408 (by decide +kernel) (by decide))
theorem dL_law_1439 : decode cL_law 1439 = .ok (.aload_n 0, 1) := dc_42 (dc_cut (j := 31) (n := 1) (l := [42]) dq_cL_law_1408 (by decide +kernel) (by decide))
theorem dL_law_1440 : decode cL_law 1440 = .ok (.iload_n 3, 1) := dc_29 (dc_cut (j := 32) (n := 1) (l := [29]) dq_cL_law_1408 (by decide +kernel) (by decide))
theorem dL_law_1441 : decode cL_law 1441 = .ok (.iconst 2, 1) := dc_5 (dc_cut (j := 33) (n := 1) (l := [5]) dq_cL_law_1408 (by decide +kernel) (by decide))
theorem dL_law_1442 : decode cL_law 1442 = .ok (.iadd, 1) := dc_96 (dc_cut (j := 34) (n := 1) (l := [96]) dq_cL_law_1408 (by decide +kernel) (by decide))
theorem dL_law_1443 : decode cL_law 1443 = .ok (.iaload, 1) := dc_46 (dc_cut (j := 35) (n := 1) (l := [46]) dq_cL_law_1408 (by decide +kernel) (by decide))
theorem dL_law_1444 : decode cL_law 1444 = .ok (.aload_n 0, 1) := dc_42 (dc_cut (j := 36) (n := 1) (l := [42]) dq_cL_law_1408 (by decide +kernel) (by decide))
theorem dL_law_1445 : decode cL_law 1445 = .ok (.iload_n 3, 1) := dc_29 (dc_cut (j := 37) (n := 1) (l := [29]) dq_cL_law_1408 (by decide +kernel) (by decide))
theorem dL_law_1446 : decode cL_law 1446 = .ok (.iconst 3, 1) := dc_6 (dc_cut (j := 38) (n := 1) (l := [6]) dq_cL_law_1408 (by decide +kernel) (by decide))
theorem dL_law_1447 : decode cL_law 1447 = .ok (.iadd, 1) := dc_96 (dc_cut (j := 39) (n := 1) (l := [96]) dq_cL_law_1408 (by decide +kernel) (by decide))
theorem dL_law_1448 : decode cL_law 1448 = .ok (.iaload, 1) := dc_46 (dc_cut (j := 40) (n := 1) (l := [46]) dq_cL_law_1408 (by decide +kernel) (by decide))
theorem dL_law_1449 : decode cL_law 1449 = .ok (.invokevirtual 131, 3) := dc_182 (dc_cut (j := 41) (n := 3) (l := [182, 0, 131]) dq_cL_law_1408 (by decide +kernel) (by decide)) rfl
theorem w_1592 : (Cond.methodLink "GooseBorderLaw" (131 : Nat) ({ cls := "GooseBorderModel", name := "honest", desc := "(III)I" } : MethodName)) ∈ gb_wA := gb_t7 152 rfl rfl
theorem w_1593 : (Cond.instanceMethod ({ cls := "GooseBorderModel", name := "honest", desc := "(III)I" } : MethodName)) ∈ gb_wA := gb_t7 153 rfl rfl
theorem w_1594 : (Cond.selects "GooseBorderModel" ({ cls := "GooseBorderModel", name := "honest", desc := "(III)I" } : MethodName) ({ cls := "GooseBorderModel", name := "honest", desc := "(III)I" } : MethodName)) ∈ gb_wA := gb_t7 154 rfl rfl
theorem w_1595 : (Cond.code ({ cls := "GooseBorderModel", name := "honest", desc := "(III)I" } : MethodName) prog_14_method_87_code (4 : Nat) (Option.some FieldType.int)) ∈ gb_wA := gb_t7 155 rfl rfl
theorem dL_law_1452 : decode cL_law 1452 = .ok (.pop, 1) := dc_87 (dc_cut (j := 44) (n := 1) (l := [87]) dq_cL_law_1408 (by decide +kernel) (by decide))
theorem dL_law_1453 : decode cL_law 1453 = .ok (.goto 437, 3) := dc_167 (dc_cut (j := 45) (n := 3) (l := [167, 1, 181]) dq_cL_law_1408 (by decide +kernel) (by decide)) rfl
set_option maxHeartbeats 4000000 in
set_option maxRecDepth 100000 in
theorem law_c27 {p : Program} {l : Launch} {e : Env} {s : State} {m : MethodId} {below : List Frame} {meth : Method} {c : Code} {b z L : Nat} {xs : Nat → Int32} (C0 : lw_At p s m meth c b L xs) (hzz : Array.size s.heap = z) {D : va_G} {cT : Nat → ClassId} {tt ak av : Nat → Nat} (hSt2 : gb_St2 D cT tt ak av z s) {i : Int32} (h1 : vp_in (i + 1) L) (h2 : vp_in (i + 2) L) (h3 : vp_in (i + 3) L) (h4 : vp_in (i + 4) L) (h5 : vp_in (i + 5) L) (hend : ∀ (σ : gb_S) (f : gb_F) (w : Int64) (H : Heap) (locs : List Loc) (ls : Array Slot), gb_Inv σ f → va_P D vwCl (gb_wl z (gb_CW cT z σ)) H → va_P D vwCl (gb_wl (z + 135) (gb_MW cT (z + 135) f w)) H → va_S (gb_ge z) s.heap H locs → lv_has ls 4 [(3, .int i), (2, .ref (z + 135 + 0)), (1, .ref (z + 0)), (0, .ref b)] → W p l e room_1 s m #[Value.ref b] below meth c H locs 157 10381 (lw_Z below #[Value.ref b] s) (F0 m 1890 ls [])) : ∀ (σ : gb_S) (f : gb_F) (w : Int64) (H : Heap) (locs : List Loc) (ls : Array Slot), gb_Inv σ f → va_P D vwCl (gb_wl z (gb_CW cT z σ)) H → va_P D vwCl (gb_wl (z + 135) (gb_MW cT (z + 135) f w)) H → va_S (gb_ge z) s.heap H locs → lv_has ls 4 [(3, .int i), (2, .ref (z + 135 + 0)), (1, .ref (z + 0)), (0, .ref b)] → W p l e room_1 s m #[Value.ref b] below meth c H locs 157 10381 (lw_Z below #[Value.ref b] s) (F0 m 1413 ls []) := by
  obtain ⟨hx, hb, hr, hml, hown, hts, hX, hbl, hlocks, hgv⟩ := C0
  have hq : ∀ w ∈ gb_wA, w.before #[Value.ref b] s = true := fun w h => hts w (gb_wA_tbl w h)
  have hbA : ¬ gb_ge z b := Nat.not_le.mpr (by rw [← hzz]; exact hbl)
  intro σ f w H locs ls hI hPc hPm hS hl
  refine lv_aload_n hx hb dL_law_1413 rfl (lv_at hl 2 rfl) ?_
  refine lv_aload_n hx hb dL_law_1414 rfl (lv_at hl 3 rfl) ?_
  refine lv_iload_n hx hb dL_law_1415 rfl (lv_at hl 0 rfl) ?_
  refine lv_iconst (v := 1) hx hb dL_law_1416 (by decide) ?_
  refine lv_iadd hx hb dL_law_1417 ?_
  refine va_sld hx hb hX hbl hbA hS h1 dL_law_1418 ?_
  refine lv_aload_n hx hb dL_law_1419 rfl (lv_at hl 3 rfl) ?_
  refine lv_iload_n hx hb dL_law_1420 rfl (lv_at hl 0 rfl) ?_
  refine lv_iconst (v := 2) hx hb dL_law_1421 (by decide) ?_
  refine lv_iadd hx hb dL_law_1422 ?_
  refine va_sld hx hb hX hbl hbA hS h2 dL_law_1423 ?_
  refine lv_aload_n hx hb dL_law_1424 rfl (lv_at hl 3 rfl) ?_
  refine lv_iload_n hx hb dL_law_1425 rfl (lv_at hl 0 rfl) ?_
  refine lv_iconst (v := 3) hx hb dL_law_1426 (by decide) ?_
  refine lv_iadd hx hb dL_law_1427 ?_
  refine va_sld hx hb hX hbl hbA hS h3 dL_law_1428 ?_
  obtain ⟨σ2, ra, f2, w2, qa, ec, em, hI2, hcmp⟩ := law_s_honest (xs (Int32.toNatClampNeg (i + 1))) (xs (Int32.toNatClampNeg (i + 2))) (xs (Int32.toNatClampNeg (i + 3))) w hI
  refine gb_calli (va_runV (C := RX11) (As := [.int (xs (Int32.toNatClampNeg (i + 1))), .int (xs (Int32.toNatClampNeg (i + 2))), .int (xs (Int32.toNatClampNeg (i + 3)))]) (rest := []) ⟨hx, hb, hml, hown, hq⟩ (cc_Face_honest l D cT tt z z (Nat.le_refl z) gb_N σ (xs (Int32.toNatClampNeg (i + 1))) (xs (Int32.toNatClampNeg (i + 2))) (xs (Int32.toNatClampNeg (i + 3))) σ2 ra ec) (cwV 3 hq (gb_gV w_845 w_846 w_847 w_1 w_848) rfl rfl rfl (by decide +kernel) ⟨Nat.le_of_ble_eq_true rfl, Nat.le_of_ble_eq_true rfl⟩) (gb_preV (r := (RX11, TX11, 10)) (ci := 9) (q0 := 0) hSt2.1 hPc rfl (gb_at z rfl) hS (fun q h => h) hPc) rfl rfl hl.1 rfl (lv_room (Nat.le_of_ble_eq_true rfl)) dL_law_1429 ⟨Nat.le_of_ble_eq_true rfl, Nat.le_of_ble_eq_true rfl⟩) hS (fun q h => h.1) (fun q h => h.1) (fun rc H2 locs2 hY hk hS => ?_)
  obtain ⟨hr_, hY⟩ := hY
  subst hr_
  have hPm := gb_kept hPm (fun q h1 h2 => hk q (Nat.lt_of_lt_of_le h2 ((hPm 21 _ (gb_at (z + 135) rfl)).lt)) (fun h3 => Nat.not_lt.mpr h1 h3.2))
  have hPc := hY
  clear hY
  refine lv_pop hx hb dL_law_1432 rfl ?_
  refine lv_aload_n hx hb dL_law_1433 rfl (lv_at hl 1 rfl) ?_
  refine lv_aload_n hx hb dL_law_1434 rfl (lv_at hl 3 rfl) ?_
  refine lv_iload_n hx hb dL_law_1435 rfl (lv_at hl 0 rfl) ?_
  refine lv_iconst (v := 1) hx hb dL_law_1436 (by decide) ?_
  refine lv_iadd hx hb dL_law_1437 ?_
  refine va_sld hx hb hX hbl hbA hS h1 dL_law_1438 ?_
  refine lv_aload_n hx hb dL_law_1439 rfl (lv_at hl 3 rfl) ?_
  refine lv_iload_n hx hb dL_law_1440 rfl (lv_at hl 0 rfl) ?_
  refine lv_iconst (v := 2) hx hb dL_law_1441 (by decide) ?_
  refine lv_iadd hx hb dL_law_1442 ?_
  refine va_sld hx hb hX hbl hbA hS h2 dL_law_1443 ?_
  refine lv_aload_n hx hb dL_law_1444 rfl (lv_at hl 3 rfl) ?_
  refine lv_iload_n hx hb dL_law_1445 rfl (lv_at hl 0 rfl) ?_
  refine lv_iconst (v := 3) hx hb dL_law_1446 (by decide) ?_
  refine lv_iadd hx hb dL_law_1447 ?_
  refine va_sld hx hb hX hbl hbA hS h3 dL_law_1448 ?_
  refine gb_calli (va_runV (C := RX12) (As := [.int (xs (Int32.toNatClampNeg (i + 1))), .int (xs (Int32.toNatClampNeg (i + 2))), .int (xs (Int32.toNatClampNeg (i + 3)))]) (rest := []) ⟨hx, hb, hml, hown, hq⟩ (mc_honest l D cT tt z (z + 135) (Nat.le_add_right z 135) gb_N f w (xs (Int32.toNatClampNeg (i + 1))) (xs (Int32.toNatClampNeg (i + 2))) (xs (Int32.toNatClampNeg (i + 3))) f2 w2 qa em) (cwV 3 hq (gb_gV w_1592 w_1593 w_1594 w_14 w_1595) rfl rfl rfl (by decide +kernel) ⟨Nat.le_of_ble_eq_true rfl, Nat.le_of_ble_eq_true rfl⟩) (gb_preV (r := (RX12, TX12, 44)) (ci := 10) (q0 := 0) hSt2.1 hPm rfl (gb_at (z + 135) rfl) hS (fun q h => h) hPm) rfl rfl hl.1 rfl (lv_room (Nat.le_of_ble_eq_true rfl)) dL_law_1449 ⟨Nat.le_of_ble_eq_true rfl, Nat.le_of_ble_eq_true rfl⟩) hS (fun q h => Nat.le_trans (Nat.le_add_right z 135) h.1) (fun q h => Nat.le_trans (Nat.le_add_right z 135) h.1) (fun rm H2 locs2 hY hk hS => ?_)
  obtain ⟨hr_, hY⟩ := hY
  subst hr_
  have hPc := gb_kept hPc (fun q h1 h2 => hk q (Nat.lt_of_lt_of_le h2 (Nat.le_of_lt (Nat.lt_of_le_of_lt (Nat.le_add_right (z + 135) 21) ((hPm 21 _ (gb_at (z + 135) rfl)).lt)))) (fun h3 => Nat.not_lt.mpr h3.1 h2))
  have hPm := hY
  clear hY
  refine lv_pop hx hb dL_law_1452 rfl ?_
  refine lv_goto (tgt := 1890) hx hb dL_law_1453 (by decide) ?_
  exact hend _ _ _ _ _ _ hI2 hPc hPm hS hl
theorem dL_law_1456 : decode cL_law 1456 = .ok (.aload_n 1, 1) := dc_43 (dc_cut (j := 48) (n := 1) (l := [43]) dq_cL_law_1408 (by decide +kernel) (by decide))
theorem dL_law_1457 : decode cL_law 1457 = .ok (.aload_n 0, 1) := dc_42 (dc_cut (j := 49) (n := 1) (l := [42]) dq_cL_law_1408 (by decide +kernel) (by decide))
theorem dL_law_1458 : decode cL_law 1458 = .ok (.iload_n 3, 1) := dc_29 (dc_cut (j := 50) (n := 1) (l := [29]) dq_cL_law_1408 (by decide +kernel) (by decide))
theorem dL_law_1459 : decode cL_law 1459 = .ok (.iconst 1, 1) := dc_4 (dc_cut (j := 51) (n := 1) (l := [4]) dq_cL_law_1408 (by decide +kernel) (by decide))
theorem dL_law_1460 : decode cL_law 1460 = .ok (.iadd, 1) := dc_96 (dc_cut (j := 52) (n := 1) (l := [96]) dq_cL_law_1408 (by decide +kernel) (by decide))
theorem dL_law_1461 : decode cL_law 1461 = .ok (.iaload, 1) := dc_46 (dc_cut (j := 53) (n := 1) (l := [46]) dq_cL_law_1408 (by decide +kernel) (by decide))
theorem dL_law_1462 : decode cL_law 1462 = .ok (.aload_n 0, 1) := dc_42 (dc_cut (j := 54) (n := 1) (l := [42]) dq_cL_law_1408 (by decide +kernel) (by decide))
theorem dL_law_1463 : decode cL_law 1463 = .ok (.iload_n 3, 1) := dc_29 (dc_cut (j := 55) (n := 1) (l := [29]) dq_cL_law_1408 (by decide +kernel) (by decide))
theorem dL_law_1464 : decode cL_law 1464 = .ok (.iconst 2, 1) := dc_5 (dc_cut (j := 56) (n := 1) (l := [5]) dq_cL_law_1408 (by decide +kernel) (by decide))
theorem dL_law_1465 : decode cL_law 1465 = .ok (.iadd, 1) := dc_96 (dc_cut (j := 57) (n := 1) (l := [96]) dq_cL_law_1408 (by decide +kernel) (by decide))
theorem dL_law_1466 : decode cL_law 1466 = .ok (.iaload, 1) := dc_46 (dc_cut (j := 58) (n := 1) (l := [46]) dq_cL_law_1408 (by decide +kernel) (by decide))
theorem dL_law_1467 : decode cL_law 1467 = .ok (.aload_n 0, 1) := dc_42 (dc_cut (j := 59) (n := 1) (l := [42]) dq_cL_law_1408 (by decide +kernel) (by decide))
theorem dL_law_1468 : decode cL_law 1468 = .ok (.iload_n 3, 1) := dc_29 (dc_cut (j := 60) (n := 1) (l := [29]) dq_cL_law_1408 (by decide +kernel) (by decide))
theorem dL_law_1469 : decode cL_law 1469 = .ok (.iconst 3, 1) := dc_6 (dc_cut (j := 61) (n := 1) (l := [6]) dq_cL_law_1408 (by decide +kernel) (by decide))
theorem dL_law_1470 : decode cL_law 1470 = .ok (.iadd, 1) := dc_96 (dc_cut (j := 62) (n := 1) (l := [96]) dq_cL_law_1408 (by decide +kernel) (by decide))
theorem dL_law_1471 : decode cL_law 1471 = .ok (.iaload, 1) := dc_46 (dc_cut (j := 63) (n := 1) (l := [46]) dq_cL_law_1408 (by decide +kernel) (by decide))
theorem dq_cL_law_1472 : ((cL_law.data.toList.drop 1472).take 67).map UInt8.toNat = [42, 29, 7, 96, 46, 153, 0, 7, 4, 167, 0, 4, 3, 182, 0, 132, 87, 44, 42, 29, 4, 96, 46, 42, 29, 5, 96, 46, 42, 29, 6, 96, 46, 42, 29, 7, 96, 46, 153, 0, 7, 4, 167, 0, 4, 3, 182, 0, 135, 87, 167, 1, 112, 43, 42, 29, 4, 96, 46, 42, 29, 5, 96, 46, 42, 29, 6] := by decide +kernel
theorem dL_law_1472 : decode cL_law 1472 = .ok (.aload_n 0, 1) := dc_42 (dc_cut (j := 0) (n := 1) (l := [42]) dq_cL_law_1472 (by decide +kernel) (by decide))
theorem dL_law_1473 : decode cL_law 1473 = .ok (.iload_n 3, 1) := dc_29 (dc_cut (j := 1) (n := 1) (l := [29]) dq_cL_law_1472 (by decide +kernel) (by decide))
theorem dL_law_1474 : decode cL_law 1474 = .ok (.iconst 4, 1) := dc_7 (dc_cut (j := 2) (n := 1) (l := [7]) dq_cL_law_1472 (by decide +kernel) (by decide))
theorem dL_law_1475 : decode cL_law 1475 = .ok (.iadd, 1) := dc_96 (dc_cut (j := 3) (n := 1) (l := [96]) dq_cL_law_1472 (by decide +kernel) (by decide))
theorem dL_law_1476 : decode cL_law 1476 = .ok (.iaload, 1) := dc_46 (dc_cut (j := 4) (n := 1) (l := [46]) dq_cL_law_1472 (by decide +kernel) (by decide))
theorem dL_law_1477 : decode cL_law 1477 = .ok (.ifCond .eq 7, 3) := dc_153 (dc_cut (j := 5) (n := 3) (l := [153, 0, 7]) dq_cL_law_1472 (by decide +kernel) (by decide)) rfl
theorem dL_law_1484 : decode cL_law 1484 = .ok (.iconst 0, 1) := dc_3 (dc_cut (j := 12) (n := 1) (l := [3]) dq_cL_law_1472 (by decide +kernel) (by decide))
theorem dL_law_1485 : decode cL_law 1485 = .ok (.invokevirtual 132, 3) := dc_182 (dc_cut (j := 13) (n := 3) (l := [182, 0, 132]) dq_cL_law_1472 (by decide +kernel) (by decide)) rfl
theorem w_994 : (Cond.methodLink "GooseBorderLaw" (132 : Nat) ({ cls := "GooseBorder", name := "split", desc := "(IIIZ)I" } : MethodName)) ∈ gb_wA := gb_t5 34 rfl rfl
theorem w_995 : (Cond.instanceMethod ({ cls := "GooseBorder", name := "split", desc := "(IIIZ)I" } : MethodName)) ∈ gb_wA := gb_t5 35 rfl rfl
theorem w_996 : (Cond.selects "GooseBorder" ({ cls := "GooseBorder", name := "split", desc := "(IIIZ)I" } : MethodName) ({ cls := "GooseBorder", name := "split", desc := "(IIIZ)I" } : MethodName)) ∈ gb_wA := gb_t5 36 rfl rfl
theorem w_997 : (Cond.code ({ cls := "GooseBorder", name := "split", desc := "(IIIZ)I" } : MethodName) prog_1_method_41_code (7 : Nat) (Option.some FieldType.int)) ∈ gb_wA := gb_t5 37 rfl rfl
theorem dL_law_1488 : decode cL_law 1488 = .ok (.pop, 1) := dc_87 (dc_cut (j := 16) (n := 1) (l := [87]) dq_cL_law_1472 (by decide +kernel) (by decide))
theorem dL_law_1489 : decode cL_law 1489 = .ok (.aload_n 2, 1) := dc_44 (dc_cut (j := 17) (n := 1) (l := [44]) dq_cL_law_1472 (by decide +kernel) (by decide))
theorem dL_law_1490 : decode cL_law 1490 = .ok (.aload_n 0, 1) := dc_42 (dc_cut (j := 18) (n := 1) (l := [42]) dq_cL_law_1472 (by decide +kernel) (by decide))
theorem dL_law_1491 : decode cL_law 1491 = .ok (.iload_n 3, 1) := dc_29 (dc_cut (j := 19) (n := 1) (l := [29]) dq_cL_law_1472 (by decide +kernel) (by decide))
theorem dL_law_1492 : decode cL_law 1492 = .ok (.iconst 1, 1) := dc_4 (dc_cut (j := 20) (n := 1) (l := [4]) dq_cL_law_1472 (by decide +kernel) (by decide))
theorem dL_law_1493 : decode cL_law 1493 = .ok (.iadd, 1) := dc_96 (dc_cut (j := 21) (n := 1) (l := [96]) dq_cL_law_1472 (by decide +kernel) (by decide))
theorem dL_law_1494 : decode cL_law 1494 = .ok (.iaload, 1) := dc_46 (dc_cut (j := 22) (n := 1) (l := [46]) dq_cL_law_1472 (by decide +kernel) (by decide))
theorem dL_law_1495 : decode cL_law 1495 = .ok (.aload_n 0, 1) := dc_42 (dc_cut (j := 23) (n := 1) (l := [42]) dq_cL_law_1472 (by decide +kernel) (by decide))
theorem dL_law_1496 : decode cL_law 1496 = .ok (.iload_n 3, 1) := dc_29 (dc_cut (j := 24) (n := 1) (l := [29]) dq_cL_law_1472 (by decide +kernel) (by decide))
theorem dL_law_1497 : decode cL_law 1497 = .ok (.iconst 2, 1) := dc_5 (dc_cut (j := 25) (n := 1) (l := [5]) dq_cL_law_1472 (by decide +kernel) (by decide))
theorem dL_law_1498 : decode cL_law 1498 = .ok (.iadd, 1) := dc_96 (dc_cut (j := 26) (n := 1) (l := [96]) dq_cL_law_1472 (by decide +kernel) (by decide))
theorem dL_law_1499 : decode cL_law 1499 = .ok (.iaload, 1) := dc_46 (dc_cut (j := 27) (n := 1) (l := [46]) dq_cL_law_1472 (by decide +kernel) (by decide))
theorem dL_law_1500 : decode cL_law 1500 = .ok (.aload_n 0, 1) := dc_42 (dc_cut (j := 28) (n := 1) (l := [42]) dq_cL_law_1472 (by decide +kernel) (by decide))
theorem dL_law_1501 : decode cL_law 1501 = .ok (.iload_n 3, 1) := dc_29 (dc_cut (j := 29) (n := 1) (l := [29]) dq_cL_law_1472 (by decide +kernel) (by decide))
theorem dL_law_1502 : decode cL_law 1502 = .ok (.iconst 3, 1) := dc_6 (dc_cut (j := 30) (n := 1) (l := [6]) dq_cL_law_1472 (by decide +kernel) (by decide))
theorem dL_law_1503 : decode cL_law 1503 = .ok (.iadd, 1) := dc_96 (dc_cut (j := 31) (n := 1) (l := [96]) dq_cL_law_1472 (by decide +kernel) (by decide))
theorem dL_law_1504 : decode cL_law 1504 = .ok (.iaload, 1) := dc_46 (dc_cut (j := 32) (n := 1) (l := [46]) dq_cL_law_1472 (by decide +kernel) (by decide))
theorem dL_law_1505 : decode cL_law 1505 = .ok (.aload_n 0, 1) := dc_42 (dc_cut (j := 33) (n := 1) (l := [42]) dq_cL_law_1472 (by decide +kernel) (by decide))
theorem dL_law_1506 : decode cL_law 1506 = .ok (.iload_n 3, 1) := dc_29 (dc_cut (j := 34) (n := 1) (l := [29]) dq_cL_law_1472 (by decide +kernel) (by decide))
theorem dL_law_1507 : decode cL_law 1507 = .ok (.iconst 4, 1) := dc_7 (dc_cut (j := 35) (n := 1) (l := [7]) dq_cL_law_1472 (by decide +kernel) (by decide))
theorem dL_law_1508 : decode cL_law 1508 = .ok (.iadd, 1) := dc_96 (dc_cut (j := 36) (n := 1) (l := [96]) dq_cL_law_1472 (by decide +kernel) (by decide))
theorem dL_law_1509 : decode cL_law 1509 = .ok (.iaload, 1) := dc_46 (dc_cut (j := 37) (n := 1) (l := [46]) dq_cL_law_1472 (by decide +kernel) (by decide))
theorem dL_law_1510 : decode cL_law 1510 = .ok (.ifCond .eq 7, 3) := dc_153 (dc_cut (j := 38) (n := 3) (l := [153, 0, 7]) dq_cL_law_1472 (by decide +kernel) (by decide)) rfl
theorem dL_law_1517 : decode cL_law 1517 = .ok (.iconst 0, 1) := dc_3 (dc_cut (j := 45) (n := 1) (l := [3]) dq_cL_law_1472 (by decide +kernel) (by decide))
theorem dL_law_1518 : decode cL_law 1518 = .ok (.invokevirtual 135, 3) := dc_182 (dc_cut (j := 46) (n := 3) (l := [182, 0, 135]) dq_cL_law_1472 (by decide +kernel) (by decide)) rfl
theorem w_1670 : (Cond.methodLink "GooseBorderLaw" (135 : Nat) ({ cls := "GooseBorderModel", name := "split", desc := "(IIIZ)I" } : MethodName)) ∈ gb_wA := gb_t7 230 rfl rfl
theorem w_1671 : (Cond.instanceMethod ({ cls := "GooseBorderModel", name := "split", desc := "(IIIZ)I" } : MethodName)) ∈ gb_wA := gb_t7 231 rfl rfl
theorem w_1672 : (Cond.selects "GooseBorderModel" ({ cls := "GooseBorderModel", name := "split", desc := "(IIIZ)I" } : MethodName) ({ cls := "GooseBorderModel", name := "split", desc := "(IIIZ)I" } : MethodName)) ∈ gb_wA := gb_t7 232 rfl rfl
theorem w_1673 : (Cond.code ({ cls := "GooseBorderModel", name := "split", desc := "(IIIZ)I" } : MethodName) prog_14_method_106_code (10 : Nat) (Option.some FieldType.int)) ∈ gb_wA := gb_t7 233 rfl rfl
theorem dL_law_1521 : decode cL_law 1521 = .ok (.pop, 1) := dc_87 (dc_cut (j := 49) (n := 1) (l := [87]) dq_cL_law_1472 (by decide +kernel) (by decide))
theorem dL_law_1522 : decode cL_law 1522 = .ok (.goto 368, 3) := dc_167 (dc_cut (j := 50) (n := 3) (l := [167, 1, 112]) dq_cL_law_1472 (by decide +kernel) (by decide)) rfl
theorem dL_law_1480 : decode cL_law 1480 = .ok (.iconst 1, 1) := dc_4 (dc_cut (j := 8) (n := 1) (l := [4]) dq_cL_law_1472 (by decide +kernel) (by decide))
theorem dL_law_1481 : decode cL_law 1481 = .ok (.goto 4, 3) := dc_167 (dc_cut (j := 9) (n := 3) (l := [167, 0, 4]) dq_cL_law_1472 (by decide +kernel) (by decide)) rfl
theorem dL_law_1513 : decode cL_law 1513 = .ok (.iconst 1, 1) := dc_4 (dc_cut (j := 41) (n := 1) (l := [4]) dq_cL_law_1472 (by decide +kernel) (by decide))
theorem dL_law_1514 : decode cL_law 1514 = .ok (.goto 4, 3) := dc_167 (dc_cut (j := 42) (n := 3) (l := [167, 0, 4]) dq_cL_law_1472 (by decide +kernel) (by decide)) rfl
set_option maxHeartbeats 4000000 in
set_option maxRecDepth 100000 in
theorem law_c28 {p : Program} {l : Launch} {e : Env} {s : State} {m : MethodId} {below : List Frame} {meth : Method} {c : Code} {b z L : Nat} {xs : Nat → Int32} (C0 : lw_At p s m meth c b L xs) (hzz : Array.size s.heap = z) {D : va_G} {cT : Nat → ClassId} {tt ak av : Nat → Nat} (hSt2 : gb_St2 D cT tt ak av z s) {i : Int32} (h1 : vp_in (i + 1) L) (h2 : vp_in (i + 2) L) (h3 : vp_in (i + 3) L) (h4 : vp_in (i + 4) L) (h5 : vp_in (i + 5) L) (hend : ∀ (σ : gb_S) (f : gb_F) (w : Int64) (H : Heap) (locs : List Loc) (ls : Array Slot), gb_Inv σ f → va_P D vwCl (gb_wl z (gb_CW cT z σ)) H → va_P D vwCl (gb_wl (z + 135) (gb_MW cT (z + 135) f w)) H → va_S (gb_ge z) s.heap H locs → lv_has ls 4 [(3, .int i), (2, .ref (z + 135 + 0)), (1, .ref (z + 0)), (0, .ref b)] → W p l e room_1 s m #[Value.ref b] below meth c H locs 157 10381 (lw_Z below #[Value.ref b] s) (F0 m 1890 ls [])) : ∀ (σ : gb_S) (f : gb_F) (w : Int64) (H : Heap) (locs : List Loc) (ls : Array Slot), gb_Inv σ f → va_P D vwCl (gb_wl z (gb_CW cT z σ)) H → va_P D vwCl (gb_wl (z + 135) (gb_MW cT (z + 135) f w)) H → va_S (gb_ge z) s.heap H locs → lv_has ls 4 [(3, .int i), (2, .ref (z + 135 + 0)), (1, .ref (z + 0)), (0, .ref b)] → W p l e room_1 s m #[Value.ref b] below meth c H locs 157 10381 (lw_Z below #[Value.ref b] s) (F0 m 1456 ls []) := by
  obtain ⟨hx, hb, hr, hml, hown, hts, hX, hbl, hlocks, hgv⟩ := C0
  have hq : ∀ w ∈ gb_wA, w.before #[Value.ref b] s = true := fun w h => hts w (gb_wA_tbl w h)
  have hbA : ¬ gb_ge z b := Nat.not_le.mpr (by rw [← hzz]; exact hbl)
  intro σ f w H locs ls hI hPc hPm hS hl
  refine lv_aload_n hx hb dL_law_1456 rfl (lv_at hl 2 rfl) ?_
  refine lv_aload_n hx hb dL_law_1457 rfl (lv_at hl 3 rfl) ?_
  refine lv_iload_n hx hb dL_law_1458 rfl (lv_at hl 0 rfl) ?_
  refine lv_iconst (v := 1) hx hb dL_law_1459 (by decide) ?_
  refine lv_iadd hx hb dL_law_1460 ?_
  refine va_sld hx hb hX hbl hbA hS h1 dL_law_1461 ?_
  refine lv_aload_n hx hb dL_law_1462 rfl (lv_at hl 3 rfl) ?_
  refine lv_iload_n hx hb dL_law_1463 rfl (lv_at hl 0 rfl) ?_
  refine lv_iconst (v := 2) hx hb dL_law_1464 (by decide) ?_
  refine lv_iadd hx hb dL_law_1465 ?_
  refine va_sld hx hb hX hbl hbA hS h2 dL_law_1466 ?_
  refine lv_aload_n hx hb dL_law_1467 rfl (lv_at hl 3 rfl) ?_
  refine lv_iload_n hx hb dL_law_1468 rfl (lv_at hl 0 rfl) ?_
  refine lv_iconst (v := 3) hx hb dL_law_1469 (by decide) ?_
  refine lv_iadd hx hb dL_law_1470 ?_
  refine va_sld hx hb hX hbl hbA hS h3 dL_law_1471 ?_
  refine lv_aload_n hx hb dL_law_1472 rfl (lv_at hl 3 rfl) ?_
  refine lv_iload_n hx hb dL_law_1473 rfl (lv_at hl 0 rfl) ?_
  refine lv_iconst (v := 4) hx hb dL_law_1474 (by decide) ?_
  refine lv_iadd hx hb dL_law_1475 ?_
  refine va_sld hx hb hX hbl hbA hS h4 dL_law_1476 ?_
  by_cases hz_ : (xs (Int32.toNatClampNeg (i + 4))) = 0
  · refine lv_if_eq (tgt := 1484) hx hb dL_law_1477 (by decide) (fun _ => ?_) (fun hc => absurd hz_ hc)
    refine lv_iconst (v := 0) hx hb dL_law_1484 (by decide) ?_
    obtain ⟨σ2, ra, f2, w2, qa, ec, em, hI2, hcmp⟩ := law_s_split (xs (Int32.toNatClampNeg (i + 1))) (xs (Int32.toNatClampNeg (i + 2))) (xs (Int32.toNatClampNeg (i + 3))) 0 w hI
    refine gb_calli (va_runV (C := RX11) (As := [.int (xs (Int32.toNatClampNeg (i + 1))), .int (xs (Int32.toNatClampNeg (i + 2))), .int (xs (Int32.toNatClampNeg (i + 3))), .int 0]) (rest := []) ⟨hx, hb, hml, hown, hq⟩ (cc_Face_split l D cT tt z z (Nat.le_refl z) gb_N σ (xs (Int32.toNatClampNeg (i + 1))) (xs (Int32.toNatClampNeg (i + 2))) (xs (Int32.toNatClampNeg (i + 3))) 0 σ2 ra ec) (cwV 4 hq (gb_gV w_994 w_995 w_996 w_1 w_997) rfl rfl rfl (by decide +kernel) ⟨Nat.le_of_ble_eq_true rfl, Nat.le_of_ble_eq_true rfl⟩) (gb_preV (r := (RX11, TX11, 10)) (ci := 9) (q0 := 0) hSt2.1 hPc rfl (gb_at z rfl) hS (fun q h => h) hPc) rfl rfl hl.1 rfl (lv_room (Nat.le_of_ble_eq_true rfl)) dL_law_1485 ⟨Nat.le_of_ble_eq_true rfl, Nat.le_of_ble_eq_true rfl⟩) hS (fun q h => h.1) (fun q h => h.1) (fun rc H2 locs2 hY hk hS => ?_)
    obtain ⟨hr_, hY⟩ := hY
    subst hr_
    have hPm := gb_kept hPm (fun q h1 h2 => hk q (Nat.lt_of_lt_of_le h2 ((hPm 21 _ (gb_at (z + 135) rfl)).lt)) (fun h3 => Nat.not_lt.mpr h1 h3.2))
    have hPc := hY
    clear hY
    refine lv_pop hx hb dL_law_1488 rfl ?_
    refine lv_aload_n hx hb dL_law_1489 rfl (lv_at hl 1 rfl) ?_
    refine lv_aload_n hx hb dL_law_1490 rfl (lv_at hl 3 rfl) ?_
    refine lv_iload_n hx hb dL_law_1491 rfl (lv_at hl 0 rfl) ?_
    refine lv_iconst (v := 1) hx hb dL_law_1492 (by decide) ?_
    refine lv_iadd hx hb dL_law_1493 ?_
    refine va_sld hx hb hX hbl hbA hS h1 dL_law_1494 ?_
    refine lv_aload_n hx hb dL_law_1495 rfl (lv_at hl 3 rfl) ?_
    refine lv_iload_n hx hb dL_law_1496 rfl (lv_at hl 0 rfl) ?_
    refine lv_iconst (v := 2) hx hb dL_law_1497 (by decide) ?_
    refine lv_iadd hx hb dL_law_1498 ?_
    refine va_sld hx hb hX hbl hbA hS h2 dL_law_1499 ?_
    refine lv_aload_n hx hb dL_law_1500 rfl (lv_at hl 3 rfl) ?_
    refine lv_iload_n hx hb dL_law_1501 rfl (lv_at hl 0 rfl) ?_
    refine lv_iconst (v := 3) hx hb dL_law_1502 (by decide) ?_
    refine lv_iadd hx hb dL_law_1503 ?_
    refine va_sld hx hb hX hbl hbA hS h3 dL_law_1504 ?_
    refine lv_aload_n hx hb dL_law_1505 rfl (lv_at hl 3 rfl) ?_
    refine lv_iload_n hx hb dL_law_1506 rfl (lv_at hl 0 rfl) ?_
    refine lv_iconst (v := 4) hx hb dL_law_1507 (by decide) ?_
    refine lv_iadd hx hb dL_law_1508 ?_
    refine va_sld hx hb hX hbl hbA hS h4 dL_law_1509 ?_
    refine lv_if_eq (tgt := 1517) hx hb dL_law_1510 (by decide) (fun _ => ?_) (fun hc => absurd hz_ hc)
    refine lv_iconst (v := 0) hx hb dL_law_1517 (by decide) ?_
    refine gb_calli (va_runV (C := RX12) (As := [.int (xs (Int32.toNatClampNeg (i + 1))), .int (xs (Int32.toNatClampNeg (i + 2))), .int (xs (Int32.toNatClampNeg (i + 3))), .int 0]) (rest := []) ⟨hx, hb, hml, hown, hq⟩ (mc_split l D cT tt z (z + 135) (Nat.le_add_right z 135) gb_N f w (xs (Int32.toNatClampNeg (i + 1))) (xs (Int32.toNatClampNeg (i + 2))) (xs (Int32.toNatClampNeg (i + 3))) 0 f2 w2 qa em) (cwV 4 hq (gb_gV w_1670 w_1671 w_1672 w_14 w_1673) rfl rfl rfl (by decide +kernel) ⟨Nat.le_of_ble_eq_true rfl, Nat.le_of_ble_eq_true rfl⟩) (gb_preV (r := (RX12, TX12, 44)) (ci := 10) (q0 := 0) hSt2.1 hPm rfl (gb_at (z + 135) rfl) hS (fun q h => h) hPm) rfl rfl hl.1 rfl (lv_room (Nat.le_of_ble_eq_true rfl)) dL_law_1518 ⟨Nat.le_of_ble_eq_true rfl, Nat.le_of_ble_eq_true rfl⟩) hS (fun q h => Nat.le_trans (Nat.le_add_right z 135) h.1) (fun q h => Nat.le_trans (Nat.le_add_right z 135) h.1) (fun rm H2 locs2 hY hk hS => ?_)
    obtain ⟨hr_, hY⟩ := hY
    subst hr_
    have hPc := gb_kept hPc (fun q h1 h2 => hk q (Nat.lt_of_lt_of_le h2 (Nat.le_of_lt (Nat.lt_of_le_of_lt (Nat.le_add_right (z + 135) 21) ((hPm 21 _ (gb_at (z + 135) rfl)).lt)))) (fun h3 => Nat.not_lt.mpr h3.1 h2))
    have hPm := hY
    clear hY
    refine lv_pop hx hb dL_law_1521 rfl ?_
    refine lv_goto (tgt := 1890) hx hb dL_law_1522 (by decide) ?_
    exact hend _ _ _ _ _ _ hI2 hPc hPm hS hl
  · refine lv_if_eq (tgt := 1484) hx hb dL_law_1477 (by decide) (fun hc => absurd hc hz_) (fun _ => ?_)
    refine lv_iconst (v := 1) hx hb dL_law_1480 (by decide) ?_
    refine lv_goto (tgt := 1485) hx hb dL_law_1481 (by decide) ?_
    obtain ⟨σ2, ra, f2, w2, qa, ec, em, hI2, hcmp⟩ := law_s_split (xs (Int32.toNatClampNeg (i + 1))) (xs (Int32.toNatClampNeg (i + 2))) (xs (Int32.toNatClampNeg (i + 3))) 1 w hI
    refine gb_calli (va_runV (C := RX11) (As := [.int (xs (Int32.toNatClampNeg (i + 1))), .int (xs (Int32.toNatClampNeg (i + 2))), .int (xs (Int32.toNatClampNeg (i + 3))), .int 1]) (rest := []) ⟨hx, hb, hml, hown, hq⟩ (cc_Face_split l D cT tt z z (Nat.le_refl z) gb_N σ (xs (Int32.toNatClampNeg (i + 1))) (xs (Int32.toNatClampNeg (i + 2))) (xs (Int32.toNatClampNeg (i + 3))) 1 σ2 ra ec) (cwV 4 hq (gb_gV w_994 w_995 w_996 w_1 w_997) rfl rfl rfl (by decide +kernel) ⟨Nat.le_of_ble_eq_true rfl, Nat.le_of_ble_eq_true rfl⟩) (gb_preV (r := (RX11, TX11, 10)) (ci := 9) (q0 := 0) hSt2.1 hPc rfl (gb_at z rfl) hS (fun q h => h) hPc) rfl rfl hl.1 rfl (lv_room (Nat.le_of_ble_eq_true rfl)) dL_law_1485 ⟨Nat.le_of_ble_eq_true rfl, Nat.le_of_ble_eq_true rfl⟩) hS (fun q h => h.1) (fun q h => h.1) (fun rc H2 locs2 hY hk hS => ?_)
    obtain ⟨hr_, hY⟩ := hY
    subst hr_
    have hPm := gb_kept hPm (fun q h1 h2 => hk q (Nat.lt_of_lt_of_le h2 ((hPm 21 _ (gb_at (z + 135) rfl)).lt)) (fun h3 => Nat.not_lt.mpr h1 h3.2))
    have hPc := hY
    clear hY
    refine lv_pop hx hb dL_law_1488 rfl ?_
    refine lv_aload_n hx hb dL_law_1489 rfl (lv_at hl 1 rfl) ?_
    refine lv_aload_n hx hb dL_law_1490 rfl (lv_at hl 3 rfl) ?_
    refine lv_iload_n hx hb dL_law_1491 rfl (lv_at hl 0 rfl) ?_
    refine lv_iconst (v := 1) hx hb dL_law_1492 (by decide) ?_
    refine lv_iadd hx hb dL_law_1493 ?_
    refine va_sld hx hb hX hbl hbA hS h1 dL_law_1494 ?_
    refine lv_aload_n hx hb dL_law_1495 rfl (lv_at hl 3 rfl) ?_
    refine lv_iload_n hx hb dL_law_1496 rfl (lv_at hl 0 rfl) ?_
    refine lv_iconst (v := 2) hx hb dL_law_1497 (by decide) ?_
    refine lv_iadd hx hb dL_law_1498 ?_
    refine va_sld hx hb hX hbl hbA hS h2 dL_law_1499 ?_
    refine lv_aload_n hx hb dL_law_1500 rfl (lv_at hl 3 rfl) ?_
    refine lv_iload_n hx hb dL_law_1501 rfl (lv_at hl 0 rfl) ?_
    refine lv_iconst (v := 3) hx hb dL_law_1502 (by decide) ?_
    refine lv_iadd hx hb dL_law_1503 ?_
    refine va_sld hx hb hX hbl hbA hS h3 dL_law_1504 ?_
    refine lv_aload_n hx hb dL_law_1505 rfl (lv_at hl 3 rfl) ?_
    refine lv_iload_n hx hb dL_law_1506 rfl (lv_at hl 0 rfl) ?_
    refine lv_iconst (v := 4) hx hb dL_law_1507 (by decide) ?_
    refine lv_iadd hx hb dL_law_1508 ?_
    refine va_sld hx hb hX hbl hbA hS h4 dL_law_1509 ?_
    refine lv_if_eq (tgt := 1517) hx hb dL_law_1510 (by decide) (fun hc => absurd hc hz_) (fun _ => ?_)
    refine lv_iconst (v := 1) hx hb dL_law_1513 (by decide) ?_
    refine lv_goto (tgt := 1518) hx hb dL_law_1514 (by decide) ?_
    refine gb_calli (va_runV (C := RX12) (As := [.int (xs (Int32.toNatClampNeg (i + 1))), .int (xs (Int32.toNatClampNeg (i + 2))), .int (xs (Int32.toNatClampNeg (i + 3))), .int 1]) (rest := []) ⟨hx, hb, hml, hown, hq⟩ (mc_split l D cT tt z (z + 135) (Nat.le_add_right z 135) gb_N f w (xs (Int32.toNatClampNeg (i + 1))) (xs (Int32.toNatClampNeg (i + 2))) (xs (Int32.toNatClampNeg (i + 3))) 1 f2 w2 qa em) (cwV 4 hq (gb_gV w_1670 w_1671 w_1672 w_14 w_1673) rfl rfl rfl (by decide +kernel) ⟨Nat.le_of_ble_eq_true rfl, Nat.le_of_ble_eq_true rfl⟩) (gb_preV (r := (RX12, TX12, 44)) (ci := 10) (q0 := 0) hSt2.1 hPm rfl (gb_at (z + 135) rfl) hS (fun q h => h) hPm) rfl rfl hl.1 rfl (lv_room (Nat.le_of_ble_eq_true rfl)) dL_law_1518 ⟨Nat.le_of_ble_eq_true rfl, Nat.le_of_ble_eq_true rfl⟩) hS (fun q h => Nat.le_trans (Nat.le_add_right z 135) h.1) (fun q h => Nat.le_trans (Nat.le_add_right z 135) h.1) (fun rm H2 locs2 hY hk hS => ?_)
    obtain ⟨hr_, hY⟩ := hY
    subst hr_
    have hPc := gb_kept hPc (fun q h1 h2 => hk q (Nat.lt_of_lt_of_le h2 (Nat.le_of_lt (Nat.lt_of_le_of_lt (Nat.le_add_right (z + 135) 21) ((hPm 21 _ (gb_at (z + 135) rfl)).lt)))) (fun h3 => Nat.not_lt.mpr h3.1 h2))
    have hPm := hY
    clear hY
    refine lv_pop hx hb dL_law_1521 rfl ?_
    refine lv_goto (tgt := 1890) hx hb dL_law_1522 (by decide) ?_
    exact hend _ _ _ _ _ _ hI2 hPc hPm hS hl
theorem dL_law_1525 : decode cL_law 1525 = .ok (.aload_n 1, 1) := dc_43 (dc_cut (j := 53) (n := 1) (l := [43]) dq_cL_law_1472 (by decide +kernel) (by decide))
theorem dL_law_1526 : decode cL_law 1526 = .ok (.aload_n 0, 1) := dc_42 (dc_cut (j := 54) (n := 1) (l := [42]) dq_cL_law_1472 (by decide +kernel) (by decide))
theorem dL_law_1527 : decode cL_law 1527 = .ok (.iload_n 3, 1) := dc_29 (dc_cut (j := 55) (n := 1) (l := [29]) dq_cL_law_1472 (by decide +kernel) (by decide))
theorem dL_law_1528 : decode cL_law 1528 = .ok (.iconst 1, 1) := dc_4 (dc_cut (j := 56) (n := 1) (l := [4]) dq_cL_law_1472 (by decide +kernel) (by decide))
theorem dL_law_1529 : decode cL_law 1529 = .ok (.iadd, 1) := dc_96 (dc_cut (j := 57) (n := 1) (l := [96]) dq_cL_law_1472 (by decide +kernel) (by decide))
theorem dL_law_1530 : decode cL_law 1530 = .ok (.iaload, 1) := dc_46 (dc_cut (j := 58) (n := 1) (l := [46]) dq_cL_law_1472 (by decide +kernel) (by decide))
theorem dL_law_1531 : decode cL_law 1531 = .ok (.aload_n 0, 1) := dc_42 (dc_cut (j := 59) (n := 1) (l := [42]) dq_cL_law_1472 (by decide +kernel) (by decide))
theorem dL_law_1532 : decode cL_law 1532 = .ok (.iload_n 3, 1) := dc_29 (dc_cut (j := 60) (n := 1) (l := [29]) dq_cL_law_1472 (by decide +kernel) (by decide))
theorem dL_law_1533 : decode cL_law 1533 = .ok (.iconst 2, 1) := dc_5 (dc_cut (j := 61) (n := 1) (l := [5]) dq_cL_law_1472 (by decide +kernel) (by decide))
theorem dL_law_1534 : decode cL_law 1534 = .ok (.iadd, 1) := dc_96 (dc_cut (j := 62) (n := 1) (l := [96]) dq_cL_law_1472 (by decide +kernel) (by decide))
theorem dL_law_1535 : decode cL_law 1535 = .ok (.iaload, 1) := dc_46 (dc_cut (j := 63) (n := 1) (l := [46]) dq_cL_law_1472 (by decide +kernel) (by decide))
theorem dq_cL_law_1536 : ((cL_law.data.toList.drop 1536).take 67).map UInt8.toNat = [42, 29, 6, 96, 46, 42, 29, 7, 96, 46, 182, 0, 136, 87, 44, 42, 29, 4, 96, 46, 42, 29, 5, 96, 46, 42, 29, 6, 96, 46, 42, 29, 7, 96, 46, 182, 0, 139, 87, 167, 1, 59, 43, 42, 29, 4, 96, 46, 42, 29, 5, 96, 46, 42, 29, 6, 96, 46, 42, 29, 7, 96, 46, 153, 0, 7, 4] := by decide +kernel
theorem dL_law_1536 : decode cL_law 1536 = .ok (.aload_n 0, 1) := dc_42 (dc_cut (j := 0) (n := 1) (l := [42]) dq_cL_law_1536 (by decide +kernel) (by decide))
theorem dL_law_1537 : decode cL_law 1537 = .ok (.iload_n 3, 1) := dc_29 (dc_cut (j := 1) (n := 1) (l := [29]) dq_cL_law_1536 (by decide +kernel) (by decide))
theorem dL_law_1538 : decode cL_law 1538 = .ok (.iconst 3, 1) := dc_6 (dc_cut (j := 2) (n := 1) (l := [6]) dq_cL_law_1536 (by decide +kernel) (by decide))
theorem dL_law_1539 : decode cL_law 1539 = .ok (.iadd, 1) := dc_96 (dc_cut (j := 3) (n := 1) (l := [96]) dq_cL_law_1536 (by decide +kernel) (by decide))
theorem dL_law_1540 : decode cL_law 1540 = .ok (.iaload, 1) := dc_46 (dc_cut (j := 4) (n := 1) (l := [46]) dq_cL_law_1536 (by decide +kernel) (by decide))
theorem dL_law_1541 : decode cL_law 1541 = .ok (.aload_n 0, 1) := dc_42 (dc_cut (j := 5) (n := 1) (l := [42]) dq_cL_law_1536 (by decide +kernel) (by decide))
theorem dL_law_1542 : decode cL_law 1542 = .ok (.iload_n 3, 1) := dc_29 (dc_cut (j := 6) (n := 1) (l := [29]) dq_cL_law_1536 (by decide +kernel) (by decide))
theorem dL_law_1543 : decode cL_law 1543 = .ok (.iconst 4, 1) := dc_7 (dc_cut (j := 7) (n := 1) (l := [7]) dq_cL_law_1536 (by decide +kernel) (by decide))
theorem dL_law_1544 : decode cL_law 1544 = .ok (.iadd, 1) := dc_96 (dc_cut (j := 8) (n := 1) (l := [96]) dq_cL_law_1536 (by decide +kernel) (by decide))
theorem dL_law_1545 : decode cL_law 1545 = .ok (.iaload, 1) := dc_46 (dc_cut (j := 9) (n := 1) (l := [46]) dq_cL_law_1536 (by decide +kernel) (by decide))
theorem dL_law_1546 : decode cL_law 1546 = .ok (.invokevirtual 136, 3) := dc_182 (dc_cut (j := 10) (n := 3) (l := [182, 0, 136]) dq_cL_law_1536 (by decide +kernel) (by decide)) rfl
theorem w_965 : (Cond.methodLink "GooseBorderLaw" (136 : Nat) ({ cls := "GooseBorder", name := "two", desc := "(IIII)I" } : MethodName)) ∈ gb_wA := gb_t5 5 rfl rfl
theorem w_966 : (Cond.instanceMethod ({ cls := "GooseBorder", name := "two", desc := "(IIII)I" } : MethodName)) ∈ gb_wA := gb_t5 6 rfl rfl
theorem w_967 : (Cond.selects "GooseBorder" ({ cls := "GooseBorder", name := "two", desc := "(IIII)I" } : MethodName) ({ cls := "GooseBorder", name := "two", desc := "(IIII)I" } : MethodName)) ∈ gb_wA := gb_t5 7 rfl rfl
theorem w_968 : (Cond.code ({ cls := "GooseBorder", name := "two", desc := "(IIII)I" } : MethodName) prog_1_method_38_code (15 : Nat) (Option.some FieldType.int)) ∈ gb_wA := gb_t5 8 rfl rfl
theorem dL_law_1549 : decode cL_law 1549 = .ok (.pop, 1) := dc_87 (dc_cut (j := 13) (n := 1) (l := [87]) dq_cL_law_1536 (by decide +kernel) (by decide))
theorem dL_law_1550 : decode cL_law 1550 = .ok (.aload_n 2, 1) := dc_44 (dc_cut (j := 14) (n := 1) (l := [44]) dq_cL_law_1536 (by decide +kernel) (by decide))
theorem dL_law_1551 : decode cL_law 1551 = .ok (.aload_n 0, 1) := dc_42 (dc_cut (j := 15) (n := 1) (l := [42]) dq_cL_law_1536 (by decide +kernel) (by decide))
theorem dL_law_1552 : decode cL_law 1552 = .ok (.iload_n 3, 1) := dc_29 (dc_cut (j := 16) (n := 1) (l := [29]) dq_cL_law_1536 (by decide +kernel) (by decide))
theorem dL_law_1553 : decode cL_law 1553 = .ok (.iconst 1, 1) := dc_4 (dc_cut (j := 17) (n := 1) (l := [4]) dq_cL_law_1536 (by decide +kernel) (by decide))
theorem dL_law_1554 : decode cL_law 1554 = .ok (.iadd, 1) := dc_96 (dc_cut (j := 18) (n := 1) (l := [96]) dq_cL_law_1536 (by decide +kernel) (by decide))
theorem dL_law_1555 : decode cL_law 1555 = .ok (.iaload, 1) := dc_46 (dc_cut (j := 19) (n := 1) (l := [46]) dq_cL_law_1536 (by decide +kernel) (by decide))
theorem dL_law_1556 : decode cL_law 1556 = .ok (.aload_n 0, 1) := dc_42 (dc_cut (j := 20) (n := 1) (l := [42]) dq_cL_law_1536 (by decide +kernel) (by decide))
theorem dL_law_1557 : decode cL_law 1557 = .ok (.iload_n 3, 1) := dc_29 (dc_cut (j := 21) (n := 1) (l := [29]) dq_cL_law_1536 (by decide +kernel) (by decide))
theorem dL_law_1558 : decode cL_law 1558 = .ok (.iconst 2, 1) := dc_5 (dc_cut (j := 22) (n := 1) (l := [5]) dq_cL_law_1536 (by decide +kernel) (by decide))
theorem dL_law_1559 : decode cL_law 1559 = .ok (.iadd, 1) := dc_96 (dc_cut (j := 23) (n := 1) (l := [96]) dq_cL_law_1536 (by decide +kernel) (by decide))
theorem dL_law_1560 : decode cL_law 1560 = .ok (.iaload, 1) := dc_46 (dc_cut (j := 24) (n := 1) (l := [46]) dq_cL_law_1536 (by decide +kernel) (by decide))
theorem dL_law_1561 : decode cL_law 1561 = .ok (.aload_n 0, 1) := dc_42 (dc_cut (j := 25) (n := 1) (l := [42]) dq_cL_law_1536 (by decide +kernel) (by decide))
theorem dL_law_1562 : decode cL_law 1562 = .ok (.iload_n 3, 1) := dc_29 (dc_cut (j := 26) (n := 1) (l := [29]) dq_cL_law_1536 (by decide +kernel) (by decide))
theorem dL_law_1563 : decode cL_law 1563 = .ok (.iconst 3, 1) := dc_6 (dc_cut (j := 27) (n := 1) (l := [6]) dq_cL_law_1536 (by decide +kernel) (by decide))
theorem dL_law_1564 : decode cL_law 1564 = .ok (.iadd, 1) := dc_96 (dc_cut (j := 28) (n := 1) (l := [96]) dq_cL_law_1536 (by decide +kernel) (by decide))
theorem dL_law_1565 : decode cL_law 1565 = .ok (.iaload, 1) := dc_46 (dc_cut (j := 29) (n := 1) (l := [46]) dq_cL_law_1536 (by decide +kernel) (by decide))
theorem dL_law_1566 : decode cL_law 1566 = .ok (.aload_n 0, 1) := dc_42 (dc_cut (j := 30) (n := 1) (l := [42]) dq_cL_law_1536 (by decide +kernel) (by decide))
theorem dL_law_1567 : decode cL_law 1567 = .ok (.iload_n 3, 1) := dc_29 (dc_cut (j := 31) (n := 1) (l := [29]) dq_cL_law_1536 (by decide +kernel) (by decide))
theorem dL_law_1568 : decode cL_law 1568 = .ok (.iconst 4, 1) := dc_7 (dc_cut (j := 32) (n := 1) (l := [7]) dq_cL_law_1536 (by decide +kernel) (by decide))
theorem dL_law_1569 : decode cL_law 1569 = .ok (.iadd, 1) := dc_96 (dc_cut (j := 33) (n := 1) (l := [96]) dq_cL_law_1536 (by decide +kernel) (by decide))
theorem dL_law_1570 : decode cL_law 1570 = .ok (.iaload, 1) := dc_46 (dc_cut (j := 34) (n := 1) (l := [46]) dq_cL_law_1536 (by decide +kernel) (by decide))
theorem dL_law_1571 : decode cL_law 1571 = .ok (.invokevirtual 139, 3) := dc_182 (dc_cut (j := 35) (n := 3) (l := [182, 0, 139]) dq_cL_law_1536 (by decide +kernel) (by decide)) rfl
theorem w_1674 : (Cond.methodLink "GooseBorderLaw" (139 : Nat) ({ cls := "GooseBorderModel", name := "two", desc := "(IIII)I" } : MethodName)) ∈ gb_wA := gb_t7 234 rfl rfl
theorem w_1675 : (Cond.instanceMethod ({ cls := "GooseBorderModel", name := "two", desc := "(IIII)I" } : MethodName)) ∈ gb_wA := gb_t7 235 rfl rfl
theorem w_1676 : (Cond.selects "GooseBorderModel" ({ cls := "GooseBorderModel", name := "two", desc := "(IIII)I" } : MethodName) ({ cls := "GooseBorderModel", name := "two", desc := "(IIII)I" } : MethodName)) ∈ gb_wA := gb_t7 236 rfl rfl
theorem w_1677 : (Cond.code ({ cls := "GooseBorderModel", name := "two", desc := "(IIII)I" } : MethodName) prog_14_method_107_code (15 : Nat) (Option.some FieldType.int)) ∈ gb_wA := gb_t7 237 rfl rfl
theorem dL_law_1574 : decode cL_law 1574 = .ok (.pop, 1) := dc_87 (dc_cut (j := 38) (n := 1) (l := [87]) dq_cL_law_1536 (by decide +kernel) (by decide))
theorem dL_law_1575 : decode cL_law 1575 = .ok (.goto 315, 3) := dc_167 (dc_cut (j := 39) (n := 3) (l := [167, 1, 59]) dq_cL_law_1536 (by decide +kernel) (by decide)) rfl
set_option maxHeartbeats 4000000 in
set_option maxRecDepth 100000 in
theorem law_c29 {p : Program} {l : Launch} {e : Env} {s : State} {m : MethodId} {below : List Frame} {meth : Method} {c : Code} {b z L : Nat} {xs : Nat → Int32} (C0 : lw_At p s m meth c b L xs) (hzz : Array.size s.heap = z) {D : va_G} {cT : Nat → ClassId} {tt ak av : Nat → Nat} (hSt2 : gb_St2 D cT tt ak av z s) {i : Int32} (h1 : vp_in (i + 1) L) (h2 : vp_in (i + 2) L) (h3 : vp_in (i + 3) L) (h4 : vp_in (i + 4) L) (h5 : vp_in (i + 5) L) (hend : ∀ (σ : gb_S) (f : gb_F) (w : Int64) (H : Heap) (locs : List Loc) (ls : Array Slot), gb_Inv σ f → va_P D vwCl (gb_wl z (gb_CW cT z σ)) H → va_P D vwCl (gb_wl (z + 135) (gb_MW cT (z + 135) f w)) H → va_S (gb_ge z) s.heap H locs → lv_has ls 4 [(3, .int i), (2, .ref (z + 135 + 0)), (1, .ref (z + 0)), (0, .ref b)] → W p l e room_1 s m #[Value.ref b] below meth c H locs 157 10381 (lw_Z below #[Value.ref b] s) (F0 m 1890 ls [])) : ∀ (σ : gb_S) (f : gb_F) (w : Int64) (H : Heap) (locs : List Loc) (ls : Array Slot), gb_Inv σ f → va_P D vwCl (gb_wl z (gb_CW cT z σ)) H → va_P D vwCl (gb_wl (z + 135) (gb_MW cT (z + 135) f w)) H → va_S (gb_ge z) s.heap H locs → lv_has ls 4 [(3, .int i), (2, .ref (z + 135 + 0)), (1, .ref (z + 0)), (0, .ref b)] → W p l e room_1 s m #[Value.ref b] below meth c H locs 157 10381 (lw_Z below #[Value.ref b] s) (F0 m 1525 ls []) := by
  obtain ⟨hx, hb, hr, hml, hown, hts, hX, hbl, hlocks, hgv⟩ := C0
  have hq : ∀ w ∈ gb_wA, w.before #[Value.ref b] s = true := fun w h => hts w (gb_wA_tbl w h)
  have hbA : ¬ gb_ge z b := Nat.not_le.mpr (by rw [← hzz]; exact hbl)
  intro σ f w H locs ls hI hPc hPm hS hl
  refine lv_aload_n hx hb dL_law_1525 rfl (lv_at hl 2 rfl) ?_
  refine lv_aload_n hx hb dL_law_1526 rfl (lv_at hl 3 rfl) ?_
  refine lv_iload_n hx hb dL_law_1527 rfl (lv_at hl 0 rfl) ?_
  refine lv_iconst (v := 1) hx hb dL_law_1528 (by decide) ?_
  refine lv_iadd hx hb dL_law_1529 ?_
  refine va_sld hx hb hX hbl hbA hS h1 dL_law_1530 ?_
  refine lv_aload_n hx hb dL_law_1531 rfl (lv_at hl 3 rfl) ?_
  refine lv_iload_n hx hb dL_law_1532 rfl (lv_at hl 0 rfl) ?_
  refine lv_iconst (v := 2) hx hb dL_law_1533 (by decide) ?_
  refine lv_iadd hx hb dL_law_1534 ?_
  refine va_sld hx hb hX hbl hbA hS h2 dL_law_1535 ?_
  refine lv_aload_n hx hb dL_law_1536 rfl (lv_at hl 3 rfl) ?_
  refine lv_iload_n hx hb dL_law_1537 rfl (lv_at hl 0 rfl) ?_
  refine lv_iconst (v := 3) hx hb dL_law_1538 (by decide) ?_
  refine lv_iadd hx hb dL_law_1539 ?_
  refine va_sld hx hb hX hbl hbA hS h3 dL_law_1540 ?_
  refine lv_aload_n hx hb dL_law_1541 rfl (lv_at hl 3 rfl) ?_
  refine lv_iload_n hx hb dL_law_1542 rfl (lv_at hl 0 rfl) ?_
  refine lv_iconst (v := 4) hx hb dL_law_1543 (by decide) ?_
  refine lv_iadd hx hb dL_law_1544 ?_
  refine va_sld hx hb hX hbl hbA hS h4 dL_law_1545 ?_
  obtain ⟨σ2, ra, f2, w2, qa, ec, em, hI2, hcmp⟩ := law_s_two (xs (Int32.toNatClampNeg (i + 1))) (xs (Int32.toNatClampNeg (i + 2))) (xs (Int32.toNatClampNeg (i + 3))) (xs (Int32.toNatClampNeg (i + 4))) w hI
  refine gb_calli (va_runV (C := RX11) (As := [.int (xs (Int32.toNatClampNeg (i + 1))), .int (xs (Int32.toNatClampNeg (i + 2))), .int (xs (Int32.toNatClampNeg (i + 3))), .int (xs (Int32.toNatClampNeg (i + 4)))]) (rest := []) ⟨hx, hb, hml, hown, hq⟩ (cc_Face_two l D cT tt z z (Nat.le_refl z) gb_N σ (xs (Int32.toNatClampNeg (i + 1))) (xs (Int32.toNatClampNeg (i + 2))) (xs (Int32.toNatClampNeg (i + 3))) (xs (Int32.toNatClampNeg (i + 4))) σ2 ra ec) (cwV 4 hq (gb_gV w_965 w_966 w_967 w_1 w_968) rfl rfl rfl (by decide +kernel) ⟨Nat.le_of_ble_eq_true rfl, Nat.le_of_ble_eq_true rfl⟩) (gb_preV (r := (RX11, TX11, 10)) (ci := 9) (q0 := 0) hSt2.1 hPc rfl (gb_at z rfl) hS (fun q h => h) hPc) rfl rfl hl.1 rfl (lv_room (Nat.le_of_ble_eq_true rfl)) dL_law_1546 ⟨Nat.le_of_ble_eq_true rfl, Nat.le_of_ble_eq_true rfl⟩) hS (fun q h => h.1) (fun q h => h.1) (fun rc H2 locs2 hY hk hS => ?_)
  obtain ⟨hr_, hY⟩ := hY
  subst hr_
  have hPm := gb_kept hPm (fun q h1 h2 => hk q (Nat.lt_of_lt_of_le h2 ((hPm 21 _ (gb_at (z + 135) rfl)).lt)) (fun h3 => Nat.not_lt.mpr h1 h3.2))
  have hPc := hY
  clear hY
  refine lv_pop hx hb dL_law_1549 rfl ?_
  refine lv_aload_n hx hb dL_law_1550 rfl (lv_at hl 1 rfl) ?_
  refine lv_aload_n hx hb dL_law_1551 rfl (lv_at hl 3 rfl) ?_
  refine lv_iload_n hx hb dL_law_1552 rfl (lv_at hl 0 rfl) ?_
  refine lv_iconst (v := 1) hx hb dL_law_1553 (by decide) ?_
  refine lv_iadd hx hb dL_law_1554 ?_
  refine va_sld hx hb hX hbl hbA hS h1 dL_law_1555 ?_
  refine lv_aload_n hx hb dL_law_1556 rfl (lv_at hl 3 rfl) ?_
  refine lv_iload_n hx hb dL_law_1557 rfl (lv_at hl 0 rfl) ?_
  refine lv_iconst (v := 2) hx hb dL_law_1558 (by decide) ?_
  refine lv_iadd hx hb dL_law_1559 ?_
  refine va_sld hx hb hX hbl hbA hS h2 dL_law_1560 ?_
  refine lv_aload_n hx hb dL_law_1561 rfl (lv_at hl 3 rfl) ?_
  refine lv_iload_n hx hb dL_law_1562 rfl (lv_at hl 0 rfl) ?_
  refine lv_iconst (v := 3) hx hb dL_law_1563 (by decide) ?_
  refine lv_iadd hx hb dL_law_1564 ?_
  refine va_sld hx hb hX hbl hbA hS h3 dL_law_1565 ?_
  refine lv_aload_n hx hb dL_law_1566 rfl (lv_at hl 3 rfl) ?_
  refine lv_iload_n hx hb dL_law_1567 rfl (lv_at hl 0 rfl) ?_
  refine lv_iconst (v := 4) hx hb dL_law_1568 (by decide) ?_
  refine lv_iadd hx hb dL_law_1569 ?_
  refine va_sld hx hb hX hbl hbA hS h4 dL_law_1570 ?_
  refine gb_calli (va_runV (C := RX12) (As := [.int (xs (Int32.toNatClampNeg (i + 1))), .int (xs (Int32.toNatClampNeg (i + 2))), .int (xs (Int32.toNatClampNeg (i + 3))), .int (xs (Int32.toNatClampNeg (i + 4)))]) (rest := []) ⟨hx, hb, hml, hown, hq⟩ (mc_two l D cT tt z (z + 135) (Nat.le_add_right z 135) gb_N f w (xs (Int32.toNatClampNeg (i + 1))) (xs (Int32.toNatClampNeg (i + 2))) (xs (Int32.toNatClampNeg (i + 3))) (xs (Int32.toNatClampNeg (i + 4))) f2 w2 qa em) (cwV 4 hq (gb_gV w_1674 w_1675 w_1676 w_14 w_1677) rfl rfl rfl (by decide +kernel) ⟨Nat.le_of_ble_eq_true rfl, Nat.le_of_ble_eq_true rfl⟩) (gb_preV (r := (RX12, TX12, 44)) (ci := 10) (q0 := 0) hSt2.1 hPm rfl (gb_at (z + 135) rfl) hS (fun q h => h) hPm) rfl rfl hl.1 rfl (lv_room (Nat.le_of_ble_eq_true rfl)) dL_law_1571 ⟨Nat.le_of_ble_eq_true rfl, Nat.le_of_ble_eq_true rfl⟩) hS (fun q h => Nat.le_trans (Nat.le_add_right z 135) h.1) (fun q h => Nat.le_trans (Nat.le_add_right z 135) h.1) (fun rm H2 locs2 hY hk hS => ?_)
  obtain ⟨hr_, hY⟩ := hY
  subst hr_
  have hPc := gb_kept hPc (fun q h1 h2 => hk q (Nat.lt_of_lt_of_le h2 (Nat.le_of_lt (Nat.lt_of_le_of_lt (Nat.le_add_right (z + 135) 21) ((hPm 21 _ (gb_at (z + 135) rfl)).lt)))) (fun h3 => Nat.not_lt.mpr h3.1 h2))
  have hPm := hY
  clear hY
  refine lv_pop hx hb dL_law_1574 rfl ?_
  refine lv_goto (tgt := 1890) hx hb dL_law_1575 (by decide) ?_
  exact hend _ _ _ _ _ _ hI2 hPc hPm hS hl
