theorem dL_law_1249 : decode cL_law 1249 = .ok (.aload_n 1, 1) := by decide +kernel
theorem dL_law_1250 : decode cL_law 1250 = .ok (.aload_n 0, 1) := by decide +kernel
theorem dL_law_1251 : decode cL_law 1251 = .ok (.iload_n 3, 1) := by decide +kernel
theorem dL_law_1252 : decode cL_law 1252 = .ok (.iconst 1, 1) := by decide +kernel
theorem dL_law_1253 : decode cL_law 1253 = .ok (.iadd, 1) := by decide +kernel
theorem dL_law_1254 : decode cL_law 1254 = .ok (.iaload, 1) := by decide +kernel
theorem dL_law_1255 : decode cL_law 1255 = .ok (.aload_n 0, 1) := by decide +kernel
theorem dL_law_1256 : decode cL_law 1256 = .ok (.iload_n 3, 1) := by decide +kernel
theorem dL_law_1257 : decode cL_law 1257 = .ok (.iconst 2, 1) := by decide +kernel
theorem dL_law_1258 : decode cL_law 1258 = .ok (.iadd, 1) := by decide +kernel
theorem dL_law_1259 : decode cL_law 1259 = .ok (.iaload, 1) := by decide +kernel
theorem dL_law_1260 : decode cL_law 1260 = .ok (.aload_n 0, 1) := by decide +kernel
theorem dL_law_1261 : decode cL_law 1261 = .ok (.iload_n 3, 1) := by decide +kernel
theorem dL_law_1262 : decode cL_law 1262 = .ok (.iconst 3, 1) := by decide +kernel
theorem dL_law_1263 : decode cL_law 1263 = .ok (.iadd, 1) := by decide +kernel
theorem dL_law_1264 : decode cL_law 1264 = .ok (.iaload, 1) := by decide +kernel
theorem dL_law_1265 : decode cL_law 1265 = .ok (.aload_n 0, 1) := by decide +kernel
theorem dL_law_1266 : decode cL_law 1266 = .ok (.iload_n 3, 1) := by decide +kernel
theorem dL_law_1267 : decode cL_law 1267 = .ok (.iconst 4, 1) := by decide +kernel
theorem dL_law_1268 : decode cL_law 1268 = .ok (.iadd, 1) := by decide +kernel
theorem dL_law_1269 : decode cL_law 1269 = .ok (.iaload, 1) := by decide +kernel
theorem dL_law_1270 : decode cL_law 1270 = .ok (.invokevirtual 116, 3) := by decide +kernel
theorem w_1094 : (Cond.methodLink "GooseBorderLaw" (116 : Nat) ({ cls := "GooseBorder", name := "drawn", desc := "(IIII)I" } : MethodName)) ∈ gb_wA := gb_t5 134 rfl rfl
theorem w_1095 : (Cond.instanceMethod ({ cls := "GooseBorder", name := "drawn", desc := "(IIII)I" } : MethodName)) ∈ gb_wA := gb_t5 135 rfl rfl
theorem w_1096 : (Cond.selects "GooseBorder" ({ cls := "GooseBorder", name := "drawn", desc := "(IIII)I" } : MethodName) ({ cls := "GooseBorder", name := "drawn", desc := "(IIII)I" } : MethodName)) ∈ gb_wA := gb_t5 136 rfl rfl
theorem w_1097 : (Cond.code ({ cls := "GooseBorder", name := "drawn", desc := "(IIII)I" } : MethodName) prog_1_method_48_code (8 : Nat) (Option.some FieldType.int)) ∈ gb_wA := gb_t5 137 rfl rfl
theorem dL_law_1273 : decode cL_law 1273 = .ok (.aload_n 2, 1) := by decide +kernel
theorem dL_law_1274 : decode cL_law 1274 = .ok (.aload_n 0, 1) := by decide +kernel
theorem dL_law_1275 : decode cL_law 1275 = .ok (.iload_n 3, 1) := by decide +kernel
theorem dL_law_1276 : decode cL_law 1276 = .ok (.iconst 1, 1) := by decide +kernel
theorem dL_law_1277 : decode cL_law 1277 = .ok (.iadd, 1) := by decide +kernel
theorem dL_law_1278 : decode cL_law 1278 = .ok (.iaload, 1) := by decide +kernel
theorem dL_law_1279 : decode cL_law 1279 = .ok (.aload_n 0, 1) := by decide +kernel
theorem dL_law_1280 : decode cL_law 1280 = .ok (.iload_n 3, 1) := by decide +kernel
theorem dL_law_1281 : decode cL_law 1281 = .ok (.iconst 2, 1) := by decide +kernel
theorem dL_law_1282 : decode cL_law 1282 = .ok (.iadd, 1) := by decide +kernel
theorem dL_law_1283 : decode cL_law 1283 = .ok (.iaload, 1) := by decide +kernel
theorem dL_law_1284 : decode cL_law 1284 = .ok (.aload_n 0, 1) := by decide +kernel
theorem dL_law_1285 : decode cL_law 1285 = .ok (.iload_n 3, 1) := by decide +kernel
theorem dL_law_1286 : decode cL_law 1286 = .ok (.iconst 3, 1) := by decide +kernel
theorem dL_law_1287 : decode cL_law 1287 = .ok (.iadd, 1) := by decide +kernel
theorem dL_law_1288 : decode cL_law 1288 = .ok (.iaload, 1) := by decide +kernel
theorem dL_law_1289 : decode cL_law 1289 = .ok (.aload_n 0, 1) := by decide +kernel
theorem dL_law_1290 : decode cL_law 1290 = .ok (.iload_n 3, 1) := by decide +kernel
theorem dL_law_1291 : decode cL_law 1291 = .ok (.iconst 4, 1) := by decide +kernel
theorem dL_law_1292 : decode cL_law 1292 = .ok (.iadd, 1) := by decide +kernel
theorem dL_law_1293 : decode cL_law 1293 = .ok (.iaload, 1) := by decide +kernel
theorem dL_law_1294 : decode cL_law 1294 = .ok (.invokevirtual 119, 3) := by decide +kernel
theorem w_1649 : (Cond.methodLink "GooseBorderLaw" (119 : Nat) ({ cls := "GooseBorderModel", name := "drawn", desc := "(IIII)I" } : MethodName)) ∈ gb_wA := gb_t7 209 rfl rfl
theorem w_1650 : (Cond.instanceMethod ({ cls := "GooseBorderModel", name := "drawn", desc := "(IIII)I" } : MethodName)) ∈ gb_wA := gb_t7 210 rfl rfl
theorem w_1651 : (Cond.selects "GooseBorderModel" ({ cls := "GooseBorderModel", name := "drawn", desc := "(IIII)I" } : MethodName) ({ cls := "GooseBorderModel", name := "drawn", desc := "(IIII)I" } : MethodName)) ∈ gb_wA := gb_t7 211 rfl rfl
theorem w_1652 : (Cond.code ({ cls := "GooseBorderModel", name := "drawn", desc := "(IIII)I" } : MethodName) prog_14_method_103_code (7 : Nat) (Option.some FieldType.int)) ∈ gb_wA := gb_t7 212 rfl rfl
theorem dL_law_1297 : decode cL_law 1297 = .ok (.if_icmp .eq 594, 3) := by decide +kernel
set_option maxHeartbeats 4000000 in
set_option maxRecDepth 100000 in
theorem law_c24 {p : Program} {l : Launch} {e : Env} {s : State} {m : MethodId} {below : List Frame} {meth : Method} {c : Code} {b z : Nat} {xs : Nat → Int32} (C0 : lw_At p s m meth c b 6 xs) (hzz : Array.size s.heap = z) {D : va_G} {cT : Nat → ClassId} {tt : Nat → Nat} (hSt : gb_St D cT tt z s) {H : Heap} {locs : List Loc} {ls : Array Slot} (hPc : va_P D vwCl (gb_wl z (gb_C cT z)) H) (hPm : va_P D vwCl (gb_wl (z + 135) (gb_M cT (z + 135))) H) (hS : va_S (gb_ge z) s.heap H locs) (hl : lv_has ls 4 [(3, .int 0), (2, .ref (z + 135 + 0)), (1, .ref (z + 0)), (0, .ref b)]) : W p l e room_1 s m #[Value.ref b] below meth c H locs 157 10381 (lw_Z below #[Value.ref b] s) (F0 m 1249 ls []) := by
  have C1 := C0
  obtain ⟨hx, hb, hr, hml, hown, hts, hX, hbl, hlocks, hgv⟩ := C0
  have hq : ∀ w ∈ gb_wA, w.before #[Value.ref b] s = true := fun w h => hts w (gb_wA_tbl w h)
  have hbA : ¬ gb_ge z b := Nat.not_le.mpr (by rw [← hzz]; exact hbl)
  refine lv_aload_n hx hb dL_law_1249 rfl (lv_at hl 2 rfl) ?_
  refine lv_aload_n hx hb dL_law_1250 rfl (lv_at hl 3 rfl) ?_
  refine lv_iload_n hx hb dL_law_1251 rfl (lv_at hl 0 rfl) ?_
  refine lv_iconst (v := 1) hx hb dL_law_1252 (by decide) ?_
  refine lv_iadd hx hb dL_law_1253 ?_
  refine W.eq (g2 := F0 m 1254 ls [.int 1, .ref b, .ref (z + 0)]) (congrArg (fun v => F0 m 1254 ls (Value.int v :: [.ref b, .ref (z + 0)])) (show (0 : Int32) + 1 = 1 by decide)) ?_
  refine va_sld hx hb hX hbl hbA hS (gb_in rfl) dL_law_1254 ?_
  refine lv_aload_n hx hb dL_law_1255 rfl (lv_at hl 3 rfl) ?_
  refine lv_iload_n hx hb dL_law_1256 rfl (lv_at hl 0 rfl) ?_
  refine lv_iconst (v := 2) hx hb dL_law_1257 (by decide) ?_
  refine lv_iadd hx hb dL_law_1258 ?_
  refine W.eq (g2 := F0 m 1259 ls [.int 2, .ref b, .int (xs (Int32.toNatClampNeg 1)), .ref (z + 0)]) (congrArg (fun v => F0 m 1259 ls (Value.int v :: [.ref b, .int (xs (Int32.toNatClampNeg 1)), .ref (z + 0)])) (show (0 : Int32) + 2 = 2 by decide)) ?_
  refine va_sld hx hb hX hbl hbA hS (gb_in rfl) dL_law_1259 ?_
  refine lv_aload_n hx hb dL_law_1260 rfl (lv_at hl 3 rfl) ?_
  refine lv_iload_n hx hb dL_law_1261 rfl (lv_at hl 0 rfl) ?_
  refine lv_iconst (v := 3) hx hb dL_law_1262 (by decide) ?_
  refine lv_iadd hx hb dL_law_1263 ?_
  refine W.eq (g2 := F0 m 1264 ls [.int 3, .ref b, .int (xs (Int32.toNatClampNeg 2)), .int (xs (Int32.toNatClampNeg 1)), .ref (z + 0)]) (congrArg (fun v => F0 m 1264 ls (Value.int v :: [.ref b, .int (xs (Int32.toNatClampNeg 2)), .int (xs (Int32.toNatClampNeg 1)), .ref (z + 0)])) (show (0 : Int32) + 3 = 3 by decide)) ?_
  refine va_sld hx hb hX hbl hbA hS (gb_in rfl) dL_law_1264 ?_
  refine lv_aload_n hx hb dL_law_1265 rfl (lv_at hl 3 rfl) ?_
  refine lv_iload_n hx hb dL_law_1266 rfl (lv_at hl 0 rfl) ?_
  refine lv_iconst (v := 4) hx hb dL_law_1267 (by decide) ?_
  refine lv_iadd hx hb dL_law_1268 ?_
  refine W.eq (g2 := F0 m 1269 ls [.int 4, .ref b, .int (xs (Int32.toNatClampNeg 3)), .int (xs (Int32.toNatClampNeg 2)), .int (xs (Int32.toNatClampNeg 1)), .ref (z + 0)]) (congrArg (fun v => F0 m 1269 ls (Value.int v :: [.ref b, .int (xs (Int32.toNatClampNeg 3)), .int (xs (Int32.toNatClampNeg 2)), .int (xs (Int32.toNatClampNeg 1)), .ref (z + 0)])) (show (0 : Int32) + 4 = 4 by decide)) ?_
  refine va_sld hx hb hX hbl hbA hS (gb_in rfl) dL_law_1269 ?_
  refine gb_calli (va_runV (C := RX11) (As := [.int (xs (Int32.toNatClampNeg 1)), .int (xs (Int32.toNatClampNeg 2)), .int (xs (Int32.toNatClampNeg 3)), .int (xs (Int32.toNatClampNeg 4))]) (rest := []) ⟨hx, hb, hml, hown, hq⟩ (a_X11_drawn l D cT tt z z (Nat.le_refl z) (xs (Int32.toNatClampNeg 1)) (xs (Int32.toNatClampNeg 2)) (xs (Int32.toNatClampNeg 3)) (xs (Int32.toNatClampNeg 4))) (cwV 4 hq (gb_gV w_1094 w_1095 w_1096 w_1 w_1097) rfl rfl rfl (by decide +kernel) ⟨Nat.le_of_ble_eq_true rfl, Nat.le_of_ble_eq_true rfl⟩) (gb_preV (r := (RX11, TX11, 10)) (ci := 9) (q0 := 0) hSt hPc rfl (gb_at z rfl) hS (fun q h => h) hPc) rfl rfl hl.1 rfl (lv_room (Nat.le_of_ble_eq_true rfl)) dL_law_1270 ⟨Nat.le_of_ble_eq_true rfl, Nat.le_of_ble_eq_true rfl⟩) hS (fun q h => h.1) (fun q h => h.1) (fun r H locs hY hk hS => ?_)
  subst hY
  have hPm := gb_kept hPm (fun q h1 h2 => hk q (Nat.lt_of_lt_of_le h2 ((hPm 21 _ (gb_at (z + 135) rfl)).lt)) (fun h3 => Nat.not_lt.mpr h1 h3.2))
  refine lv_aload_n hx hb dL_law_1273 rfl (lv_at hl 1 rfl) ?_
  refine lv_aload_n hx hb dL_law_1274 rfl (lv_at hl 3 rfl) ?_
  refine lv_iload_n hx hb dL_law_1275 rfl (lv_at hl 0 rfl) ?_
  refine lv_iconst (v := 1) hx hb dL_law_1276 (by decide) ?_
  refine lv_iadd hx hb dL_law_1277 ?_
  refine W.eq (g2 := F0 m 1278 ls [.int 1, .ref b, .ref (z + 135 + 0), .int (-1)]) (congrArg (fun v => F0 m 1278 ls (Value.int v :: [.ref b, .ref (z + 135 + 0), .int (-1)])) (show (0 : Int32) + 1 = 1 by decide)) ?_
  refine va_sld hx hb hX hbl hbA hS (gb_in rfl) dL_law_1278 ?_
  refine lv_aload_n hx hb dL_law_1279 rfl (lv_at hl 3 rfl) ?_
  refine lv_iload_n hx hb dL_law_1280 rfl (lv_at hl 0 rfl) ?_
  refine lv_iconst (v := 2) hx hb dL_law_1281 (by decide) ?_
  refine lv_iadd hx hb dL_law_1282 ?_
  refine W.eq (g2 := F0 m 1283 ls [.int 2, .ref b, .int (xs (Int32.toNatClampNeg 1)), .ref (z + 135 + 0), .int (-1)]) (congrArg (fun v => F0 m 1283 ls (Value.int v :: [.ref b, .int (xs (Int32.toNatClampNeg 1)), .ref (z + 135 + 0), .int (-1)])) (show (0 : Int32) + 2 = 2 by decide)) ?_
  refine va_sld hx hb hX hbl hbA hS (gb_in rfl) dL_law_1283 ?_
  refine lv_aload_n hx hb dL_law_1284 rfl (lv_at hl 3 rfl) ?_
  refine lv_iload_n hx hb dL_law_1285 rfl (lv_at hl 0 rfl) ?_
  refine lv_iconst (v := 3) hx hb dL_law_1286 (by decide) ?_
  refine lv_iadd hx hb dL_law_1287 ?_
  refine W.eq (g2 := F0 m 1288 ls [.int 3, .ref b, .int (xs (Int32.toNatClampNeg 2)), .int (xs (Int32.toNatClampNeg 1)), .ref (z + 135 + 0), .int (-1)]) (congrArg (fun v => F0 m 1288 ls (Value.int v :: [.ref b, .int (xs (Int32.toNatClampNeg 2)), .int (xs (Int32.toNatClampNeg 1)), .ref (z + 135 + 0), .int (-1)])) (show (0 : Int32) + 3 = 3 by decide)) ?_
  refine va_sld hx hb hX hbl hbA hS (gb_in rfl) dL_law_1288 ?_
  refine lv_aload_n hx hb dL_law_1289 rfl (lv_at hl 3 rfl) ?_
  refine lv_iload_n hx hb dL_law_1290 rfl (lv_at hl 0 rfl) ?_
  refine lv_iconst (v := 4) hx hb dL_law_1291 (by decide) ?_
  refine lv_iadd hx hb dL_law_1292 ?_
  refine W.eq (g2 := F0 m 1293 ls [.int 4, .ref b, .int (xs (Int32.toNatClampNeg 3)), .int (xs (Int32.toNatClampNeg 2)), .int (xs (Int32.toNatClampNeg 1)), .ref (z + 135 + 0), .int (-1)]) (congrArg (fun v => F0 m 1293 ls (Value.int v :: [.ref b, .int (xs (Int32.toNatClampNeg 3)), .int (xs (Int32.toNatClampNeg 2)), .int (xs (Int32.toNatClampNeg 1)), .ref (z + 135 + 0), .int (-1)])) (show (0 : Int32) + 4 = 4 by decide)) ?_
  refine va_sld hx hb hX hbl hbA hS (gb_in rfl) dL_law_1293 ?_
  refine gb_calli (va_runV (C := RX12) (As := [.int (xs (Int32.toNatClampNeg 1)), .int (xs (Int32.toNatClampNeg 2)), .int (xs (Int32.toNatClampNeg 3)), .int (xs (Int32.toNatClampNeg 4))]) (rest := [.int (-1)]) ⟨hx, hb, hml, hown, hq⟩ (a_X12_drawn l D cT tt z (z + 135) (Nat.le_add_right z 135) (xs (Int32.toNatClampNeg 1)) (xs (Int32.toNatClampNeg 2)) (xs (Int32.toNatClampNeg 3)) (xs (Int32.toNatClampNeg 4))) (cwV 4 hq (gb_gV w_1649 w_1650 w_1651 w_14 w_1652) rfl rfl rfl (by decide +kernel) ⟨Nat.le_of_ble_eq_true rfl, Nat.le_of_ble_eq_true rfl⟩) (gb_preV (r := (RX12, TX12, 44)) (ci := 10) (q0 := 0) hSt hPm rfl (gb_at (z + 135) rfl) hS (fun q h => h) hPm) rfl rfl hl.1 rfl (lv_room (Nat.le_of_ble_eq_true rfl)) dL_law_1294 ⟨Nat.le_of_ble_eq_true rfl, Nat.le_of_ble_eq_true rfl⟩) hS (fun q h => Nat.le_trans (Nat.le_add_right z 135) h.1) (fun q h => Nat.le_trans (Nat.le_add_right z 135) h.1) (fun r H locs hY hk hS => ?_)
  subst hY
  refine lv_icmp_eq (tgt := 1891) hx hb dL_law_1297 (by decide) (fun _ => ?_) (fun hc => absurd rfl hc)
  exact law_end C1 hzz hS (lv_sub hl [0, 3] rfl)
theorem dL_law_1302 : decode cL_law 1302 = .ok (.aload_n 1, 1) := by decide +kernel
theorem dL_law_1303 : decode cL_law 1303 = .ok (.aload_n 0, 1) := by decide +kernel
theorem dL_law_1304 : decode cL_law 1304 = .ok (.iload_n 3, 1) := by decide +kernel
theorem dL_law_1305 : decode cL_law 1305 = .ok (.iconst 1, 1) := by decide +kernel
theorem dL_law_1306 : decode cL_law 1306 = .ok (.iadd, 1) := by decide +kernel
theorem dL_law_1307 : decode cL_law 1307 = .ok (.iaload, 1) := by decide +kernel
theorem dL_law_1308 : decode cL_law 1308 = .ok (.aload_n 0, 1) := by decide +kernel
theorem dL_law_1309 : decode cL_law 1309 = .ok (.iload_n 3, 1) := by decide +kernel
theorem dL_law_1310 : decode cL_law 1310 = .ok (.iconst 2, 1) := by decide +kernel
theorem dL_law_1311 : decode cL_law 1311 = .ok (.iadd, 1) := by decide +kernel
theorem dL_law_1312 : decode cL_law 1312 = .ok (.iaload, 1) := by decide +kernel
theorem dL_law_1313 : decode cL_law 1313 = .ok (.aload_n 0, 1) := by decide +kernel
theorem dL_law_1314 : decode cL_law 1314 = .ok (.iload_n 3, 1) := by decide +kernel
theorem dL_law_1315 : decode cL_law 1315 = .ok (.iconst 3, 1) := by decide +kernel
theorem dL_law_1316 : decode cL_law 1316 = .ok (.iadd, 1) := by decide +kernel
theorem dL_law_1317 : decode cL_law 1317 = .ok (.iaload, 1) := by decide +kernel
theorem dL_law_1318 : decode cL_law 1318 = .ok (.invokevirtual 120, 3) := by decide +kernel
theorem w_970 : (Cond.methodLink "GooseBorderLaw" (120 : Nat) ({ cls := "GooseBorder", name := "alike", desc := "(III)I" } : MethodName)) ∈ gb_wA := gb_t5 10 rfl rfl
theorem w_971 : (Cond.instanceMethod ({ cls := "GooseBorder", name := "alike", desc := "(III)I" } : MethodName)) ∈ gb_wA := gb_t5 11 rfl rfl
theorem w_972 : (Cond.selects "GooseBorder" ({ cls := "GooseBorder", name := "alike", desc := "(III)I" } : MethodName) ({ cls := "GooseBorder", name := "alike", desc := "(III)I" } : MethodName)) ∈ gb_wA := gb_t5 12 rfl rfl
theorem w_973 : (Cond.code ({ cls := "GooseBorder", name := "alike", desc := "(III)I" } : MethodName) prog_1_method_39_code (7 : Nat) (Option.some FieldType.int)) ∈ gb_wA := gb_t5 13 rfl rfl
theorem dL_law_1321 : decode cL_law 1321 = .ok (.aload_n 2, 1) := by decide +kernel
theorem dL_law_1322 : decode cL_law 1322 = .ok (.aload_n 0, 1) := by decide +kernel
theorem dL_law_1323 : decode cL_law 1323 = .ok (.iload_n 3, 1) := by decide +kernel
theorem dL_law_1324 : decode cL_law 1324 = .ok (.iconst 1, 1) := by decide +kernel
theorem dL_law_1325 : decode cL_law 1325 = .ok (.iadd, 1) := by decide +kernel
theorem dL_law_1326 : decode cL_law 1326 = .ok (.iaload, 1) := by decide +kernel
theorem dL_law_1327 : decode cL_law 1327 = .ok (.aload_n 0, 1) := by decide +kernel
theorem dL_law_1328 : decode cL_law 1328 = .ok (.iload_n 3, 1) := by decide +kernel
theorem dL_law_1329 : decode cL_law 1329 = .ok (.iconst 2, 1) := by decide +kernel
theorem dL_law_1330 : decode cL_law 1330 = .ok (.iadd, 1) := by decide +kernel
theorem dL_law_1331 : decode cL_law 1331 = .ok (.iaload, 1) := by decide +kernel
theorem dL_law_1332 : decode cL_law 1332 = .ok (.aload_n 0, 1) := by decide +kernel
theorem dL_law_1333 : decode cL_law 1333 = .ok (.iload_n 3, 1) := by decide +kernel
theorem dL_law_1334 : decode cL_law 1334 = .ok (.iconst 3, 1) := by decide +kernel
theorem dL_law_1335 : decode cL_law 1335 = .ok (.iadd, 1) := by decide +kernel
theorem dL_law_1336 : decode cL_law 1336 = .ok (.iaload, 1) := by decide +kernel
theorem dL_law_1337 : decode cL_law 1337 = .ok (.invokevirtual 123, 3) := by decide +kernel
theorem w_1662 : (Cond.methodLink "GooseBorderLaw" (123 : Nat) ({ cls := "GooseBorderModel", name := "alike", desc := "(III)I" } : MethodName)) ∈ gb_wA := gb_t7 222 rfl rfl
theorem w_1663 : (Cond.instanceMethod ({ cls := "GooseBorderModel", name := "alike", desc := "(III)I" } : MethodName)) ∈ gb_wA := gb_t7 223 rfl rfl
theorem w_1664 : (Cond.selects "GooseBorderModel" ({ cls := "GooseBorderModel", name := "alike", desc := "(III)I" } : MethodName) ({ cls := "GooseBorderModel", name := "alike", desc := "(III)I" } : MethodName)) ∈ gb_wA := gb_t7 224 rfl rfl
theorem w_1665 : (Cond.code ({ cls := "GooseBorderModel", name := "alike", desc := "(III)I" } : MethodName) prog_14_method_104_code (6 : Nat) (Option.some FieldType.int)) ∈ gb_wA := gb_t7 225 rfl rfl
theorem dL_law_1340 : decode cL_law 1340 = .ok (.if_icmp .eq 551, 3) := by decide +kernel
set_option maxHeartbeats 4000000 in
set_option maxRecDepth 100000 in
theorem law_c25 {p : Program} {l : Launch} {e : Env} {s : State} {m : MethodId} {below : List Frame} {meth : Method} {c : Code} {b z : Nat} {xs : Nat → Int32} (C0 : lw_At p s m meth c b 6 xs) (hzz : Array.size s.heap = z) {D : va_G} {cT : Nat → ClassId} {tt : Nat → Nat} (hSt : gb_St D cT tt z s) {H : Heap} {locs : List Loc} {ls : Array Slot} (hPc : va_P D vwCl (gb_wl z (gb_C cT z)) H) (hPm : va_P D vwCl (gb_wl (z + 135) (gb_M cT (z + 135))) H) (hS : va_S (gb_ge z) s.heap H locs) (hl : lv_has ls 4 [(3, .int 0), (2, .ref (z + 135 + 0)), (1, .ref (z + 0)), (0, .ref b)]) : W p l e room_1 s m #[Value.ref b] below meth c H locs 157 10381 (lw_Z below #[Value.ref b] s) (F0 m 1302 ls []) := by
  have C1 := C0
  obtain ⟨hx, hb, hr, hml, hown, hts, hX, hbl, hlocks, hgv⟩ := C0
  have hq : ∀ w ∈ gb_wA, w.before #[Value.ref b] s = true := fun w h => hts w (gb_wA_tbl w h)
  have hbA : ¬ gb_ge z b := Nat.not_le.mpr (by rw [← hzz]; exact hbl)
  refine lv_aload_n hx hb dL_law_1302 rfl (lv_at hl 2 rfl) ?_
  refine lv_aload_n hx hb dL_law_1303 rfl (lv_at hl 3 rfl) ?_
  refine lv_iload_n hx hb dL_law_1304 rfl (lv_at hl 0 rfl) ?_
  refine lv_iconst (v := 1) hx hb dL_law_1305 (by decide) ?_
  refine lv_iadd hx hb dL_law_1306 ?_
  refine W.eq (g2 := F0 m 1307 ls [.int 1, .ref b, .ref (z + 0)]) (congrArg (fun v => F0 m 1307 ls (Value.int v :: [.ref b, .ref (z + 0)])) (show (0 : Int32) + 1 = 1 by decide)) ?_
  refine va_sld hx hb hX hbl hbA hS (gb_in rfl) dL_law_1307 ?_
  refine lv_aload_n hx hb dL_law_1308 rfl (lv_at hl 3 rfl) ?_
  refine lv_iload_n hx hb dL_law_1309 rfl (lv_at hl 0 rfl) ?_
  refine lv_iconst (v := 2) hx hb dL_law_1310 (by decide) ?_
  refine lv_iadd hx hb dL_law_1311 ?_
  refine W.eq (g2 := F0 m 1312 ls [.int 2, .ref b, .int (xs (Int32.toNatClampNeg 1)), .ref (z + 0)]) (congrArg (fun v => F0 m 1312 ls (Value.int v :: [.ref b, .int (xs (Int32.toNatClampNeg 1)), .ref (z + 0)])) (show (0 : Int32) + 2 = 2 by decide)) ?_
  refine va_sld hx hb hX hbl hbA hS (gb_in rfl) dL_law_1312 ?_
  refine lv_aload_n hx hb dL_law_1313 rfl (lv_at hl 3 rfl) ?_
  refine lv_iload_n hx hb dL_law_1314 rfl (lv_at hl 0 rfl) ?_
  refine lv_iconst (v := 3) hx hb dL_law_1315 (by decide) ?_
  refine lv_iadd hx hb dL_law_1316 ?_
  refine W.eq (g2 := F0 m 1317 ls [.int 3, .ref b, .int (xs (Int32.toNatClampNeg 2)), .int (xs (Int32.toNatClampNeg 1)), .ref (z + 0)]) (congrArg (fun v => F0 m 1317 ls (Value.int v :: [.ref b, .int (xs (Int32.toNatClampNeg 2)), .int (xs (Int32.toNatClampNeg 1)), .ref (z + 0)])) (show (0 : Int32) + 3 = 3 by decide)) ?_
  refine va_sld hx hb hX hbl hbA hS (gb_in rfl) dL_law_1317 ?_
  refine gb_calli (va_runV (C := RX11) (As := [.int (xs (Int32.toNatClampNeg 1)), .int (xs (Int32.toNatClampNeg 2)), .int (xs (Int32.toNatClampNeg 3))]) (rest := []) ⟨hx, hb, hml, hown, hq⟩ (a_X11_alike l D cT tt z z (Nat.le_refl z) (xs (Int32.toNatClampNeg 1)) (xs (Int32.toNatClampNeg 2)) (xs (Int32.toNatClampNeg 3))) (cwV 3 hq (gb_gV w_970 w_971 w_972 w_1 w_973) rfl rfl rfl (by decide +kernel) ⟨Nat.le_of_ble_eq_true rfl, Nat.le_of_ble_eq_true rfl⟩) (gb_preV (r := (RX11, TX11, 10)) (ci := 9) (q0 := 0) hSt hPc rfl (gb_at z rfl) hS (fun q h => h) hPc) rfl rfl hl.1 rfl (lv_room (Nat.le_of_ble_eq_true rfl)) dL_law_1318 ⟨Nat.le_of_ble_eq_true rfl, Nat.le_of_ble_eq_true rfl⟩) hS (fun q h => h.1) (fun q h => h.1) (fun r H locs hY hk hS => ?_)
  subst hY
  have hPm := gb_kept hPm (fun q h1 h2 => hk q (Nat.lt_of_lt_of_le h2 ((hPm 21 _ (gb_at (z + 135) rfl)).lt)) (fun h3 => Nat.not_lt.mpr h1 h3.2))
  refine lv_aload_n hx hb dL_law_1321 rfl (lv_at hl 1 rfl) ?_
  refine lv_aload_n hx hb dL_law_1322 rfl (lv_at hl 3 rfl) ?_
  refine lv_iload_n hx hb dL_law_1323 rfl (lv_at hl 0 rfl) ?_
  refine lv_iconst (v := 1) hx hb dL_law_1324 (by decide) ?_
  refine lv_iadd hx hb dL_law_1325 ?_
  refine W.eq (g2 := F0 m 1326 ls [.int 1, .ref b, .ref (z + 135 + 0), .int (-1)]) (congrArg (fun v => F0 m 1326 ls (Value.int v :: [.ref b, .ref (z + 135 + 0), .int (-1)])) (show (0 : Int32) + 1 = 1 by decide)) ?_
  refine va_sld hx hb hX hbl hbA hS (gb_in rfl) dL_law_1326 ?_
  refine lv_aload_n hx hb dL_law_1327 rfl (lv_at hl 3 rfl) ?_
  refine lv_iload_n hx hb dL_law_1328 rfl (lv_at hl 0 rfl) ?_
  refine lv_iconst (v := 2) hx hb dL_law_1329 (by decide) ?_
  refine lv_iadd hx hb dL_law_1330 ?_
  refine W.eq (g2 := F0 m 1331 ls [.int 2, .ref b, .int (xs (Int32.toNatClampNeg 1)), .ref (z + 135 + 0), .int (-1)]) (congrArg (fun v => F0 m 1331 ls (Value.int v :: [.ref b, .int (xs (Int32.toNatClampNeg 1)), .ref (z + 135 + 0), .int (-1)])) (show (0 : Int32) + 2 = 2 by decide)) ?_
  refine va_sld hx hb hX hbl hbA hS (gb_in rfl) dL_law_1331 ?_
  refine lv_aload_n hx hb dL_law_1332 rfl (lv_at hl 3 rfl) ?_
  refine lv_iload_n hx hb dL_law_1333 rfl (lv_at hl 0 rfl) ?_
  refine lv_iconst (v := 3) hx hb dL_law_1334 (by decide) ?_
  refine lv_iadd hx hb dL_law_1335 ?_
  refine W.eq (g2 := F0 m 1336 ls [.int 3, .ref b, .int (xs (Int32.toNatClampNeg 2)), .int (xs (Int32.toNatClampNeg 1)), .ref (z + 135 + 0), .int (-1)]) (congrArg (fun v => F0 m 1336 ls (Value.int v :: [.ref b, .int (xs (Int32.toNatClampNeg 2)), .int (xs (Int32.toNatClampNeg 1)), .ref (z + 135 + 0), .int (-1)])) (show (0 : Int32) + 3 = 3 by decide)) ?_
  refine va_sld hx hb hX hbl hbA hS (gb_in rfl) dL_law_1336 ?_
  refine gb_calli (va_runV (C := RX12) (As := [.int (xs (Int32.toNatClampNeg 1)), .int (xs (Int32.toNatClampNeg 2)), .int (xs (Int32.toNatClampNeg 3))]) (rest := [.int (-1)]) ⟨hx, hb, hml, hown, hq⟩ (a_X12_alike l D cT tt z (z + 135) (Nat.le_add_right z 135) (xs (Int32.toNatClampNeg 1)) (xs (Int32.toNatClampNeg 2)) (xs (Int32.toNatClampNeg 3))) (cwV 3 hq (gb_gV w_1662 w_1663 w_1664 w_14 w_1665) rfl rfl rfl (by decide +kernel) ⟨Nat.le_of_ble_eq_true rfl, Nat.le_of_ble_eq_true rfl⟩) (gb_preV (r := (RX12, TX12, 44)) (ci := 10) (q0 := 0) hSt hPm rfl (gb_at (z + 135) rfl) hS (fun q h => h) hPm) rfl rfl hl.1 rfl (lv_room (Nat.le_of_ble_eq_true rfl)) dL_law_1337 ⟨Nat.le_of_ble_eq_true rfl, Nat.le_of_ble_eq_true rfl⟩) hS (fun q h => Nat.le_trans (Nat.le_add_right z 135) h.1) (fun q h => Nat.le_trans (Nat.le_add_right z 135) h.1) (fun r H locs hY hk hS => ?_)
  subst hY
  refine lv_icmp_eq (tgt := 1891) hx hb dL_law_1340 (by decide) (fun _ => ?_) (fun hc => absurd rfl hc)
  exact law_end C1 hzz hS (lv_sub hl [0, 3] rfl)
theorem dL_law_1345 : decode cL_law 1345 = .ok (.aload_n 1, 1) := by decide +kernel
theorem dL_law_1346 : decode cL_law 1346 = .ok (.aload_n 0, 1) := by decide +kernel
theorem dL_law_1347 : decode cL_law 1347 = .ok (.iload_n 3, 1) := by decide +kernel
theorem dL_law_1348 : decode cL_law 1348 = .ok (.iconst 1, 1) := by decide +kernel
theorem dL_law_1349 : decode cL_law 1349 = .ok (.iadd, 1) := by decide +kernel
theorem dL_law_1350 : decode cL_law 1350 = .ok (.iaload, 1) := by decide +kernel
theorem dL_law_1351 : decode cL_law 1351 = .ok (.aload_n 0, 1) := by decide +kernel
theorem dL_law_1352 : decode cL_law 1352 = .ok (.iload_n 3, 1) := by decide +kernel
theorem dL_law_1353 : decode cL_law 1353 = .ok (.iconst 2, 1) := by decide +kernel
theorem dL_law_1354 : decode cL_law 1354 = .ok (.iadd, 1) := by decide +kernel
theorem dL_law_1355 : decode cL_law 1355 = .ok (.iaload, 1) := by decide +kernel
theorem dL_law_1356 : decode cL_law 1356 = .ok (.aload_n 0, 1) := by decide +kernel
theorem dL_law_1357 : decode cL_law 1357 = .ok (.iload_n 3, 1) := by decide +kernel
theorem dL_law_1358 : decode cL_law 1358 = .ok (.iconst 3, 1) := by decide +kernel
theorem dL_law_1359 : decode cL_law 1359 = .ok (.iadd, 1) := by decide +kernel
theorem dL_law_1360 : decode cL_law 1360 = .ok (.iaload, 1) := by decide +kernel
theorem dL_law_1361 : decode cL_law 1361 = .ok (.aload_n 0, 1) := by decide +kernel
theorem dL_law_1362 : decode cL_law 1362 = .ok (.iload_n 3, 1) := by decide +kernel
theorem dL_law_1363 : decode cL_law 1363 = .ok (.iconst 4, 1) := by decide +kernel
theorem dL_law_1364 : decode cL_law 1364 = .ok (.iadd, 1) := by decide +kernel
theorem dL_law_1365 : decode cL_law 1365 = .ok (.iaload, 1) := by decide +kernel
theorem dL_law_1366 : decode cL_law 1366 = .ok (.ifCond .eq 7, 3) := by decide +kernel
theorem dL_law_1373 : decode cL_law 1373 = .ok (.iconst 0, 1) := by decide +kernel
theorem dL_law_1374 : decode cL_law 1374 = .ok (.invokevirtual 124, 3) := by decide +kernel
theorem w_974 : (Cond.methodLink "GooseBorderLaw" (124 : Nat) ({ cls := "GooseBorder", name := "span", desc := "(IIIZ)I" } : MethodName)) ∈ gb_wA := gb_t5 14 rfl rfl
theorem w_975 : (Cond.instanceMethod ({ cls := "GooseBorder", name := "span", desc := "(IIIZ)I" } : MethodName)) ∈ gb_wA := gb_t5 15 rfl rfl
theorem w_976 : (Cond.selects "GooseBorder" ({ cls := "GooseBorder", name := "span", desc := "(IIIZ)I" } : MethodName) ({ cls := "GooseBorder", name := "span", desc := "(IIIZ)I" } : MethodName)) ∈ gb_wA := gb_t5 16 rfl rfl
theorem w_977 : (Cond.code ({ cls := "GooseBorder", name := "span", desc := "(IIIZ)I" } : MethodName) prog_1_method_40_code (6 : Nat) (Option.some FieldType.int)) ∈ gb_wA := gb_t5 17 rfl rfl
theorem dL_law_1377 : decode cL_law 1377 = .ok (.aload_n 2, 1) := by decide +kernel
theorem dL_law_1378 : decode cL_law 1378 = .ok (.aload_n 0, 1) := by decide +kernel
theorem dL_law_1379 : decode cL_law 1379 = .ok (.iload_n 3, 1) := by decide +kernel
theorem dL_law_1380 : decode cL_law 1380 = .ok (.iconst 1, 1) := by decide +kernel
theorem dL_law_1381 : decode cL_law 1381 = .ok (.iadd, 1) := by decide +kernel
theorem dL_law_1382 : decode cL_law 1382 = .ok (.iaload, 1) := by decide +kernel
theorem dL_law_1383 : decode cL_law 1383 = .ok (.aload_n 0, 1) := by decide +kernel
theorem dL_law_1384 : decode cL_law 1384 = .ok (.iload_n 3, 1) := by decide +kernel
theorem dL_law_1385 : decode cL_law 1385 = .ok (.iconst 2, 1) := by decide +kernel
theorem dL_law_1386 : decode cL_law 1386 = .ok (.iadd, 1) := by decide +kernel
theorem dL_law_1387 : decode cL_law 1387 = .ok (.iaload, 1) := by decide +kernel
theorem dL_law_1388 : decode cL_law 1388 = .ok (.aload_n 0, 1) := by decide +kernel
theorem dL_law_1389 : decode cL_law 1389 = .ok (.iload_n 3, 1) := by decide +kernel
theorem dL_law_1390 : decode cL_law 1390 = .ok (.iconst 3, 1) := by decide +kernel
theorem dL_law_1391 : decode cL_law 1391 = .ok (.iadd, 1) := by decide +kernel
theorem dL_law_1392 : decode cL_law 1392 = .ok (.iaload, 1) := by decide +kernel
theorem dL_law_1393 : decode cL_law 1393 = .ok (.aload_n 0, 1) := by decide +kernel
theorem dL_law_1394 : decode cL_law 1394 = .ok (.iload_n 3, 1) := by decide +kernel
theorem dL_law_1395 : decode cL_law 1395 = .ok (.iconst 4, 1) := by decide +kernel
theorem dL_law_1396 : decode cL_law 1396 = .ok (.iadd, 1) := by decide +kernel
theorem dL_law_1397 : decode cL_law 1397 = .ok (.iaload, 1) := by decide +kernel
theorem dL_law_1398 : decode cL_law 1398 = .ok (.ifCond .eq 7, 3) := by decide +kernel
theorem dL_law_1405 : decode cL_law 1405 = .ok (.iconst 0, 1) := by decide +kernel
theorem dL_law_1406 : decode cL_law 1406 = .ok (.invokevirtual 127, 3) := by decide +kernel
theorem w_1666 : (Cond.methodLink "GooseBorderLaw" (127 : Nat) ({ cls := "GooseBorderModel", name := "span", desc := "(IIIZ)I" } : MethodName)) ∈ gb_wA := gb_t7 226 rfl rfl
theorem w_1667 : (Cond.instanceMethod ({ cls := "GooseBorderModel", name := "span", desc := "(IIIZ)I" } : MethodName)) ∈ gb_wA := gb_t7 227 rfl rfl
theorem w_1668 : (Cond.selects "GooseBorderModel" ({ cls := "GooseBorderModel", name := "span", desc := "(IIIZ)I" } : MethodName) ({ cls := "GooseBorderModel", name := "span", desc := "(IIIZ)I" } : MethodName)) ∈ gb_wA := gb_t7 228 rfl rfl
theorem w_1669 : (Cond.code ({ cls := "GooseBorderModel", name := "span", desc := "(IIIZ)I" } : MethodName) prog_14_method_105_code (10 : Nat) (Option.some FieldType.int)) ∈ gb_wA := gb_t7 229 rfl rfl
theorem dL_law_1409 : decode cL_law 1409 = .ok (.if_icmp .eq 482, 3) := by decide +kernel
theorem dL_law_1401 : decode cL_law 1401 = .ok (.iconst 1, 1) := by decide +kernel
theorem dL_law_1402 : decode cL_law 1402 = .ok (.goto 4, 3) := by decide +kernel
theorem dL_law_1369 : decode cL_law 1369 = .ok (.iconst 1, 1) := by decide +kernel
theorem dL_law_1370 : decode cL_law 1370 = .ok (.goto 4, 3) := by decide +kernel
set_option maxHeartbeats 4000000 in
set_option maxRecDepth 100000 in
theorem law_c26 {p : Program} {l : Launch} {e : Env} {s : State} {m : MethodId} {below : List Frame} {meth : Method} {c : Code} {b z : Nat} {xs : Nat → Int32} (C0 : lw_At p s m meth c b 6 xs) (hzz : Array.size s.heap = z) {D : va_G} {cT : Nat → ClassId} {tt : Nat → Nat} (hSt : gb_St D cT tt z s) {H : Heap} {locs : List Loc} {ls : Array Slot} (hPc : va_P D vwCl (gb_wl z (gb_C cT z)) H) (hPm : va_P D vwCl (gb_wl (z + 135) (gb_M cT (z + 135))) H) (hS : va_S (gb_ge z) s.heap H locs) (hl : lv_has ls 4 [(3, .int 0), (2, .ref (z + 135 + 0)), (1, .ref (z + 0)), (0, .ref b)]) : W p l e room_1 s m #[Value.ref b] below meth c H locs 157 10381 (lw_Z below #[Value.ref b] s) (F0 m 1345 ls []) := by
  have C1 := C0
  obtain ⟨hx, hb, hr, hml, hown, hts, hX, hbl, hlocks, hgv⟩ := C0
  have hq : ∀ w ∈ gb_wA, w.before #[Value.ref b] s = true := fun w h => hts w (gb_wA_tbl w h)
  have hbA : ¬ gb_ge z b := Nat.not_le.mpr (by rw [← hzz]; exact hbl)
  refine lv_aload_n hx hb dL_law_1345 rfl (lv_at hl 2 rfl) ?_
  refine lv_aload_n hx hb dL_law_1346 rfl (lv_at hl 3 rfl) ?_
  refine lv_iload_n hx hb dL_law_1347 rfl (lv_at hl 0 rfl) ?_
  refine lv_iconst (v := 1) hx hb dL_law_1348 (by decide) ?_
  refine lv_iadd hx hb dL_law_1349 ?_
  refine W.eq (g2 := F0 m 1350 ls [.int 1, .ref b, .ref (z + 0)]) (congrArg (fun v => F0 m 1350 ls (Value.int v :: [.ref b, .ref (z + 0)])) (show (0 : Int32) + 1 = 1 by decide)) ?_
  refine va_sld hx hb hX hbl hbA hS (gb_in rfl) dL_law_1350 ?_
  refine lv_aload_n hx hb dL_law_1351 rfl (lv_at hl 3 rfl) ?_
  refine lv_iload_n hx hb dL_law_1352 rfl (lv_at hl 0 rfl) ?_
  refine lv_iconst (v := 2) hx hb dL_law_1353 (by decide) ?_
  refine lv_iadd hx hb dL_law_1354 ?_
  refine W.eq (g2 := F0 m 1355 ls [.int 2, .ref b, .int (xs (Int32.toNatClampNeg 1)), .ref (z + 0)]) (congrArg (fun v => F0 m 1355 ls (Value.int v :: [.ref b, .int (xs (Int32.toNatClampNeg 1)), .ref (z + 0)])) (show (0 : Int32) + 2 = 2 by decide)) ?_
  refine va_sld hx hb hX hbl hbA hS (gb_in rfl) dL_law_1355 ?_
  refine lv_aload_n hx hb dL_law_1356 rfl (lv_at hl 3 rfl) ?_
  refine lv_iload_n hx hb dL_law_1357 rfl (lv_at hl 0 rfl) ?_
  refine lv_iconst (v := 3) hx hb dL_law_1358 (by decide) ?_
  refine lv_iadd hx hb dL_law_1359 ?_
  refine W.eq (g2 := F0 m 1360 ls [.int 3, .ref b, .int (xs (Int32.toNatClampNeg 2)), .int (xs (Int32.toNatClampNeg 1)), .ref (z + 0)]) (congrArg (fun v => F0 m 1360 ls (Value.int v :: [.ref b, .int (xs (Int32.toNatClampNeg 2)), .int (xs (Int32.toNatClampNeg 1)), .ref (z + 0)])) (show (0 : Int32) + 3 = 3 by decide)) ?_
  refine va_sld hx hb hX hbl hbA hS (gb_in rfl) dL_law_1360 ?_
  refine lv_aload_n hx hb dL_law_1361 rfl (lv_at hl 3 rfl) ?_
  refine lv_iload_n hx hb dL_law_1362 rfl (lv_at hl 0 rfl) ?_
  refine lv_iconst (v := 4) hx hb dL_law_1363 (by decide) ?_
  refine lv_iadd hx hb dL_law_1364 ?_
  refine W.eq (g2 := F0 m 1365 ls [.int 4, .ref b, .int (xs (Int32.toNatClampNeg 3)), .int (xs (Int32.toNatClampNeg 2)), .int (xs (Int32.toNatClampNeg 1)), .ref (z + 0)]) (congrArg (fun v => F0 m 1365 ls (Value.int v :: [.ref b, .int (xs (Int32.toNatClampNeg 3)), .int (xs (Int32.toNatClampNeg 2)), .int (xs (Int32.toNatClampNeg 1)), .ref (z + 0)])) (show (0 : Int32) + 4 = 4 by decide)) ?_
  refine va_sld hx hb hX hbl hbA hS (gb_in rfl) dL_law_1365 ?_
  refine lv_if_eq (tgt := 1373) hx hb dL_law_1366 (by decide) (fun _ => ?_) (fun _ => ?_)
  · refine lv_iconst (v := 0) hx hb dL_law_1373 (by decide) ?_
    refine gb_calli (va_runV (C := RX11) (As := [.int (xs (Int32.toNatClampNeg 1)), .int (xs (Int32.toNatClampNeg 2)), .int (xs (Int32.toNatClampNeg 3)), .int 0]) (rest := []) ⟨hx, hb, hml, hown, hq⟩ (a_X11_span l D cT tt z z (Nat.le_refl z) (xs (Int32.toNatClampNeg 1)) (xs (Int32.toNatClampNeg 2)) (xs (Int32.toNatClampNeg 3)) 0) (cwV 4 hq (gb_gV w_974 w_975 w_976 w_1 w_977) rfl rfl rfl (by decide +kernel) ⟨Nat.le_of_ble_eq_true rfl, Nat.le_of_ble_eq_true rfl⟩) (gb_preV (r := (RX11, TX11, 10)) (ci := 9) (q0 := 0) hSt hPc rfl (gb_at z rfl) hS (fun q h => h) hPc) rfl rfl hl.1 rfl (lv_room (Nat.le_of_ble_eq_true rfl)) dL_law_1374 ⟨Nat.le_of_ble_eq_true rfl, Nat.le_of_ble_eq_true rfl⟩) hS (fun q h => h.1) (fun q h => h.1) (fun r H locs hY hk hS => ?_)
    subst hY
    have hPm := gb_kept hPm (fun q h1 h2 => hk q (Nat.lt_of_lt_of_le h2 ((hPm 21 _ (gb_at (z + 135) rfl)).lt)) (fun h3 => Nat.not_lt.mpr h1 h3.2))
    refine lv_aload_n hx hb dL_law_1377 rfl (lv_at hl 1 rfl) ?_
    refine lv_aload_n hx hb dL_law_1378 rfl (lv_at hl 3 rfl) ?_
    refine lv_iload_n hx hb dL_law_1379 rfl (lv_at hl 0 rfl) ?_
    refine lv_iconst (v := 1) hx hb dL_law_1380 (by decide) ?_
    refine lv_iadd hx hb dL_law_1381 ?_
    refine W.eq (g2 := F0 m 1382 ls [.int 1, .ref b, .ref (z + 135 + 0), .int (-1)]) (congrArg (fun v => F0 m 1382 ls (Value.int v :: [.ref b, .ref (z + 135 + 0), .int (-1)])) (show (0 : Int32) + 1 = 1 by decide)) ?_
    refine va_sld hx hb hX hbl hbA hS (gb_in rfl) dL_law_1382 ?_
    refine lv_aload_n hx hb dL_law_1383 rfl (lv_at hl 3 rfl) ?_
    refine lv_iload_n hx hb dL_law_1384 rfl (lv_at hl 0 rfl) ?_
    refine lv_iconst (v := 2) hx hb dL_law_1385 (by decide) ?_
    refine lv_iadd hx hb dL_law_1386 ?_
    refine W.eq (g2 := F0 m 1387 ls [.int 2, .ref b, .int (xs (Int32.toNatClampNeg 1)), .ref (z + 135 + 0), .int (-1)]) (congrArg (fun v => F0 m 1387 ls (Value.int v :: [.ref b, .int (xs (Int32.toNatClampNeg 1)), .ref (z + 135 + 0), .int (-1)])) (show (0 : Int32) + 2 = 2 by decide)) ?_
    refine va_sld hx hb hX hbl hbA hS (gb_in rfl) dL_law_1387 ?_
    refine lv_aload_n hx hb dL_law_1388 rfl (lv_at hl 3 rfl) ?_
    refine lv_iload_n hx hb dL_law_1389 rfl (lv_at hl 0 rfl) ?_
    refine lv_iconst (v := 3) hx hb dL_law_1390 (by decide) ?_
    refine lv_iadd hx hb dL_law_1391 ?_
    refine W.eq (g2 := F0 m 1392 ls [.int 3, .ref b, .int (xs (Int32.toNatClampNeg 2)), .int (xs (Int32.toNatClampNeg 1)), .ref (z + 135 + 0), .int (-1)]) (congrArg (fun v => F0 m 1392 ls (Value.int v :: [.ref b, .int (xs (Int32.toNatClampNeg 2)), .int (xs (Int32.toNatClampNeg 1)), .ref (z + 135 + 0), .int (-1)])) (show (0 : Int32) + 3 = 3 by decide)) ?_
    refine va_sld hx hb hX hbl hbA hS (gb_in rfl) dL_law_1392 ?_
    refine lv_aload_n hx hb dL_law_1393 rfl (lv_at hl 3 rfl) ?_
    refine lv_iload_n hx hb dL_law_1394 rfl (lv_at hl 0 rfl) ?_
    refine lv_iconst (v := 4) hx hb dL_law_1395 (by decide) ?_
    refine lv_iadd hx hb dL_law_1396 ?_
    refine W.eq (g2 := F0 m 1397 ls [.int 4, .ref b, .int (xs (Int32.toNatClampNeg 3)), .int (xs (Int32.toNatClampNeg 2)), .int (xs (Int32.toNatClampNeg 1)), .ref (z + 135 + 0), .int (-1)]) (congrArg (fun v => F0 m 1397 ls (Value.int v :: [.ref b, .int (xs (Int32.toNatClampNeg 3)), .int (xs (Int32.toNatClampNeg 2)), .int (xs (Int32.toNatClampNeg 1)), .ref (z + 135 + 0), .int (-1)])) (show (0 : Int32) + 4 = 4 by decide)) ?_
    refine va_sld hx hb hX hbl hbA hS (gb_in rfl) dL_law_1397 ?_
    refine lv_if_eq (tgt := 1405) hx hb dL_law_1398 (by decide) (fun _ => ?_) (fun _ => ?_)
    · refine lv_iconst (v := 0) hx hb dL_law_1405 (by decide) ?_
      refine gb_calli (va_runV (C := RX12) (As := [.int (xs (Int32.toNatClampNeg 1)), .int (xs (Int32.toNatClampNeg 2)), .int (xs (Int32.toNatClampNeg 3)), .int 0]) (rest := [.int (-1)]) ⟨hx, hb, hml, hown, hq⟩ (a_X12_span l D cT tt z (z + 135) (Nat.le_add_right z 135) (xs (Int32.toNatClampNeg 1)) (xs (Int32.toNatClampNeg 2)) (xs (Int32.toNatClampNeg 3)) 0) (cwV 4 hq (gb_gV w_1666 w_1667 w_1668 w_14 w_1669) rfl rfl rfl (by decide +kernel) ⟨Nat.le_of_ble_eq_true rfl, Nat.le_of_ble_eq_true rfl⟩) (gb_preV (r := (RX12, TX12, 44)) (ci := 10) (q0 := 0) hSt hPm rfl (gb_at (z + 135) rfl) hS (fun q h => h) hPm) rfl rfl hl.1 rfl (lv_room (Nat.le_of_ble_eq_true rfl)) dL_law_1406 ⟨Nat.le_of_ble_eq_true rfl, Nat.le_of_ble_eq_true rfl⟩) hS (fun q h => Nat.le_trans (Nat.le_add_right z 135) h.1) (fun q h => Nat.le_trans (Nat.le_add_right z 135) h.1) (fun r H locs hY hk hS => ?_)
      subst hY
      refine lv_icmp_eq (tgt := 1891) hx hb dL_law_1409 (by decide) (fun _ => ?_) (fun hc => absurd rfl hc)
      exact law_end C1 hzz hS (lv_sub hl [0, 3] rfl)
    · refine lv_iconst (v := 1) hx hb dL_law_1401 (by decide) ?_
      refine lv_goto (tgt := 1406) hx hb dL_law_1402 (by decide) ?_
      refine gb_calli (va_runV (C := RX12) (As := [.int (xs (Int32.toNatClampNeg 1)), .int (xs (Int32.toNatClampNeg 2)), .int (xs (Int32.toNatClampNeg 3)), .int 1]) (rest := [.int (-1)]) ⟨hx, hb, hml, hown, hq⟩ (a_X12_span l D cT tt z (z + 135) (Nat.le_add_right z 135) (xs (Int32.toNatClampNeg 1)) (xs (Int32.toNatClampNeg 2)) (xs (Int32.toNatClampNeg 3)) 1) (cwV 4 hq (gb_gV w_1666 w_1667 w_1668 w_14 w_1669) rfl rfl rfl (by decide +kernel) ⟨Nat.le_of_ble_eq_true rfl, Nat.le_of_ble_eq_true rfl⟩) (gb_preV (r := (RX12, TX12, 44)) (ci := 10) (q0 := 0) hSt hPm rfl (gb_at (z + 135) rfl) hS (fun q h => h) hPm) rfl rfl hl.1 rfl (lv_room (Nat.le_of_ble_eq_true rfl)) dL_law_1406 ⟨Nat.le_of_ble_eq_true rfl, Nat.le_of_ble_eq_true rfl⟩) hS (fun q h => Nat.le_trans (Nat.le_add_right z 135) h.1) (fun q h => Nat.le_trans (Nat.le_add_right z 135) h.1) (fun r H locs hY hk hS => ?_)
      subst hY
      refine lv_icmp_eq (tgt := 1891) hx hb dL_law_1409 (by decide) (fun _ => ?_) (fun hc => absurd rfl hc)
      exact law_end C1 hzz hS (lv_sub hl [0, 3] rfl)
  · refine lv_iconst (v := 1) hx hb dL_law_1369 (by decide) ?_
    refine lv_goto (tgt := 1374) hx hb dL_law_1370 (by decide) ?_
    refine gb_calli (va_runV (C := RX11) (As := [.int (xs (Int32.toNatClampNeg 1)), .int (xs (Int32.toNatClampNeg 2)), .int (xs (Int32.toNatClampNeg 3)), .int 1]) (rest := []) ⟨hx, hb, hml, hown, hq⟩ (a_X11_span l D cT tt z z (Nat.le_refl z) (xs (Int32.toNatClampNeg 1)) (xs (Int32.toNatClampNeg 2)) (xs (Int32.toNatClampNeg 3)) 1) (cwV 4 hq (gb_gV w_974 w_975 w_976 w_1 w_977) rfl rfl rfl (by decide +kernel) ⟨Nat.le_of_ble_eq_true rfl, Nat.le_of_ble_eq_true rfl⟩) (gb_preV (r := (RX11, TX11, 10)) (ci := 9) (q0 := 0) hSt hPc rfl (gb_at z rfl) hS (fun q h => h) hPc) rfl rfl hl.1 rfl (lv_room (Nat.le_of_ble_eq_true rfl)) dL_law_1374 ⟨Nat.le_of_ble_eq_true rfl, Nat.le_of_ble_eq_true rfl⟩) hS (fun q h => h.1) (fun q h => h.1) (fun r H locs hY hk hS => ?_)
    subst hY
    have hPm := gb_kept hPm (fun q h1 h2 => hk q (Nat.lt_of_lt_of_le h2 ((hPm 21 _ (gb_at (z + 135) rfl)).lt)) (fun h3 => Nat.not_lt.mpr h1 h3.2))
    refine lv_aload_n hx hb dL_law_1377 rfl (lv_at hl 1 rfl) ?_
    refine lv_aload_n hx hb dL_law_1378 rfl (lv_at hl 3 rfl) ?_
    refine lv_iload_n hx hb dL_law_1379 rfl (lv_at hl 0 rfl) ?_
    refine lv_iconst (v := 1) hx hb dL_law_1380 (by decide) ?_
    refine lv_iadd hx hb dL_law_1381 ?_
    refine W.eq (g2 := F0 m 1382 ls [.int 1, .ref b, .ref (z + 135 + 0), .int (-1)]) (congrArg (fun v => F0 m 1382 ls (Value.int v :: [.ref b, .ref (z + 135 + 0), .int (-1)])) (show (0 : Int32) + 1 = 1 by decide)) ?_
    refine va_sld hx hb hX hbl hbA hS (gb_in rfl) dL_law_1382 ?_
    refine lv_aload_n hx hb dL_law_1383 rfl (lv_at hl 3 rfl) ?_
    refine lv_iload_n hx hb dL_law_1384 rfl (lv_at hl 0 rfl) ?_
    refine lv_iconst (v := 2) hx hb dL_law_1385 (by decide) ?_
    refine lv_iadd hx hb dL_law_1386 ?_
    refine W.eq (g2 := F0 m 1387 ls [.int 2, .ref b, .int (xs (Int32.toNatClampNeg 1)), .ref (z + 135 + 0), .int (-1)]) (congrArg (fun v => F0 m 1387 ls (Value.int v :: [.ref b, .int (xs (Int32.toNatClampNeg 1)), .ref (z + 135 + 0), .int (-1)])) (show (0 : Int32) + 2 = 2 by decide)) ?_
    refine va_sld hx hb hX hbl hbA hS (gb_in rfl) dL_law_1387 ?_
    refine lv_aload_n hx hb dL_law_1388 rfl (lv_at hl 3 rfl) ?_
    refine lv_iload_n hx hb dL_law_1389 rfl (lv_at hl 0 rfl) ?_
    refine lv_iconst (v := 3) hx hb dL_law_1390 (by decide) ?_
    refine lv_iadd hx hb dL_law_1391 ?_
    refine W.eq (g2 := F0 m 1392 ls [.int 3, .ref b, .int (xs (Int32.toNatClampNeg 2)), .int (xs (Int32.toNatClampNeg 1)), .ref (z + 135 + 0), .int (-1)]) (congrArg (fun v => F0 m 1392 ls (Value.int v :: [.ref b, .int (xs (Int32.toNatClampNeg 2)), .int (xs (Int32.toNatClampNeg 1)), .ref (z + 135 + 0), .int (-1)])) (show (0 : Int32) + 3 = 3 by decide)) ?_
    refine va_sld hx hb hX hbl hbA hS (gb_in rfl) dL_law_1392 ?_
    refine lv_aload_n hx hb dL_law_1393 rfl (lv_at hl 3 rfl) ?_
    refine lv_iload_n hx hb dL_law_1394 rfl (lv_at hl 0 rfl) ?_
    refine lv_iconst (v := 4) hx hb dL_law_1395 (by decide) ?_
    refine lv_iadd hx hb dL_law_1396 ?_
    refine W.eq (g2 := F0 m 1397 ls [.int 4, .ref b, .int (xs (Int32.toNatClampNeg 3)), .int (xs (Int32.toNatClampNeg 2)), .int (xs (Int32.toNatClampNeg 1)), .ref (z + 135 + 0), .int (-1)]) (congrArg (fun v => F0 m 1397 ls (Value.int v :: [.ref b, .int (xs (Int32.toNatClampNeg 3)), .int (xs (Int32.toNatClampNeg 2)), .int (xs (Int32.toNatClampNeg 1)), .ref (z + 135 + 0), .int (-1)])) (show (0 : Int32) + 4 = 4 by decide)) ?_
    refine va_sld hx hb hX hbl hbA hS (gb_in rfl) dL_law_1397 ?_
    refine lv_if_eq (tgt := 1405) hx hb dL_law_1398 (by decide) (fun _ => ?_) (fun _ => ?_)
    · refine lv_iconst (v := 0) hx hb dL_law_1405 (by decide) ?_
      refine gb_calli (va_runV (C := RX12) (As := [.int (xs (Int32.toNatClampNeg 1)), .int (xs (Int32.toNatClampNeg 2)), .int (xs (Int32.toNatClampNeg 3)), .int 0]) (rest := [.int (-1)]) ⟨hx, hb, hml, hown, hq⟩ (a_X12_span l D cT tt z (z + 135) (Nat.le_add_right z 135) (xs (Int32.toNatClampNeg 1)) (xs (Int32.toNatClampNeg 2)) (xs (Int32.toNatClampNeg 3)) 0) (cwV 4 hq (gb_gV w_1666 w_1667 w_1668 w_14 w_1669) rfl rfl rfl (by decide +kernel) ⟨Nat.le_of_ble_eq_true rfl, Nat.le_of_ble_eq_true rfl⟩) (gb_preV (r := (RX12, TX12, 44)) (ci := 10) (q0 := 0) hSt hPm rfl (gb_at (z + 135) rfl) hS (fun q h => h) hPm) rfl rfl hl.1 rfl (lv_room (Nat.le_of_ble_eq_true rfl)) dL_law_1406 ⟨Nat.le_of_ble_eq_true rfl, Nat.le_of_ble_eq_true rfl⟩) hS (fun q h => Nat.le_trans (Nat.le_add_right z 135) h.1) (fun q h => Nat.le_trans (Nat.le_add_right z 135) h.1) (fun r H locs hY hk hS => ?_)
      subst hY
      refine lv_icmp_eq (tgt := 1891) hx hb dL_law_1409 (by decide) (fun _ => ?_) (fun hc => absurd rfl hc)
      exact law_end C1 hzz hS (lv_sub hl [0, 3] rfl)
    · refine lv_iconst (v := 1) hx hb dL_law_1401 (by decide) ?_
      refine lv_goto (tgt := 1406) hx hb dL_law_1402 (by decide) ?_
      refine gb_calli (va_runV (C := RX12) (As := [.int (xs (Int32.toNatClampNeg 1)), .int (xs (Int32.toNatClampNeg 2)), .int (xs (Int32.toNatClampNeg 3)), .int 1]) (rest := [.int (-1)]) ⟨hx, hb, hml, hown, hq⟩ (a_X12_span l D cT tt z (z + 135) (Nat.le_add_right z 135) (xs (Int32.toNatClampNeg 1)) (xs (Int32.toNatClampNeg 2)) (xs (Int32.toNatClampNeg 3)) 1) (cwV 4 hq (gb_gV w_1666 w_1667 w_1668 w_14 w_1669) rfl rfl rfl (by decide +kernel) ⟨Nat.le_of_ble_eq_true rfl, Nat.le_of_ble_eq_true rfl⟩) (gb_preV (r := (RX12, TX12, 44)) (ci := 10) (q0 := 0) hSt hPm rfl (gb_at (z + 135) rfl) hS (fun q h => h) hPm) rfl rfl hl.1 rfl (lv_room (Nat.le_of_ble_eq_true rfl)) dL_law_1406 ⟨Nat.le_of_ble_eq_true rfl, Nat.le_of_ble_eq_true rfl⟩) hS (fun q h => Nat.le_trans (Nat.le_add_right z 135) h.1) (fun q h => Nat.le_trans (Nat.le_add_right z 135) h.1) (fun r H locs hY hk hS => ?_)
      subst hY
      refine lv_icmp_eq (tgt := 1891) hx hb dL_law_1409 (by decide) (fun _ => ?_) (fun hc => absurd rfl hc)
      exact law_end C1 hzz hS (lv_sub hl [0, 3] rfl)
theorem dL_law_1414 : decode cL_law 1414 = .ok (.aload_n 1, 1) := by decide +kernel
theorem dL_law_1415 : decode cL_law 1415 = .ok (.aload_n 0, 1) := by decide +kernel
theorem dL_law_1416 : decode cL_law 1416 = .ok (.iload_n 3, 1) := by decide +kernel
theorem dL_law_1417 : decode cL_law 1417 = .ok (.iconst 1, 1) := by decide +kernel
theorem dL_law_1418 : decode cL_law 1418 = .ok (.iadd, 1) := by decide +kernel
theorem dL_law_1419 : decode cL_law 1419 = .ok (.iaload, 1) := by decide +kernel
theorem dL_law_1420 : decode cL_law 1420 = .ok (.aload_n 0, 1) := by decide +kernel
theorem dL_law_1421 : decode cL_law 1421 = .ok (.iload_n 3, 1) := by decide +kernel
theorem dL_law_1422 : decode cL_law 1422 = .ok (.iconst 2, 1) := by decide +kernel
theorem dL_law_1423 : decode cL_law 1423 = .ok (.iadd, 1) := by decide +kernel
theorem dL_law_1424 : decode cL_law 1424 = .ok (.iaload, 1) := by decide +kernel
theorem dL_law_1425 : decode cL_law 1425 = .ok (.aload_n 0, 1) := by decide +kernel
theorem dL_law_1426 : decode cL_law 1426 = .ok (.iload_n 3, 1) := by decide +kernel
theorem dL_law_1427 : decode cL_law 1427 = .ok (.iconst 3, 1) := by decide +kernel
theorem dL_law_1428 : decode cL_law 1428 = .ok (.iadd, 1) := by decide +kernel
theorem dL_law_1429 : decode cL_law 1429 = .ok (.iaload, 1) := by decide +kernel
theorem dL_law_1430 : decode cL_law 1430 = .ok (.invokevirtual 128, 3) := by decide +kernel
theorem w_845 : (Cond.methodLink "GooseBorderLaw" (128 : Nat) ({ cls := "GooseBorder", name := "honest", desc := "(III)I" } : MethodName)) ∈ gb_wA := gb_t4 125 rfl rfl
theorem w_846 : (Cond.instanceMethod ({ cls := "GooseBorder", name := "honest", desc := "(III)I" } : MethodName)) ∈ gb_wA := gb_t4 126 rfl rfl
theorem w_847 : (Cond.selects "GooseBorder" ({ cls := "GooseBorder", name := "honest", desc := "(III)I" } : MethodName) ({ cls := "GooseBorder", name := "honest", desc := "(III)I" } : MethodName)) ∈ gb_wA := gb_t4 127 rfl rfl
theorem w_848 : (Cond.code ({ cls := "GooseBorder", name := "honest", desc := "(III)I" } : MethodName) prog_1_method_28_code (6 : Nat) (Option.some FieldType.int)) ∈ gb_wA := gb_t4 128 rfl rfl
theorem dL_law_1433 : decode cL_law 1433 = .ok (.aload_n 2, 1) := by decide +kernel
theorem dL_law_1434 : decode cL_law 1434 = .ok (.aload_n 0, 1) := by decide +kernel
theorem dL_law_1435 : decode cL_law 1435 = .ok (.iload_n 3, 1) := by decide +kernel
theorem dL_law_1436 : decode cL_law 1436 = .ok (.iconst 1, 1) := by decide +kernel
theorem dL_law_1437 : decode cL_law 1437 = .ok (.iadd, 1) := by decide +kernel
theorem dL_law_1438 : decode cL_law 1438 = .ok (.iaload, 1) := by decide +kernel
theorem dL_law_1439 : decode cL_law 1439 = .ok (.aload_n 0, 1) := by decide +kernel
theorem dL_law_1440 : decode cL_law 1440 = .ok (.iload_n 3, 1) := by decide +kernel
theorem dL_law_1441 : decode cL_law 1441 = .ok (.iconst 2, 1) := by decide +kernel
theorem dL_law_1442 : decode cL_law 1442 = .ok (.iadd, 1) := by decide +kernel
theorem dL_law_1443 : decode cL_law 1443 = .ok (.iaload, 1) := by decide +kernel
theorem dL_law_1444 : decode cL_law 1444 = .ok (.aload_n 0, 1) := by decide +kernel
theorem dL_law_1445 : decode cL_law 1445 = .ok (.iload_n 3, 1) := by decide +kernel
theorem dL_law_1446 : decode cL_law 1446 = .ok (.iconst 3, 1) := by decide +kernel
theorem dL_law_1447 : decode cL_law 1447 = .ok (.iadd, 1) := by decide +kernel
theorem dL_law_1448 : decode cL_law 1448 = .ok (.iaload, 1) := by decide +kernel
theorem dL_law_1449 : decode cL_law 1449 = .ok (.invokevirtual 131, 3) := by decide +kernel
theorem w_1592 : (Cond.methodLink "GooseBorderLaw" (131 : Nat) ({ cls := "GooseBorderModel", name := "honest", desc := "(III)I" } : MethodName)) ∈ gb_wA := gb_t7 152 rfl rfl
theorem w_1593 : (Cond.instanceMethod ({ cls := "GooseBorderModel", name := "honest", desc := "(III)I" } : MethodName)) ∈ gb_wA := gb_t7 153 rfl rfl
theorem w_1594 : (Cond.selects "GooseBorderModel" ({ cls := "GooseBorderModel", name := "honest", desc := "(III)I" } : MethodName) ({ cls := "GooseBorderModel", name := "honest", desc := "(III)I" } : MethodName)) ∈ gb_wA := gb_t7 154 rfl rfl
theorem w_1595 : (Cond.code ({ cls := "GooseBorderModel", name := "honest", desc := "(III)I" } : MethodName) prog_14_method_87_code (4 : Nat) (Option.some FieldType.int)) ∈ gb_wA := gb_t7 155 rfl rfl
theorem dL_law_1452 : decode cL_law 1452 = .ok (.if_icmp .eq 439, 3) := by decide +kernel
set_option maxHeartbeats 4000000 in
set_option maxRecDepth 100000 in
theorem law_c27 {p : Program} {l : Launch} {e : Env} {s : State} {m : MethodId} {below : List Frame} {meth : Method} {c : Code} {b z : Nat} {xs : Nat → Int32} (C0 : lw_At p s m meth c b 6 xs) (hzz : Array.size s.heap = z) {D : va_G} {cT : Nat → ClassId} {tt : Nat → Nat} (hSt : gb_St D cT tt z s) {H : Heap} {locs : List Loc} {ls : Array Slot} (hPc : va_P D vwCl (gb_wl z (gb_C cT z)) H) (hPm : va_P D vwCl (gb_wl (z + 135) (gb_M cT (z + 135))) H) (hS : va_S (gb_ge z) s.heap H locs) (hl : lv_has ls 4 [(3, .int 0), (2, .ref (z + 135 + 0)), (1, .ref (z + 0)), (0, .ref b)]) : W p l e room_1 s m #[Value.ref b] below meth c H locs 157 10381 (lw_Z below #[Value.ref b] s) (F0 m 1414 ls []) := by
  have C1 := C0
  obtain ⟨hx, hb, hr, hml, hown, hts, hX, hbl, hlocks, hgv⟩ := C0
  have hq : ∀ w ∈ gb_wA, w.before #[Value.ref b] s = true := fun w h => hts w (gb_wA_tbl w h)
  have hbA : ¬ gb_ge z b := Nat.not_le.mpr (by rw [← hzz]; exact hbl)
  refine lv_aload_n hx hb dL_law_1414 rfl (lv_at hl 2 rfl) ?_
  refine lv_aload_n hx hb dL_law_1415 rfl (lv_at hl 3 rfl) ?_
  refine lv_iload_n hx hb dL_law_1416 rfl (lv_at hl 0 rfl) ?_
  refine lv_iconst (v := 1) hx hb dL_law_1417 (by decide) ?_
  refine lv_iadd hx hb dL_law_1418 ?_
  refine W.eq (g2 := F0 m 1419 ls [.int 1, .ref b, .ref (z + 0)]) (congrArg (fun v => F0 m 1419 ls (Value.int v :: [.ref b, .ref (z + 0)])) (show (0 : Int32) + 1 = 1 by decide)) ?_
  refine va_sld hx hb hX hbl hbA hS (gb_in rfl) dL_law_1419 ?_
  refine lv_aload_n hx hb dL_law_1420 rfl (lv_at hl 3 rfl) ?_
  refine lv_iload_n hx hb dL_law_1421 rfl (lv_at hl 0 rfl) ?_
  refine lv_iconst (v := 2) hx hb dL_law_1422 (by decide) ?_
  refine lv_iadd hx hb dL_law_1423 ?_
  refine W.eq (g2 := F0 m 1424 ls [.int 2, .ref b, .int (xs (Int32.toNatClampNeg 1)), .ref (z + 0)]) (congrArg (fun v => F0 m 1424 ls (Value.int v :: [.ref b, .int (xs (Int32.toNatClampNeg 1)), .ref (z + 0)])) (show (0 : Int32) + 2 = 2 by decide)) ?_
  refine va_sld hx hb hX hbl hbA hS (gb_in rfl) dL_law_1424 ?_
  refine lv_aload_n hx hb dL_law_1425 rfl (lv_at hl 3 rfl) ?_
  refine lv_iload_n hx hb dL_law_1426 rfl (lv_at hl 0 rfl) ?_
  refine lv_iconst (v := 3) hx hb dL_law_1427 (by decide) ?_
  refine lv_iadd hx hb dL_law_1428 ?_
  refine W.eq (g2 := F0 m 1429 ls [.int 3, .ref b, .int (xs (Int32.toNatClampNeg 2)), .int (xs (Int32.toNatClampNeg 1)), .ref (z + 0)]) (congrArg (fun v => F0 m 1429 ls (Value.int v :: [.ref b, .int (xs (Int32.toNatClampNeg 2)), .int (xs (Int32.toNatClampNeg 1)), .ref (z + 0)])) (show (0 : Int32) + 3 = 3 by decide)) ?_
  refine va_sld hx hb hX hbl hbA hS (gb_in rfl) dL_law_1429 ?_
  refine gb_calli (va_runV (C := RX11) (As := [.int (xs (Int32.toNatClampNeg 1)), .int (xs (Int32.toNatClampNeg 2)), .int (xs (Int32.toNatClampNeg 3))]) (rest := []) ⟨hx, hb, hml, hown, hq⟩ (a_X11_honest l D cT tt z z (Nat.le_refl z) (xs (Int32.toNatClampNeg 1)) (xs (Int32.toNatClampNeg 2)) (xs (Int32.toNatClampNeg 3))) (cwV 3 hq (gb_gV w_845 w_846 w_847 w_1 w_848) rfl rfl rfl (by decide +kernel) ⟨Nat.le_of_ble_eq_true rfl, Nat.le_of_ble_eq_true rfl⟩) (gb_preV (r := (RX11, TX11, 10)) (ci := 9) (q0 := 0) hSt hPc rfl (gb_at z rfl) hS (fun q h => h) hPc) rfl rfl hl.1 rfl (lv_room (Nat.le_of_ble_eq_true rfl)) dL_law_1430 ⟨Nat.le_of_ble_eq_true rfl, Nat.le_of_ble_eq_true rfl⟩) hS (fun q h => h.1) (fun q h => h.1) (fun r H locs hY hk hS => ?_)
  subst hY
  have hPm := gb_kept hPm (fun q h1 h2 => hk q (Nat.lt_of_lt_of_le h2 ((hPm 21 _ (gb_at (z + 135) rfl)).lt)) (fun h3 => Nat.not_lt.mpr h1 h3.2))
  refine lv_aload_n hx hb dL_law_1433 rfl (lv_at hl 1 rfl) ?_
  refine lv_aload_n hx hb dL_law_1434 rfl (lv_at hl 3 rfl) ?_
  refine lv_iload_n hx hb dL_law_1435 rfl (lv_at hl 0 rfl) ?_
  refine lv_iconst (v := 1) hx hb dL_law_1436 (by decide) ?_
  refine lv_iadd hx hb dL_law_1437 ?_
  refine W.eq (g2 := F0 m 1438 ls [.int 1, .ref b, .ref (z + 135 + 0), .int (-1)]) (congrArg (fun v => F0 m 1438 ls (Value.int v :: [.ref b, .ref (z + 135 + 0), .int (-1)])) (show (0 : Int32) + 1 = 1 by decide)) ?_
  refine va_sld hx hb hX hbl hbA hS (gb_in rfl) dL_law_1438 ?_
  refine lv_aload_n hx hb dL_law_1439 rfl (lv_at hl 3 rfl) ?_
  refine lv_iload_n hx hb dL_law_1440 rfl (lv_at hl 0 rfl) ?_
  refine lv_iconst (v := 2) hx hb dL_law_1441 (by decide) ?_
  refine lv_iadd hx hb dL_law_1442 ?_
  refine W.eq (g2 := F0 m 1443 ls [.int 2, .ref b, .int (xs (Int32.toNatClampNeg 1)), .ref (z + 135 + 0), .int (-1)]) (congrArg (fun v => F0 m 1443 ls (Value.int v :: [.ref b, .int (xs (Int32.toNatClampNeg 1)), .ref (z + 135 + 0), .int (-1)])) (show (0 : Int32) + 2 = 2 by decide)) ?_
  refine va_sld hx hb hX hbl hbA hS (gb_in rfl) dL_law_1443 ?_
  refine lv_aload_n hx hb dL_law_1444 rfl (lv_at hl 3 rfl) ?_
  refine lv_iload_n hx hb dL_law_1445 rfl (lv_at hl 0 rfl) ?_
  refine lv_iconst (v := 3) hx hb dL_law_1446 (by decide) ?_
  refine lv_iadd hx hb dL_law_1447 ?_
  refine W.eq (g2 := F0 m 1448 ls [.int 3, .ref b, .int (xs (Int32.toNatClampNeg 2)), .int (xs (Int32.toNatClampNeg 1)), .ref (z + 135 + 0), .int (-1)]) (congrArg (fun v => F0 m 1448 ls (Value.int v :: [.ref b, .int (xs (Int32.toNatClampNeg 2)), .int (xs (Int32.toNatClampNeg 1)), .ref (z + 135 + 0), .int (-1)])) (show (0 : Int32) + 3 = 3 by decide)) ?_
  refine va_sld hx hb hX hbl hbA hS (gb_in rfl) dL_law_1448 ?_
  refine gb_calli (va_runV (C := RX12) (As := [.int (xs (Int32.toNatClampNeg 1)), .int (xs (Int32.toNatClampNeg 2)), .int (xs (Int32.toNatClampNeg 3))]) (rest := [.int (-1)]) ⟨hx, hb, hml, hown, hq⟩ (a_X12_honest l D cT tt z (z + 135) (Nat.le_add_right z 135) (xs (Int32.toNatClampNeg 1)) (xs (Int32.toNatClampNeg 2)) (xs (Int32.toNatClampNeg 3))) (cwV 3 hq (gb_gV w_1592 w_1593 w_1594 w_14 w_1595) rfl rfl rfl (by decide +kernel) ⟨Nat.le_of_ble_eq_true rfl, Nat.le_of_ble_eq_true rfl⟩) (gb_preV (r := (RX12, TX12, 44)) (ci := 10) (q0 := 0) hSt hPm rfl (gb_at (z + 135) rfl) hS (fun q h => h) hPm) rfl rfl hl.1 rfl (lv_room (Nat.le_of_ble_eq_true rfl)) dL_law_1449 ⟨Nat.le_of_ble_eq_true rfl, Nat.le_of_ble_eq_true rfl⟩) hS (fun q h => Nat.le_trans (Nat.le_add_right z 135) h.1) (fun q h => Nat.le_trans (Nat.le_add_right z 135) h.1) (fun r H locs hY hk hS => ?_)
  subst hY
  refine lv_icmp_eq (tgt := 1891) hx hb dL_law_1452 (by decide) (fun _ => ?_) (fun hc => absurd rfl hc)
  exact law_end C1 hzz hS (lv_sub hl [0, 3] rfl)
theorem dL_law_1457 : decode cL_law 1457 = .ok (.aload_n 1, 1) := by decide +kernel
theorem dL_law_1458 : decode cL_law 1458 = .ok (.aload_n 0, 1) := by decide +kernel
theorem dL_law_1459 : decode cL_law 1459 = .ok (.iload_n 3, 1) := by decide +kernel
theorem dL_law_1460 : decode cL_law 1460 = .ok (.iconst 1, 1) := by decide +kernel
theorem dL_law_1461 : decode cL_law 1461 = .ok (.iadd, 1) := by decide +kernel
theorem dL_law_1462 : decode cL_law 1462 = .ok (.iaload, 1) := by decide +kernel
theorem dL_law_1463 : decode cL_law 1463 = .ok (.aload_n 0, 1) := by decide +kernel
theorem dL_law_1464 : decode cL_law 1464 = .ok (.iload_n 3, 1) := by decide +kernel
theorem dL_law_1465 : decode cL_law 1465 = .ok (.iconst 2, 1) := by decide +kernel
theorem dL_law_1466 : decode cL_law 1466 = .ok (.iadd, 1) := by decide +kernel
theorem dL_law_1467 : decode cL_law 1467 = .ok (.iaload, 1) := by decide +kernel
theorem dL_law_1468 : decode cL_law 1468 = .ok (.aload_n 0, 1) := by decide +kernel
theorem dL_law_1469 : decode cL_law 1469 = .ok (.iload_n 3, 1) := by decide +kernel
theorem dL_law_1470 : decode cL_law 1470 = .ok (.iconst 3, 1) := by decide +kernel
theorem dL_law_1471 : decode cL_law 1471 = .ok (.iadd, 1) := by decide +kernel
theorem dL_law_1472 : decode cL_law 1472 = .ok (.iaload, 1) := by decide +kernel
theorem dL_law_1473 : decode cL_law 1473 = .ok (.aload_n 0, 1) := by decide +kernel
theorem dL_law_1474 : decode cL_law 1474 = .ok (.iload_n 3, 1) := by decide +kernel
theorem dL_law_1475 : decode cL_law 1475 = .ok (.iconst 4, 1) := by decide +kernel
theorem dL_law_1476 : decode cL_law 1476 = .ok (.iadd, 1) := by decide +kernel
theorem dL_law_1477 : decode cL_law 1477 = .ok (.iaload, 1) := by decide +kernel
theorem dL_law_1478 : decode cL_law 1478 = .ok (.ifCond .eq 7, 3) := by decide +kernel
theorem dL_law_1485 : decode cL_law 1485 = .ok (.iconst 0, 1) := by decide +kernel
theorem dL_law_1486 : decode cL_law 1486 = .ok (.invokevirtual 132, 3) := by decide +kernel
theorem w_994 : (Cond.methodLink "GooseBorderLaw" (132 : Nat) ({ cls := "GooseBorder", name := "split", desc := "(IIIZ)I" } : MethodName)) ∈ gb_wA := gb_t5 34 rfl rfl
theorem w_995 : (Cond.instanceMethod ({ cls := "GooseBorder", name := "split", desc := "(IIIZ)I" } : MethodName)) ∈ gb_wA := gb_t5 35 rfl rfl
theorem w_996 : (Cond.selects "GooseBorder" ({ cls := "GooseBorder", name := "split", desc := "(IIIZ)I" } : MethodName) ({ cls := "GooseBorder", name := "split", desc := "(IIIZ)I" } : MethodName)) ∈ gb_wA := gb_t5 36 rfl rfl
theorem w_997 : (Cond.code ({ cls := "GooseBorder", name := "split", desc := "(IIIZ)I" } : MethodName) prog_1_method_41_code (7 : Nat) (Option.some FieldType.int)) ∈ gb_wA := gb_t5 37 rfl rfl
theorem dL_law_1489 : decode cL_law 1489 = .ok (.aload_n 2, 1) := by decide +kernel
theorem dL_law_1490 : decode cL_law 1490 = .ok (.aload_n 0, 1) := by decide +kernel
theorem dL_law_1491 : decode cL_law 1491 = .ok (.iload_n 3, 1) := by decide +kernel
theorem dL_law_1492 : decode cL_law 1492 = .ok (.iconst 1, 1) := by decide +kernel
theorem dL_law_1493 : decode cL_law 1493 = .ok (.iadd, 1) := by decide +kernel
theorem dL_law_1494 : decode cL_law 1494 = .ok (.iaload, 1) := by decide +kernel
theorem dL_law_1495 : decode cL_law 1495 = .ok (.aload_n 0, 1) := by decide +kernel
theorem dL_law_1496 : decode cL_law 1496 = .ok (.iload_n 3, 1) := by decide +kernel
theorem dL_law_1497 : decode cL_law 1497 = .ok (.iconst 2, 1) := by decide +kernel
theorem dL_law_1498 : decode cL_law 1498 = .ok (.iadd, 1) := by decide +kernel
theorem dL_law_1499 : decode cL_law 1499 = .ok (.iaload, 1) := by decide +kernel
theorem dL_law_1500 : decode cL_law 1500 = .ok (.aload_n 0, 1) := by decide +kernel
theorem dL_law_1501 : decode cL_law 1501 = .ok (.iload_n 3, 1) := by decide +kernel
theorem dL_law_1502 : decode cL_law 1502 = .ok (.iconst 3, 1) := by decide +kernel
theorem dL_law_1503 : decode cL_law 1503 = .ok (.iadd, 1) := by decide +kernel
theorem dL_law_1504 : decode cL_law 1504 = .ok (.iaload, 1) := by decide +kernel
theorem dL_law_1505 : decode cL_law 1505 = .ok (.aload_n 0, 1) := by decide +kernel
theorem dL_law_1506 : decode cL_law 1506 = .ok (.iload_n 3, 1) := by decide +kernel
theorem dL_law_1507 : decode cL_law 1507 = .ok (.iconst 4, 1) := by decide +kernel
theorem dL_law_1508 : decode cL_law 1508 = .ok (.iadd, 1) := by decide +kernel
theorem dL_law_1509 : decode cL_law 1509 = .ok (.iaload, 1) := by decide +kernel
theorem dL_law_1510 : decode cL_law 1510 = .ok (.ifCond .eq 7, 3) := by decide +kernel
theorem dL_law_1517 : decode cL_law 1517 = .ok (.iconst 0, 1) := by decide +kernel
theorem dL_law_1518 : decode cL_law 1518 = .ok (.invokevirtual 135, 3) := by decide +kernel
theorem w_1670 : (Cond.methodLink "GooseBorderLaw" (135 : Nat) ({ cls := "GooseBorderModel", name := "split", desc := "(IIIZ)I" } : MethodName)) ∈ gb_wA := gb_t7 230 rfl rfl
theorem w_1671 : (Cond.instanceMethod ({ cls := "GooseBorderModel", name := "split", desc := "(IIIZ)I" } : MethodName)) ∈ gb_wA := gb_t7 231 rfl rfl
theorem w_1672 : (Cond.selects "GooseBorderModel" ({ cls := "GooseBorderModel", name := "split", desc := "(IIIZ)I" } : MethodName) ({ cls := "GooseBorderModel", name := "split", desc := "(IIIZ)I" } : MethodName)) ∈ gb_wA := gb_t7 232 rfl rfl
theorem w_1673 : (Cond.code ({ cls := "GooseBorderModel", name := "split", desc := "(IIIZ)I" } : MethodName) prog_14_method_106_code (10 : Nat) (Option.some FieldType.int)) ∈ gb_wA := gb_t7 233 rfl rfl
theorem dL_law_1521 : decode cL_law 1521 = .ok (.if_icmp .eq 370, 3) := by decide +kernel
theorem dL_law_1513 : decode cL_law 1513 = .ok (.iconst 1, 1) := by decide +kernel
theorem dL_law_1514 : decode cL_law 1514 = .ok (.goto 4, 3) := by decide +kernel
theorem dL_law_1481 : decode cL_law 1481 = .ok (.iconst 1, 1) := by decide +kernel
theorem dL_law_1482 : decode cL_law 1482 = .ok (.goto 4, 3) := by decide +kernel
set_option maxHeartbeats 4000000 in
set_option maxRecDepth 100000 in
theorem law_c28 {p : Program} {l : Launch} {e : Env} {s : State} {m : MethodId} {below : List Frame} {meth : Method} {c : Code} {b z : Nat} {xs : Nat → Int32} (C0 : lw_At p s m meth c b 6 xs) (hzz : Array.size s.heap = z) {D : va_G} {cT : Nat → ClassId} {tt : Nat → Nat} (hSt : gb_St D cT tt z s) {H : Heap} {locs : List Loc} {ls : Array Slot} (hPc : va_P D vwCl (gb_wl z (gb_C cT z)) H) (hPm : va_P D vwCl (gb_wl (z + 135) (gb_M cT (z + 135))) H) (hS : va_S (gb_ge z) s.heap H locs) (hl : lv_has ls 4 [(3, .int 0), (2, .ref (z + 135 + 0)), (1, .ref (z + 0)), (0, .ref b)]) : W p l e room_1 s m #[Value.ref b] below meth c H locs 157 10381 (lw_Z below #[Value.ref b] s) (F0 m 1457 ls []) := by
  have C1 := C0
  obtain ⟨hx, hb, hr, hml, hown, hts, hX, hbl, hlocks, hgv⟩ := C0
  have hq : ∀ w ∈ gb_wA, w.before #[Value.ref b] s = true := fun w h => hts w (gb_wA_tbl w h)
  have hbA : ¬ gb_ge z b := Nat.not_le.mpr (by rw [← hzz]; exact hbl)
  refine lv_aload_n hx hb dL_law_1457 rfl (lv_at hl 2 rfl) ?_
  refine lv_aload_n hx hb dL_law_1458 rfl (lv_at hl 3 rfl) ?_
  refine lv_iload_n hx hb dL_law_1459 rfl (lv_at hl 0 rfl) ?_
  refine lv_iconst (v := 1) hx hb dL_law_1460 (by decide) ?_
  refine lv_iadd hx hb dL_law_1461 ?_
  refine W.eq (g2 := F0 m 1462 ls [.int 1, .ref b, .ref (z + 0)]) (congrArg (fun v => F0 m 1462 ls (Value.int v :: [.ref b, .ref (z + 0)])) (show (0 : Int32) + 1 = 1 by decide)) ?_
  refine va_sld hx hb hX hbl hbA hS (gb_in rfl) dL_law_1462 ?_
  refine lv_aload_n hx hb dL_law_1463 rfl (lv_at hl 3 rfl) ?_
  refine lv_iload_n hx hb dL_law_1464 rfl (lv_at hl 0 rfl) ?_
  refine lv_iconst (v := 2) hx hb dL_law_1465 (by decide) ?_
  refine lv_iadd hx hb dL_law_1466 ?_
  refine W.eq (g2 := F0 m 1467 ls [.int 2, .ref b, .int (xs (Int32.toNatClampNeg 1)), .ref (z + 0)]) (congrArg (fun v => F0 m 1467 ls (Value.int v :: [.ref b, .int (xs (Int32.toNatClampNeg 1)), .ref (z + 0)])) (show (0 : Int32) + 2 = 2 by decide)) ?_
  refine va_sld hx hb hX hbl hbA hS (gb_in rfl) dL_law_1467 ?_
  refine lv_aload_n hx hb dL_law_1468 rfl (lv_at hl 3 rfl) ?_
  refine lv_iload_n hx hb dL_law_1469 rfl (lv_at hl 0 rfl) ?_
  refine lv_iconst (v := 3) hx hb dL_law_1470 (by decide) ?_
  refine lv_iadd hx hb dL_law_1471 ?_
  refine W.eq (g2 := F0 m 1472 ls [.int 3, .ref b, .int (xs (Int32.toNatClampNeg 2)), .int (xs (Int32.toNatClampNeg 1)), .ref (z + 0)]) (congrArg (fun v => F0 m 1472 ls (Value.int v :: [.ref b, .int (xs (Int32.toNatClampNeg 2)), .int (xs (Int32.toNatClampNeg 1)), .ref (z + 0)])) (show (0 : Int32) + 3 = 3 by decide)) ?_
  refine va_sld hx hb hX hbl hbA hS (gb_in rfl) dL_law_1472 ?_
  refine lv_aload_n hx hb dL_law_1473 rfl (lv_at hl 3 rfl) ?_
  refine lv_iload_n hx hb dL_law_1474 rfl (lv_at hl 0 rfl) ?_
  refine lv_iconst (v := 4) hx hb dL_law_1475 (by decide) ?_
  refine lv_iadd hx hb dL_law_1476 ?_
  refine W.eq (g2 := F0 m 1477 ls [.int 4, .ref b, .int (xs (Int32.toNatClampNeg 3)), .int (xs (Int32.toNatClampNeg 2)), .int (xs (Int32.toNatClampNeg 1)), .ref (z + 0)]) (congrArg (fun v => F0 m 1477 ls (Value.int v :: [.ref b, .int (xs (Int32.toNatClampNeg 3)), .int (xs (Int32.toNatClampNeg 2)), .int (xs (Int32.toNatClampNeg 1)), .ref (z + 0)])) (show (0 : Int32) + 4 = 4 by decide)) ?_
  refine va_sld hx hb hX hbl hbA hS (gb_in rfl) dL_law_1477 ?_
  refine lv_if_eq (tgt := 1485) hx hb dL_law_1478 (by decide) (fun _ => ?_) (fun _ => ?_)
  · refine lv_iconst (v := 0) hx hb dL_law_1485 (by decide) ?_
    refine gb_calli (va_runV (C := RX11) (As := [.int (xs (Int32.toNatClampNeg 1)), .int (xs (Int32.toNatClampNeg 2)), .int (xs (Int32.toNatClampNeg 3)), .int 0]) (rest := []) ⟨hx, hb, hml, hown, hq⟩ (a_X11_split l D cT tt z z (Nat.le_refl z) (xs (Int32.toNatClampNeg 1)) (xs (Int32.toNatClampNeg 2)) (xs (Int32.toNatClampNeg 3)) 0) (cwV 4 hq (gb_gV w_994 w_995 w_996 w_1 w_997) rfl rfl rfl (by decide +kernel) ⟨Nat.le_of_ble_eq_true rfl, Nat.le_of_ble_eq_true rfl⟩) (gb_preV (r := (RX11, TX11, 10)) (ci := 9) (q0 := 0) hSt hPc rfl (gb_at z rfl) hS (fun q h => h) hPc) rfl rfl hl.1 rfl (lv_room (Nat.le_of_ble_eq_true rfl)) dL_law_1486 ⟨Nat.le_of_ble_eq_true rfl, Nat.le_of_ble_eq_true rfl⟩) hS (fun q h => h.1) (fun q h => h.1) (fun r H locs hY hk hS => ?_)
    subst hY
    have hPm := gb_kept hPm (fun q h1 h2 => hk q (Nat.lt_of_lt_of_le h2 ((hPm 21 _ (gb_at (z + 135) rfl)).lt)) (fun h3 => Nat.not_lt.mpr h1 h3.2))
    refine lv_aload_n hx hb dL_law_1489 rfl (lv_at hl 1 rfl) ?_
    refine lv_aload_n hx hb dL_law_1490 rfl (lv_at hl 3 rfl) ?_
    refine lv_iload_n hx hb dL_law_1491 rfl (lv_at hl 0 rfl) ?_
    refine lv_iconst (v := 1) hx hb dL_law_1492 (by decide) ?_
    refine lv_iadd hx hb dL_law_1493 ?_
    refine W.eq (g2 := F0 m 1494 ls [.int 1, .ref b, .ref (z + 135 + 0), .int (-1)]) (congrArg (fun v => F0 m 1494 ls (Value.int v :: [.ref b, .ref (z + 135 + 0), .int (-1)])) (show (0 : Int32) + 1 = 1 by decide)) ?_
    refine va_sld hx hb hX hbl hbA hS (gb_in rfl) dL_law_1494 ?_
    refine lv_aload_n hx hb dL_law_1495 rfl (lv_at hl 3 rfl) ?_
    refine lv_iload_n hx hb dL_law_1496 rfl (lv_at hl 0 rfl) ?_
    refine lv_iconst (v := 2) hx hb dL_law_1497 (by decide) ?_
    refine lv_iadd hx hb dL_law_1498 ?_
    refine W.eq (g2 := F0 m 1499 ls [.int 2, .ref b, .int (xs (Int32.toNatClampNeg 1)), .ref (z + 135 + 0), .int (-1)]) (congrArg (fun v => F0 m 1499 ls (Value.int v :: [.ref b, .int (xs (Int32.toNatClampNeg 1)), .ref (z + 135 + 0), .int (-1)])) (show (0 : Int32) + 2 = 2 by decide)) ?_
    refine va_sld hx hb hX hbl hbA hS (gb_in rfl) dL_law_1499 ?_
    refine lv_aload_n hx hb dL_law_1500 rfl (lv_at hl 3 rfl) ?_
    refine lv_iload_n hx hb dL_law_1501 rfl (lv_at hl 0 rfl) ?_
    refine lv_iconst (v := 3) hx hb dL_law_1502 (by decide) ?_
    refine lv_iadd hx hb dL_law_1503 ?_
    refine W.eq (g2 := F0 m 1504 ls [.int 3, .ref b, .int (xs (Int32.toNatClampNeg 2)), .int (xs (Int32.toNatClampNeg 1)), .ref (z + 135 + 0), .int (-1)]) (congrArg (fun v => F0 m 1504 ls (Value.int v :: [.ref b, .int (xs (Int32.toNatClampNeg 2)), .int (xs (Int32.toNatClampNeg 1)), .ref (z + 135 + 0), .int (-1)])) (show (0 : Int32) + 3 = 3 by decide)) ?_
    refine va_sld hx hb hX hbl hbA hS (gb_in rfl) dL_law_1504 ?_
    refine lv_aload_n hx hb dL_law_1505 rfl (lv_at hl 3 rfl) ?_
    refine lv_iload_n hx hb dL_law_1506 rfl (lv_at hl 0 rfl) ?_
    refine lv_iconst (v := 4) hx hb dL_law_1507 (by decide) ?_
    refine lv_iadd hx hb dL_law_1508 ?_
    refine W.eq (g2 := F0 m 1509 ls [.int 4, .ref b, .int (xs (Int32.toNatClampNeg 3)), .int (xs (Int32.toNatClampNeg 2)), .int (xs (Int32.toNatClampNeg 1)), .ref (z + 135 + 0), .int (-1)]) (congrArg (fun v => F0 m 1509 ls (Value.int v :: [.ref b, .int (xs (Int32.toNatClampNeg 3)), .int (xs (Int32.toNatClampNeg 2)), .int (xs (Int32.toNatClampNeg 1)), .ref (z + 135 + 0), .int (-1)])) (show (0 : Int32) + 4 = 4 by decide)) ?_
    refine va_sld hx hb hX hbl hbA hS (gb_in rfl) dL_law_1509 ?_
    refine lv_if_eq (tgt := 1517) hx hb dL_law_1510 (by decide) (fun _ => ?_) (fun _ => ?_)
    · refine lv_iconst (v := 0) hx hb dL_law_1517 (by decide) ?_
      refine gb_calli (va_runV (C := RX12) (As := [.int (xs (Int32.toNatClampNeg 1)), .int (xs (Int32.toNatClampNeg 2)), .int (xs (Int32.toNatClampNeg 3)), .int 0]) (rest := [.int (-1)]) ⟨hx, hb, hml, hown, hq⟩ (a_X12_split l D cT tt z (z + 135) (Nat.le_add_right z 135) (xs (Int32.toNatClampNeg 1)) (xs (Int32.toNatClampNeg 2)) (xs (Int32.toNatClampNeg 3)) 0) (cwV 4 hq (gb_gV w_1670 w_1671 w_1672 w_14 w_1673) rfl rfl rfl (by decide +kernel) ⟨Nat.le_of_ble_eq_true rfl, Nat.le_of_ble_eq_true rfl⟩) (gb_preV (r := (RX12, TX12, 44)) (ci := 10) (q0 := 0) hSt hPm rfl (gb_at (z + 135) rfl) hS (fun q h => h) hPm) rfl rfl hl.1 rfl (lv_room (Nat.le_of_ble_eq_true rfl)) dL_law_1518 ⟨Nat.le_of_ble_eq_true rfl, Nat.le_of_ble_eq_true rfl⟩) hS (fun q h => Nat.le_trans (Nat.le_add_right z 135) h.1) (fun q h => Nat.le_trans (Nat.le_add_right z 135) h.1) (fun r H locs hY hk hS => ?_)
      subst hY
      refine lv_icmp_eq (tgt := 1891) hx hb dL_law_1521 (by decide) (fun _ => ?_) (fun hc => absurd rfl hc)
      exact law_end C1 hzz hS (lv_sub hl [0, 3] rfl)
    · refine lv_iconst (v := 1) hx hb dL_law_1513 (by decide) ?_
      refine lv_goto (tgt := 1518) hx hb dL_law_1514 (by decide) ?_
      refine gb_calli (va_runV (C := RX12) (As := [.int (xs (Int32.toNatClampNeg 1)), .int (xs (Int32.toNatClampNeg 2)), .int (xs (Int32.toNatClampNeg 3)), .int 1]) (rest := [.int (-1)]) ⟨hx, hb, hml, hown, hq⟩ (a_X12_split l D cT tt z (z + 135) (Nat.le_add_right z 135) (xs (Int32.toNatClampNeg 1)) (xs (Int32.toNatClampNeg 2)) (xs (Int32.toNatClampNeg 3)) 1) (cwV 4 hq (gb_gV w_1670 w_1671 w_1672 w_14 w_1673) rfl rfl rfl (by decide +kernel) ⟨Nat.le_of_ble_eq_true rfl, Nat.le_of_ble_eq_true rfl⟩) (gb_preV (r := (RX12, TX12, 44)) (ci := 10) (q0 := 0) hSt hPm rfl (gb_at (z + 135) rfl) hS (fun q h => h) hPm) rfl rfl hl.1 rfl (lv_room (Nat.le_of_ble_eq_true rfl)) dL_law_1518 ⟨Nat.le_of_ble_eq_true rfl, Nat.le_of_ble_eq_true rfl⟩) hS (fun q h => Nat.le_trans (Nat.le_add_right z 135) h.1) (fun q h => Nat.le_trans (Nat.le_add_right z 135) h.1) (fun r H locs hY hk hS => ?_)
      subst hY
      refine lv_icmp_eq (tgt := 1891) hx hb dL_law_1521 (by decide) (fun _ => ?_) (fun hc => absurd rfl hc)
      exact law_end C1 hzz hS (lv_sub hl [0, 3] rfl)
  · refine lv_iconst (v := 1) hx hb dL_law_1481 (by decide) ?_
    refine lv_goto (tgt := 1486) hx hb dL_law_1482 (by decide) ?_
    refine gb_calli (va_runV (C := RX11) (As := [.int (xs (Int32.toNatClampNeg 1)), .int (xs (Int32.toNatClampNeg 2)), .int (xs (Int32.toNatClampNeg 3)), .int 1]) (rest := []) ⟨hx, hb, hml, hown, hq⟩ (a_X11_split l D cT tt z z (Nat.le_refl z) (xs (Int32.toNatClampNeg 1)) (xs (Int32.toNatClampNeg 2)) (xs (Int32.toNatClampNeg 3)) 1) (cwV 4 hq (gb_gV w_994 w_995 w_996 w_1 w_997) rfl rfl rfl (by decide +kernel) ⟨Nat.le_of_ble_eq_true rfl, Nat.le_of_ble_eq_true rfl⟩) (gb_preV (r := (RX11, TX11, 10)) (ci := 9) (q0 := 0) hSt hPc rfl (gb_at z rfl) hS (fun q h => h) hPc) rfl rfl hl.1 rfl (lv_room (Nat.le_of_ble_eq_true rfl)) dL_law_1486 ⟨Nat.le_of_ble_eq_true rfl, Nat.le_of_ble_eq_true rfl⟩) hS (fun q h => h.1) (fun q h => h.1) (fun r H locs hY hk hS => ?_)
    subst hY
    have hPm := gb_kept hPm (fun q h1 h2 => hk q (Nat.lt_of_lt_of_le h2 ((hPm 21 _ (gb_at (z + 135) rfl)).lt)) (fun h3 => Nat.not_lt.mpr h1 h3.2))
    refine lv_aload_n hx hb dL_law_1489 rfl (lv_at hl 1 rfl) ?_
    refine lv_aload_n hx hb dL_law_1490 rfl (lv_at hl 3 rfl) ?_
    refine lv_iload_n hx hb dL_law_1491 rfl (lv_at hl 0 rfl) ?_
    refine lv_iconst (v := 1) hx hb dL_law_1492 (by decide) ?_
    refine lv_iadd hx hb dL_law_1493 ?_
    refine W.eq (g2 := F0 m 1494 ls [.int 1, .ref b, .ref (z + 135 + 0), .int (-1)]) (congrArg (fun v => F0 m 1494 ls (Value.int v :: [.ref b, .ref (z + 135 + 0), .int (-1)])) (show (0 : Int32) + 1 = 1 by decide)) ?_
    refine va_sld hx hb hX hbl hbA hS (gb_in rfl) dL_law_1494 ?_
    refine lv_aload_n hx hb dL_law_1495 rfl (lv_at hl 3 rfl) ?_
    refine lv_iload_n hx hb dL_law_1496 rfl (lv_at hl 0 rfl) ?_
    refine lv_iconst (v := 2) hx hb dL_law_1497 (by decide) ?_
    refine lv_iadd hx hb dL_law_1498 ?_
    refine W.eq (g2 := F0 m 1499 ls [.int 2, .ref b, .int (xs (Int32.toNatClampNeg 1)), .ref (z + 135 + 0), .int (-1)]) (congrArg (fun v => F0 m 1499 ls (Value.int v :: [.ref b, .int (xs (Int32.toNatClampNeg 1)), .ref (z + 135 + 0), .int (-1)])) (show (0 : Int32) + 2 = 2 by decide)) ?_
    refine va_sld hx hb hX hbl hbA hS (gb_in rfl) dL_law_1499 ?_
    refine lv_aload_n hx hb dL_law_1500 rfl (lv_at hl 3 rfl) ?_
    refine lv_iload_n hx hb dL_law_1501 rfl (lv_at hl 0 rfl) ?_
    refine lv_iconst (v := 3) hx hb dL_law_1502 (by decide) ?_
    refine lv_iadd hx hb dL_law_1503 ?_
    refine W.eq (g2 := F0 m 1504 ls [.int 3, .ref b, .int (xs (Int32.toNatClampNeg 2)), .int (xs (Int32.toNatClampNeg 1)), .ref (z + 135 + 0), .int (-1)]) (congrArg (fun v => F0 m 1504 ls (Value.int v :: [.ref b, .int (xs (Int32.toNatClampNeg 2)), .int (xs (Int32.toNatClampNeg 1)), .ref (z + 135 + 0), .int (-1)])) (show (0 : Int32) + 3 = 3 by decide)) ?_
    refine va_sld hx hb hX hbl hbA hS (gb_in rfl) dL_law_1504 ?_
    refine lv_aload_n hx hb dL_law_1505 rfl (lv_at hl 3 rfl) ?_
    refine lv_iload_n hx hb dL_law_1506 rfl (lv_at hl 0 rfl) ?_
    refine lv_iconst (v := 4) hx hb dL_law_1507 (by decide) ?_
    refine lv_iadd hx hb dL_law_1508 ?_
    refine W.eq (g2 := F0 m 1509 ls [.int 4, .ref b, .int (xs (Int32.toNatClampNeg 3)), .int (xs (Int32.toNatClampNeg 2)), .int (xs (Int32.toNatClampNeg 1)), .ref (z + 135 + 0), .int (-1)]) (congrArg (fun v => F0 m 1509 ls (Value.int v :: [.ref b, .int (xs (Int32.toNatClampNeg 3)), .int (xs (Int32.toNatClampNeg 2)), .int (xs (Int32.toNatClampNeg 1)), .ref (z + 135 + 0), .int (-1)])) (show (0 : Int32) + 4 = 4 by decide)) ?_
    refine va_sld hx hb hX hbl hbA hS (gb_in rfl) dL_law_1509 ?_
    refine lv_if_eq (tgt := 1517) hx hb dL_law_1510 (by decide) (fun _ => ?_) (fun _ => ?_)
    · refine lv_iconst (v := 0) hx hb dL_law_1517 (by decide) ?_
      refine gb_calli (va_runV (C := RX12) (As := [.int (xs (Int32.toNatClampNeg 1)), .int (xs (Int32.toNatClampNeg 2)), .int (xs (Int32.toNatClampNeg 3)), .int 0]) (rest := [.int (-1)]) ⟨hx, hb, hml, hown, hq⟩ (a_X12_split l D cT tt z (z + 135) (Nat.le_add_right z 135) (xs (Int32.toNatClampNeg 1)) (xs (Int32.toNatClampNeg 2)) (xs (Int32.toNatClampNeg 3)) 0) (cwV 4 hq (gb_gV w_1670 w_1671 w_1672 w_14 w_1673) rfl rfl rfl (by decide +kernel) ⟨Nat.le_of_ble_eq_true rfl, Nat.le_of_ble_eq_true rfl⟩) (gb_preV (r := (RX12, TX12, 44)) (ci := 10) (q0 := 0) hSt hPm rfl (gb_at (z + 135) rfl) hS (fun q h => h) hPm) rfl rfl hl.1 rfl (lv_room (Nat.le_of_ble_eq_true rfl)) dL_law_1518 ⟨Nat.le_of_ble_eq_true rfl, Nat.le_of_ble_eq_true rfl⟩) hS (fun q h => Nat.le_trans (Nat.le_add_right z 135) h.1) (fun q h => Nat.le_trans (Nat.le_add_right z 135) h.1) (fun r H locs hY hk hS => ?_)
      subst hY
      refine lv_icmp_eq (tgt := 1891) hx hb dL_law_1521 (by decide) (fun _ => ?_) (fun hc => absurd rfl hc)
      exact law_end C1 hzz hS (lv_sub hl [0, 3] rfl)
    · refine lv_iconst (v := 1) hx hb dL_law_1513 (by decide) ?_
      refine lv_goto (tgt := 1518) hx hb dL_law_1514 (by decide) ?_
      refine gb_calli (va_runV (C := RX12) (As := [.int (xs (Int32.toNatClampNeg 1)), .int (xs (Int32.toNatClampNeg 2)), .int (xs (Int32.toNatClampNeg 3)), .int 1]) (rest := [.int (-1)]) ⟨hx, hb, hml, hown, hq⟩ (a_X12_split l D cT tt z (z + 135) (Nat.le_add_right z 135) (xs (Int32.toNatClampNeg 1)) (xs (Int32.toNatClampNeg 2)) (xs (Int32.toNatClampNeg 3)) 1) (cwV 4 hq (gb_gV w_1670 w_1671 w_1672 w_14 w_1673) rfl rfl rfl (by decide +kernel) ⟨Nat.le_of_ble_eq_true rfl, Nat.le_of_ble_eq_true rfl⟩) (gb_preV (r := (RX12, TX12, 44)) (ci := 10) (q0 := 0) hSt hPm rfl (gb_at (z + 135) rfl) hS (fun q h => h) hPm) rfl rfl hl.1 rfl (lv_room (Nat.le_of_ble_eq_true rfl)) dL_law_1518 ⟨Nat.le_of_ble_eq_true rfl, Nat.le_of_ble_eq_true rfl⟩) hS (fun q h => Nat.le_trans (Nat.le_add_right z 135) h.1) (fun q h => Nat.le_trans (Nat.le_add_right z 135) h.1) (fun r H locs hY hk hS => ?_)
      subst hY
      refine lv_icmp_eq (tgt := 1891) hx hb dL_law_1521 (by decide) (fun _ => ?_) (fun hc => absurd rfl hc)
      exact law_end C1 hzz hS (lv_sub hl [0, 3] rfl)
theorem dL_law_1526 : decode cL_law 1526 = .ok (.aload_n 1, 1) := by decide +kernel
theorem dL_law_1527 : decode cL_law 1527 = .ok (.aload_n 0, 1) := by decide +kernel
theorem dL_law_1528 : decode cL_law 1528 = .ok (.iload_n 3, 1) := by decide +kernel
theorem dL_law_1529 : decode cL_law 1529 = .ok (.iconst 1, 1) := by decide +kernel
theorem dL_law_1530 : decode cL_law 1530 = .ok (.iadd, 1) := by decide +kernel
theorem dL_law_1531 : decode cL_law 1531 = .ok (.iaload, 1) := by decide +kernel
theorem dL_law_1532 : decode cL_law 1532 = .ok (.aload_n 0, 1) := by decide +kernel
theorem dL_law_1533 : decode cL_law 1533 = .ok (.iload_n 3, 1) := by decide +kernel
theorem dL_law_1534 : decode cL_law 1534 = .ok (.iconst 2, 1) := by decide +kernel
theorem dL_law_1535 : decode cL_law 1535 = .ok (.iadd, 1) := by decide +kernel
theorem dL_law_1536 : decode cL_law 1536 = .ok (.iaload, 1) := by decide +kernel
theorem dL_law_1537 : decode cL_law 1537 = .ok (.aload_n 0, 1) := by decide +kernel
theorem dL_law_1538 : decode cL_law 1538 = .ok (.iload_n 3, 1) := by decide +kernel
theorem dL_law_1539 : decode cL_law 1539 = .ok (.iconst 3, 1) := by decide +kernel
theorem dL_law_1540 : decode cL_law 1540 = .ok (.iadd, 1) := by decide +kernel
theorem dL_law_1541 : decode cL_law 1541 = .ok (.iaload, 1) := by decide +kernel
theorem dL_law_1542 : decode cL_law 1542 = .ok (.aload_n 0, 1) := by decide +kernel
theorem dL_law_1543 : decode cL_law 1543 = .ok (.iload_n 3, 1) := by decide +kernel
theorem dL_law_1544 : decode cL_law 1544 = .ok (.iconst 4, 1) := by decide +kernel
theorem dL_law_1545 : decode cL_law 1545 = .ok (.iadd, 1) := by decide +kernel
theorem dL_law_1546 : decode cL_law 1546 = .ok (.iaload, 1) := by decide +kernel
theorem dL_law_1547 : decode cL_law 1547 = .ok (.invokevirtual 136, 3) := by decide +kernel
theorem w_965 : (Cond.methodLink "GooseBorderLaw" (136 : Nat) ({ cls := "GooseBorder", name := "two", desc := "(IIII)I" } : MethodName)) ∈ gb_wA := gb_t5 5 rfl rfl
theorem w_966 : (Cond.instanceMethod ({ cls := "GooseBorder", name := "two", desc := "(IIII)I" } : MethodName)) ∈ gb_wA := gb_t5 6 rfl rfl
theorem w_967 : (Cond.selects "GooseBorder" ({ cls := "GooseBorder", name := "two", desc := "(IIII)I" } : MethodName) ({ cls := "GooseBorder", name := "two", desc := "(IIII)I" } : MethodName)) ∈ gb_wA := gb_t5 7 rfl rfl
theorem w_968 : (Cond.code ({ cls := "GooseBorder", name := "two", desc := "(IIII)I" } : MethodName) prog_1_method_38_code (15 : Nat) (Option.some FieldType.int)) ∈ gb_wA := gb_t5 8 rfl rfl
theorem dL_law_1550 : decode cL_law 1550 = .ok (.aload_n 2, 1) := by decide +kernel
theorem dL_law_1551 : decode cL_law 1551 = .ok (.aload_n 0, 1) := by decide +kernel
theorem dL_law_1552 : decode cL_law 1552 = .ok (.iload_n 3, 1) := by decide +kernel
theorem dL_law_1553 : decode cL_law 1553 = .ok (.iconst 1, 1) := by decide +kernel
theorem dL_law_1554 : decode cL_law 1554 = .ok (.iadd, 1) := by decide +kernel
theorem dL_law_1555 : decode cL_law 1555 = .ok (.iaload, 1) := by decide +kernel
theorem dL_law_1556 : decode cL_law 1556 = .ok (.aload_n 0, 1) := by decide +kernel
theorem dL_law_1557 : decode cL_law 1557 = .ok (.iload_n 3, 1) := by decide +kernel
theorem dL_law_1558 : decode cL_law 1558 = .ok (.iconst 2, 1) := by decide +kernel
theorem dL_law_1559 : decode cL_law 1559 = .ok (.iadd, 1) := by decide +kernel
theorem dL_law_1560 : decode cL_law 1560 = .ok (.iaload, 1) := by decide +kernel
theorem dL_law_1561 : decode cL_law 1561 = .ok (.aload_n 0, 1) := by decide +kernel
theorem dL_law_1562 : decode cL_law 1562 = .ok (.iload_n 3, 1) := by decide +kernel
theorem dL_law_1563 : decode cL_law 1563 = .ok (.iconst 3, 1) := by decide +kernel
theorem dL_law_1564 : decode cL_law 1564 = .ok (.iadd, 1) := by decide +kernel
theorem dL_law_1565 : decode cL_law 1565 = .ok (.iaload, 1) := by decide +kernel
theorem dL_law_1566 : decode cL_law 1566 = .ok (.aload_n 0, 1) := by decide +kernel
theorem dL_law_1567 : decode cL_law 1567 = .ok (.iload_n 3, 1) := by decide +kernel
theorem dL_law_1568 : decode cL_law 1568 = .ok (.iconst 4, 1) := by decide +kernel
theorem dL_law_1569 : decode cL_law 1569 = .ok (.iadd, 1) := by decide +kernel
theorem dL_law_1570 : decode cL_law 1570 = .ok (.iaload, 1) := by decide +kernel
theorem dL_law_1571 : decode cL_law 1571 = .ok (.invokevirtual 139, 3) := by decide +kernel
theorem w_1674 : (Cond.methodLink "GooseBorderLaw" (139 : Nat) ({ cls := "GooseBorderModel", name := "two", desc := "(IIII)I" } : MethodName)) ∈ gb_wA := gb_t7 234 rfl rfl
theorem w_1675 : (Cond.instanceMethod ({ cls := "GooseBorderModel", name := "two", desc := "(IIII)I" } : MethodName)) ∈ gb_wA := gb_t7 235 rfl rfl
theorem w_1676 : (Cond.selects "GooseBorderModel" ({ cls := "GooseBorderModel", name := "two", desc := "(IIII)I" } : MethodName) ({ cls := "GooseBorderModel", name := "two", desc := "(IIII)I" } : MethodName)) ∈ gb_wA := gb_t7 236 rfl rfl
theorem w_1677 : (Cond.code ({ cls := "GooseBorderModel", name := "two", desc := "(IIII)I" } : MethodName) prog_14_method_107_code (15 : Nat) (Option.some FieldType.int)) ∈ gb_wA := gb_t7 237 rfl rfl
theorem dL_law_1574 : decode cL_law 1574 = .ok (.if_icmp .eq 317, 3) := by decide +kernel
set_option maxHeartbeats 4000000 in
set_option maxRecDepth 100000 in
theorem law_c29 {p : Program} {l : Launch} {e : Env} {s : State} {m : MethodId} {below : List Frame} {meth : Method} {c : Code} {b z : Nat} {xs : Nat → Int32} (C0 : lw_At p s m meth c b 6 xs) (hzz : Array.size s.heap = z) {D : va_G} {cT : Nat → ClassId} {tt : Nat → Nat} (hSt : gb_St D cT tt z s) {H : Heap} {locs : List Loc} {ls : Array Slot} (hPc : va_P D vwCl (gb_wl z (gb_C cT z)) H) (hPm : va_P D vwCl (gb_wl (z + 135) (gb_M cT (z + 135))) H) (hS : va_S (gb_ge z) s.heap H locs) (hl : lv_has ls 4 [(3, .int 0), (2, .ref (z + 135 + 0)), (1, .ref (z + 0)), (0, .ref b)]) : W p l e room_1 s m #[Value.ref b] below meth c H locs 157 10381 (lw_Z below #[Value.ref b] s) (F0 m 1526 ls []) := by
  have C1 := C0
  obtain ⟨hx, hb, hr, hml, hown, hts, hX, hbl, hlocks, hgv⟩ := C0
  have hq : ∀ w ∈ gb_wA, w.before #[Value.ref b] s = true := fun w h => hts w (gb_wA_tbl w h)
  have hbA : ¬ gb_ge z b := Nat.not_le.mpr (by rw [← hzz]; exact hbl)
  refine lv_aload_n hx hb dL_law_1526 rfl (lv_at hl 2 rfl) ?_
  refine lv_aload_n hx hb dL_law_1527 rfl (lv_at hl 3 rfl) ?_
  refine lv_iload_n hx hb dL_law_1528 rfl (lv_at hl 0 rfl) ?_
  refine lv_iconst (v := 1) hx hb dL_law_1529 (by decide) ?_
  refine lv_iadd hx hb dL_law_1530 ?_
  refine W.eq (g2 := F0 m 1531 ls [.int 1, .ref b, .ref (z + 0)]) (congrArg (fun v => F0 m 1531 ls (Value.int v :: [.ref b, .ref (z + 0)])) (show (0 : Int32) + 1 = 1 by decide)) ?_
  refine va_sld hx hb hX hbl hbA hS (gb_in rfl) dL_law_1531 ?_
  refine lv_aload_n hx hb dL_law_1532 rfl (lv_at hl 3 rfl) ?_
  refine lv_iload_n hx hb dL_law_1533 rfl (lv_at hl 0 rfl) ?_
  refine lv_iconst (v := 2) hx hb dL_law_1534 (by decide) ?_
  refine lv_iadd hx hb dL_law_1535 ?_
  refine W.eq (g2 := F0 m 1536 ls [.int 2, .ref b, .int (xs (Int32.toNatClampNeg 1)), .ref (z + 0)]) (congrArg (fun v => F0 m 1536 ls (Value.int v :: [.ref b, .int (xs (Int32.toNatClampNeg 1)), .ref (z + 0)])) (show (0 : Int32) + 2 = 2 by decide)) ?_
  refine va_sld hx hb hX hbl hbA hS (gb_in rfl) dL_law_1536 ?_
  refine lv_aload_n hx hb dL_law_1537 rfl (lv_at hl 3 rfl) ?_
  refine lv_iload_n hx hb dL_law_1538 rfl (lv_at hl 0 rfl) ?_
  refine lv_iconst (v := 3) hx hb dL_law_1539 (by decide) ?_
  refine lv_iadd hx hb dL_law_1540 ?_
  refine W.eq (g2 := F0 m 1541 ls [.int 3, .ref b, .int (xs (Int32.toNatClampNeg 2)), .int (xs (Int32.toNatClampNeg 1)), .ref (z + 0)]) (congrArg (fun v => F0 m 1541 ls (Value.int v :: [.ref b, .int (xs (Int32.toNatClampNeg 2)), .int (xs (Int32.toNatClampNeg 1)), .ref (z + 0)])) (show (0 : Int32) + 3 = 3 by decide)) ?_
  refine va_sld hx hb hX hbl hbA hS (gb_in rfl) dL_law_1541 ?_
  refine lv_aload_n hx hb dL_law_1542 rfl (lv_at hl 3 rfl) ?_
  refine lv_iload_n hx hb dL_law_1543 rfl (lv_at hl 0 rfl) ?_
  refine lv_iconst (v := 4) hx hb dL_law_1544 (by decide) ?_
  refine lv_iadd hx hb dL_law_1545 ?_
  refine W.eq (g2 := F0 m 1546 ls [.int 4, .ref b, .int (xs (Int32.toNatClampNeg 3)), .int (xs (Int32.toNatClampNeg 2)), .int (xs (Int32.toNatClampNeg 1)), .ref (z + 0)]) (congrArg (fun v => F0 m 1546 ls (Value.int v :: [.ref b, .int (xs (Int32.toNatClampNeg 3)), .int (xs (Int32.toNatClampNeg 2)), .int (xs (Int32.toNatClampNeg 1)), .ref (z + 0)])) (show (0 : Int32) + 4 = 4 by decide)) ?_
  refine va_sld hx hb hX hbl hbA hS (gb_in rfl) dL_law_1546 ?_
  refine gb_calli (va_runV (C := RX11) (As := [.int (xs (Int32.toNatClampNeg 1)), .int (xs (Int32.toNatClampNeg 2)), .int (xs (Int32.toNatClampNeg 3)), .int (xs (Int32.toNatClampNeg 4))]) (rest := []) ⟨hx, hb, hml, hown, hq⟩ (a_X11_two l D cT tt z z (Nat.le_refl z) (xs (Int32.toNatClampNeg 1)) (xs (Int32.toNatClampNeg 2)) (xs (Int32.toNatClampNeg 3)) (xs (Int32.toNatClampNeg 4))) (cwV 4 hq (gb_gV w_965 w_966 w_967 w_1 w_968) rfl rfl rfl (by decide +kernel) ⟨Nat.le_of_ble_eq_true rfl, Nat.le_of_ble_eq_true rfl⟩) (gb_preV (r := (RX11, TX11, 10)) (ci := 9) (q0 := 0) hSt hPc rfl (gb_at z rfl) hS (fun q h => h) hPc) rfl rfl hl.1 rfl (lv_room (Nat.le_of_ble_eq_true rfl)) dL_law_1547 ⟨Nat.le_of_ble_eq_true rfl, Nat.le_of_ble_eq_true rfl⟩) hS (fun q h => h.1) (fun q h => h.1) (fun r H locs hY hk hS => ?_)
  subst hY
  have hPm := gb_kept hPm (fun q h1 h2 => hk q (Nat.lt_of_lt_of_le h2 ((hPm 21 _ (gb_at (z + 135) rfl)).lt)) (fun h3 => Nat.not_lt.mpr h1 h3.2))
  refine lv_aload_n hx hb dL_law_1550 rfl (lv_at hl 1 rfl) ?_
  refine lv_aload_n hx hb dL_law_1551 rfl (lv_at hl 3 rfl) ?_
  refine lv_iload_n hx hb dL_law_1552 rfl (lv_at hl 0 rfl) ?_
  refine lv_iconst (v := 1) hx hb dL_law_1553 (by decide) ?_
  refine lv_iadd hx hb dL_law_1554 ?_
  refine W.eq (g2 := F0 m 1555 ls [.int 1, .ref b, .ref (z + 135 + 0), .int (-1)]) (congrArg (fun v => F0 m 1555 ls (Value.int v :: [.ref b, .ref (z + 135 + 0), .int (-1)])) (show (0 : Int32) + 1 = 1 by decide)) ?_
  refine va_sld hx hb hX hbl hbA hS (gb_in rfl) dL_law_1555 ?_
  refine lv_aload_n hx hb dL_law_1556 rfl (lv_at hl 3 rfl) ?_
  refine lv_iload_n hx hb dL_law_1557 rfl (lv_at hl 0 rfl) ?_
  refine lv_iconst (v := 2) hx hb dL_law_1558 (by decide) ?_
  refine lv_iadd hx hb dL_law_1559 ?_
  refine W.eq (g2 := F0 m 1560 ls [.int 2, .ref b, .int (xs (Int32.toNatClampNeg 1)), .ref (z + 135 + 0), .int (-1)]) (congrArg (fun v => F0 m 1560 ls (Value.int v :: [.ref b, .int (xs (Int32.toNatClampNeg 1)), .ref (z + 135 + 0), .int (-1)])) (show (0 : Int32) + 2 = 2 by decide)) ?_
  refine va_sld hx hb hX hbl hbA hS (gb_in rfl) dL_law_1560 ?_
  refine lv_aload_n hx hb dL_law_1561 rfl (lv_at hl 3 rfl) ?_
  refine lv_iload_n hx hb dL_law_1562 rfl (lv_at hl 0 rfl) ?_
  refine lv_iconst (v := 3) hx hb dL_law_1563 (by decide) ?_
  refine lv_iadd hx hb dL_law_1564 ?_
  refine W.eq (g2 := F0 m 1565 ls [.int 3, .ref b, .int (xs (Int32.toNatClampNeg 2)), .int (xs (Int32.toNatClampNeg 1)), .ref (z + 135 + 0), .int (-1)]) (congrArg (fun v => F0 m 1565 ls (Value.int v :: [.ref b, .int (xs (Int32.toNatClampNeg 2)), .int (xs (Int32.toNatClampNeg 1)), .ref (z + 135 + 0), .int (-1)])) (show (0 : Int32) + 3 = 3 by decide)) ?_
  refine va_sld hx hb hX hbl hbA hS (gb_in rfl) dL_law_1565 ?_
  refine lv_aload_n hx hb dL_law_1566 rfl (lv_at hl 3 rfl) ?_
  refine lv_iload_n hx hb dL_law_1567 rfl (lv_at hl 0 rfl) ?_
  refine lv_iconst (v := 4) hx hb dL_law_1568 (by decide) ?_
  refine lv_iadd hx hb dL_law_1569 ?_
  refine W.eq (g2 := F0 m 1570 ls [.int 4, .ref b, .int (xs (Int32.toNatClampNeg 3)), .int (xs (Int32.toNatClampNeg 2)), .int (xs (Int32.toNatClampNeg 1)), .ref (z + 135 + 0), .int (-1)]) (congrArg (fun v => F0 m 1570 ls (Value.int v :: [.ref b, .int (xs (Int32.toNatClampNeg 3)), .int (xs (Int32.toNatClampNeg 2)), .int (xs (Int32.toNatClampNeg 1)), .ref (z + 135 + 0), .int (-1)])) (show (0 : Int32) + 4 = 4 by decide)) ?_
  refine va_sld hx hb hX hbl hbA hS (gb_in rfl) dL_law_1570 ?_
  refine gb_calli (va_runV (C := RX12) (As := [.int (xs (Int32.toNatClampNeg 1)), .int (xs (Int32.toNatClampNeg 2)), .int (xs (Int32.toNatClampNeg 3)), .int (xs (Int32.toNatClampNeg 4))]) (rest := [.int (-1)]) ⟨hx, hb, hml, hown, hq⟩ (a_X12_two l D cT tt z (z + 135) (Nat.le_add_right z 135) (xs (Int32.toNatClampNeg 1)) (xs (Int32.toNatClampNeg 2)) (xs (Int32.toNatClampNeg 3)) (xs (Int32.toNatClampNeg 4))) (cwV 4 hq (gb_gV w_1674 w_1675 w_1676 w_14 w_1677) rfl rfl rfl (by decide +kernel) ⟨Nat.le_of_ble_eq_true rfl, Nat.le_of_ble_eq_true rfl⟩) (gb_preV (r := (RX12, TX12, 44)) (ci := 10) (q0 := 0) hSt hPm rfl (gb_at (z + 135) rfl) hS (fun q h => h) hPm) rfl rfl hl.1 rfl (lv_room (Nat.le_of_ble_eq_true rfl)) dL_law_1571 ⟨Nat.le_of_ble_eq_true rfl, Nat.le_of_ble_eq_true rfl⟩) hS (fun q h => Nat.le_trans (Nat.le_add_right z 135) h.1) (fun q h => Nat.le_trans (Nat.le_add_right z 135) h.1) (fun r H locs hY hk hS => ?_)
  subst hY
  refine lv_icmp_eq (tgt := 1891) hx hb dL_law_1574 (by decide) (fun _ => ?_) (fun hc => absurd rfl hc)
  exact law_end C1 hzz hS (lv_sub hl [0, 3] rfl)
