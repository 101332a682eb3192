theorem law_lc {x y : Int64} (h : x = y) : lg_cmp x y = 0 := by
  subst h
  unfold lg_cmp
  rw [if_neg (by exact fun q => absurd q Int64.lt_irrefl), if_pos rfl]
theorem dq_cL_law_192 : ((cL_law.data.toList.drop 192).take 67).map UInt8.toNat = [0, 0, 7, 19, 0, 0, 7, 42, 43, 42, 29, 4, 96, 46, 42, 29, 5, 96, 46, 42, 29, 6, 96, 46, 42, 29, 7, 96, 46, 42, 29, 8, 96, 46, 182, 0, 13, 87, 44, 42, 29, 4, 96, 46, 42, 29, 5, 96, 46, 42, 29, 6, 96, 46, 42, 29, 7, 96, 46, 42, 29, 8, 96, 46, 182, 0, 17] := by decide +kernel
theorem dL_law_200 : decode cL_law 200 = .ok (.aload_n 1, 1) := dc_43 (dc_cut (j := 8) (n := 1) (l := [43]) dq_cL_law_192 (by decide +kernel) (by decide))
theorem dL_law_201 : decode cL_law 201 = .ok (.aload_n 0, 1) := dc_42 (dc_cut (j := 9) (n := 1) (l := [42]) dq_cL_law_192 (by decide +kernel) (by decide))
theorem dL_law_202 : decode cL_law 202 = .ok (.iload_n 3, 1) := dc_29 (dc_cut (j := 10) (n := 1) (l := [29]) dq_cL_law_192 (by decide +kernel) (by decide))
theorem dL_law_203 : decode cL_law 203 = .ok (.iconst 1, 1) := dc_4 (dc_cut (j := 11) (n := 1) (l := [4]) dq_cL_law_192 (by decide +kernel) (by decide))
theorem dL_law_204 : decode cL_law 204 = .ok (.iadd, 1) := dc_96 (dc_cut (j := 12) (n := 1) (l := [96]) dq_cL_law_192 (by decide +kernel) (by decide))
theorem dL_law_205 : decode cL_law 205 = .ok (.iaload, 1) := dc_46 (dc_cut (j := 13) (n := 1) (l := [46]) dq_cL_law_192 (by decide +kernel) (by decide))
theorem dL_law_206 : decode cL_law 206 = .ok (.aload_n 0, 1) := dc_42 (dc_cut (j := 14) (n := 1) (l := [42]) dq_cL_law_192 (by decide +kernel) (by decide))
theorem dL_law_207 : decode cL_law 207 = .ok (.iload_n 3, 1) := dc_29 (dc_cut (j := 15) (n := 1) (l := [29]) dq_cL_law_192 (by decide +kernel) (by decide))
theorem dL_law_208 : decode cL_law 208 = .ok (.iconst 2, 1) := dc_5 (dc_cut (j := 16) (n := 1) (l := [5]) dq_cL_law_192 (by decide +kernel) (by decide))
theorem dL_law_209 : decode cL_law 209 = .ok (.iadd, 1) := dc_96 (dc_cut (j := 17) (n := 1) (l := [96]) dq_cL_law_192 (by decide +kernel) (by decide))
theorem dL_law_210 : decode cL_law 210 = .ok (.iaload, 1) := dc_46 (dc_cut (j := 18) (n := 1) (l := [46]) dq_cL_law_192 (by decide +kernel) (by decide))
theorem dL_law_211 : decode cL_law 211 = .ok (.aload_n 0, 1) := dc_42 (dc_cut (j := 19) (n := 1) (l := [42]) dq_cL_law_192 (by decide +kernel) (by decide))
theorem dL_law_212 : decode cL_law 212 = .ok (.iload_n 3, 1) := dc_29 (dc_cut (j := 20) (n := 1) (l := [29]) dq_cL_law_192 (by decide +kernel) (by decide))
theorem dL_law_213 : decode cL_law 213 = .ok (.iconst 3, 1) := dc_6 (dc_cut (j := 21) (n := 1) (l := [6]) dq_cL_law_192 (by decide +kernel) (by decide))
theorem dL_law_214 : decode cL_law 214 = .ok (.iadd, 1) := dc_96 (dc_cut (j := 22) (n := 1) (l := [96]) dq_cL_law_192 (by decide +kernel) (by decide))
theorem dL_law_215 : decode cL_law 215 = .ok (.iaload, 1) := dc_46 (dc_cut (j := 23) (n := 1) (l := [46]) dq_cL_law_192 (by decide +kernel) (by decide))
theorem dL_law_216 : decode cL_law 216 = .ok (.aload_n 0, 1) := dc_42 (dc_cut (j := 24) (n := 1) (l := [42]) dq_cL_law_192 (by decide +kernel) (by decide))
theorem dL_law_217 : decode cL_law 217 = .ok (.iload_n 3, 1) := dc_29 (dc_cut (j := 25) (n := 1) (l := [29]) dq_cL_law_192 (by decide +kernel) (by decide))
theorem dL_law_218 : decode cL_law 218 = .ok (.iconst 4, 1) := dc_7 (dc_cut (j := 26) (n := 1) (l := [7]) dq_cL_law_192 (by decide +kernel) (by decide))
theorem dL_law_219 : decode cL_law 219 = .ok (.iadd, 1) := dc_96 (dc_cut (j := 27) (n := 1) (l := [96]) dq_cL_law_192 (by decide +kernel) (by decide))
theorem dL_law_220 : decode cL_law 220 = .ok (.iaload, 1) := dc_46 (dc_cut (j := 28) (n := 1) (l := [46]) dq_cL_law_192 (by decide +kernel) (by decide))
theorem dL_law_221 : decode cL_law 221 = .ok (.aload_n 0, 1) := dc_42 (dc_cut (j := 29) (n := 1) (l := [42]) dq_cL_law_192 (by decide +kernel) (by decide))
theorem dL_law_222 : decode cL_law 222 = .ok (.iload_n 3, 1) := dc_29 (dc_cut (j := 30) (n := 1) (l := [29]) dq_cL_law_192 (by decide +kernel) (by decide))
theorem dL_law_223 : decode cL_law 223 = .ok (.iconst 5, 1) := dc_8 (dc_cut (j := 31) (n := 1) (l := [8]) dq_cL_law_192 (by decide +kernel) (by decide))
theorem dL_law_224 : decode cL_law 224 = .ok (.iadd, 1) := dc_96 (dc_cut (j := 32) (n := 1) (l := [96]) dq_cL_law_192 (by decide +kernel) (by decide))
theorem dL_law_225 : decode cL_law 225 = .ok (.iaload, 1) := dc_46 (dc_cut (j := 33) (n := 1) (l := [46]) dq_cL_law_192 (by decide +kernel) (by decide))
theorem dL_law_226 : decode cL_law 226 = .ok (.invokevirtual 13, 3) := dc_182 (dc_cut (j := 34) (n := 3) (l := [182, 0, 13]) dq_cL_law_192 (by decide +kernel) (by decide)) rfl
theorem w_346 : (Cond.methodLink "GooseBorderLaw" (13 : Nat) ({ cls := "GooseBorder", name := "feed", desc := "(IIIII)I" } : MethodName)) ∈ gb_wA := gb_t2 106 rfl rfl
theorem w_347 : (Cond.instanceMethod ({ cls := "GooseBorder", name := "feed", desc := "(IIIII)I" } : MethodName)) ∈ gb_wA := gb_t2 107 rfl rfl
theorem w_348 : (Cond.selects "GooseBorder" ({ cls := "GooseBorder", name := "feed", desc := "(IIIII)I" } : MethodName) ({ cls := "GooseBorder", name := "feed", desc := "(IIIII)I" } : MethodName)) ∈ gb_wA := gb_t2 108 rfl rfl
theorem w_349 : (Cond.code ({ cls := "GooseBorder", name := "feed", desc := "(IIIII)I" } : MethodName) prog_1_method_2_code (6 : Nat) (Option.some FieldType.int)) ∈ gb_wA := gb_t2 109 rfl rfl
theorem dL_law_229 : decode cL_law 229 = .ok (.pop, 1) := dc_87 (dc_cut (j := 37) (n := 1) (l := [87]) dq_cL_law_192 (by decide +kernel) (by decide))
theorem dL_law_230 : decode cL_law 230 = .ok (.aload_n 2, 1) := dc_44 (dc_cut (j := 38) (n := 1) (l := [44]) dq_cL_law_192 (by decide +kernel) (by decide))
theorem dL_law_231 : decode cL_law 231 = .ok (.aload_n 0, 1) := dc_42 (dc_cut (j := 39) (n := 1) (l := [42]) dq_cL_law_192 (by decide +kernel) (by decide))
theorem dL_law_232 : decode cL_law 232 = .ok (.iload_n 3, 1) := dc_29 (dc_cut (j := 40) (n := 1) (l := [29]) dq_cL_law_192 (by decide +kernel) (by decide))
theorem dL_law_233 : decode cL_law 233 = .ok (.iconst 1, 1) := dc_4 (dc_cut (j := 41) (n := 1) (l := [4]) dq_cL_law_192 (by decide +kernel) (by decide))
theorem dL_law_234 : decode cL_law 234 = .ok (.iadd, 1) := dc_96 (dc_cut (j := 42) (n := 1) (l := [96]) dq_cL_law_192 (by decide +kernel) (by decide))
theorem dL_law_235 : decode cL_law 235 = .ok (.iaload, 1) := dc_46 (dc_cut (j := 43) (n := 1) (l := [46]) dq_cL_law_192 (by decide +kernel) (by decide))
theorem dL_law_236 : decode cL_law 236 = .ok (.aload_n 0, 1) := dc_42 (dc_cut (j := 44) (n := 1) (l := [42]) dq_cL_law_192 (by decide +kernel) (by decide))
theorem dL_law_237 : decode cL_law 237 = .ok (.iload_n 3, 1) := dc_29 (dc_cut (j := 45) (n := 1) (l := [29]) dq_cL_law_192 (by decide +kernel) (by decide))
theorem dL_law_238 : decode cL_law 238 = .ok (.iconst 2, 1) := dc_5 (dc_cut (j := 46) (n := 1) (l := [5]) dq_cL_law_192 (by decide +kernel) (by decide))
theorem dL_law_239 : decode cL_law 239 = .ok (.iadd, 1) := dc_96 (dc_cut (j := 47) (n := 1) (l := [96]) dq_cL_law_192 (by decide +kernel) (by decide))
theorem dL_law_240 : decode cL_law 240 = .ok (.iaload, 1) := dc_46 (dc_cut (j := 48) (n := 1) (l := [46]) dq_cL_law_192 (by decide +kernel) (by decide))
theorem dL_law_241 : decode cL_law 241 = .ok (.aload_n 0, 1) := dc_42 (dc_cut (j := 49) (n := 1) (l := [42]) dq_cL_law_192 (by decide +kernel) (by decide))
theorem dL_law_242 : decode cL_law 242 = .ok (.iload_n 3, 1) := dc_29 (dc_cut (j := 50) (n := 1) (l := [29]) dq_cL_law_192 (by decide +kernel) (by decide))
theorem dL_law_243 : decode cL_law 243 = .ok (.iconst 3, 1) := dc_6 (dc_cut (j := 51) (n := 1) (l := [6]) dq_cL_law_192 (by decide +kernel) (by decide))
theorem dL_law_244 : decode cL_law 244 = .ok (.iadd, 1) := dc_96 (dc_cut (j := 52) (n := 1) (l := [96]) dq_cL_law_192 (by decide +kernel) (by decide))
theorem dL_law_245 : decode cL_law 245 = .ok (.iaload, 1) := dc_46 (dc_cut (j := 53) (n := 1) (l := [46]) dq_cL_law_192 (by decide +kernel) (by decide))
theorem dL_law_246 : decode cL_law 246 = .ok (.aload_n 0, 1) := dc_42 (dc_cut (j := 54) (n := 1) (l := [42]) dq_cL_law_192 (by decide +kernel) (by decide))
theorem dL_law_247 : decode cL_law 247 = .ok (.iload_n 3, 1) := dc_29 (dc_cut (j := 55) (n := 1) (l := [29]) dq_cL_law_192 (by decide +kernel) (by decide))
theorem dL_law_248 : decode cL_law 248 = .ok (.iconst 4, 1) := dc_7 (dc_cut (j := 56) (n := 1) (l := [7]) dq_cL_law_192 (by decide +kernel) (by decide))
theorem dL_law_249 : decode cL_law 249 = .ok (.iadd, 1) := dc_96 (dc_cut (j := 57) (n := 1) (l := [96]) dq_cL_law_192 (by decide +kernel) (by decide))
theorem dL_law_250 : decode cL_law 250 = .ok (.iaload, 1) := dc_46 (dc_cut (j := 58) (n := 1) (l := [46]) dq_cL_law_192 (by decide +kernel) (by decide))
theorem dL_law_251 : decode cL_law 251 = .ok (.aload_n 0, 1) := dc_42 (dc_cut (j := 59) (n := 1) (l := [42]) dq_cL_law_192 (by decide +kernel) (by decide))
theorem dL_law_252 : decode cL_law 252 = .ok (.iload_n 3, 1) := dc_29 (dc_cut (j := 60) (n := 1) (l := [29]) dq_cL_law_192 (by decide +kernel) (by decide))
theorem dL_law_253 : decode cL_law 253 = .ok (.iconst 5, 1) := dc_8 (dc_cut (j := 61) (n := 1) (l := [8]) dq_cL_law_192 (by decide +kernel) (by decide))
theorem dL_law_254 : decode cL_law 254 = .ok (.iadd, 1) := dc_96 (dc_cut (j := 62) (n := 1) (l := [96]) dq_cL_law_192 (by decide +kernel) (by decide))
theorem dL_law_255 : decode cL_law 255 = .ok (.iaload, 1) := dc_46 (dc_cut (j := 63) (n := 1) (l := [46]) dq_cL_law_192 (by decide +kernel) (by decide))
theorem dq_cL_law_256 : ((cL_law.data.toList.drop 256).take 67).map UInt8.toNat = [182, 0, 17, 87, 167, 6, 94, 43, 42, 29, 4, 96, 46, 182, 0, 18, 87, 44, 42, 29, 4, 96, 46, 182, 0, 22, 87, 167, 6, 71, 43, 42, 29, 4, 96, 46, 42, 29, 5, 96, 46, 182, 0, 23, 87, 44, 42, 29, 4, 96, 46, 42, 29, 5, 96, 46, 182, 0, 27, 87, 167, 6, 38, 43, 42, 29, 4] := by decide +kernel
theorem dL_law_256 : decode cL_law 256 = .ok (.invokevirtual 17, 3) := dc_182 (dc_cut (j := 0) (n := 3) (l := [182, 0, 17]) dq_cL_law_256 (by decide +kernel) (by decide)) rfl
theorem w_1257 : (Cond.methodLink "GooseBorderLaw" (17 : Nat) ({ cls := "GooseBorderModel", name := "feed", desc := "(IIIII)I" } : MethodName)) ∈ gb_wA := gb_t6 57 rfl rfl
theorem w_1258 : (Cond.instanceMethod ({ cls := "GooseBorderModel", name := "feed", desc := "(IIIII)I" } : MethodName)) ∈ gb_wA := gb_t6 58 rfl rfl
theorem w_1259 : (Cond.selects "GooseBorderModel" ({ cls := "GooseBorderModel", name := "feed", desc := "(IIIII)I" } : MethodName) ({ cls := "GooseBorderModel", name := "feed", desc := "(IIIII)I" } : MethodName)) ∈ gb_wA := gb_t6 59 rfl rfl
theorem w_1260 : (Cond.code ({ cls := "GooseBorderModel", name := "feed", desc := "(IIIII)I" } : MethodName) prog_14_method_3_code (8 : Nat) (Option.some FieldType.int)) ∈ gb_wA := gb_t6 60 rfl rfl
theorem dL_law_259 : decode cL_law 259 = .ok (.pop, 1) := dc_87 (dc_cut (j := 3) (n := 1) (l := [87]) dq_cL_law_256 (by decide +kernel) (by decide))
theorem dL_law_260 : decode cL_law 260 = .ok (.goto 1630, 3) := dc_167 (dc_cut (j := 4) (n := 3) (l := [167, 6, 94]) dq_cL_law_256 (by decide +kernel) (by decide)) rfl
set_option maxHeartbeats 4000000 in
set_option maxRecDepth 100000 in
theorem law_c0 {p : Program} {l : Launch} {e : Env} {s : State} {m : MethodId} {below : List Frame} {meth : Method} {c : Code} {b z L : Nat} {xs : Nat → Int32} (C0 : lw_At p s m meth c b L xs) (hzz : Array.size s.heap = z) {D : va_G} {cT : Nat → ClassId} {tt ak av : Nat → Nat} (hSt2 : gb_St2 D cT tt ak av z s) {i : Int32} (h1 : vp_in (i + 1) L) (h2 : vp_in (i + 2) L) (h3 : vp_in (i + 3) L) (h4 : vp_in (i + 4) L) (h5 : vp_in (i + 5) L) (hend : ∀ (σ : gb_S) (f : gb_F) (w : Int64) (H : Heap) (locs : List Loc) (ls : Array Slot), gb_Inv σ f → va_P D vwCl (gb_wl z (gb_CW cT z σ)) H → va_P D vwCl (gb_wl (z + 135) (gb_MW cT (z + 135) f w)) H → va_S (gb_ge z) s.heap H locs → lv_has ls 4 [(3, .int i), (2, .ref (z + 135 + 0)), (1, .ref (z + 0)), (0, .ref b)] → W p l e room_1 s m #[Value.ref b] below meth c H locs 157 10381 (lw_Z below #[Value.ref b] s) (F0 m 1890 ls [])) : ∀ (σ : gb_S) (f : gb_F) (w : Int64) (H : Heap) (locs : List Loc) (ls : Array Slot), gb_Inv σ f → va_P D vwCl (gb_wl z (gb_CW cT z σ)) H → va_P D vwCl (gb_wl (z + 135) (gb_MW cT (z + 135) f w)) H → va_S (gb_ge z) s.heap H locs → lv_has ls 4 [(3, .int i), (2, .ref (z + 135 + 0)), (1, .ref (z + 0)), (0, .ref b)] → W p l e room_1 s m #[Value.ref b] below meth c H locs 157 10381 (lw_Z below #[Value.ref b] s) (F0 m 200 ls []) := by
  obtain ⟨hx, hb, hr, hml, hown, hts, hX, hbl, hlocks, hgv⟩ := C0
  have hq : ∀ w ∈ gb_wA, w.before #[Value.ref b] s = true := fun w h => hts w (gb_wA_tbl w h)
  have hbA : ¬ gb_ge z b := Nat.not_le.mpr (by rw [← hzz]; exact hbl)
  intro σ f w H locs ls hI hPc hPm hS hl
  refine lv_aload_n hx hb dL_law_200 rfl (lv_at hl 2 rfl) ?_
  refine lv_aload_n hx hb dL_law_201 rfl (lv_at hl 3 rfl) ?_
  refine lv_iload_n hx hb dL_law_202 rfl (lv_at hl 0 rfl) ?_
  refine lv_iconst (v := 1) hx hb dL_law_203 (by decide) ?_
  refine lv_iadd hx hb dL_law_204 ?_
  refine va_sld hx hb hX hbl hbA hS h1 dL_law_205 ?_
  refine lv_aload_n hx hb dL_law_206 rfl (lv_at hl 3 rfl) ?_
  refine lv_iload_n hx hb dL_law_207 rfl (lv_at hl 0 rfl) ?_
  refine lv_iconst (v := 2) hx hb dL_law_208 (by decide) ?_
  refine lv_iadd hx hb dL_law_209 ?_
  refine va_sld hx hb hX hbl hbA hS h2 dL_law_210 ?_
  refine lv_aload_n hx hb dL_law_211 rfl (lv_at hl 3 rfl) ?_
  refine lv_iload_n hx hb dL_law_212 rfl (lv_at hl 0 rfl) ?_
  refine lv_iconst (v := 3) hx hb dL_law_213 (by decide) ?_
  refine lv_iadd hx hb dL_law_214 ?_
  refine va_sld hx hb hX hbl hbA hS h3 dL_law_215 ?_
  refine lv_aload_n hx hb dL_law_216 rfl (lv_at hl 3 rfl) ?_
  refine lv_iload_n hx hb dL_law_217 rfl (lv_at hl 0 rfl) ?_
  refine lv_iconst (v := 4) hx hb dL_law_218 (by decide) ?_
  refine lv_iadd hx hb dL_law_219 ?_
  refine va_sld hx hb hX hbl hbA hS h4 dL_law_220 ?_
  refine lv_aload_n hx hb dL_law_221 rfl (lv_at hl 3 rfl) ?_
  refine lv_iload_n hx hb dL_law_222 rfl (lv_at hl 0 rfl) ?_
  refine lv_iconst (v := 5) hx hb dL_law_223 (by decide) ?_
  refine lv_iadd hx hb dL_law_224 ?_
  refine va_sld hx hb hX hbl hbA hS h5 dL_law_225 ?_
  obtain ⟨σ2, ra, f2, w2, qa, ec, em, hI2, hcmp⟩ := law_s_feed (xs (Int32.toNatClampNeg (i + 1))) (xs (Int32.toNatClampNeg (i + 2))) (xs (Int32.toNatClampNeg (i + 3))) (xs (Int32.toNatClampNeg (i + 4))) (xs (Int32.toNatClampNeg (i + 5))) w hI
  refine gb_calli (va_runV (C := RX11) (As := [.int (xs (Int32.toNatClampNeg (i + 1))), .int (xs (Int32.toNatClampNeg (i + 2))), .int (xs (Int32.toNatClampNeg (i + 3))), .int (xs (Int32.toNatClampNeg (i + 4))), .int (xs (Int32.toNatClampNeg (i + 5)))]) (rest := []) ⟨hx, hb, hml, hown, hq⟩ (cc_Face_feed l D cT tt z z (Nat.le_refl z) gb_N σ (xs (Int32.toNatClampNeg (i + 1))) (xs (Int32.toNatClampNeg (i + 2))) (xs (Int32.toNatClampNeg (i + 3))) (xs (Int32.toNatClampNeg (i + 4))) (xs (Int32.toNatClampNeg (i + 5))) σ2 ra ec) (cwV 5 hq (gb_gV w_346 w_347 w_348 w_1 w_349) rfl rfl rfl (by decide +kernel) ⟨Nat.le_of_ble_eq_true rfl, Nat.le_of_ble_eq_true rfl⟩) (gb_preV (r := (RX11, TX11, 10)) (ci := 9) (q0 := 0) hSt2.1 hPc rfl (gb_at z rfl) hS (fun q h => h) hPc) rfl rfl hl.1 rfl (lv_room (Nat.le_of_ble_eq_true rfl)) dL_law_226 ⟨Nat.le_of_ble_eq_true rfl, Nat.le_of_ble_eq_true rfl⟩) hS (fun q h => h.1) (fun q h => h.1) (fun rc H2 locs2 hY hk hS => ?_)
  obtain ⟨hr_, hY⟩ := hY
  subst hr_
  have hPm := gb_kept hPm (fun q h1 h2 => hk q (Nat.lt_of_lt_of_le h2 ((hPm 21 _ (gb_at (z + 135) rfl)).lt)) (fun h3 => Nat.not_lt.mpr h1 h3.2))
  have hPc := hY
  clear hY
  refine lv_pop hx hb dL_law_229 rfl ?_
  refine lv_aload_n hx hb dL_law_230 rfl (lv_at hl 1 rfl) ?_
  refine lv_aload_n hx hb dL_law_231 rfl (lv_at hl 3 rfl) ?_
  refine lv_iload_n hx hb dL_law_232 rfl (lv_at hl 0 rfl) ?_
  refine lv_iconst (v := 1) hx hb dL_law_233 (by decide) ?_
  refine lv_iadd hx hb dL_law_234 ?_
  refine va_sld hx hb hX hbl hbA hS h1 dL_law_235 ?_
  refine lv_aload_n hx hb dL_law_236 rfl (lv_at hl 3 rfl) ?_
  refine lv_iload_n hx hb dL_law_237 rfl (lv_at hl 0 rfl) ?_
  refine lv_iconst (v := 2) hx hb dL_law_238 (by decide) ?_
  refine lv_iadd hx hb dL_law_239 ?_
  refine va_sld hx hb hX hbl hbA hS h2 dL_law_240 ?_
  refine lv_aload_n hx hb dL_law_241 rfl (lv_at hl 3 rfl) ?_
  refine lv_iload_n hx hb dL_law_242 rfl (lv_at hl 0 rfl) ?_
  refine lv_iconst (v := 3) hx hb dL_law_243 (by decide) ?_
  refine lv_iadd hx hb dL_law_244 ?_
  refine va_sld hx hb hX hbl hbA hS h3 dL_law_245 ?_
  refine lv_aload_n hx hb dL_law_246 rfl (lv_at hl 3 rfl) ?_
  refine lv_iload_n hx hb dL_law_247 rfl (lv_at hl 0 rfl) ?_
  refine lv_iconst (v := 4) hx hb dL_law_248 (by decide) ?_
  refine lv_iadd hx hb dL_law_249 ?_
  refine va_sld hx hb hX hbl hbA hS h4 dL_law_250 ?_
  refine lv_aload_n hx hb dL_law_251 rfl (lv_at hl 3 rfl) ?_
  refine lv_iload_n hx hb dL_law_252 rfl (lv_at hl 0 rfl) ?_
  refine lv_iconst (v := 5) hx hb dL_law_253 (by decide) ?_
  refine lv_iadd hx hb dL_law_254 ?_
  refine va_sld hx hb hX hbl hbA hS h5 dL_law_255 ?_
  refine gb_calli (va_runV (C := RX12) (As := [.int (xs (Int32.toNatClampNeg (i + 1))), .int (xs (Int32.toNatClampNeg (i + 2))), .int (xs (Int32.toNatClampNeg (i + 3))), .int (xs (Int32.toNatClampNeg (i + 4))), .int (xs (Int32.toNatClampNeg (i + 5)))]) (rest := []) ⟨hx, hb, hml, hown, hq⟩ (mc_feed l D cT tt z (z + 135) (Nat.le_add_right z 135) gb_N f w (xs (Int32.toNatClampNeg (i + 1))) (xs (Int32.toNatClampNeg (i + 2))) (xs (Int32.toNatClampNeg (i + 3))) (xs (Int32.toNatClampNeg (i + 4))) (xs (Int32.toNatClampNeg (i + 5))) f2 w2 qa em) (cwV 5 hq (gb_gV w_1257 w_1258 w_1259 w_14 w_1260) rfl rfl rfl (by decide +kernel) ⟨Nat.le_of_ble_eq_true rfl, Nat.le_of_ble_eq_true rfl⟩) (gb_preV (r := (RX12, TX12, 44)) (ci := 10) (q0 := 0) hSt2.1 hPm rfl (gb_at (z + 135) rfl) hS (fun q h => h) hPm) rfl rfl hl.1 rfl (lv_room (Nat.le_of_ble_eq_true rfl)) dL_law_256 ⟨Nat.le_of_ble_eq_true rfl, Nat.le_of_ble_eq_true rfl⟩) hS (fun q h => Nat.le_trans (Nat.le_add_right z 135) h.1) (fun q h => Nat.le_trans (Nat.le_add_right z 135) h.1) (fun rm H2 locs2 hY hk hS => ?_)
  obtain ⟨hr_, hY⟩ := hY
  subst hr_
  have hPc := gb_kept hPc (fun q h1 h2 => hk q (Nat.lt_of_lt_of_le h2 (Nat.le_of_lt (Nat.lt_of_le_of_lt (Nat.le_add_right (z + 135) 21) ((hPm 21 _ (gb_at (z + 135) rfl)).lt)))) (fun h3 => Nat.not_lt.mpr h3.1 h2))
  have hPm := hY
  clear hY
  refine lv_pop hx hb dL_law_259 rfl ?_
  refine lv_goto (tgt := 1890) hx hb dL_law_260 (by decide) ?_
  exact hend _ _ _ _ _ _ hI2 hPc hPm hS hl
theorem dL_law_263 : decode cL_law 263 = .ok (.aload_n 1, 1) := dc_43 (dc_cut (j := 7) (n := 1) (l := [43]) dq_cL_law_256 (by decide +kernel) (by decide))
theorem dL_law_264 : decode cL_law 264 = .ok (.aload_n 0, 1) := dc_42 (dc_cut (j := 8) (n := 1) (l := [42]) dq_cL_law_256 (by decide +kernel) (by decide))
theorem dL_law_265 : decode cL_law 265 = .ok (.iload_n 3, 1) := dc_29 (dc_cut (j := 9) (n := 1) (l := [29]) dq_cL_law_256 (by decide +kernel) (by decide))
theorem dL_law_266 : decode cL_law 266 = .ok (.iconst 1, 1) := dc_4 (dc_cut (j := 10) (n := 1) (l := [4]) dq_cL_law_256 (by decide +kernel) (by decide))
theorem dL_law_267 : decode cL_law 267 = .ok (.iadd, 1) := dc_96 (dc_cut (j := 11) (n := 1) (l := [96]) dq_cL_law_256 (by decide +kernel) (by decide))
theorem dL_law_268 : decode cL_law 268 = .ok (.iaload, 1) := dc_46 (dc_cut (j := 12) (n := 1) (l := [46]) dq_cL_law_256 (by decide +kernel) (by decide))
theorem dL_law_269 : decode cL_law 269 = .ok (.invokevirtual 18, 3) := dc_182 (dc_cut (j := 13) (n := 3) (l := [182, 0, 18]) dq_cL_law_256 (by decide +kernel) (by decide)) rfl
theorem w_354 : (Cond.methodLink "GooseBorderLaw" (18 : Nat) ({ cls := "GooseBorder", name := "end", desc := "(I)I" } : MethodName)) ∈ gb_wA := gb_t2 114 rfl rfl
theorem w_355 : (Cond.instanceMethod ({ cls := "GooseBorder", name := "end", desc := "(I)I" } : MethodName)) ∈ gb_wA := gb_t2 115 rfl rfl
theorem w_356 : (Cond.selects "GooseBorder" ({ cls := "GooseBorder", name := "end", desc := "(I)I" } : MethodName) ({ cls := "GooseBorder", name := "end", desc := "(I)I" } : MethodName)) ∈ gb_wA := gb_t2 116 rfl rfl
theorem w_357 : (Cond.code ({ cls := "GooseBorder", name := "end", desc := "(I)I" } : MethodName) prog_1_method_3_code (2 : Nat) (Option.some FieldType.int)) ∈ gb_wA := gb_t2 117 rfl rfl
theorem dL_law_272 : decode cL_law 272 = .ok (.pop, 1) := dc_87 (dc_cut (j := 16) (n := 1) (l := [87]) dq_cL_law_256 (by decide +kernel) (by decide))
theorem dL_law_273 : decode cL_law 273 = .ok (.aload_n 2, 1) := dc_44 (dc_cut (j := 17) (n := 1) (l := [44]) dq_cL_law_256 (by decide +kernel) (by decide))
theorem dL_law_274 : decode cL_law 274 = .ok (.aload_n 0, 1) := dc_42 (dc_cut (j := 18) (n := 1) (l := [42]) dq_cL_law_256 (by decide +kernel) (by decide))
theorem dL_law_275 : decode cL_law 275 = .ok (.iload_n 3, 1) := dc_29 (dc_cut (j := 19) (n := 1) (l := [29]) dq_cL_law_256 (by decide +kernel) (by decide))
theorem dL_law_276 : decode cL_law 276 = .ok (.iconst 1, 1) := dc_4 (dc_cut (j := 20) (n := 1) (l := [4]) dq_cL_law_256 (by decide +kernel) (by decide))
theorem dL_law_277 : decode cL_law 277 = .ok (.iadd, 1) := dc_96 (dc_cut (j := 21) (n := 1) (l := [96]) dq_cL_law_256 (by decide +kernel) (by decide))
theorem dL_law_278 : decode cL_law 278 = .ok (.iaload, 1) := dc_46 (dc_cut (j := 22) (n := 1) (l := [46]) dq_cL_law_256 (by decide +kernel) (by decide))
theorem dL_law_279 : decode cL_law 279 = .ok (.invokevirtual 22, 3) := dc_182 (dc_cut (j := 23) (n := 3) (l := [182, 0, 22]) dq_cL_law_256 (by decide +kernel) (by decide)) rfl
theorem w_1261 : (Cond.methodLink "GooseBorderLaw" (22 : Nat) ({ cls := "GooseBorderModel", name := "end", desc := "(I)I" } : MethodName)) ∈ gb_wA := gb_t6 61 rfl rfl
theorem w_1262 : (Cond.instanceMethod ({ cls := "GooseBorderModel", name := "end", desc := "(I)I" } : MethodName)) ∈ gb_wA := gb_t6 62 rfl rfl
theorem w_1263 : (Cond.selects "GooseBorderModel" ({ cls := "GooseBorderModel", name := "end", desc := "(I)I" } : MethodName) ({ cls := "GooseBorderModel", name := "end", desc := "(I)I" } : MethodName)) ∈ gb_wA := gb_t6 63 rfl rfl
theorem w_1264 : (Cond.code ({ cls := "GooseBorderModel", name := "end", desc := "(I)I" } : MethodName) prog_14_method_4_code (2 : Nat) (Option.some FieldType.int)) ∈ gb_wA := gb_t6 64 rfl rfl
theorem dL_law_282 : decode cL_law 282 = .ok (.pop, 1) := dc_87 (dc_cut (j := 26) (n := 1) (l := [87]) dq_cL_law_256 (by decide +kernel) (by decide))
theorem dL_law_283 : decode cL_law 283 = .ok (.goto 1607, 3) := dc_167 (dc_cut (j := 27) (n := 3) (l := [167, 6, 71]) dq_cL_law_256 (by decide +kernel) (by decide)) rfl
set_option maxHeartbeats 4000000 in
set_option maxRecDepth 100000 in
theorem law_c1 {p : Program} {l : Launch} {e : Env} {s : State} {m : MethodId} {below : List Frame} {meth : Method} {c : Code} {b z L : Nat} {xs : Nat → Int32} (C0 : lw_At p s m meth c b L xs) (hzz : Array.size s.heap = z) {D : va_G} {cT : Nat → ClassId} {tt ak av : Nat → Nat} (hSt2 : gb_St2 D cT tt ak av z s) {i : Int32} (h1 : vp_in (i + 1) L) (h2 : vp_in (i + 2) L) (h3 : vp_in (i + 3) L) (h4 : vp_in (i + 4) L) (h5 : vp_in (i + 5) L) (hend : ∀ (σ : gb_S) (f : gb_F) (w : Int64) (H : Heap) (locs : List Loc) (ls : Array Slot), gb_Inv σ f → va_P D vwCl (gb_wl z (gb_CW cT z σ)) H → va_P D vwCl (gb_wl (z + 135) (gb_MW cT (z + 135) f w)) H → va_S (gb_ge z) s.heap H locs → lv_has ls 4 [(3, .int i), (2, .ref (z + 135 + 0)), (1, .ref (z + 0)), (0, .ref b)] → W p l e room_1 s m #[Value.ref b] below meth c H locs 157 10381 (lw_Z below #[Value.ref b] s) (F0 m 1890 ls [])) : ∀ (σ : gb_S) (f : gb_F) (w : Int64) (H : Heap) (locs : List Loc) (ls : Array Slot), gb_Inv σ f → va_P D vwCl (gb_wl z (gb_CW cT z σ)) H → va_P D vwCl (gb_wl (z + 135) (gb_MW cT (z + 135) f w)) H → va_S (gb_ge z) s.heap H locs → lv_has ls 4 [(3, .int i), (2, .ref (z + 135 + 0)), (1, .ref (z + 0)), (0, .ref b)] → W p l e room_1 s m #[Value.ref b] below meth c H locs 157 10381 (lw_Z below #[Value.ref b] s) (F0 m 263 ls []) := by
  obtain ⟨hx, hb, hr, hml, hown, hts, hX, hbl, hlocks, hgv⟩ := C0
  have hq : ∀ w ∈ gb_wA, w.before #[Value.ref b] s = true := fun w h => hts w (gb_wA_tbl w h)
  have hbA : ¬ gb_ge z b := Nat.not_le.mpr (by rw [← hzz]; exact hbl)
  intro σ f w H locs ls hI hPc hPm hS hl
  refine lv_aload_n hx hb dL_law_263 rfl (lv_at hl 2 rfl) ?_
  refine lv_aload_n hx hb dL_law_264 rfl (lv_at hl 3 rfl) ?_
  refine lv_iload_n hx hb dL_law_265 rfl (lv_at hl 0 rfl) ?_
  refine lv_iconst (v := 1) hx hb dL_law_266 (by decide) ?_
  refine lv_iadd hx hb dL_law_267 ?_
  refine va_sld hx hb hX hbl hbA hS h1 dL_law_268 ?_
  obtain ⟨σ2, ra, f2, w2, qa, ec, em, hI2, hcmp⟩ := law_s_end (xs (Int32.toNatClampNeg (i + 1))) w hI
  refine gb_calli (va_runV (C := RX11) (As := [.int (xs (Int32.toNatClampNeg (i + 1)))]) (rest := []) ⟨hx, hb, hml, hown, hq⟩ (cc_Face_end l D cT tt z z (Nat.le_refl z) gb_N σ (xs (Int32.toNatClampNeg (i + 1))) σ2 ra ec) (cwV 1 hq (gb_gV w_354 w_355 w_356 w_1 w_357) rfl rfl rfl (by decide +kernel) ⟨Nat.le_of_ble_eq_true rfl, Nat.le_of_ble_eq_true rfl⟩) (gb_preV (r := (RX11, TX11, 10)) (ci := 9) (q0 := 0) hSt2.1 hPc rfl (gb_at z rfl) hS (fun q h => h) hPc) rfl rfl hl.1 rfl (lv_room (Nat.le_of_ble_eq_true rfl)) dL_law_269 ⟨Nat.le_of_ble_eq_true rfl, Nat.le_of_ble_eq_true rfl⟩) hS (fun q h => h.1) (fun q h => h.1) (fun rc H2 locs2 hY hk hS => ?_)
  obtain ⟨hr_, hY⟩ := hY
  subst hr_
  have hPm := gb_kept hPm (fun q h1 h2 => hk q (Nat.lt_of_lt_of_le h2 ((hPm 21 _ (gb_at (z + 135) rfl)).lt)) (fun h3 => Nat.not_lt.mpr h1 h3.2))
  have hPc := hY
  clear hY
  refine lv_pop hx hb dL_law_272 rfl ?_
  refine lv_aload_n hx hb dL_law_273 rfl (lv_at hl 1 rfl) ?_
  refine lv_aload_n hx hb dL_law_274 rfl (lv_at hl 3 rfl) ?_
  refine lv_iload_n hx hb dL_law_275 rfl (lv_at hl 0 rfl) ?_
  refine lv_iconst (v := 1) hx hb dL_law_276 (by decide) ?_
  refine lv_iadd hx hb dL_law_277 ?_
  refine va_sld hx hb hX hbl hbA hS h1 dL_law_278 ?_
  refine gb_calli (va_runV (C := RX12) (As := [.int (xs (Int32.toNatClampNeg (i + 1)))]) (rest := []) ⟨hx, hb, hml, hown, hq⟩ (mc_end l D cT tt z (z + 135) (Nat.le_add_right z 135) gb_N f w (xs (Int32.toNatClampNeg (i + 1))) f2 w2 qa em) (cwV 1 hq (gb_gV w_1261 w_1262 w_1263 w_14 w_1264) rfl rfl rfl (by decide +kernel) ⟨Nat.le_of_ble_eq_true rfl, Nat.le_of_ble_eq_true rfl⟩) (gb_preV (r := (RX12, TX12, 44)) (ci := 10) (q0 := 0) hSt2.1 hPm rfl (gb_at (z + 135) rfl) hS (fun q h => h) hPm) rfl rfl hl.1 rfl (lv_room (Nat.le_of_ble_eq_true rfl)) dL_law_279 ⟨Nat.le_of_ble_eq_true rfl, Nat.le_of_ble_eq_true rfl⟩) hS (fun q h => Nat.le_trans (Nat.le_add_right z 135) h.1) (fun q h => Nat.le_trans (Nat.le_add_right z 135) h.1) (fun rm H2 locs2 hY hk hS => ?_)
  obtain ⟨hr_, hY⟩ := hY
  subst hr_
  have hPc := gb_kept hPc (fun q h1 h2 => hk q (Nat.lt_of_lt_of_le h2 (Nat.le_of_lt (Nat.lt_of_le_of_lt (Nat.le_add_right (z + 135) 21) ((hPm 21 _ (gb_at (z + 135) rfl)).lt)))) (fun h3 => Nat.not_lt.mpr h3.1 h2))
  have hPm := hY
  clear hY
  refine lv_pop hx hb dL_law_282 rfl ?_
  refine lv_goto (tgt := 1890) hx hb dL_law_283 (by decide) ?_
  exact hend _ _ _ _ _ _ hI2 hPc hPm hS hl
theorem dL_law_286 : decode cL_law 286 = .ok (.aload_n 1, 1) := dc_43 (dc_cut (j := 30) (n := 1) (l := [43]) dq_cL_law_256 (by decide +kernel) (by decide))
theorem dL_law_287 : decode cL_law 287 = .ok (.aload_n 0, 1) := dc_42 (dc_cut (j := 31) (n := 1) (l := [42]) dq_cL_law_256 (by decide +kernel) (by decide))
theorem dL_law_288 : decode cL_law 288 = .ok (.iload_n 3, 1) := dc_29 (dc_cut (j := 32) (n := 1) (l := [29]) dq_cL_law_256 (by decide +kernel) (by decide))
theorem dL_law_289 : decode cL_law 289 = .ok (.iconst 1, 1) := dc_4 (dc_cut (j := 33) (n := 1) (l := [4]) dq_cL_law_256 (by decide +kernel) (by decide))
theorem dL_law_290 : decode cL_law 290 = .ok (.iadd, 1) := dc_96 (dc_cut (j := 34) (n := 1) (l := [96]) dq_cL_law_256 (by decide +kernel) (by decide))
theorem dL_law_291 : decode cL_law 291 = .ok (.iaload, 1) := dc_46 (dc_cut (j := 35) (n := 1) (l := [46]) dq_cL_law_256 (by decide +kernel) (by decide))
theorem dL_law_292 : decode cL_law 292 = .ok (.aload_n 0, 1) := dc_42 (dc_cut (j := 36) (n := 1) (l := [42]) dq_cL_law_256 (by decide +kernel) (by decide))
theorem dL_law_293 : decode cL_law 293 = .ok (.iload_n 3, 1) := dc_29 (dc_cut (j := 37) (n := 1) (l := [29]) dq_cL_law_256 (by decide +kernel) (by decide))
theorem dL_law_294 : decode cL_law 294 = .ok (.iconst 2, 1) := dc_5 (dc_cut (j := 38) (n := 1) (l := [5]) dq_cL_law_256 (by decide +kernel) (by decide))
theorem dL_law_295 : decode cL_law 295 = .ok (.iadd, 1) := dc_96 (dc_cut (j := 39) (n := 1) (l := [96]) dq_cL_law_256 (by decide +kernel) (by decide))
theorem dL_law_296 : decode cL_law 296 = .ok (.iaload, 1) := dc_46 (dc_cut (j := 40) (n := 1) (l := [46]) dq_cL_law_256 (by decide +kernel) (by decide))
theorem dL_law_297 : decode cL_law 297 = .ok (.invokevirtual 23, 3) := dc_182 (dc_cut (j := 41) (n := 3) (l := [182, 0, 23]) dq_cL_law_256 (by decide +kernel) (by decide)) rfl
theorem w_358 : (Cond.methodLink "GooseBorderLaw" (23 : Nat) ({ cls := "GooseBorder", name := "text", desc := "(II)I" } : MethodName)) ∈ gb_wA := gb_t2 118 rfl rfl
theorem w_359 : (Cond.instanceMethod ({ cls := "GooseBorder", name := "text", desc := "(II)I" } : MethodName)) ∈ gb_wA := gb_t2 119 rfl rfl
theorem w_360 : (Cond.selects "GooseBorder" ({ cls := "GooseBorder", name := "text", desc := "(II)I" } : MethodName) ({ cls := "GooseBorder", name := "text", desc := "(II)I" } : MethodName)) ∈ gb_wA := gb_t2 120 rfl rfl
theorem w_361 : (Cond.code ({ cls := "GooseBorder", name := "text", desc := "(II)I" } : MethodName) prog_1_method_4_code (8 : Nat) (Option.some FieldType.int)) ∈ gb_wA := gb_t2 121 rfl rfl
theorem dL_law_300 : decode cL_law 300 = .ok (.pop, 1) := dc_87 (dc_cut (j := 44) (n := 1) (l := [87]) dq_cL_law_256 (by decide +kernel) (by decide))
theorem dL_law_301 : decode cL_law 301 = .ok (.aload_n 2, 1) := dc_44 (dc_cut (j := 45) (n := 1) (l := [44]) dq_cL_law_256 (by decide +kernel) (by decide))
theorem dL_law_302 : decode cL_law 302 = .ok (.aload_n 0, 1) := dc_42 (dc_cut (j := 46) (n := 1) (l := [42]) dq_cL_law_256 (by decide +kernel) (by decide))
theorem dL_law_303 : decode cL_law 303 = .ok (.iload_n 3, 1) := dc_29 (dc_cut (j := 47) (n := 1) (l := [29]) dq_cL_law_256 (by decide +kernel) (by decide))
theorem dL_law_304 : decode cL_law 304 = .ok (.iconst 1, 1) := dc_4 (dc_cut (j := 48) (n := 1) (l := [4]) dq_cL_law_256 (by decide +kernel) (by decide))
theorem dL_law_305 : decode cL_law 305 = .ok (.iadd, 1) := dc_96 (dc_cut (j := 49) (n := 1) (l := [96]) dq_cL_law_256 (by decide +kernel) (by decide))
theorem dL_law_306 : decode cL_law 306 = .ok (.iaload, 1) := dc_46 (dc_cut (j := 50) (n := 1) (l := [46]) dq_cL_law_256 (by decide +kernel) (by decide))
theorem dL_law_307 : decode cL_law 307 = .ok (.aload_n 0, 1) := dc_42 (dc_cut (j := 51) (n := 1) (l := [42]) dq_cL_law_256 (by decide +kernel) (by decide))
theorem dL_law_308 : decode cL_law 308 = .ok (.iload_n 3, 1) := dc_29 (dc_cut (j := 52) (n := 1) (l := [29]) dq_cL_law_256 (by decide +kernel) (by decide))
theorem dL_law_309 : decode cL_law 309 = .ok (.iconst 2, 1) := dc_5 (dc_cut (j := 53) (n := 1) (l := [5]) dq_cL_law_256 (by decide +kernel) (by decide))
theorem dL_law_310 : decode cL_law 310 = .ok (.iadd, 1) := dc_96 (dc_cut (j := 54) (n := 1) (l := [96]) dq_cL_law_256 (by decide +kernel) (by decide))
theorem dL_law_311 : decode cL_law 311 = .ok (.iaload, 1) := dc_46 (dc_cut (j := 55) (n := 1) (l := [46]) dq_cL_law_256 (by decide +kernel) (by decide))
theorem dL_law_312 : decode cL_law 312 = .ok (.invokevirtual 27, 3) := dc_182 (dc_cut (j := 56) (n := 3) (l := [182, 0, 27]) dq_cL_law_256 (by decide +kernel) (by decide)) rfl
theorem w_1265 : (Cond.methodLink "GooseBorderLaw" (27 : Nat) ({ cls := "GooseBorderModel", name := "text", desc := "(II)I" } : MethodName)) ∈ gb_wA := gb_t6 65 rfl rfl
theorem w_1266 : (Cond.instanceMethod ({ cls := "GooseBorderModel", name := "text", desc := "(II)I" } : MethodName)) ∈ gb_wA := gb_t6 66 rfl rfl
theorem w_1267 : (Cond.selects "GooseBorderModel" ({ cls := "GooseBorderModel", name := "text", desc := "(II)I" } : MethodName) ({ cls := "GooseBorderModel", name := "text", desc := "(II)I" } : MethodName)) ∈ gb_wA := gb_t6 67 rfl rfl
theorem w_1268 : (Cond.code ({ cls := "GooseBorderModel", name := "text", desc := "(II)I" } : MethodName) prog_14_method_29_code (5 : Nat) (Option.some FieldType.int)) ∈ gb_wA := gb_t6 68 rfl rfl
theorem dL_law_315 : decode cL_law 315 = .ok (.pop, 1) := dc_87 (dc_cut (j := 59) (n := 1) (l := [87]) dq_cL_law_256 (by decide +kernel) (by decide))
theorem dL_law_316 : decode cL_law 316 = .ok (.goto 1574, 3) := dc_167 (dc_cut (j := 60) (n := 3) (l := [167, 6, 38]) dq_cL_law_256 (by decide +kernel) (by decide)) rfl
set_option maxHeartbeats 4000000 in
set_option maxRecDepth 100000 in
theorem law_c2 {p : Program} {l : Launch} {e : Env} {s : State} {m : MethodId} {below : List Frame} {meth : Method} {c : Code} {b z L : Nat} {xs : Nat → Int32} (C0 : lw_At p s m meth c b L xs) (hzz : Array.size s.heap = z) {D : va_G} {cT : Nat → ClassId} {tt ak av : Nat → Nat} (hSt2 : gb_St2 D cT tt ak av z s) {i : Int32} (h1 : vp_in (i + 1) L) (h2 : vp_in (i + 2) L) (h3 : vp_in (i + 3) L) (h4 : vp_in (i + 4) L) (h5 : vp_in (i + 5) L) (hend : ∀ (σ : gb_S) (f : gb_F) (w : Int64) (H : Heap) (locs : List Loc) (ls : Array Slot), gb_Inv σ f → va_P D vwCl (gb_wl z (gb_CW cT z σ)) H → va_P D vwCl (gb_wl (z + 135) (gb_MW cT (z + 135) f w)) H → va_S (gb_ge z) s.heap H locs → lv_has ls 4 [(3, .int i), (2, .ref (z + 135 + 0)), (1, .ref (z + 0)), (0, .ref b)] → W p l e room_1 s m #[Value.ref b] below meth c H locs 157 10381 (lw_Z below #[Value.ref b] s) (F0 m 1890 ls [])) : ∀ (σ : gb_S) (f : gb_F) (w : Int64) (H : Heap) (locs : List Loc) (ls : Array Slot), gb_Inv σ f → va_P D vwCl (gb_wl z (gb_CW cT z σ)) H → va_P D vwCl (gb_wl (z + 135) (gb_MW cT (z + 135) f w)) H → va_S (gb_ge z) s.heap H locs → lv_has ls 4 [(3, .int i), (2, .ref (z + 135 + 0)), (1, .ref (z + 0)), (0, .ref b)] → W p l e room_1 s m #[Value.ref b] below meth c H locs 157 10381 (lw_Z below #[Value.ref b] s) (F0 m 286 ls []) := by
  obtain ⟨hx, hb, hr, hml, hown, hts, hX, hbl, hlocks, hgv⟩ := C0
  have hq : ∀ w ∈ gb_wA, w.before #[Value.ref b] s = true := fun w h => hts w (gb_wA_tbl w h)
  have hbA : ¬ gb_ge z b := Nat.not_le.mpr (by rw [← hzz]; exact hbl)
  intro σ f w H locs ls hI hPc hPm hS hl
  refine lv_aload_n hx hb dL_law_286 rfl (lv_at hl 2 rfl) ?_
  refine lv_aload_n hx hb dL_law_287 rfl (lv_at hl 3 rfl) ?_
  refine lv_iload_n hx hb dL_law_288 rfl (lv_at hl 0 rfl) ?_
  refine lv_iconst (v := 1) hx hb dL_law_289 (by decide) ?_
  refine lv_iadd hx hb dL_law_290 ?_
  refine va_sld hx hb hX hbl hbA hS h1 dL_law_291 ?_
  refine lv_aload_n hx hb dL_law_292 rfl (lv_at hl 3 rfl) ?_
  refine lv_iload_n hx hb dL_law_293 rfl (lv_at hl 0 rfl) ?_
  refine lv_iconst (v := 2) hx hb dL_law_294 (by decide) ?_
  refine lv_iadd hx hb dL_law_295 ?_
  refine va_sld hx hb hX hbl hbA hS h2 dL_law_296 ?_
  obtain ⟨σ2, ra, f2, w2, qa, ec, em, hI2, hcmp⟩ := law_s_text (xs (Int32.toNatClampNeg (i + 1))) (xs (Int32.toNatClampNeg (i + 2))) w hI
  refine gb_calli (va_runV (C := RX11) (As := [.int (xs (Int32.toNatClampNeg (i + 1))), .int (xs (Int32.toNatClampNeg (i + 2)))]) (rest := []) ⟨hx, hb, hml, hown, hq⟩ (cc_Face_text l D cT tt ak av z z (Nat.le_refl z) gb_N σ (xs (Int32.toNatClampNeg (i + 1))) (xs (Int32.toNatClampNeg (i + 2))) σ2 ra ec) (cwV 2 hq (gb_gV w_358 w_359 w_360 w_1 w_361) rfl rfl rfl (by decide +kernel) ⟨Nat.le_of_ble_eq_true rfl, Nat.le_of_ble_eq_true rfl⟩) (gb_preV2 (r := (RX11, TX11, 10)) (ci := 9) (q0 := 0) hSt2 hPc rfl (gb_at z rfl) hS (fun q h => h) hPc) rfl rfl hl.1 rfl (lv_room (Nat.le_of_ble_eq_true rfl)) dL_law_297 ⟨Nat.le_of_ble_eq_true rfl, Nat.le_of_ble_eq_true rfl⟩) hS (fun q h => h.1) (fun q h => h.1) (fun rc H2 locs2 hY hk hS => ?_)
  obtain ⟨hr_, hY⟩ := hY
  subst hr_
  have hPm := gb_kept hPm (fun q h1 h2 => hk q (Nat.lt_of_lt_of_le h2 ((hPm 21 _ (gb_at (z + 135) rfl)).lt)) (fun h3 => Nat.not_lt.mpr h1 h3.2))
  have hPc := hY
  clear hY
  refine lv_pop hx hb dL_law_300 rfl ?_
  refine lv_aload_n hx hb dL_law_301 rfl (lv_at hl 1 rfl) ?_
  refine lv_aload_n hx hb dL_law_302 rfl (lv_at hl 3 rfl) ?_
  refine lv_iload_n hx hb dL_law_303 rfl (lv_at hl 0 rfl) ?_
  refine lv_iconst (v := 1) hx hb dL_law_304 (by decide) ?_
  refine lv_iadd hx hb dL_law_305 ?_
  refine va_sld hx hb hX hbl hbA hS h1 dL_law_306 ?_
  refine lv_aload_n hx hb dL_law_307 rfl (lv_at hl 3 rfl) ?_
  refine lv_iload_n hx hb dL_law_308 rfl (lv_at hl 0 rfl) ?_
  refine lv_iconst (v := 2) hx hb dL_law_309 (by decide) ?_
  refine lv_iadd hx hb dL_law_310 ?_
  refine va_sld hx hb hX hbl hbA hS h2 dL_law_311 ?_
  refine gb_calli (va_runV (C := RX12) (As := [.int (xs (Int32.toNatClampNeg (i + 1))), .int (xs (Int32.toNatClampNeg (i + 2)))]) (rest := []) ⟨hx, hb, hml, hown, hq⟩ (mc_text l D cT tt z (z + 135) (Nat.le_add_right z 135) gb_N f w (xs (Int32.toNatClampNeg (i + 1))) (xs (Int32.toNatClampNeg (i + 2))) f2 w2 qa em) (cwV 2 hq (gb_gV w_1265 w_1266 w_1267 w_14 w_1268) rfl rfl rfl (by decide +kernel) ⟨Nat.le_of_ble_eq_true rfl, Nat.le_of_ble_eq_true rfl⟩) (gb_preV (r := (RX12, TX12, 44)) (ci := 10) (q0 := 0) hSt2.1 hPm rfl (gb_at (z + 135) rfl) hS (fun q h => h) hPm) rfl rfl hl.1 rfl (lv_room (Nat.le_of_ble_eq_true rfl)) dL_law_312 ⟨Nat.le_of_ble_eq_true rfl, Nat.le_of_ble_eq_true rfl⟩) hS (fun q h => Nat.le_trans (Nat.le_add_right z 135) h.1) (fun q h => Nat.le_trans (Nat.le_add_right z 135) h.1) (fun rm H2 locs2 hY hk hS => ?_)
  obtain ⟨hr_, hY⟩ := hY
  subst hr_
  have hPc := gb_kept hPc (fun q h1 h2 => hk q (Nat.lt_of_lt_of_le h2 (Nat.le_of_lt (Nat.lt_of_le_of_lt (Nat.le_add_right (z + 135) 21) ((hPm 21 _ (gb_at (z + 135) rfl)).lt)))) (fun h3 => Nat.not_lt.mpr h3.1 h2))
  have hPm := hY
  clear hY
  refine lv_pop hx hb dL_law_315 rfl ?_
  refine lv_goto (tgt := 1890) hx hb dL_law_316 (by decide) ?_
  exact hend _ _ _ _ _ _ hI2 hPc hPm hS hl
theorem dL_law_319 : decode cL_law 319 = .ok (.aload_n 1, 1) := dc_43 (dc_cut (j := 63) (n := 1) (l := [43]) dq_cL_law_256 (by decide +kernel) (by decide))
theorem dq_cL_law_320 : ((cL_law.data.toList.drop 320).take 67).map UInt8.toNat = [42, 29, 4, 96, 46, 182, 0, 28, 87, 44, 42, 29, 4, 96, 46, 182, 0, 31, 87, 167, 6, 15, 43, 42, 29, 4, 96, 46, 42, 29, 5, 96, 46, 182, 0, 32, 87, 44, 42, 29, 4, 96, 46, 42, 29, 5, 96, 46, 182, 0, 35, 87, 167, 5, 238, 43, 42, 29, 4, 96, 46, 42, 29, 5, 96, 46, 42] := by decide +kernel
theorem dL_law_320 : decode cL_law 320 = .ok (.aload_n 0, 1) := dc_42 (dc_cut (j := 0) (n := 1) (l := [42]) dq_cL_law_320 (by decide +kernel) (by decide))
theorem dL_law_321 : decode cL_law 321 = .ok (.iload_n 3, 1) := dc_29 (dc_cut (j := 1) (n := 1) (l := [29]) dq_cL_law_320 (by decide +kernel) (by decide))
theorem dL_law_322 : decode cL_law 322 = .ok (.iconst 1, 1) := dc_4 (dc_cut (j := 2) (n := 1) (l := [4]) dq_cL_law_320 (by decide +kernel) (by decide))
theorem dL_law_323 : decode cL_law 323 = .ok (.iadd, 1) := dc_96 (dc_cut (j := 3) (n := 1) (l := [96]) dq_cL_law_320 (by decide +kernel) (by decide))
theorem dL_law_324 : decode cL_law 324 = .ok (.iaload, 1) := dc_46 (dc_cut (j := 4) (n := 1) (l := [46]) dq_cL_law_320 (by decide +kernel) (by decide))
theorem dL_law_325 : decode cL_law 325 = .ok (.invokevirtual 28, 3) := dc_182 (dc_cut (j := 5) (n := 3) (l := [182, 0, 28]) dq_cL_law_320 (by decide +kernel) (by decide)) rfl
theorem w_566 : (Cond.methodLink "GooseBorderLaw" (28 : Nat) ({ cls := "GooseBorder", name := "fault", desc := "(I)I" } : MethodName)) ∈ gb_wA := gb_t3 86 rfl rfl
theorem w_567 : (Cond.instanceMethod ({ cls := "GooseBorder", name := "fault", desc := "(I)I" } : MethodName)) ∈ gb_wA := gb_t3 87 rfl rfl
theorem w_568 : (Cond.selects "GooseBorder" ({ cls := "GooseBorder", name := "fault", desc := "(I)I" } : MethodName) ({ cls := "GooseBorder", name := "fault", desc := "(I)I" } : MethodName)) ∈ gb_wA := gb_t3 88 rfl rfl
theorem w_569 : (Cond.code ({ cls := "GooseBorder", name := "fault", desc := "(I)I" } : MethodName) prog_1_method_5_code (2 : Nat) (Option.some FieldType.int)) ∈ gb_wA := gb_t3 89 rfl rfl
theorem dL_law_328 : decode cL_law 328 = .ok (.pop, 1) := dc_87 (dc_cut (j := 8) (n := 1) (l := [87]) dq_cL_law_320 (by decide +kernel) (by decide))
theorem dL_law_329 : decode cL_law 329 = .ok (.aload_n 2, 1) := dc_44 (dc_cut (j := 9) (n := 1) (l := [44]) dq_cL_law_320 (by decide +kernel) (by decide))
theorem dL_law_330 : decode cL_law 330 = .ok (.aload_n 0, 1) := dc_42 (dc_cut (j := 10) (n := 1) (l := [42]) dq_cL_law_320 (by decide +kernel) (by decide))
theorem dL_law_331 : decode cL_law 331 = .ok (.iload_n 3, 1) := dc_29 (dc_cut (j := 11) (n := 1) (l := [29]) dq_cL_law_320 (by decide +kernel) (by decide))
theorem dL_law_332 : decode cL_law 332 = .ok (.iconst 1, 1) := dc_4 (dc_cut (j := 12) (n := 1) (l := [4]) dq_cL_law_320 (by decide +kernel) (by decide))
theorem dL_law_333 : decode cL_law 333 = .ok (.iadd, 1) := dc_96 (dc_cut (j := 13) (n := 1) (l := [96]) dq_cL_law_320 (by decide +kernel) (by decide))
theorem dL_law_334 : decode cL_law 334 = .ok (.iaload, 1) := dc_46 (dc_cut (j := 14) (n := 1) (l := [46]) dq_cL_law_320 (by decide +kernel) (by decide))
theorem dL_law_335 : decode cL_law 335 = .ok (.invokevirtual 31, 3) := dc_182 (dc_cut (j := 15) (n := 3) (l := [182, 0, 31]) dq_cL_law_320 (by decide +kernel) (by decide)) rfl
theorem w_1364 : (Cond.methodLink "GooseBorderLaw" (31 : Nat) ({ cls := "GooseBorderModel", name := "fault", desc := "(I)I" } : MethodName)) ∈ gb_wA := gb_t6 164 rfl rfl
theorem w_1365 : (Cond.instanceMethod ({ cls := "GooseBorderModel", name := "fault", desc := "(I)I" } : MethodName)) ∈ gb_wA := gb_t6 165 rfl rfl
theorem w_1366 : (Cond.selects "GooseBorderModel" ({ cls := "GooseBorderModel", name := "fault", desc := "(I)I" } : MethodName) ({ cls := "GooseBorderModel", name := "fault", desc := "(I)I" } : MethodName)) ∈ gb_wA := gb_t6 166 rfl rfl
theorem w_1367 : (Cond.code ({ cls := "GooseBorderModel", name := "fault", desc := "(I)I" } : MethodName) prog_14_method_30_code (2 : Nat) (Option.some FieldType.int)) ∈ gb_wA := gb_t6 167 rfl rfl
theorem dL_law_338 : decode cL_law 338 = .ok (.pop, 1) := dc_87 (dc_cut (j := 18) (n := 1) (l := [87]) dq_cL_law_320 (by decide +kernel) (by decide))
theorem dL_law_339 : decode cL_law 339 = .ok (.goto 1551, 3) := dc_167 (dc_cut (j := 19) (n := 3) (l := [167, 6, 15]) dq_cL_law_320 (by decide +kernel) (by decide)) rfl
set_option maxHeartbeats 4000000 in
set_option maxRecDepth 100000 in
theorem law_c3 {p : Program} {l : Launch} {e : Env} {s : State} {m : MethodId} {below : List Frame} {meth : Method} {c : Code} {b z L : Nat} {xs : Nat → Int32} (C0 : lw_At p s m meth c b L xs) (hzz : Array.size s.heap = z) {D : va_G} {cT : Nat → ClassId} {tt ak av : Nat → Nat} (hSt2 : gb_St2 D cT tt ak av z s) {i : Int32} (h1 : vp_in (i + 1) L) (h2 : vp_in (i + 2) L) (h3 : vp_in (i + 3) L) (h4 : vp_in (i + 4) L) (h5 : vp_in (i + 5) L) (hend : ∀ (σ : gb_S) (f : gb_F) (w : Int64) (H : Heap) (locs : List Loc) (ls : Array Slot), gb_Inv σ f → va_P D vwCl (gb_wl z (gb_CW cT z σ)) H → va_P D vwCl (gb_wl (z + 135) (gb_MW cT (z + 135) f w)) H → va_S (gb_ge z) s.heap H locs → lv_has ls 4 [(3, .int i), (2, .ref (z + 135 + 0)), (1, .ref (z + 0)), (0, .ref b)] → W p l e room_1 s m #[Value.ref b] below meth c H locs 157 10381 (lw_Z below #[Value.ref b] s) (F0 m 1890 ls [])) : ∀ (σ : gb_S) (f : gb_F) (w : Int64) (H : Heap) (locs : List Loc) (ls : Array Slot), gb_Inv σ f → va_P D vwCl (gb_wl z (gb_CW cT z σ)) H → va_P D vwCl (gb_wl (z + 135) (gb_MW cT (z + 135) f w)) H → va_S (gb_ge z) s.heap H locs → lv_has ls 4 [(3, .int i), (2, .ref (z + 135 + 0)), (1, .ref (z + 0)), (0, .ref b)] → W p l e room_1 s m #[Value.ref b] below meth c H locs 157 10381 (lw_Z below #[Value.ref b] s) (F0 m 319 ls []) := by
  obtain ⟨hx, hb, hr, hml, hown, hts, hX, hbl, hlocks, hgv⟩ := C0
  have hq : ∀ w ∈ gb_wA, w.before #[Value.ref b] s = true := fun w h => hts w (gb_wA_tbl w h)
  have hbA : ¬ gb_ge z b := Nat.not_le.mpr (by rw [← hzz]; exact hbl)
  intro σ f w H locs ls hI hPc hPm hS hl
  refine lv_aload_n hx hb dL_law_319 rfl (lv_at hl 2 rfl) ?_
  refine lv_aload_n hx hb dL_law_320 rfl (lv_at hl 3 rfl) ?_
  refine lv_iload_n hx hb dL_law_321 rfl (lv_at hl 0 rfl) ?_
  refine lv_iconst (v := 1) hx hb dL_law_322 (by decide) ?_
  refine lv_iadd hx hb dL_law_323 ?_
  refine va_sld hx hb hX hbl hbA hS h1 dL_law_324 ?_
  obtain ⟨σ2, ra, f2, w2, qa, ec, em, hI2, hcmp⟩ := law_s_fault (xs (Int32.toNatClampNeg (i + 1))) w hI
  refine gb_calli (va_runV (C := RX11) (As := [.int (xs (Int32.toNatClampNeg (i + 1)))]) (rest := []) ⟨hx, hb, hml, hown, hq⟩ (cc_Face_fault l D cT tt z z (Nat.le_refl z) gb_N σ (xs (Int32.toNatClampNeg (i + 1))) σ2 ra ec) (cwV 1 hq (gb_gV w_566 w_567 w_568 w_1 w_569) rfl rfl rfl (by decide +kernel) ⟨Nat.le_of_ble_eq_true rfl, Nat.le_of_ble_eq_true rfl⟩) (gb_preV (r := (RX11, TX11, 10)) (ci := 9) (q0 := 0) hSt2.1 hPc rfl (gb_at z rfl) hS (fun q h => h) hPc) rfl rfl hl.1 rfl (lv_room (Nat.le_of_ble_eq_true rfl)) dL_law_325 ⟨Nat.le_of_ble_eq_true rfl, Nat.le_of_ble_eq_true rfl⟩) hS (fun q h => h.1) (fun q h => h.1) (fun rc H2 locs2 hY hk hS => ?_)
  obtain ⟨hr_, hY⟩ := hY
  subst hr_
  have hPm := gb_kept hPm (fun q h1 h2 => hk q (Nat.lt_of_lt_of_le h2 ((hPm 21 _ (gb_at (z + 135) rfl)).lt)) (fun h3 => Nat.not_lt.mpr h1 h3.2))
  have hPc := hY
  clear hY
  refine lv_pop hx hb dL_law_328 rfl ?_
  refine lv_aload_n hx hb dL_law_329 rfl (lv_at hl 1 rfl) ?_
  refine lv_aload_n hx hb dL_law_330 rfl (lv_at hl 3 rfl) ?_
  refine lv_iload_n hx hb dL_law_331 rfl (lv_at hl 0 rfl) ?_
  refine lv_iconst (v := 1) hx hb dL_law_332 (by decide) ?_
  refine lv_iadd hx hb dL_law_333 ?_
  refine va_sld hx hb hX hbl hbA hS h1 dL_law_334 ?_
  refine gb_calli (va_runV (C := RX12) (As := [.int (xs (Int32.toNatClampNeg (i + 1)))]) (rest := []) ⟨hx, hb, hml, hown, hq⟩ (mc_fault l D cT tt z (z + 135) (Nat.le_add_right z 135) gb_N f w (xs (Int32.toNatClampNeg (i + 1))) f2 w2 qa em) (cwV 1 hq (gb_gV w_1364 w_1365 w_1366 w_14 w_1367) rfl rfl rfl (by decide +kernel) ⟨Nat.le_of_ble_eq_true rfl, Nat.le_of_ble_eq_true rfl⟩) (gb_preV (r := (RX12, TX12, 44)) (ci := 10) (q0 := 0) hSt2.1 hPm rfl (gb_at (z + 135) rfl) hS (fun q h => h) hPm) rfl rfl hl.1 rfl (lv_room (Nat.le_of_ble_eq_true rfl)) dL_law_335 ⟨Nat.le_of_ble_eq_true rfl, Nat.le_of_ble_eq_true rfl⟩) hS (fun q h => Nat.le_trans (Nat.le_add_right z 135) h.1) (fun q h => Nat.le_trans (Nat.le_add_right z 135) h.1) (fun rm H2 locs2 hY hk hS => ?_)
  obtain ⟨hr_, hY⟩ := hY
  subst hr_
  have hPc := gb_kept hPc (fun q h1 h2 => hk q (Nat.lt_of_lt_of_le h2 (Nat.le_of_lt (Nat.lt_of_le_of_lt (Nat.le_add_right (z + 135) 21) ((hPm 21 _ (gb_at (z + 135) rfl)).lt)))) (fun h3 => Nat.not_lt.mpr h3.1 h2))
  have hPm := hY
  clear hY
  refine lv_pop hx hb dL_law_338 rfl ?_
  refine lv_goto (tgt := 1890) hx hb dL_law_339 (by decide) ?_
  exact hend _ _ _ _ _ _ hI2 hPc hPm hS hl
theorem dL_law_342 : decode cL_law 342 = .ok (.aload_n 1, 1) := dc_43 (dc_cut (j := 22) (n := 1) (l := [43]) dq_cL_law_320 (by decide +kernel) (by decide))
theorem dL_law_343 : decode cL_law 343 = .ok (.aload_n 0, 1) := dc_42 (dc_cut (j := 23) (n := 1) (l := [42]) dq_cL_law_320 (by decide +kernel) (by decide))
theorem dL_law_344 : decode cL_law 344 = .ok (.iload_n 3, 1) := dc_29 (dc_cut (j := 24) (n := 1) (l := [29]) dq_cL_law_320 (by decide +kernel) (by decide))
theorem dL_law_345 : decode cL_law 345 = .ok (.iconst 1, 1) := dc_4 (dc_cut (j := 25) (n := 1) (l := [4]) dq_cL_law_320 (by decide +kernel) (by decide))
theorem dL_law_346 : decode cL_law 346 = .ok (.iadd, 1) := dc_96 (dc_cut (j := 26) (n := 1) (l := [96]) dq_cL_law_320 (by decide +kernel) (by decide))
theorem dL_law_347 : decode cL_law 347 = .ok (.iaload, 1) := dc_46 (dc_cut (j := 27) (n := 1) (l := [46]) dq_cL_law_320 (by decide +kernel) (by decide))
theorem dL_law_348 : decode cL_law 348 = .ok (.aload_n 0, 1) := dc_42 (dc_cut (j := 28) (n := 1) (l := [42]) dq_cL_law_320 (by decide +kernel) (by decide))
theorem dL_law_349 : decode cL_law 349 = .ok (.iload_n 3, 1) := dc_29 (dc_cut (j := 29) (n := 1) (l := [29]) dq_cL_law_320 (by decide +kernel) (by decide))
theorem dL_law_350 : decode cL_law 350 = .ok (.iconst 2, 1) := dc_5 (dc_cut (j := 30) (n := 1) (l := [5]) dq_cL_law_320 (by decide +kernel) (by decide))
theorem dL_law_351 : decode cL_law 351 = .ok (.iadd, 1) := dc_96 (dc_cut (j := 31) (n := 1) (l := [96]) dq_cL_law_320 (by decide +kernel) (by decide))
theorem dL_law_352 : decode cL_law 352 = .ok (.iaload, 1) := dc_46 (dc_cut (j := 32) (n := 1) (l := [46]) dq_cL_law_320 (by decide +kernel) (by decide))
theorem dL_law_353 : decode cL_law 353 = .ok (.invokevirtual 32, 3) := dc_182 (dc_cut (j := 33) (n := 3) (l := [182, 0, 32]) dq_cL_law_320 (by decide +kernel) (by decide)) rfl
theorem w_589 : (Cond.methodLink "GooseBorderLaw" (32 : Nat) ({ cls := "GooseBorder", name := "border", desc := "(II)I" } : MethodName)) ∈ gb_wA := gb_t3 109 rfl rfl
theorem w_590 : (Cond.instanceMethod ({ cls := "GooseBorder", name := "border", desc := "(II)I" } : MethodName)) ∈ gb_wA := gb_t3 110 rfl rfl
theorem w_591 : (Cond.selects "GooseBorder" ({ cls := "GooseBorder", name := "border", desc := "(II)I" } : MethodName) ({ cls := "GooseBorder", name := "border", desc := "(II)I" } : MethodName)) ∈ gb_wA := gb_t3 111 rfl rfl
theorem w_592 : (Cond.code ({ cls := "GooseBorder", name := "border", desc := "(II)I" } : MethodName) prog_1_method_9_code (4 : Nat) (Option.some FieldType.int)) ∈ gb_wA := gb_t3 112 rfl rfl
theorem dL_law_356 : decode cL_law 356 = .ok (.pop, 1) := dc_87 (dc_cut (j := 36) (n := 1) (l := [87]) dq_cL_law_320 (by decide +kernel) (by decide))
theorem dL_law_357 : decode cL_law 357 = .ok (.aload_n 2, 1) := dc_44 (dc_cut (j := 37) (n := 1) (l := [44]) dq_cL_law_320 (by decide +kernel) (by decide))
theorem dL_law_358 : decode cL_law 358 = .ok (.aload_n 0, 1) := dc_42 (dc_cut (j := 38) (n := 1) (l := [42]) dq_cL_law_320 (by decide +kernel) (by decide))
theorem dL_law_359 : decode cL_law 359 = .ok (.iload_n 3, 1) := dc_29 (dc_cut (j := 39) (n := 1) (l := [29]) dq_cL_law_320 (by decide +kernel) (by decide))
theorem dL_law_360 : decode cL_law 360 = .ok (.iconst 1, 1) := dc_4 (dc_cut (j := 40) (n := 1) (l := [4]) dq_cL_law_320 (by decide +kernel) (by decide))
theorem dL_law_361 : decode cL_law 361 = .ok (.iadd, 1) := dc_96 (dc_cut (j := 41) (n := 1) (l := [96]) dq_cL_law_320 (by decide +kernel) (by decide))
theorem dL_law_362 : decode cL_law 362 = .ok (.iaload, 1) := dc_46 (dc_cut (j := 42) (n := 1) (l := [46]) dq_cL_law_320 (by decide +kernel) (by decide))
theorem dL_law_363 : decode cL_law 363 = .ok (.aload_n 0, 1) := dc_42 (dc_cut (j := 43) (n := 1) (l := [42]) dq_cL_law_320 (by decide +kernel) (by decide))
theorem dL_law_364 : decode cL_law 364 = .ok (.iload_n 3, 1) := dc_29 (dc_cut (j := 44) (n := 1) (l := [29]) dq_cL_law_320 (by decide +kernel) (by decide))
theorem dL_law_365 : decode cL_law 365 = .ok (.iconst 2, 1) := dc_5 (dc_cut (j := 45) (n := 1) (l := [5]) dq_cL_law_320 (by decide +kernel) (by decide))
theorem dL_law_366 : decode cL_law 366 = .ok (.iadd, 1) := dc_96 (dc_cut (j := 46) (n := 1) (l := [96]) dq_cL_law_320 (by decide +kernel) (by decide))
theorem dL_law_367 : decode cL_law 367 = .ok (.iaload, 1) := dc_46 (dc_cut (j := 47) (n := 1) (l := [46]) dq_cL_law_320 (by decide +kernel) (by decide))
theorem dL_law_368 : decode cL_law 368 = .ok (.invokevirtual 35, 3) := dc_182 (dc_cut (j := 48) (n := 3) (l := [182, 0, 35]) dq_cL_law_320 (by decide +kernel) (by decide)) rfl
theorem w_1368 : (Cond.methodLink "GooseBorderLaw" (35 : Nat) ({ cls := "GooseBorderModel", name := "border", desc := "(II)I" } : MethodName)) ∈ gb_wA := gb_t6 168 rfl rfl
theorem w_1369 : (Cond.instanceMethod ({ cls := "GooseBorderModel", name := "border", desc := "(II)I" } : MethodName)) ∈ gb_wA := gb_t6 169 rfl rfl
theorem w_1370 : (Cond.selects "GooseBorderModel" ({ cls := "GooseBorderModel", name := "border", desc := "(II)I" } : MethodName) ({ cls := "GooseBorderModel", name := "border", desc := "(II)I" } : MethodName)) ∈ gb_wA := gb_t6 170 rfl rfl
theorem w_1371 : (Cond.code ({ cls := "GooseBorderModel", name := "border", desc := "(II)I" } : MethodName) prog_14_method_39_code (4 : Nat) (Option.some FieldType.int)) ∈ gb_wA := gb_t6 171 rfl rfl
theorem dL_law_371 : decode cL_law 371 = .ok (.pop, 1) := dc_87 (dc_cut (j := 51) (n := 1) (l := [87]) dq_cL_law_320 (by decide +kernel) (by decide))
theorem dL_law_372 : decode cL_law 372 = .ok (.goto 1518, 3) := dc_167 (dc_cut (j := 52) (n := 3) (l := [167, 5, 238]) dq_cL_law_320 (by decide +kernel) (by decide)) rfl
set_option maxHeartbeats 4000000 in
set_option maxRecDepth 100000 in
theorem law_c4 {p : Program} {l : Launch} {e : Env} {s : State} {m : MethodId} {below : List Frame} {meth : Method} {c : Code} {b z L : Nat} {xs : Nat → Int32} (C0 : lw_At p s m meth c b L xs) (hzz : Array.size s.heap = z) {D : va_G} {cT : Nat → ClassId} {tt ak av : Nat → Nat} (hSt2 : gb_St2 D cT tt ak av z s) {i : Int32} (h1 : vp_in (i + 1) L) (h2 : vp_in (i + 2) L) (h3 : vp_in (i + 3) L) (h4 : vp_in (i + 4) L) (h5 : vp_in (i + 5) L) (hend : ∀ (σ : gb_S) (f : gb_F) (w : Int64) (H : Heap) (locs : List Loc) (ls : Array Slot), gb_Inv σ f → va_P D vwCl (gb_wl z (gb_CW cT z σ)) H → va_P D vwCl (gb_wl (z + 135) (gb_MW cT (z + 135) f w)) H → va_S (gb_ge z) s.heap H locs → lv_has ls 4 [(3, .int i), (2, .ref (z + 135 + 0)), (1, .ref (z + 0)), (0, .ref b)] → W p l e room_1 s m #[Value.ref b] below meth c H locs 157 10381 (lw_Z below #[Value.ref b] s) (F0 m 1890 ls [])) : ∀ (σ : gb_S) (f : gb_F) (w : Int64) (H : Heap) (locs : List Loc) (ls : Array Slot), gb_Inv σ f → va_P D vwCl (gb_wl z (gb_CW cT z σ)) H → va_P D vwCl (gb_wl (z + 135) (gb_MW cT (z + 135) f w)) H → va_S (gb_ge z) s.heap H locs → lv_has ls 4 [(3, .int i), (2, .ref (z + 135 + 0)), (1, .ref (z + 0)), (0, .ref b)] → W p l e room_1 s m #[Value.ref b] below meth c H locs 157 10381 (lw_Z below #[Value.ref b] s) (F0 m 342 ls []) := by
  obtain ⟨hx, hb, hr, hml, hown, hts, hX, hbl, hlocks, hgv⟩ := C0
  have hq : ∀ w ∈ gb_wA, w.before #[Value.ref b] s = true := fun w h => hts w (gb_wA_tbl w h)
  have hbA : ¬ gb_ge z b := Nat.not_le.mpr (by rw [← hzz]; exact hbl)
  intro σ f w H locs ls hI hPc hPm hS hl
  refine lv_aload_n hx hb dL_law_342 rfl (lv_at hl 2 rfl) ?_
  refine lv_aload_n hx hb dL_law_343 rfl (lv_at hl 3 rfl) ?_
  refine lv_iload_n hx hb dL_law_344 rfl (lv_at hl 0 rfl) ?_
  refine lv_iconst (v := 1) hx hb dL_law_345 (by decide) ?_
  refine lv_iadd hx hb dL_law_346 ?_
  refine va_sld hx hb hX hbl hbA hS h1 dL_law_347 ?_
  refine lv_aload_n hx hb dL_law_348 rfl (lv_at hl 3 rfl) ?_
  refine lv_iload_n hx hb dL_law_349 rfl (lv_at hl 0 rfl) ?_
  refine lv_iconst (v := 2) hx hb dL_law_350 (by decide) ?_
  refine lv_iadd hx hb dL_law_351 ?_
  refine va_sld hx hb hX hbl hbA hS h2 dL_law_352 ?_
  obtain ⟨σ2, ra, f2, w2, qa, ec, em, hI2, hcmp⟩ := law_s_border (xs (Int32.toNatClampNeg (i + 1))) (xs (Int32.toNatClampNeg (i + 2))) w hI
  refine gb_calli (va_runV (C := RX11) (As := [.int (xs (Int32.toNatClampNeg (i + 1))), .int (xs (Int32.toNatClampNeg (i + 2)))]) (rest := []) ⟨hx, hb, hml, hown, hq⟩ (cc_Face_border l D cT tt z z (Nat.le_refl z) gb_N σ (xs (Int32.toNatClampNeg (i + 1))) (xs (Int32.toNatClampNeg (i + 2))) σ2 ra ec) (cwV 2 hq (gb_gV w_589 w_590 w_591 w_1 w_592) rfl rfl rfl (by decide +kernel) ⟨Nat.le_of_ble_eq_true rfl, Nat.le_of_ble_eq_true rfl⟩) (gb_preV (r := (RX11, TX11, 10)) (ci := 9) (q0 := 0) hSt2.1 hPc rfl (gb_at z rfl) hS (fun q h => h) hPc) rfl rfl hl.1 rfl (lv_room (Nat.le_of_ble_eq_true rfl)) dL_law_353 ⟨Nat.le_of_ble_eq_true rfl, Nat.le_of_ble_eq_true rfl⟩) hS (fun q h => h.1) (fun q h => h.1) (fun rc H2 locs2 hY hk hS => ?_)
  obtain ⟨hr_, hY⟩ := hY
  subst hr_
  have hPm := gb_kept hPm (fun q h1 h2 => hk q (Nat.lt_of_lt_of_le h2 ((hPm 21 _ (gb_at (z + 135) rfl)).lt)) (fun h3 => Nat.not_lt.mpr h1 h3.2))
  have hPc := hY
  clear hY
  refine lv_pop hx hb dL_law_356 rfl ?_
  refine lv_aload_n hx hb dL_law_357 rfl (lv_at hl 1 rfl) ?_
  refine lv_aload_n hx hb dL_law_358 rfl (lv_at hl 3 rfl) ?_
  refine lv_iload_n hx hb dL_law_359 rfl (lv_at hl 0 rfl) ?_
  refine lv_iconst (v := 1) hx hb dL_law_360 (by decide) ?_
  refine lv_iadd hx hb dL_law_361 ?_
  refine va_sld hx hb hX hbl hbA hS h1 dL_law_362 ?_
  refine lv_aload_n hx hb dL_law_363 rfl (lv_at hl 3 rfl) ?_
  refine lv_iload_n hx hb dL_law_364 rfl (lv_at hl 0 rfl) ?_
  refine lv_iconst (v := 2) hx hb dL_law_365 (by decide) ?_
  refine lv_iadd hx hb dL_law_366 ?_
  refine va_sld hx hb hX hbl hbA hS h2 dL_law_367 ?_
  refine gb_calli (va_runV (C := RX12) (As := [.int (xs (Int32.toNatClampNeg (i + 1))), .int (xs (Int32.toNatClampNeg (i + 2)))]) (rest := []) ⟨hx, hb, hml, hown, hq⟩ (mc_border l D cT tt z (z + 135) (Nat.le_add_right z 135) gb_N f w (xs (Int32.toNatClampNeg (i + 1))) (xs (Int32.toNatClampNeg (i + 2))) f2 w2 qa em) (cwV 2 hq (gb_gV w_1368 w_1369 w_1370 w_14 w_1371) rfl rfl rfl (by decide +kernel) ⟨Nat.le_of_ble_eq_true rfl, Nat.le_of_ble_eq_true rfl⟩) (gb_preV (r := (RX12, TX12, 44)) (ci := 10) (q0 := 0) hSt2.1 hPm rfl (gb_at (z + 135) rfl) hS (fun q h => h) hPm) rfl rfl hl.1 rfl (lv_room (Nat.le_of_ble_eq_true rfl)) dL_law_368 ⟨Nat.le_of_ble_eq_true rfl, Nat.le_of_ble_eq_true rfl⟩) hS (fun q h => Nat.le_trans (Nat.le_add_right z 135) h.1) (fun q h => Nat.le_trans (Nat.le_add_right z 135) h.1) (fun rm H2 locs2 hY hk hS => ?_)
  obtain ⟨hr_, hY⟩ := hY
  subst hr_
  have hPc := gb_kept hPc (fun q h1 h2 => hk q (Nat.lt_of_lt_of_le h2 (Nat.le_of_lt (Nat.lt_of_le_of_lt (Nat.le_add_right (z + 135) 21) ((hPm 21 _ (gb_at (z + 135) rfl)).lt)))) (fun h3 => Nat.not_lt.mpr h3.1 h2))
  have hPm := hY
  clear hY
  refine lv_pop hx hb dL_law_371 rfl ?_
  refine lv_goto (tgt := 1890) hx hb dL_law_372 (by decide) ?_
  exact hend _ _ _ _ _ _ hI2 hPc hPm hS hl
theorem dL_law_375 : decode cL_law 375 = .ok (.aload_n 1, 1) := dc_43 (dc_cut (j := 55) (n := 1) (l := [43]) dq_cL_law_320 (by decide +kernel) (by decide))
theorem dL_law_376 : decode cL_law 376 = .ok (.aload_n 0, 1) := dc_42 (dc_cut (j := 56) (n := 1) (l := [42]) dq_cL_law_320 (by decide +kernel) (by decide))
theorem dL_law_377 : decode cL_law 377 = .ok (.iload_n 3, 1) := dc_29 (dc_cut (j := 57) (n := 1) (l := [29]) dq_cL_law_320 (by decide +kernel) (by decide))
theorem dL_law_378 : decode cL_law 378 = .ok (.iconst 1, 1) := dc_4 (dc_cut (j := 58) (n := 1) (l := [4]) dq_cL_law_320 (by decide +kernel) (by decide))
theorem dL_law_379 : decode cL_law 379 = .ok (.iadd, 1) := dc_96 (dc_cut (j := 59) (n := 1) (l := [96]) dq_cL_law_320 (by decide +kernel) (by decide))
theorem dL_law_380 : decode cL_law 380 = .ok (.iaload, 1) := dc_46 (dc_cut (j := 60) (n := 1) (l := [46]) dq_cL_law_320 (by decide +kernel) (by decide))
theorem dL_law_381 : decode cL_law 381 = .ok (.aload_n 0, 1) := dc_42 (dc_cut (j := 61) (n := 1) (l := [42]) dq_cL_law_320 (by decide +kernel) (by decide))
theorem dL_law_382 : decode cL_law 382 = .ok (.iload_n 3, 1) := dc_29 (dc_cut (j := 62) (n := 1) (l := [29]) dq_cL_law_320 (by decide +kernel) (by decide))
theorem dL_law_383 : decode cL_law 383 = .ok (.iconst 2, 1) := dc_5 (dc_cut (j := 63) (n := 1) (l := [5]) dq_cL_law_320 (by decide +kernel) (by decide))
theorem dq_cL_law_384 : ((cL_law.data.toList.drop 384).take 67).map UInt8.toNat = [96, 46, 42, 29, 6, 96, 46, 42, 29, 7, 96, 46, 153, 0, 7, 4, 167, 0, 4, 3, 182, 0, 36, 87, 44, 42, 29, 4, 96, 46, 42, 29, 5, 96, 46, 42, 29, 6, 96, 46, 42, 29, 7, 96, 46, 153, 0, 7, 4, 167, 0, 4, 3, 182, 0, 40, 87, 167, 5, 169, 43, 42, 29, 4, 96, 46, 42] := by decide +kernel
theorem dL_law_384 : decode cL_law 384 = .ok (.iadd, 1) := dc_96 (dc_cut (j := 0) (n := 1) (l := [96]) dq_cL_law_384 (by decide +kernel) (by decide))
theorem dL_law_385 : decode cL_law 385 = .ok (.iaload, 1) := dc_46 (dc_cut (j := 1) (n := 1) (l := [46]) dq_cL_law_384 (by decide +kernel) (by decide))
theorem dL_law_386 : decode cL_law 386 = .ok (.aload_n 0, 1) := dc_42 (dc_cut (j := 2) (n := 1) (l := [42]) dq_cL_law_384 (by decide +kernel) (by decide))
theorem dL_law_387 : decode cL_law 387 = .ok (.iload_n 3, 1) := dc_29 (dc_cut (j := 3) (n := 1) (l := [29]) dq_cL_law_384 (by decide +kernel) (by decide))
theorem dL_law_388 : decode cL_law 388 = .ok (.iconst 3, 1) := dc_6 (dc_cut (j := 4) (n := 1) (l := [6]) dq_cL_law_384 (by decide +kernel) (by decide))
theorem dL_law_389 : decode cL_law 389 = .ok (.iadd, 1) := dc_96 (dc_cut (j := 5) (n := 1) (l := [96]) dq_cL_law_384 (by decide +kernel) (by decide))
theorem dL_law_390 : decode cL_law 390 = .ok (.iaload, 1) := dc_46 (dc_cut (j := 6) (n := 1) (l := [46]) dq_cL_law_384 (by decide +kernel) (by decide))
theorem dL_law_391 : decode cL_law 391 = .ok (.aload_n 0, 1) := dc_42 (dc_cut (j := 7) (n := 1) (l := [42]) dq_cL_law_384 (by decide +kernel) (by decide))
theorem dL_law_392 : decode cL_law 392 = .ok (.iload_n 3, 1) := dc_29 (dc_cut (j := 8) (n := 1) (l := [29]) dq_cL_law_384 (by decide +kernel) (by decide))
theorem dL_law_393 : decode cL_law 393 = .ok (.iconst 4, 1) := dc_7 (dc_cut (j := 9) (n := 1) (l := [7]) dq_cL_law_384 (by decide +kernel) (by decide))
theorem dL_law_394 : decode cL_law 394 = .ok (.iadd, 1) := dc_96 (dc_cut (j := 10) (n := 1) (l := [96]) dq_cL_law_384 (by decide +kernel) (by decide))
theorem dL_law_395 : decode cL_law 395 = .ok (.iaload, 1) := dc_46 (dc_cut (j := 11) (n := 1) (l := [46]) dq_cL_law_384 (by decide +kernel) (by decide))
theorem dL_law_396 : decode cL_law 396 = .ok (.ifCond .eq 7, 3) := dc_153 (dc_cut (j := 12) (n := 3) (l := [153, 0, 7]) dq_cL_law_384 (by decide +kernel) (by decide)) rfl
theorem dL_law_403 : decode cL_law 403 = .ok (.iconst 0, 1) := dc_3 (dc_cut (j := 19) (n := 1) (l := [3]) dq_cL_law_384 (by decide +kernel) (by decide))
theorem dL_law_404 : decode cL_law 404 = .ok (.invokevirtual 36, 3) := dc_182 (dc_cut (j := 20) (n := 3) (l := [182, 0, 36]) dq_cL_law_384 (by decide +kernel) (by decide)) rfl
theorem w_615 : (Cond.methodLink "GooseBorderLaw" (36 : Nat) ({ cls := "GooseBorder", name := "marks", desc := "(IIIZ)I" } : MethodName)) ∈ gb_wA := gb_t3 135 rfl rfl
theorem w_616 : (Cond.instanceMethod ({ cls := "GooseBorder", name := "marks", desc := "(IIIZ)I" } : MethodName)) ∈ gb_wA := gb_t3 136 rfl rfl
theorem w_617 : (Cond.selects "GooseBorder" ({ cls := "GooseBorder", name := "marks", desc := "(IIIZ)I" } : MethodName) ({ cls := "GooseBorder", name := "marks", desc := "(IIIZ)I" } : MethodName)) ∈ gb_wA := gb_t3 137 rfl rfl
theorem w_618 : (Cond.code ({ cls := "GooseBorder", name := "marks", desc := "(IIIZ)I" } : MethodName) prog_1_method_10_code (6 : Nat) (Option.some FieldType.int)) ∈ gb_wA := gb_t3 138 rfl rfl
theorem dL_law_407 : decode cL_law 407 = .ok (.pop, 1) := dc_87 (dc_cut (j := 23) (n := 1) (l := [87]) dq_cL_law_384 (by decide +kernel) (by decide))
theorem dL_law_408 : decode cL_law 408 = .ok (.aload_n 2, 1) := dc_44 (dc_cut (j := 24) (n := 1) (l := [44]) dq_cL_law_384 (by decide +kernel) (by decide))
theorem dL_law_409 : decode cL_law 409 = .ok (.aload_n 0, 1) := dc_42 (dc_cut (j := 25) (n := 1) (l := [42]) dq_cL_law_384 (by decide +kernel) (by decide))
theorem dL_law_410 : decode cL_law 410 = .ok (.iload_n 3, 1) := dc_29 (dc_cut (j := 26) (n := 1) (l := [29]) dq_cL_law_384 (by decide +kernel) (by decide))
theorem dL_law_411 : decode cL_law 411 = .ok (.iconst 1, 1) := dc_4 (dc_cut (j := 27) (n := 1) (l := [4]) dq_cL_law_384 (by decide +kernel) (by decide))
theorem dL_law_412 : decode cL_law 412 = .ok (.iadd, 1) := dc_96 (dc_cut (j := 28) (n := 1) (l := [96]) dq_cL_law_384 (by decide +kernel) (by decide))
theorem dL_law_413 : decode cL_law 413 = .ok (.iaload, 1) := dc_46 (dc_cut (j := 29) (n := 1) (l := [46]) dq_cL_law_384 (by decide +kernel) (by decide))
theorem dL_law_414 : decode cL_law 414 = .ok (.aload_n 0, 1) := dc_42 (dc_cut (j := 30) (n := 1) (l := [42]) dq_cL_law_384 (by decide +kernel) (by decide))
theorem dL_law_415 : decode cL_law 415 = .ok (.iload_n 3, 1) := dc_29 (dc_cut (j := 31) (n := 1) (l := [29]) dq_cL_law_384 (by decide +kernel) (by decide))
theorem dL_law_416 : decode cL_law 416 = .ok (.iconst 2, 1) := dc_5 (dc_cut (j := 32) (n := 1) (l := [5]) dq_cL_law_384 (by decide +kernel) (by decide))
theorem dL_law_417 : decode cL_law 417 = .ok (.iadd, 1) := dc_96 (dc_cut (j := 33) (n := 1) (l := [96]) dq_cL_law_384 (by decide +kernel) (by decide))
theorem dL_law_418 : decode cL_law 418 = .ok (.iaload, 1) := dc_46 (dc_cut (j := 34) (n := 1) (l := [46]) dq_cL_law_384 (by decide +kernel) (by decide))
theorem dL_law_419 : decode cL_law 419 = .ok (.aload_n 0, 1) := dc_42 (dc_cut (j := 35) (n := 1) (l := [42]) dq_cL_law_384 (by decide +kernel) (by decide))
theorem dL_law_420 : decode cL_law 420 = .ok (.iload_n 3, 1) := dc_29 (dc_cut (j := 36) (n := 1) (l := [29]) dq_cL_law_384 (by decide +kernel) (by decide))
theorem dL_law_421 : decode cL_law 421 = .ok (.iconst 3, 1) := dc_6 (dc_cut (j := 37) (n := 1) (l := [6]) dq_cL_law_384 (by decide +kernel) (by decide))
theorem dL_law_422 : decode cL_law 422 = .ok (.iadd, 1) := dc_96 (dc_cut (j := 38) (n := 1) (l := [96]) dq_cL_law_384 (by decide +kernel) (by decide))
theorem dL_law_423 : decode cL_law 423 = .ok (.iaload, 1) := dc_46 (dc_cut (j := 39) (n := 1) (l := [46]) dq_cL_law_384 (by decide +kernel) (by decide))
theorem dL_law_424 : decode cL_law 424 = .ok (.aload_n 0, 1) := dc_42 (dc_cut (j := 40) (n := 1) (l := [42]) dq_cL_law_384 (by decide +kernel) (by decide))
theorem dL_law_425 : decode cL_law 425 = .ok (.iload_n 3, 1) := dc_29 (dc_cut (j := 41) (n := 1) (l := [29]) dq_cL_law_384 (by decide +kernel) (by decide))
theorem dL_law_426 : decode cL_law 426 = .ok (.iconst 4, 1) := dc_7 (dc_cut (j := 42) (n := 1) (l := [7]) dq_cL_law_384 (by decide +kernel) (by decide))
theorem dL_law_427 : decode cL_law 427 = .ok (.iadd, 1) := dc_96 (dc_cut (j := 43) (n := 1) (l := [96]) dq_cL_law_384 (by decide +kernel) (by decide))
theorem dL_law_428 : decode cL_law 428 = .ok (.iaload, 1) := dc_46 (dc_cut (j := 44) (n := 1) (l := [46]) dq_cL_law_384 (by decide +kernel) (by decide))
theorem dL_law_429 : decode cL_law 429 = .ok (.ifCond .eq 7, 3) := dc_153 (dc_cut (j := 45) (n := 3) (l := [153, 0, 7]) dq_cL_law_384 (by decide +kernel) (by decide)) rfl
theorem dL_law_436 : decode cL_law 436 = .ok (.iconst 0, 1) := dc_3 (dc_cut (j := 52) (n := 1) (l := [3]) dq_cL_law_384 (by decide +kernel) (by decide))
theorem dL_law_437 : decode cL_law 437 = .ok (.invokevirtual 40, 3) := dc_182 (dc_cut (j := 53) (n := 3) (l := [182, 0, 40]) dq_cL_law_384 (by decide +kernel) (by decide)) rfl
theorem w_1404 : (Cond.methodLink "GooseBorderLaw" (40 : Nat) ({ cls := "GooseBorderModel", name := "marks", desc := "(IIIZ)I" } : MethodName)) ∈ gb_wA := gb_t6 204 rfl rfl
theorem w_1405 : (Cond.instanceMethod ({ cls := "GooseBorderModel", name := "marks", desc := "(IIIZ)I" } : MethodName)) ∈ gb_wA := gb_t6 205 rfl rfl
theorem w_1406 : (Cond.selects "GooseBorderModel" ({ cls := "GooseBorderModel", name := "marks", desc := "(IIIZ)I" } : MethodName) ({ cls := "GooseBorderModel", name := "marks", desc := "(IIIZ)I" } : MethodName)) ∈ gb_wA := gb_t6 206 rfl rfl
theorem w_1407 : (Cond.code ({ cls := "GooseBorderModel", name := "marks", desc := "(IIIZ)I" } : MethodName) prog_14_method_42_code (5 : Nat) (Option.some FieldType.int)) ∈ gb_wA := gb_t6 207 rfl rfl
theorem dL_law_440 : decode cL_law 440 = .ok (.pop, 1) := dc_87 (dc_cut (j := 56) (n := 1) (l := [87]) dq_cL_law_384 (by decide +kernel) (by decide))
theorem dL_law_441 : decode cL_law 441 = .ok (.goto 1449, 3) := dc_167 (dc_cut (j := 57) (n := 3) (l := [167, 5, 169]) dq_cL_law_384 (by decide +kernel) (by decide)) rfl
theorem dL_law_399 : decode cL_law 399 = .ok (.iconst 1, 1) := dc_4 (dc_cut (j := 15) (n := 1) (l := [4]) dq_cL_law_384 (by decide +kernel) (by decide))
theorem dL_law_400 : decode cL_law 400 = .ok (.goto 4, 3) := dc_167 (dc_cut (j := 16) (n := 3) (l := [167, 0, 4]) dq_cL_law_384 (by decide +kernel) (by decide)) rfl
theorem dL_law_432 : decode cL_law 432 = .ok (.iconst 1, 1) := dc_4 (dc_cut (j := 48) (n := 1) (l := [4]) dq_cL_law_384 (by decide +kernel) (by decide))
theorem dL_law_433 : decode cL_law 433 = .ok (.goto 4, 3) := dc_167 (dc_cut (j := 49) (n := 3) (l := [167, 0, 4]) dq_cL_law_384 (by decide +kernel) (by decide)) rfl
set_option maxHeartbeats 4000000 in
set_option maxRecDepth 100000 in
theorem law_c5 {p : Program} {l : Launch} {e : Env} {s : State} {m : MethodId} {below : List Frame} {meth : Method} {c : Code} {b z L : Nat} {xs : Nat → Int32} (C0 : lw_At p s m meth c b L xs) (hzz : Array.size s.heap = z) {D : va_G} {cT : Nat → ClassId} {tt ak av : Nat → Nat} (hSt2 : gb_St2 D cT tt ak av z s) {i : Int32} (h1 : vp_in (i + 1) L) (h2 : vp_in (i + 2) L) (h3 : vp_in (i + 3) L) (h4 : vp_in (i + 4) L) (h5 : vp_in (i + 5) L) (hend : ∀ (σ : gb_S) (f : gb_F) (w : Int64) (H : Heap) (locs : List Loc) (ls : Array Slot), gb_Inv σ f → va_P D vwCl (gb_wl z (gb_CW cT z σ)) H → va_P D vwCl (gb_wl (z + 135) (gb_MW cT (z + 135) f w)) H → va_S (gb_ge z) s.heap H locs → lv_has ls 4 [(3, .int i), (2, .ref (z + 135 + 0)), (1, .ref (z + 0)), (0, .ref b)] → W p l e room_1 s m #[Value.ref b] below meth c H locs 157 10381 (lw_Z below #[Value.ref b] s) (F0 m 1890 ls [])) : ∀ (σ : gb_S) (f : gb_F) (w : Int64) (H : Heap) (locs : List Loc) (ls : Array Slot), gb_Inv σ f → va_P D vwCl (gb_wl z (gb_CW cT z σ)) H → va_P D vwCl (gb_wl (z + 135) (gb_MW cT (z + 135) f w)) H → va_S (gb_ge z) s.heap H locs → lv_has ls 4 [(3, .int i), (2, .ref (z + 135 + 0)), (1, .ref (z + 0)), (0, .ref b)] → W p l e room_1 s m #[Value.ref b] below meth c H locs 157 10381 (lw_Z below #[Value.ref b] s) (F0 m 375 ls []) := by
  obtain ⟨hx, hb, hr, hml, hown, hts, hX, hbl, hlocks, hgv⟩ := C0
  have hq : ∀ w ∈ gb_wA, w.before #[Value.ref b] s = true := fun w h => hts w (gb_wA_tbl w h)
  have hbA : ¬ gb_ge z b := Nat.not_le.mpr (by rw [← hzz]; exact hbl)
  intro σ f w H locs ls hI hPc hPm hS hl
  refine lv_aload_n hx hb dL_law_375 rfl (lv_at hl 2 rfl) ?_
  refine lv_aload_n hx hb dL_law_376 rfl (lv_at hl 3 rfl) ?_
  refine lv_iload_n hx hb dL_law_377 rfl (lv_at hl 0 rfl) ?_
  refine lv_iconst (v := 1) hx hb dL_law_378 (by decide) ?_
  refine lv_iadd hx hb dL_law_379 ?_
  refine va_sld hx hb hX hbl hbA hS h1 dL_law_380 ?_
  refine lv_aload_n hx hb dL_law_381 rfl (lv_at hl 3 rfl) ?_
  refine lv_iload_n hx hb dL_law_382 rfl (lv_at hl 0 rfl) ?_
  refine lv_iconst (v := 2) hx hb dL_law_383 (by decide) ?_
  refine lv_iadd hx hb dL_law_384 ?_
  refine va_sld hx hb hX hbl hbA hS h2 dL_law_385 ?_
  refine lv_aload_n hx hb dL_law_386 rfl (lv_at hl 3 rfl) ?_
  refine lv_iload_n hx hb dL_law_387 rfl (lv_at hl 0 rfl) ?_
  refine lv_iconst (v := 3) hx hb dL_law_388 (by decide) ?_
  refine lv_iadd hx hb dL_law_389 ?_
  refine va_sld hx hb hX hbl hbA hS h3 dL_law_390 ?_
  refine lv_aload_n hx hb dL_law_391 rfl (lv_at hl 3 rfl) ?_
  refine lv_iload_n hx hb dL_law_392 rfl (lv_at hl 0 rfl) ?_
  refine lv_iconst (v := 4) hx hb dL_law_393 (by decide) ?_
  refine lv_iadd hx hb dL_law_394 ?_
  refine va_sld hx hb hX hbl hbA hS h4 dL_law_395 ?_
  by_cases hz_ : (xs (Int32.toNatClampNeg (i + 4))) = 0
  · refine lv_if_eq (tgt := 403) hx hb dL_law_396 (by decide) (fun _ => ?_) (fun hc => absurd hz_ hc)
    refine lv_iconst (v := 0) hx hb dL_law_403 (by decide) ?_
    obtain ⟨σ2, ra, f2, w2, qa, ec, em, hI2, hcmp⟩ := law_s_marks (xs (Int32.toNatClampNeg (i + 1))) (xs (Int32.toNatClampNeg (i + 2))) (xs (Int32.toNatClampNeg (i + 3))) 0 w hI
    refine gb_calli (va_runV (C := RX11) (As := [.int (xs (Int32.toNatClampNeg (i + 1))), .int (xs (Int32.toNatClampNeg (i + 2))), .int (xs (Int32.toNatClampNeg (i + 3))), .int 0]) (rest := []) ⟨hx, hb, hml, hown, hq⟩ (cc_Face_marks l D cT tt z z (Nat.le_refl z) gb_N σ (xs (Int32.toNatClampNeg (i + 1))) (xs (Int32.toNatClampNeg (i + 2))) (xs (Int32.toNatClampNeg (i + 3))) 0 σ2 ra ec) (cwV 4 hq (gb_gV w_615 w_616 w_617 w_1 w_618) rfl rfl rfl (by decide +kernel) ⟨Nat.le_of_ble_eq_true rfl, Nat.le_of_ble_eq_true rfl⟩) (gb_preV (r := (RX11, TX11, 10)) (ci := 9) (q0 := 0) hSt2.1 hPc rfl (gb_at z rfl) hS (fun q h => h) hPc) rfl rfl hl.1 rfl (lv_room (Nat.le_of_ble_eq_true rfl)) dL_law_404 ⟨Nat.le_of_ble_eq_true rfl, Nat.le_of_ble_eq_true rfl⟩) hS (fun q h => h.1) (fun q h => h.1) (fun rc H2 locs2 hY hk hS => ?_)
    obtain ⟨hr_, hY⟩ := hY
    subst hr_
    have hPm := gb_kept hPm (fun q h1 h2 => hk q (Nat.lt_of_lt_of_le h2 ((hPm 21 _ (gb_at (z + 135) rfl)).lt)) (fun h3 => Nat.not_lt.mpr h1 h3.2))
    have hPc := hY
    clear hY
    refine lv_pop hx hb dL_law_407 rfl ?_
    refine lv_aload_n hx hb dL_law_408 rfl (lv_at hl 1 rfl) ?_
    refine lv_aload_n hx hb dL_law_409 rfl (lv_at hl 3 rfl) ?_
    refine lv_iload_n hx hb dL_law_410 rfl (lv_at hl 0 rfl) ?_
    refine lv_iconst (v := 1) hx hb dL_law_411 (by decide) ?_
    refine lv_iadd hx hb dL_law_412 ?_
    refine va_sld hx hb hX hbl hbA hS h1 dL_law_413 ?_
    refine lv_aload_n hx hb dL_law_414 rfl (lv_at hl 3 rfl) ?_
    refine lv_iload_n hx hb dL_law_415 rfl (lv_at hl 0 rfl) ?_
    refine lv_iconst (v := 2) hx hb dL_law_416 (by decide) ?_
    refine lv_iadd hx hb dL_law_417 ?_
    refine va_sld hx hb hX hbl hbA hS h2 dL_law_418 ?_
    refine lv_aload_n hx hb dL_law_419 rfl (lv_at hl 3 rfl) ?_
    refine lv_iload_n hx hb dL_law_420 rfl (lv_at hl 0 rfl) ?_
    refine lv_iconst (v := 3) hx hb dL_law_421 (by decide) ?_
    refine lv_iadd hx hb dL_law_422 ?_
    refine va_sld hx hb hX hbl hbA hS h3 dL_law_423 ?_
    refine lv_aload_n hx hb dL_law_424 rfl (lv_at hl 3 rfl) ?_
    refine lv_iload_n hx hb dL_law_425 rfl (lv_at hl 0 rfl) ?_
    refine lv_iconst (v := 4) hx hb dL_law_426 (by decide) ?_
    refine lv_iadd hx hb dL_law_427 ?_
    refine va_sld hx hb hX hbl hbA hS h4 dL_law_428 ?_
    refine lv_if_eq (tgt := 436) hx hb dL_law_429 (by decide) (fun _ => ?_) (fun hc => absurd hz_ hc)
    refine lv_iconst (v := 0) hx hb dL_law_436 (by decide) ?_
    refine gb_calli (va_runV (C := RX12) (As := [.int (xs (Int32.toNatClampNeg (i + 1))), .int (xs (Int32.toNatClampNeg (i + 2))), .int (xs (Int32.toNatClampNeg (i + 3))), .int 0]) (rest := []) ⟨hx, hb, hml, hown, hq⟩ (mc_marks l D cT tt z (z + 135) (Nat.le_add_right z 135) gb_N f w (xs (Int32.toNatClampNeg (i + 1))) (xs (Int32.toNatClampNeg (i + 2))) (xs (Int32.toNatClampNeg (i + 3))) 0 f2 w2 qa em) (cwV 4 hq (gb_gV w_1404 w_1405 w_1406 w_14 w_1407) rfl rfl rfl (by decide +kernel) ⟨Nat.le_of_ble_eq_true rfl, Nat.le_of_ble_eq_true rfl⟩) (gb_preV (r := (RX12, TX12, 44)) (ci := 10) (q0 := 0) hSt2.1 hPm rfl (gb_at (z + 135) rfl) hS (fun q h => h) hPm) rfl rfl hl.1 rfl (lv_room (Nat.le_of_ble_eq_true rfl)) dL_law_437 ⟨Nat.le_of_ble_eq_true rfl, Nat.le_of_ble_eq_true rfl⟩) hS (fun q h => Nat.le_trans (Nat.le_add_right z 135) h.1) (fun q h => Nat.le_trans (Nat.le_add_right z 135) h.1) (fun rm H2 locs2 hY hk hS => ?_)
    obtain ⟨hr_, hY⟩ := hY
    subst hr_
    have hPc := gb_kept hPc (fun q h1 h2 => hk q (Nat.lt_of_lt_of_le h2 (Nat.le_of_lt (Nat.lt_of_le_of_lt (Nat.le_add_right (z + 135) 21) ((hPm 21 _ (gb_at (z + 135) rfl)).lt)))) (fun h3 => Nat.not_lt.mpr h3.1 h2))
    have hPm := hY
    clear hY
    refine lv_pop hx hb dL_law_440 rfl ?_
    refine lv_goto (tgt := 1890) hx hb dL_law_441 (by decide) ?_
    exact hend _ _ _ _ _ _ hI2 hPc hPm hS hl
  · refine lv_if_eq (tgt := 403) hx hb dL_law_396 (by decide) (fun hc => absurd hc hz_) (fun _ => ?_)
    refine lv_iconst (v := 1) hx hb dL_law_399 (by decide) ?_
    refine lv_goto (tgt := 404) hx hb dL_law_400 (by decide) ?_
    obtain ⟨σ2, ra, f2, w2, qa, ec, em, hI2, hcmp⟩ := law_s_marks (xs (Int32.toNatClampNeg (i + 1))) (xs (Int32.toNatClampNeg (i + 2))) (xs (Int32.toNatClampNeg (i + 3))) 1 w hI
    refine gb_calli (va_runV (C := RX11) (As := [.int (xs (Int32.toNatClampNeg (i + 1))), .int (xs (Int32.toNatClampNeg (i + 2))), .int (xs (Int32.toNatClampNeg (i + 3))), .int 1]) (rest := []) ⟨hx, hb, hml, hown, hq⟩ (cc_Face_marks l D cT tt z z (Nat.le_refl z) gb_N σ (xs (Int32.toNatClampNeg (i + 1))) (xs (Int32.toNatClampNeg (i + 2))) (xs (Int32.toNatClampNeg (i + 3))) 1 σ2 ra ec) (cwV 4 hq (gb_gV w_615 w_616 w_617 w_1 w_618) rfl rfl rfl (by decide +kernel) ⟨Nat.le_of_ble_eq_true rfl, Nat.le_of_ble_eq_true rfl⟩) (gb_preV (r := (RX11, TX11, 10)) (ci := 9) (q0 := 0) hSt2.1 hPc rfl (gb_at z rfl) hS (fun q h => h) hPc) rfl rfl hl.1 rfl (lv_room (Nat.le_of_ble_eq_true rfl)) dL_law_404 ⟨Nat.le_of_ble_eq_true rfl, Nat.le_of_ble_eq_true rfl⟩) hS (fun q h => h.1) (fun q h => h.1) (fun rc H2 locs2 hY hk hS => ?_)
    obtain ⟨hr_, hY⟩ := hY
    subst hr_
    have hPm := gb_kept hPm (fun q h1 h2 => hk q (Nat.lt_of_lt_of_le h2 ((hPm 21 _ (gb_at (z + 135) rfl)).lt)) (fun h3 => Nat.not_lt.mpr h1 h3.2))
    have hPc := hY
    clear hY
    refine lv_pop hx hb dL_law_407 rfl ?_
    refine lv_aload_n hx hb dL_law_408 rfl (lv_at hl 1 rfl) ?_
    refine lv_aload_n hx hb dL_law_409 rfl (lv_at hl 3 rfl) ?_
    refine lv_iload_n hx hb dL_law_410 rfl (lv_at hl 0 rfl) ?_
    refine lv_iconst (v := 1) hx hb dL_law_411 (by decide) ?_
    refine lv_iadd hx hb dL_law_412 ?_
    refine va_sld hx hb hX hbl hbA hS h1 dL_law_413 ?_
    refine lv_aload_n hx hb dL_law_414 rfl (lv_at hl 3 rfl) ?_
    refine lv_iload_n hx hb dL_law_415 rfl (lv_at hl 0 rfl) ?_
    refine lv_iconst (v := 2) hx hb dL_law_416 (by decide) ?_
    refine lv_iadd hx hb dL_law_417 ?_
    refine va_sld hx hb hX hbl hbA hS h2 dL_law_418 ?_
    refine lv_aload_n hx hb dL_law_419 rfl (lv_at hl 3 rfl) ?_
    refine lv_iload_n hx hb dL_law_420 rfl (lv_at hl 0 rfl) ?_
    refine lv_iconst (v := 3) hx hb dL_law_421 (by decide) ?_
    refine lv_iadd hx hb dL_law_422 ?_
    refine va_sld hx hb hX hbl hbA hS h3 dL_law_423 ?_
    refine lv_aload_n hx hb dL_law_424 rfl (lv_at hl 3 rfl) ?_
    refine lv_iload_n hx hb dL_law_425 rfl (lv_at hl 0 rfl) ?_
    refine lv_iconst (v := 4) hx hb dL_law_426 (by decide) ?_
    refine lv_iadd hx hb dL_law_427 ?_
    refine va_sld hx hb hX hbl hbA hS h4 dL_law_428 ?_
    refine lv_if_eq (tgt := 436) hx hb dL_law_429 (by decide) (fun hc => absurd hc hz_) (fun _ => ?_)
    refine lv_iconst (v := 1) hx hb dL_law_432 (by decide) ?_
    refine lv_goto (tgt := 437) hx hb dL_law_433 (by decide) ?_
    refine gb_calli (va_runV (C := RX12) (As := [.int (xs (Int32.toNatClampNeg (i + 1))), .int (xs (Int32.toNatClampNeg (i + 2))), .int (xs (Int32.toNatClampNeg (i + 3))), .int 1]) (rest := []) ⟨hx, hb, hml, hown, hq⟩ (mc_marks l D cT tt z (z + 135) (Nat.le_add_right z 135) gb_N f w (xs (Int32.toNatClampNeg (i + 1))) (xs (Int32.toNatClampNeg (i + 2))) (xs (Int32.toNatClampNeg (i + 3))) 1 f2 w2 qa em) (cwV 4 hq (gb_gV w_1404 w_1405 w_1406 w_14 w_1407) rfl rfl rfl (by decide +kernel) ⟨Nat.le_of_ble_eq_true rfl, Nat.le_of_ble_eq_true rfl⟩) (gb_preV (r := (RX12, TX12, 44)) (ci := 10) (q0 := 0) hSt2.1 hPm rfl (gb_at (z + 135) rfl) hS (fun q h => h) hPm) rfl rfl hl.1 rfl (lv_room (Nat.le_of_ble_eq_true rfl)) dL_law_437 ⟨Nat.le_of_ble_eq_true rfl, Nat.le_of_ble_eq_true rfl⟩) hS (fun q h => Nat.le_trans (Nat.le_add_right z 135) h.1) (fun q h => Nat.le_trans (Nat.le_add_right z 135) h.1) (fun rm H2 locs2 hY hk hS => ?_)
    obtain ⟨hr_, hY⟩ := hY
    subst hr_
    have hPc := gb_kept hPc (fun q h1 h2 => hk q (Nat.lt_of_lt_of_le h2 (Nat.le_of_lt (Nat.lt_of_le_of_lt (Nat.le_add_right (z + 135) 21) ((hPm 21 _ (gb_at (z + 135) rfl)).lt)))) (fun h3 => Nat.not_lt.mpr h3.1 h2))
    have hPm := hY
    clear hY
    refine lv_pop hx hb dL_law_440 rfl ?_
    refine lv_goto (tgt := 1890) hx hb dL_law_441 (by decide) ?_
    exact hend _ _ _ _ _ _ hI2 hPc hPm hS hl
theorem dL_law_444 : decode cL_law 444 = .ok (.aload_n 1, 1) := dc_43 (dc_cut (j := 60) (n := 1) (l := [43]) dq_cL_law_384 (by decide +kernel) (by decide))
theorem dL_law_445 : decode cL_law 445 = .ok (.aload_n 0, 1) := dc_42 (dc_cut (j := 61) (n := 1) (l := [42]) dq_cL_law_384 (by decide +kernel) (by decide))
theorem dL_law_446 : decode cL_law 446 = .ok (.iload_n 3, 1) := dc_29 (dc_cut (j := 62) (n := 1) (l := [29]) dq_cL_law_384 (by decide +kernel) (by decide))
theorem dL_law_447 : decode cL_law 447 = .ok (.iconst 1, 1) := dc_4 (dc_cut (j := 63) (n := 1) (l := [4]) dq_cL_law_384 (by decide +kernel) (by decide))
theorem dq_cL_law_448 : ((cL_law.data.toList.drop 448).take 67).map UInt8.toNat = [96, 46, 42, 29, 5, 96, 46, 42, 29, 6, 96, 46, 182, 0, 41, 87, 44, 42, 29, 4, 96, 46, 42, 29, 5, 96, 46, 42, 29, 6, 96, 46, 182, 0, 45, 87, 167, 5, 126, 43, 42, 29, 4, 96, 46, 42, 29, 5, 96, 46, 182, 0, 46, 87, 44, 42, 29, 4, 96, 46, 42, 29, 5, 96, 46, 182, 0] := by decide +kernel
theorem dL_law_448 : decode cL_law 448 = .ok (.iadd, 1) := dc_96 (dc_cut (j := 0) (n := 1) (l := [96]) dq_cL_law_448 (by decide +kernel) (by decide))
theorem dL_law_449 : decode cL_law 449 = .ok (.iaload, 1) := dc_46 (dc_cut (j := 1) (n := 1) (l := [46]) dq_cL_law_448 (by decide +kernel) (by decide))
theorem dL_law_450 : decode cL_law 450 = .ok (.aload_n 0, 1) := dc_42 (dc_cut (j := 2) (n := 1) (l := [42]) dq_cL_law_448 (by decide +kernel) (by decide))
theorem dL_law_451 : decode cL_law 451 = .ok (.iload_n 3, 1) := dc_29 (dc_cut (j := 3) (n := 1) (l := [29]) dq_cL_law_448 (by decide +kernel) (by decide))
theorem dL_law_452 : decode cL_law 452 = .ok (.iconst 2, 1) := dc_5 (dc_cut (j := 4) (n := 1) (l := [5]) dq_cL_law_448 (by decide +kernel) (by decide))
theorem dL_law_453 : decode cL_law 453 = .ok (.iadd, 1) := dc_96 (dc_cut (j := 5) (n := 1) (l := [96]) dq_cL_law_448 (by decide +kernel) (by decide))
theorem dL_law_454 : decode cL_law 454 = .ok (.iaload, 1) := dc_46 (dc_cut (j := 6) (n := 1) (l := [46]) dq_cL_law_448 (by decide +kernel) (by decide))
theorem dL_law_455 : decode cL_law 455 = .ok (.aload_n 0, 1) := dc_42 (dc_cut (j := 7) (n := 1) (l := [42]) dq_cL_law_448 (by decide +kernel) (by decide))
theorem dL_law_456 : decode cL_law 456 = .ok (.iload_n 3, 1) := dc_29 (dc_cut (j := 8) (n := 1) (l := [29]) dq_cL_law_448 (by decide +kernel) (by decide))
theorem dL_law_457 : decode cL_law 457 = .ok (.iconst 3, 1) := dc_6 (dc_cut (j := 9) (n := 1) (l := [6]) dq_cL_law_448 (by decide +kernel) (by decide))
theorem dL_law_458 : decode cL_law 458 = .ok (.iadd, 1) := dc_96 (dc_cut (j := 10) (n := 1) (l := [96]) dq_cL_law_448 (by decide +kernel) (by decide))
theorem dL_law_459 : decode cL_law 459 = .ok (.iaload, 1) := dc_46 (dc_cut (j := 11) (n := 1) (l := [46]) dq_cL_law_448 (by decide +kernel) (by decide))
theorem dL_law_460 : decode cL_law 460 = .ok (.invokevirtual 41, 3) := dc_182 (dc_cut (j := 12) (n := 3) (l := [182, 0, 41]) dq_cL_law_448 (by decide +kernel) (by decide)) rfl
theorem w_642 : (Cond.methodLink "GooseBorderLaw" (41 : Nat) ({ cls := "GooseBorder", name := "deed", desc := "(III)I" } : MethodName)) ∈ gb_wA := gb_t3 162 rfl rfl
theorem w_643 : (Cond.instanceMethod ({ cls := "GooseBorder", name := "deed", desc := "(III)I" } : MethodName)) ∈ gb_wA := gb_t3 163 rfl rfl
theorem w_644 : (Cond.selects "GooseBorder" ({ cls := "GooseBorder", name := "deed", desc := "(III)I" } : MethodName) ({ cls := "GooseBorder", name := "deed", desc := "(III)I" } : MethodName)) ∈ gb_wA := gb_t3 164 rfl rfl
theorem w_645 : (Cond.code ({ cls := "GooseBorder", name := "deed", desc := "(III)I" } : MethodName) prog_1_method_11_code (5 : Nat) (Option.some FieldType.int)) ∈ gb_wA := gb_t3 165 rfl rfl
theorem dL_law_463 : decode cL_law 463 = .ok (.pop, 1) := dc_87 (dc_cut (j := 15) (n := 1) (l := [87]) dq_cL_law_448 (by decide +kernel) (by decide))
theorem dL_law_464 : decode cL_law 464 = .ok (.aload_n 2, 1) := dc_44 (dc_cut (j := 16) (n := 1) (l := [44]) dq_cL_law_448 (by decide +kernel) (by decide))
theorem dL_law_465 : decode cL_law 465 = .ok (.aload_n 0, 1) := dc_42 (dc_cut (j := 17) (n := 1) (l := [42]) dq_cL_law_448 (by decide +kernel) (by decide))
theorem dL_law_466 : decode cL_law 466 = .ok (.iload_n 3, 1) := dc_29 (dc_cut (j := 18) (n := 1) (l := [29]) dq_cL_law_448 (by decide +kernel) (by decide))
theorem dL_law_467 : decode cL_law 467 = .ok (.iconst 1, 1) := dc_4 (dc_cut (j := 19) (n := 1) (l := [4]) dq_cL_law_448 (by decide +kernel) (by decide))
theorem dL_law_468 : decode cL_law 468 = .ok (.iadd, 1) := dc_96 (dc_cut (j := 20) (n := 1) (l := [96]) dq_cL_law_448 (by decide +kernel) (by decide))
theorem dL_law_469 : decode cL_law 469 = .ok (.iaload, 1) := dc_46 (dc_cut (j := 21) (n := 1) (l := [46]) dq_cL_law_448 (by decide +kernel) (by decide))
theorem dL_law_470 : decode cL_law 470 = .ok (.aload_n 0, 1) := dc_42 (dc_cut (j := 22) (n := 1) (l := [42]) dq_cL_law_448 (by decide +kernel) (by decide))
theorem dL_law_471 : decode cL_law 471 = .ok (.iload_n 3, 1) := dc_29 (dc_cut (j := 23) (n := 1) (l := [29]) dq_cL_law_448 (by decide +kernel) (by decide))
theorem dL_law_472 : decode cL_law 472 = .ok (.iconst 2, 1) := dc_5 (dc_cut (j := 24) (n := 1) (l := [5]) dq_cL_law_448 (by decide +kernel) (by decide))
theorem dL_law_473 : decode cL_law 473 = .ok (.iadd, 1) := dc_96 (dc_cut (j := 25) (n := 1) (l := [96]) dq_cL_law_448 (by decide +kernel) (by decide))
theorem dL_law_474 : decode cL_law 474 = .ok (.iaload, 1) := dc_46 (dc_cut (j := 26) (n := 1) (l := [46]) dq_cL_law_448 (by decide +kernel) (by decide))
theorem dL_law_475 : decode cL_law 475 = .ok (.aload_n 0, 1) := dc_42 (dc_cut (j := 27) (n := 1) (l := [42]) dq_cL_law_448 (by decide +kernel) (by decide))
theorem dL_law_476 : decode cL_law 476 = .ok (.iload_n 3, 1) := dc_29 (dc_cut (j := 28) (n := 1) (l := [29]) dq_cL_law_448 (by decide +kernel) (by decide))
theorem dL_law_477 : decode cL_law 477 = .ok (.iconst 3, 1) := dc_6 (dc_cut (j := 29) (n := 1) (l := [6]) dq_cL_law_448 (by decide +kernel) (by decide))
theorem dL_law_478 : decode cL_law 478 = .ok (.iadd, 1) := dc_96 (dc_cut (j := 30) (n := 1) (l := [96]) dq_cL_law_448 (by decide +kernel) (by decide))
theorem dL_law_479 : decode cL_law 479 = .ok (.iaload, 1) := dc_46 (dc_cut (j := 31) (n := 1) (l := [46]) dq_cL_law_448 (by decide +kernel) (by decide))
theorem dL_law_480 : decode cL_law 480 = .ok (.invokevirtual 45, 3) := dc_182 (dc_cut (j := 32) (n := 3) (l := [182, 0, 45]) dq_cL_law_448 (by decide +kernel) (by decide)) rfl
theorem w_1412 : (Cond.methodLink "GooseBorderLaw" (45 : Nat) ({ cls := "GooseBorderModel", name := "deed", desc := "(III)I" } : MethodName)) ∈ gb_wA := gb_t6 212 rfl rfl
theorem w_1413 : (Cond.instanceMethod ({ cls := "GooseBorderModel", name := "deed", desc := "(III)I" } : MethodName)) ∈ gb_wA := gb_t6 213 rfl rfl
theorem w_1414 : (Cond.selects "GooseBorderModel" ({ cls := "GooseBorderModel", name := "deed", desc := "(III)I" } : MethodName) ({ cls := "GooseBorderModel", name := "deed", desc := "(III)I" } : MethodName)) ∈ gb_wA := gb_t6 214 rfl rfl
theorem w_1415 : (Cond.code ({ cls := "GooseBorderModel", name := "deed", desc := "(III)I" } : MethodName) prog_14_method_45_code (4 : Nat) (Option.some FieldType.int)) ∈ gb_wA := gb_t6 215 rfl rfl
theorem dL_law_483 : decode cL_law 483 = .ok (.pop, 1) := dc_87 (dc_cut (j := 35) (n := 1) (l := [87]) dq_cL_law_448 (by decide +kernel) (by decide))
theorem dL_law_484 : decode cL_law 484 = .ok (.goto 1406, 3) := dc_167 (dc_cut (j := 36) (n := 3) (l := [167, 5, 126]) dq_cL_law_448 (by decide +kernel) (by decide)) rfl
set_option maxHeartbeats 4000000 in
set_option maxRecDepth 100000 in
theorem law_c6 {p : Program} {l : Launch} {e : Env} {s : State} {m : MethodId} {below : List Frame} {meth : Method} {c : Code} {b z L : Nat} {xs : Nat → Int32} (C0 : lw_At p s m meth c b L xs) (hzz : Array.size s.heap = z) {D : va_G} {cT : Nat → ClassId} {tt ak av : Nat → Nat} (hSt2 : gb_St2 D cT tt ak av z s) {i : Int32} (h1 : vp_in (i + 1) L) (h2 : vp_in (i + 2) L) (h3 : vp_in (i + 3) L) (h4 : vp_in (i + 4) L) (h5 : vp_in (i + 5) L) (hend : ∀ (σ : gb_S) (f : gb_F) (w : Int64) (H : Heap) (locs : List Loc) (ls : Array Slot), gb_Inv σ f → va_P D vwCl (gb_wl z (gb_CW cT z σ)) H → va_P D vwCl (gb_wl (z + 135) (gb_MW cT (z + 135) f w)) H → va_S (gb_ge z) s.heap H locs → lv_has ls 4 [(3, .int i), (2, .ref (z + 135 + 0)), (1, .ref (z + 0)), (0, .ref b)] → W p l e room_1 s m #[Value.ref b] below meth c H locs 157 10381 (lw_Z below #[Value.ref b] s) (F0 m 1890 ls [])) : ∀ (σ : gb_S) (f : gb_F) (w : Int64) (H : Heap) (locs : List Loc) (ls : Array Slot), gb_Inv σ f → va_P D vwCl (gb_wl z (gb_CW cT z σ)) H → va_P D vwCl (gb_wl (z + 135) (gb_MW cT (z + 135) f w)) H → va_S (gb_ge z) s.heap H locs → lv_has ls 4 [(3, .int i), (2, .ref (z + 135 + 0)), (1, .ref (z + 0)), (0, .ref b)] → W p l e room_1 s m #[Value.ref b] below meth c H locs 157 10381 (lw_Z below #[Value.ref b] s) (F0 m 444 ls []) := by
  obtain ⟨hx, hb, hr, hml, hown, hts, hX, hbl, hlocks, hgv⟩ := C0
  have hq : ∀ w ∈ gb_wA, w.before #[Value.ref b] s = true := fun w h => hts w (gb_wA_tbl w h)
  have hbA : ¬ gb_ge z b := Nat.not_le.mpr (by rw [← hzz]; exact hbl)
  intro σ f w H locs ls hI hPc hPm hS hl
  refine lv_aload_n hx hb dL_law_444 rfl (lv_at hl 2 rfl) ?_
  refine lv_aload_n hx hb dL_law_445 rfl (lv_at hl 3 rfl) ?_
  refine lv_iload_n hx hb dL_law_446 rfl (lv_at hl 0 rfl) ?_
  refine lv_iconst (v := 1) hx hb dL_law_447 (by decide) ?_
  refine lv_iadd hx hb dL_law_448 ?_
  refine va_sld hx hb hX hbl hbA hS h1 dL_law_449 ?_
  refine lv_aload_n hx hb dL_law_450 rfl (lv_at hl 3 rfl) ?_
  refine lv_iload_n hx hb dL_law_451 rfl (lv_at hl 0 rfl) ?_
  refine lv_iconst (v := 2) hx hb dL_law_452 (by decide) ?_
  refine lv_iadd hx hb dL_law_453 ?_
  refine va_sld hx hb hX hbl hbA hS h2 dL_law_454 ?_
  refine lv_aload_n hx hb dL_law_455 rfl (lv_at hl 3 rfl) ?_
  refine lv_iload_n hx hb dL_law_456 rfl (lv_at hl 0 rfl) ?_
  refine lv_iconst (v := 3) hx hb dL_law_457 (by decide) ?_
  refine lv_iadd hx hb dL_law_458 ?_
  refine va_sld hx hb hX hbl hbA hS h3 dL_law_459 ?_
  obtain ⟨σ2, ra, f2, w2, qa, ec, em, hI2, hcmp⟩ := law_s_deed (xs (Int32.toNatClampNeg (i + 1))) (xs (Int32.toNatClampNeg (i + 2))) (xs (Int32.toNatClampNeg (i + 3))) w hI
  refine gb_calli (va_runV (C := RX11) (As := [.int (xs (Int32.toNatClampNeg (i + 1))), .int (xs (Int32.toNatClampNeg (i + 2))), .int (xs (Int32.toNatClampNeg (i + 3)))]) (rest := []) ⟨hx, hb, hml, hown, hq⟩ (cc_Face_deed l D cT tt z z (Nat.le_refl z) gb_N σ (xs (Int32.toNatClampNeg (i + 1))) (xs (Int32.toNatClampNeg (i + 2))) (xs (Int32.toNatClampNeg (i + 3))) σ2 ra ec) (cwV 3 hq (gb_gV w_642 w_643 w_644 w_1 w_645) rfl rfl rfl (by decide +kernel) ⟨Nat.le_of_ble_eq_true rfl, Nat.le_of_ble_eq_true rfl⟩) (gb_preV (r := (RX11, TX11, 10)) (ci := 9) (q0 := 0) hSt2.1 hPc rfl (gb_at z rfl) hS (fun q h => h) hPc) rfl rfl hl.1 rfl (lv_room (Nat.le_of_ble_eq_true rfl)) dL_law_460 ⟨Nat.le_of_ble_eq_true rfl, Nat.le_of_ble_eq_true rfl⟩) hS (fun q h => h.1) (fun q h => h.1) (fun rc H2 locs2 hY hk hS => ?_)
  obtain ⟨hr_, hY⟩ := hY
  subst hr_
  have hPm := gb_kept hPm (fun q h1 h2 => hk q (Nat.lt_of_lt_of_le h2 ((hPm 21 _ (gb_at (z + 135) rfl)).lt)) (fun h3 => Nat.not_lt.mpr h1 h3.2))
  have hPc := hY
  clear hY
  refine lv_pop hx hb dL_law_463 rfl ?_
  refine lv_aload_n hx hb dL_law_464 rfl (lv_at hl 1 rfl) ?_
  refine lv_aload_n hx hb dL_law_465 rfl (lv_at hl 3 rfl) ?_
  refine lv_iload_n hx hb dL_law_466 rfl (lv_at hl 0 rfl) ?_
  refine lv_iconst (v := 1) hx hb dL_law_467 (by decide) ?_
  refine lv_iadd hx hb dL_law_468 ?_
  refine va_sld hx hb hX hbl hbA hS h1 dL_law_469 ?_
  refine lv_aload_n hx hb dL_law_470 rfl (lv_at hl 3 rfl) ?_
  refine lv_iload_n hx hb dL_law_471 rfl (lv_at hl 0 rfl) ?_
  refine lv_iconst (v := 2) hx hb dL_law_472 (by decide) ?_
  refine lv_iadd hx hb dL_law_473 ?_
  refine va_sld hx hb hX hbl hbA hS h2 dL_law_474 ?_
  refine lv_aload_n hx hb dL_law_475 rfl (lv_at hl 3 rfl) ?_
  refine lv_iload_n hx hb dL_law_476 rfl (lv_at hl 0 rfl) ?_
  refine lv_iconst (v := 3) hx hb dL_law_477 (by decide) ?_
  refine lv_iadd hx hb dL_law_478 ?_
  refine va_sld hx hb hX hbl hbA hS h3 dL_law_479 ?_
  refine gb_calli (va_runV (C := RX12) (As := [.int (xs (Int32.toNatClampNeg (i + 1))), .int (xs (Int32.toNatClampNeg (i + 2))), .int (xs (Int32.toNatClampNeg (i + 3)))]) (rest := []) ⟨hx, hb, hml, hown, hq⟩ (mc_deed l D cT tt z (z + 135) (Nat.le_add_right z 135) gb_N f w (xs (Int32.toNatClampNeg (i + 1))) (xs (Int32.toNatClampNeg (i + 2))) (xs (Int32.toNatClampNeg (i + 3))) f2 w2 qa em) (cwV 3 hq (gb_gV w_1412 w_1413 w_1414 w_14 w_1415) rfl rfl rfl (by decide +kernel) ⟨Nat.le_of_ble_eq_true rfl, Nat.le_of_ble_eq_true rfl⟩) (gb_preV (r := (RX12, TX12, 44)) (ci := 10) (q0 := 0) hSt2.1 hPm rfl (gb_at (z + 135) rfl) hS (fun q h => h) hPm) rfl rfl hl.1 rfl (lv_room (Nat.le_of_ble_eq_true rfl)) dL_law_480 ⟨Nat.le_of_ble_eq_true rfl, Nat.le_of_ble_eq_true rfl⟩) hS (fun q h => Nat.le_trans (Nat.le_add_right z 135) h.1) (fun q h => Nat.le_trans (Nat.le_add_right z 135) h.1) (fun rm H2 locs2 hY hk hS => ?_)
  obtain ⟨hr_, hY⟩ := hY
  subst hr_
  have hPc := gb_kept hPc (fun q h1 h2 => hk q (Nat.lt_of_lt_of_le h2 (Nat.le_of_lt (Nat.lt_of_le_of_lt (Nat.le_add_right (z + 135) 21) ((hPm 21 _ (gb_at (z + 135) rfl)).lt)))) (fun h3 => Nat.not_lt.mpr h3.1 h2))
  have hPm := hY
  clear hY
  refine lv_pop hx hb dL_law_483 rfl ?_
  refine lv_goto (tgt := 1890) hx hb dL_law_484 (by decide) ?_
  exact hend _ _ _ _ _ _ hI2 hPc hPm hS hl
theorem dL_law_487 : decode cL_law 487 = .ok (.aload_n 1, 1) := dc_43 (dc_cut (j := 39) (n := 1) (l := [43]) dq_cL_law_448 (by decide +kernel) (by decide))
theorem dL_law_488 : decode cL_law 488 = .ok (.aload_n 0, 1) := dc_42 (dc_cut (j := 40) (n := 1) (l := [42]) dq_cL_law_448 (by decide +kernel) (by decide))
theorem dL_law_489 : decode cL_law 489 = .ok (.iload_n 3, 1) := dc_29 (dc_cut (j := 41) (n := 1) (l := [29]) dq_cL_law_448 (by decide +kernel) (by decide))
theorem dL_law_490 : decode cL_law 490 = .ok (.iconst 1, 1) := dc_4 (dc_cut (j := 42) (n := 1) (l := [4]) dq_cL_law_448 (by decide +kernel) (by decide))
theorem dL_law_491 : decode cL_law 491 = .ok (.iadd, 1) := dc_96 (dc_cut (j := 43) (n := 1) (l := [96]) dq_cL_law_448 (by decide +kernel) (by decide))
theorem dL_law_492 : decode cL_law 492 = .ok (.iaload, 1) := dc_46 (dc_cut (j := 44) (n := 1) (l := [46]) dq_cL_law_448 (by decide +kernel) (by decide))
theorem dL_law_493 : decode cL_law 493 = .ok (.aload_n 0, 1) := dc_42 (dc_cut (j := 45) (n := 1) (l := [42]) dq_cL_law_448 (by decide +kernel) (by decide))
theorem dL_law_494 : decode cL_law 494 = .ok (.iload_n 3, 1) := dc_29 (dc_cut (j := 46) (n := 1) (l := [29]) dq_cL_law_448 (by decide +kernel) (by decide))
theorem dL_law_495 : decode cL_law 495 = .ok (.iconst 2, 1) := dc_5 (dc_cut (j := 47) (n := 1) (l := [5]) dq_cL_law_448 (by decide +kernel) (by decide))
theorem dL_law_496 : decode cL_law 496 = .ok (.iadd, 1) := dc_96 (dc_cut (j := 48) (n := 1) (l := [96]) dq_cL_law_448 (by decide +kernel) (by decide))
theorem dL_law_497 : decode cL_law 497 = .ok (.iaload, 1) := dc_46 (dc_cut (j := 49) (n := 1) (l := [46]) dq_cL_law_448 (by decide +kernel) (by decide))
theorem dL_law_498 : decode cL_law 498 = .ok (.invokevirtual 46, 3) := dc_182 (dc_cut (j := 50) (n := 3) (l := [182, 0, 46]) dq_cL_law_448 (by decide +kernel) (by decide)) rfl
theorem w_693 : (Cond.methodLink "GooseBorderLaw" (46 : Nat) ({ cls := "GooseBorder", name := "stop", desc := "(II)I" } : MethodName)) ∈ gb_wA := gb_t3 213 rfl rfl
theorem w_694 : (Cond.instanceMethod ({ cls := "GooseBorder", name := "stop", desc := "(II)I" } : MethodName)) ∈ gb_wA := gb_t3 214 rfl rfl
theorem w_695 : (Cond.selects "GooseBorder" ({ cls := "GooseBorder", name := "stop", desc := "(II)I" } : MethodName) ({ cls := "GooseBorder", name := "stop", desc := "(II)I" } : MethodName)) ∈ gb_wA := gb_t3 215 rfl rfl
theorem w_696 : (Cond.code ({ cls := "GooseBorder", name := "stop", desc := "(II)I" } : MethodName) prog_1_method_20_code (3 : Nat) (Option.some FieldType.int)) ∈ gb_wA := gb_t3 216 rfl rfl
theorem dL_law_501 : decode cL_law 501 = .ok (.pop, 1) := dc_87 (dc_cut (j := 53) (n := 1) (l := [87]) dq_cL_law_448 (by decide +kernel) (by decide))
theorem dL_law_502 : decode cL_law 502 = .ok (.aload_n 2, 1) := dc_44 (dc_cut (j := 54) (n := 1) (l := [44]) dq_cL_law_448 (by decide +kernel) (by decide))
theorem dL_law_503 : decode cL_law 503 = .ok (.aload_n 0, 1) := dc_42 (dc_cut (j := 55) (n := 1) (l := [42]) dq_cL_law_448 (by decide +kernel) (by decide))
theorem dL_law_504 : decode cL_law 504 = .ok (.iload_n 3, 1) := dc_29 (dc_cut (j := 56) (n := 1) (l := [29]) dq_cL_law_448 (by decide +kernel) (by decide))
theorem dL_law_505 : decode cL_law 505 = .ok (.iconst 1, 1) := dc_4 (dc_cut (j := 57) (n := 1) (l := [4]) dq_cL_law_448 (by decide +kernel) (by decide))
theorem dL_law_506 : decode cL_law 506 = .ok (.iadd, 1) := dc_96 (dc_cut (j := 58) (n := 1) (l := [96]) dq_cL_law_448 (by decide +kernel) (by decide))
theorem dL_law_507 : decode cL_law 507 = .ok (.iaload, 1) := dc_46 (dc_cut (j := 59) (n := 1) (l := [46]) dq_cL_law_448 (by decide +kernel) (by decide))
theorem dL_law_508 : decode cL_law 508 = .ok (.aload_n 0, 1) := dc_42 (dc_cut (j := 60) (n := 1) (l := [42]) dq_cL_law_448 (by decide +kernel) (by decide))
theorem dL_law_509 : decode cL_law 509 = .ok (.iload_n 3, 1) := dc_29 (dc_cut (j := 61) (n := 1) (l := [29]) dq_cL_law_448 (by decide +kernel) (by decide))
theorem dL_law_510 : decode cL_law 510 = .ok (.iconst 2, 1) := dc_5 (dc_cut (j := 62) (n := 1) (l := [5]) dq_cL_law_448 (by decide +kernel) (by decide))
theorem dL_law_511 : decode cL_law 511 = .ok (.iadd, 1) := dc_96 (dc_cut (j := 63) (n := 1) (l := [96]) dq_cL_law_448 (by decide +kernel) (by decide))
theorem dq_cL_law_512 : ((cL_law.data.toList.drop 512).take 67).map UInt8.toNat = [46, 182, 0, 49, 87, 167, 5, 93, 43, 42, 29, 4, 96, 46, 42, 29, 5, 96, 46, 42, 29, 6, 96, 46, 42, 29, 7, 96, 46, 42, 29, 8, 96, 46, 182, 0, 50, 87, 44, 42, 29, 4, 96, 46, 42, 29, 5, 96, 46, 42, 29, 6, 96, 46, 42, 29, 7, 96, 46, 42, 29, 8, 96, 46, 182, 0, 53] := by decide +kernel
theorem dL_law_512 : decode cL_law 512 = .ok (.iaload, 1) := dc_46 (dc_cut (j := 0) (n := 1) (l := [46]) dq_cL_law_512 (by decide +kernel) (by decide))
theorem dL_law_513 : decode cL_law 513 = .ok (.invokevirtual 49, 3) := dc_182 (dc_cut (j := 1) (n := 3) (l := [182, 0, 49]) dq_cL_law_512 (by decide +kernel) (by decide)) rfl
theorem w_1424 : (Cond.methodLink "GooseBorderLaw" (49 : Nat) ({ cls := "GooseBorderModel", name := "stop", desc := "(II)I" } : MethodName)) ∈ gb_wA := gb_t6 224 rfl rfl
theorem w_1425 : (Cond.instanceMethod ({ cls := "GooseBorderModel", name := "stop", desc := "(II)I" } : MethodName)) ∈ gb_wA := gb_t6 225 rfl rfl
theorem w_1426 : (Cond.selects "GooseBorderModel" ({ cls := "GooseBorderModel", name := "stop", desc := "(II)I" } : MethodName) ({ cls := "GooseBorderModel", name := "stop", desc := "(II)I" } : MethodName)) ∈ gb_wA := gb_t6 226 rfl rfl
theorem w_1427 : (Cond.code ({ cls := "GooseBorderModel", name := "stop", desc := "(II)I" } : MethodName) prog_14_method_55_code (3 : Nat) (Option.some FieldType.int)) ∈ gb_wA := gb_t6 227 rfl rfl
theorem dL_law_516 : decode cL_law 516 = .ok (.pop, 1) := dc_87 (dc_cut (j := 4) (n := 1) (l := [87]) dq_cL_law_512 (by decide +kernel) (by decide))
theorem dL_law_517 : decode cL_law 517 = .ok (.goto 1373, 3) := dc_167 (dc_cut (j := 5) (n := 3) (l := [167, 5, 93]) dq_cL_law_512 (by decide +kernel) (by decide)) rfl
set_option maxHeartbeats 4000000 in
set_option maxRecDepth 100000 in
theorem law_c7 {p : Program} {l : Launch} {e : Env} {s : State} {m : MethodId} {below : List Frame} {meth : Method} {c : Code} {b z L : Nat} {xs : Nat → Int32} (C0 : lw_At p s m meth c b L xs) (hzz : Array.size s.heap = z) {D : va_G} {cT : Nat → ClassId} {tt ak av : Nat → Nat} (hSt2 : gb_St2 D cT tt ak av z s) {i : Int32} (h1 : vp_in (i + 1) L) (h2 : vp_in (i + 2) L) (h3 : vp_in (i + 3) L) (h4 : vp_in (i + 4) L) (h5 : vp_in (i + 5) L) (hend : ∀ (σ : gb_S) (f : gb_F) (w : Int64) (H : Heap) (locs : List Loc) (ls : Array Slot), gb_Inv σ f → va_P D vwCl (gb_wl z (gb_CW cT z σ)) H → va_P D vwCl (gb_wl (z + 135) (gb_MW cT (z + 135) f w)) H → va_S (gb_ge z) s.heap H locs → lv_has ls 4 [(3, .int i), (2, .ref (z + 135 + 0)), (1, .ref (z + 0)), (0, .ref b)] → W p l e room_1 s m #[Value.ref b] below meth c H locs 157 10381 (lw_Z below #[Value.ref b] s) (F0 m 1890 ls [])) : ∀ (σ : gb_S) (f : gb_F) (w : Int64) (H : Heap) (locs : List Loc) (ls : Array Slot), gb_Inv σ f → va_P D vwCl (gb_wl z (gb_CW cT z σ)) H → va_P D vwCl (gb_wl (z + 135) (gb_MW cT (z + 135) f w)) H → va_S (gb_ge z) s.heap H locs → lv_has ls 4 [(3, .int i), (2, .ref (z + 135 + 0)), (1, .ref (z + 0)), (0, .ref b)] → W p l e room_1 s m #[Value.ref b] below meth c H locs 157 10381 (lw_Z below #[Value.ref b] s) (F0 m 487 ls []) := by
  obtain ⟨hx, hb, hr, hml, hown, hts, hX, hbl, hlocks, hgv⟩ := C0
  have hq : ∀ w ∈ gb_wA, w.before #[Value.ref b] s = true := fun w h => hts w (gb_wA_tbl w h)
  have hbA : ¬ gb_ge z b := Nat.not_le.mpr (by rw [← hzz]; exact hbl)
  intro σ f w H locs ls hI hPc hPm hS hl
  refine lv_aload_n hx hb dL_law_487 rfl (lv_at hl 2 rfl) ?_
  refine lv_aload_n hx hb dL_law_488 rfl (lv_at hl 3 rfl) ?_
  refine lv_iload_n hx hb dL_law_489 rfl (lv_at hl 0 rfl) ?_
  refine lv_iconst (v := 1) hx hb dL_law_490 (by decide) ?_
  refine lv_iadd hx hb dL_law_491 ?_
  refine va_sld hx hb hX hbl hbA hS h1 dL_law_492 ?_
  refine lv_aload_n hx hb dL_law_493 rfl (lv_at hl 3 rfl) ?_
  refine lv_iload_n hx hb dL_law_494 rfl (lv_at hl 0 rfl) ?_
  refine lv_iconst (v := 2) hx hb dL_law_495 (by decide) ?_
  refine lv_iadd hx hb dL_law_496 ?_
  refine va_sld hx hb hX hbl hbA hS h2 dL_law_497 ?_
  obtain ⟨σ2, ra, f2, w2, qa, ec, em, hI2, hcmp⟩ := law_s_stop (xs (Int32.toNatClampNeg (i + 1))) (xs (Int32.toNatClampNeg (i + 2))) w hI
  refine gb_calli (va_runV (C := RX11) (As := [.int (xs (Int32.toNatClampNeg (i + 1))), .int (xs (Int32.toNatClampNeg (i + 2)))]) (rest := []) ⟨hx, hb, hml, hown, hq⟩ (cc_Face_stop l D cT tt z z (Nat.le_refl z) gb_N σ (xs (Int32.toNatClampNeg (i + 1))) (xs (Int32.toNatClampNeg (i + 2))) σ2 ra ec) (cwV 2 hq (gb_gV w_693 w_694 w_695 w_1 w_696) rfl rfl rfl (by decide +kernel) ⟨Nat.le_of_ble_eq_true rfl, Nat.le_of_ble_eq_true rfl⟩) (gb_preV (r := (RX11, TX11, 10)) (ci := 9) (q0 := 0) hSt2.1 hPc rfl (gb_at z rfl) hS (fun q h => h) hPc) rfl rfl hl.1 rfl (lv_room (Nat.le_of_ble_eq_true rfl)) dL_law_498 ⟨Nat.le_of_ble_eq_true rfl, Nat.le_of_ble_eq_true rfl⟩) hS (fun q h => h.1) (fun q h => h.1) (fun rc H2 locs2 hY hk hS => ?_)
  obtain ⟨hr_, hY⟩ := hY
  subst hr_
  have hPm := gb_kept hPm (fun q h1 h2 => hk q (Nat.lt_of_lt_of_le h2 ((hPm 21 _ (gb_at (z + 135) rfl)).lt)) (fun h3 => Nat.not_lt.mpr h1 h3.2))
  have hPc := hY
  clear hY
  refine lv_pop hx hb dL_law_501 rfl ?_
  refine lv_aload_n hx hb dL_law_502 rfl (lv_at hl 1 rfl) ?_
  refine lv_aload_n hx hb dL_law_503 rfl (lv_at hl 3 rfl) ?_
  refine lv_iload_n hx hb dL_law_504 rfl (lv_at hl 0 rfl) ?_
  refine lv_iconst (v := 1) hx hb dL_law_505 (by decide) ?_
  refine lv_iadd hx hb dL_law_506 ?_
  refine va_sld hx hb hX hbl hbA hS h1 dL_law_507 ?_
  refine lv_aload_n hx hb dL_law_508 rfl (lv_at hl 3 rfl) ?_
  refine lv_iload_n hx hb dL_law_509 rfl (lv_at hl 0 rfl) ?_
  refine lv_iconst (v := 2) hx hb dL_law_510 (by decide) ?_
  refine lv_iadd hx hb dL_law_511 ?_
  refine va_sld hx hb hX hbl hbA hS h2 dL_law_512 ?_
  refine gb_calli (va_runV (C := RX12) (As := [.int (xs (Int32.toNatClampNeg (i + 1))), .int (xs (Int32.toNatClampNeg (i + 2)))]) (rest := []) ⟨hx, hb, hml, hown, hq⟩ (mc_stop l D cT tt z (z + 135) (Nat.le_add_right z 135) gb_N f w (xs (Int32.toNatClampNeg (i + 1))) (xs (Int32.toNatClampNeg (i + 2))) f2 w2 qa em) (cwV 2 hq (gb_gV w_1424 w_1425 w_1426 w_14 w_1427) rfl rfl rfl (by decide +kernel) ⟨Nat.le_of_ble_eq_true rfl, Nat.le_of_ble_eq_true rfl⟩) (gb_preV (r := (RX12, TX12, 44)) (ci := 10) (q0 := 0) hSt2.1 hPm rfl (gb_at (z + 135) rfl) hS (fun q h => h) hPm) rfl rfl hl.1 rfl (lv_room (Nat.le_of_ble_eq_true rfl)) dL_law_513 ⟨Nat.le_of_ble_eq_true rfl, Nat.le_of_ble_eq_true rfl⟩) hS (fun q h => Nat.le_trans (Nat.le_add_right z 135) h.1) (fun q h => Nat.le_trans (Nat.le_add_right z 135) h.1) (fun rm H2 locs2 hY hk hS => ?_)
  obtain ⟨hr_, hY⟩ := hY
  subst hr_
  have hPc := gb_kept hPc (fun q h1 h2 => hk q (Nat.lt_of_lt_of_le h2 (Nat.le_of_lt (Nat.lt_of_le_of_lt (Nat.le_add_right (z + 135) 21) ((hPm 21 _ (gb_at (z + 135) rfl)).lt)))) (fun h3 => Nat.not_lt.mpr h3.1 h2))
  have hPm := hY
  clear hY
  refine lv_pop hx hb dL_law_516 rfl ?_
  refine lv_goto (tgt := 1890) hx hb dL_law_517 (by decide) ?_
  exact hend _ _ _ _ _ _ hI2 hPc hPm hS hl
theorem dL_law_520 : decode cL_law 520 = .ok (.aload_n 1, 1) := dc_43 (dc_cut (j := 8) (n := 1) (l := [43]) dq_cL_law_512 (by decide +kernel) (by decide))
theorem dL_law_521 : decode cL_law 521 = .ok (.aload_n 0, 1) := dc_42 (dc_cut (j := 9) (n := 1) (l := [42]) dq_cL_law_512 (by decide +kernel) (by decide))
theorem dL_law_522 : decode cL_law 522 = .ok (.iload_n 3, 1) := dc_29 (dc_cut (j := 10) (n := 1) (l := [29]) dq_cL_law_512 (by decide +kernel) (by decide))
theorem dL_law_523 : decode cL_law 523 = .ok (.iconst 1, 1) := dc_4 (dc_cut (j := 11) (n := 1) (l := [4]) dq_cL_law_512 (by decide +kernel) (by decide))
theorem dL_law_524 : decode cL_law 524 = .ok (.iadd, 1) := dc_96 (dc_cut (j := 12) (n := 1) (l := [96]) dq_cL_law_512 (by decide +kernel) (by decide))
theorem dL_law_525 : decode cL_law 525 = .ok (.iaload, 1) := dc_46 (dc_cut (j := 13) (n := 1) (l := [46]) dq_cL_law_512 (by decide +kernel) (by decide))
theorem dL_law_526 : decode cL_law 526 = .ok (.aload_n 0, 1) := dc_42 (dc_cut (j := 14) (n := 1) (l := [42]) dq_cL_law_512 (by decide +kernel) (by decide))
theorem dL_law_527 : decode cL_law 527 = .ok (.iload_n 3, 1) := dc_29 (dc_cut (j := 15) (n := 1) (l := [29]) dq_cL_law_512 (by decide +kernel) (by decide))
theorem dL_law_528 : decode cL_law 528 = .ok (.iconst 2, 1) := dc_5 (dc_cut (j := 16) (n := 1) (l := [5]) dq_cL_law_512 (by decide +kernel) (by decide))
theorem dL_law_529 : decode cL_law 529 = .ok (.iadd, 1) := dc_96 (dc_cut (j := 17) (n := 1) (l := [96]) dq_cL_law_512 (by decide +kernel) (by decide))
theorem dL_law_530 : decode cL_law 530 = .ok (.iaload, 1) := dc_46 (dc_cut (j := 18) (n := 1) (l := [46]) dq_cL_law_512 (by decide +kernel) (by decide))
theorem dL_law_531 : decode cL_law 531 = .ok (.aload_n 0, 1) := dc_42 (dc_cut (j := 19) (n := 1) (l := [42]) dq_cL_law_512 (by decide +kernel) (by decide))
theorem dL_law_532 : decode cL_law 532 = .ok (.iload_n 3, 1) := dc_29 (dc_cut (j := 20) (n := 1) (l := [29]) dq_cL_law_512 (by decide +kernel) (by decide))
theorem dL_law_533 : decode cL_law 533 = .ok (.iconst 3, 1) := dc_6 (dc_cut (j := 21) (n := 1) (l := [6]) dq_cL_law_512 (by decide +kernel) (by decide))
theorem dL_law_534 : decode cL_law 534 = .ok (.iadd, 1) := dc_96 (dc_cut (j := 22) (n := 1) (l := [96]) dq_cL_law_512 (by decide +kernel) (by decide))
theorem dL_law_535 : decode cL_law 535 = .ok (.iaload, 1) := dc_46 (dc_cut (j := 23) (n := 1) (l := [46]) dq_cL_law_512 (by decide +kernel) (by decide))
theorem dL_law_536 : decode cL_law 536 = .ok (.aload_n 0, 1) := dc_42 (dc_cut (j := 24) (n := 1) (l := [42]) dq_cL_law_512 (by decide +kernel) (by decide))
theorem dL_law_537 : decode cL_law 537 = .ok (.iload_n 3, 1) := dc_29 (dc_cut (j := 25) (n := 1) (l := [29]) dq_cL_law_512 (by decide +kernel) (by decide))
theorem dL_law_538 : decode cL_law 538 = .ok (.iconst 4, 1) := dc_7 (dc_cut (j := 26) (n := 1) (l := [7]) dq_cL_law_512 (by decide +kernel) (by decide))
theorem dL_law_539 : decode cL_law 539 = .ok (.iadd, 1) := dc_96 (dc_cut (j := 27) (n := 1) (l := [96]) dq_cL_law_512 (by decide +kernel) (by decide))
theorem dL_law_540 : decode cL_law 540 = .ok (.iaload, 1) := dc_46 (dc_cut (j := 28) (n := 1) (l := [46]) dq_cL_law_512 (by decide +kernel) (by decide))
theorem dL_law_541 : decode cL_law 541 = .ok (.aload_n 0, 1) := dc_42 (dc_cut (j := 29) (n := 1) (l := [42]) dq_cL_law_512 (by decide +kernel) (by decide))
theorem dL_law_542 : decode cL_law 542 = .ok (.iload_n 3, 1) := dc_29 (dc_cut (j := 30) (n := 1) (l := [29]) dq_cL_law_512 (by decide +kernel) (by decide))
theorem dL_law_543 : decode cL_law 543 = .ok (.iconst 5, 1) := dc_8 (dc_cut (j := 31) (n := 1) (l := [8]) dq_cL_law_512 (by decide +kernel) (by decide))
theorem dL_law_544 : decode cL_law 544 = .ok (.iadd, 1) := dc_96 (dc_cut (j := 32) (n := 1) (l := [96]) dq_cL_law_512 (by decide +kernel) (by decide))
theorem dL_law_545 : decode cL_law 545 = .ok (.iaload, 1) := dc_46 (dc_cut (j := 33) (n := 1) (l := [46]) dq_cL_law_512 (by decide +kernel) (by decide))
theorem dL_law_546 : decode cL_law 546 = .ok (.invokevirtual 50, 3) := dc_182 (dc_cut (j := 34) (n := 3) (l := [182, 0, 50]) dq_cL_law_512 (by decide +kernel) (by decide)) rfl
theorem w_759 : (Cond.methodLink "GooseBorderLaw" (50 : Nat) ({ cls := "GooseBorder", name := "goose", desc := "(IIIII)I" } : MethodName)) ∈ gb_wA := gb_t4 39 rfl rfl
theorem w_760 : (Cond.instanceMethod ({ cls := "GooseBorder", name := "goose", desc := "(IIIII)I" } : MethodName)) ∈ gb_wA := gb_t4 40 rfl rfl
theorem w_761 : (Cond.selects "GooseBorder" ({ cls := "GooseBorder", name := "goose", desc := "(IIIII)I" } : MethodName) ({ cls := "GooseBorder", name := "goose", desc := "(IIIII)I" } : MethodName)) ∈ gb_wA := gb_t4 41 rfl rfl
theorem w_762 : (Cond.code ({ cls := "GooseBorder", name := "goose", desc := "(IIIII)I" } : MethodName) prog_1_method_21_code (7 : Nat) (Option.some FieldType.int)) ∈ gb_wA := gb_t4 42 rfl rfl
theorem dL_law_549 : decode cL_law 549 = .ok (.pop, 1) := dc_87 (dc_cut (j := 37) (n := 1) (l := [87]) dq_cL_law_512 (by decide +kernel) (by decide))
theorem dL_law_550 : decode cL_law 550 = .ok (.aload_n 2, 1) := dc_44 (dc_cut (j := 38) (n := 1) (l := [44]) dq_cL_law_512 (by decide +kernel) (by decide))
theorem dL_law_551 : decode cL_law 551 = .ok (.aload_n 0, 1) := dc_42 (dc_cut (j := 39) (n := 1) (l := [42]) dq_cL_law_512 (by decide +kernel) (by decide))
theorem dL_law_552 : decode cL_law 552 = .ok (.iload_n 3, 1) := dc_29 (dc_cut (j := 40) (n := 1) (l := [29]) dq_cL_law_512 (by decide +kernel) (by decide))
theorem dL_law_553 : decode cL_law 553 = .ok (.iconst 1, 1) := dc_4 (dc_cut (j := 41) (n := 1) (l := [4]) dq_cL_law_512 (by decide +kernel) (by decide))
theorem dL_law_554 : decode cL_law 554 = .ok (.iadd, 1) := dc_96 (dc_cut (j := 42) (n := 1) (l := [96]) dq_cL_law_512 (by decide +kernel) (by decide))
theorem dL_law_555 : decode cL_law 555 = .ok (.iaload, 1) := dc_46 (dc_cut (j := 43) (n := 1) (l := [46]) dq_cL_law_512 (by decide +kernel) (by decide))
theorem dL_law_556 : decode cL_law 556 = .ok (.aload_n 0, 1) := dc_42 (dc_cut (j := 44) (n := 1) (l := [42]) dq_cL_law_512 (by decide +kernel) (by decide))
theorem dL_law_557 : decode cL_law 557 = .ok (.iload_n 3, 1) := dc_29 (dc_cut (j := 45) (n := 1) (l := [29]) dq_cL_law_512 (by decide +kernel) (by decide))
theorem dL_law_558 : decode cL_law 558 = .ok (.iconst 2, 1) := dc_5 (dc_cut (j := 46) (n := 1) (l := [5]) dq_cL_law_512 (by decide +kernel) (by decide))
theorem dL_law_559 : decode cL_law 559 = .ok (.iadd, 1) := dc_96 (dc_cut (j := 47) (n := 1) (l := [96]) dq_cL_law_512 (by decide +kernel) (by decide))
theorem dL_law_560 : decode cL_law 560 = .ok (.iaload, 1) := dc_46 (dc_cut (j := 48) (n := 1) (l := [46]) dq_cL_law_512 (by decide +kernel) (by decide))
theorem dL_law_561 : decode cL_law 561 = .ok (.aload_n 0, 1) := dc_42 (dc_cut (j := 49) (n := 1) (l := [42]) dq_cL_law_512 (by decide +kernel) (by decide))
theorem dL_law_562 : decode cL_law 562 = .ok (.iload_n 3, 1) := dc_29 (dc_cut (j := 50) (n := 1) (l := [29]) dq_cL_law_512 (by decide +kernel) (by decide))
theorem dL_law_563 : decode cL_law 563 = .ok (.iconst 3, 1) := dc_6 (dc_cut (j := 51) (n := 1) (l := [6]) dq_cL_law_512 (by decide +kernel) (by decide))
theorem dL_law_564 : decode cL_law 564 = .ok (.iadd, 1) := dc_96 (dc_cut (j := 52) (n := 1) (l := [96]) dq_cL_law_512 (by decide +kernel) (by decide))
theorem dL_law_565 : decode cL_law 565 = .ok (.iaload, 1) := dc_46 (dc_cut (j := 53) (n := 1) (l := [46]) dq_cL_law_512 (by decide +kernel) (by decide))
theorem dL_law_566 : decode cL_law 566 = .ok (.aload_n 0, 1) := dc_42 (dc_cut (j := 54) (n := 1) (l := [42]) dq_cL_law_512 (by decide +kernel) (by decide))
theorem dL_law_567 : decode cL_law 567 = .ok (.iload_n 3, 1) := dc_29 (dc_cut (j := 55) (n := 1) (l := [29]) dq_cL_law_512 (by decide +kernel) (by decide))
theorem dL_law_568 : decode cL_law 568 = .ok (.iconst 4, 1) := dc_7 (dc_cut (j := 56) (n := 1) (l := [7]) dq_cL_law_512 (by decide +kernel) (by decide))
theorem dL_law_569 : decode cL_law 569 = .ok (.iadd, 1) := dc_96 (dc_cut (j := 57) (n := 1) (l := [96]) dq_cL_law_512 (by decide +kernel) (by decide))
theorem dL_law_570 : decode cL_law 570 = .ok (.iaload, 1) := dc_46 (dc_cut (j := 58) (n := 1) (l := [46]) dq_cL_law_512 (by decide +kernel) (by decide))
theorem dL_law_571 : decode cL_law 571 = .ok (.aload_n 0, 1) := dc_42 (dc_cut (j := 59) (n := 1) (l := [42]) dq_cL_law_512 (by decide +kernel) (by decide))
theorem dL_law_572 : decode cL_law 572 = .ok (.iload_n 3, 1) := dc_29 (dc_cut (j := 60) (n := 1) (l := [29]) dq_cL_law_512 (by decide +kernel) (by decide))
theorem dL_law_573 : decode cL_law 573 = .ok (.iconst 5, 1) := dc_8 (dc_cut (j := 61) (n := 1) (l := [8]) dq_cL_law_512 (by decide +kernel) (by decide))
theorem dL_law_574 : decode cL_law 574 = .ok (.iadd, 1) := dc_96 (dc_cut (j := 62) (n := 1) (l := [96]) dq_cL_law_512 (by decide +kernel) (by decide))
theorem dL_law_575 : decode cL_law 575 = .ok (.iaload, 1) := dc_46 (dc_cut (j := 63) (n := 1) (l := [46]) dq_cL_law_512 (by decide +kernel) (by decide))
theorem dq_cL_law_576 : ((cL_law.data.toList.drop 576).take 67).map UInt8.toNat = [182, 0, 53, 87, 167, 5, 30, 43, 42, 29, 4, 96, 46, 42, 29, 5, 96, 46, 42, 29, 6, 96, 46, 42, 29, 7, 96, 46, 42, 29, 8, 96, 46, 182, 0, 54, 87, 44, 42, 29, 4, 96, 46, 42, 29, 5, 96, 46, 42, 29, 6, 96, 46, 42, 29, 7, 96, 46, 42, 29, 8, 96, 46, 182, 0, 57, 87] := by decide +kernel
theorem dL_law_576 : decode cL_law 576 = .ok (.invokevirtual 53, 3) := dc_182 (dc_cut (j := 0) (n := 3) (l := [182, 0, 53]) dq_cL_law_576 (by decide +kernel) (by decide)) rfl
theorem w_1464 : (Cond.methodLink "GooseBorderLaw" (53 : Nat) ({ cls := "GooseBorderModel", name := "goose", desc := "(IIIII)I" } : MethodName)) ∈ gb_wA := gb_t7 24 rfl rfl
theorem w_1465 : (Cond.instanceMethod ({ cls := "GooseBorderModel", name := "goose", desc := "(IIIII)I" } : MethodName)) ∈ gb_wA := gb_t7 25 rfl rfl
theorem w_1466 : (Cond.selects "GooseBorderModel" ({ cls := "GooseBorderModel", name := "goose", desc := "(IIIII)I" } : MethodName) ({ cls := "GooseBorderModel", name := "goose", desc := "(IIIII)I" } : MethodName)) ∈ gb_wA := gb_t7 26 rfl rfl
theorem w_1467 : (Cond.code ({ cls := "GooseBorderModel", name := "goose", desc := "(IIIII)I" } : MethodName) prog_14_method_57_code (6 : Nat) (Option.some FieldType.int)) ∈ gb_wA := gb_t7 27 rfl rfl
theorem dL_law_579 : decode cL_law 579 = .ok (.pop, 1) := dc_87 (dc_cut (j := 3) (n := 1) (l := [87]) dq_cL_law_576 (by decide +kernel) (by decide))
theorem dL_law_580 : decode cL_law 580 = .ok (.goto 1310, 3) := dc_167 (dc_cut (j := 4) (n := 3) (l := [167, 5, 30]) dq_cL_law_576 (by decide +kernel) (by decide)) rfl
set_option maxHeartbeats 4000000 in
set_option maxRecDepth 100000 in
theorem law_c8 {p : Program} {l : Launch} {e : Env} {s : State} {m : MethodId} {below : List Frame} {meth : Method} {c : Code} {b z L : Nat} {xs : Nat → Int32} (C0 : lw_At p s m meth c b L xs) (hzz : Array.size s.heap = z) {D : va_G} {cT : Nat → ClassId} {tt ak av : Nat → Nat} (hSt2 : gb_St2 D cT tt ak av z s) {i : Int32} (h1 : vp_in (i + 1) L) (h2 : vp_in (i + 2) L) (h3 : vp_in (i + 3) L) (h4 : vp_in (i + 4) L) (h5 : vp_in (i + 5) L) (hend : ∀ (σ : gb_S) (f : gb_F) (w : Int64) (H : Heap) (locs : List Loc) (ls : Array Slot), gb_Inv σ f → va_P D vwCl (gb_wl z (gb_CW cT z σ)) H → va_P D vwCl (gb_wl (z + 135) (gb_MW cT (z + 135) f w)) H → va_S (gb_ge z) s.heap H locs → lv_has ls 4 [(3, .int i), (2, .ref (z + 135 + 0)), (1, .ref (z + 0)), (0, .ref b)] → W p l e room_1 s m #[Value.ref b] below meth c H locs 157 10381 (lw_Z below #[Value.ref b] s) (F0 m 1890 ls [])) : ∀ (σ : gb_S) (f : gb_F) (w : Int64) (H : Heap) (locs : List Loc) (ls : Array Slot), gb_Inv σ f → va_P D vwCl (gb_wl z (gb_CW cT z σ)) H → va_P D vwCl (gb_wl (z + 135) (gb_MW cT (z + 135) f w)) H → va_S (gb_ge z) s.heap H locs → lv_has ls 4 [(3, .int i), (2, .ref (z + 135 + 0)), (1, .ref (z + 0)), (0, .ref b)] → W p l e room_1 s m #[Value.ref b] below meth c H locs 157 10381 (lw_Z below #[Value.ref b] s) (F0 m 520 ls []) := by
  obtain ⟨hx, hb, hr, hml, hown, hts, hX, hbl, hlocks, hgv⟩ := C0
  have hq : ∀ w ∈ gb_wA, w.before #[Value.ref b] s = true := fun w h => hts w (gb_wA_tbl w h)
  have hbA : ¬ gb_ge z b := Nat.not_le.mpr (by rw [← hzz]; exact hbl)
  intro σ f w H locs ls hI hPc hPm hS hl
  refine lv_aload_n hx hb dL_law_520 rfl (lv_at hl 2 rfl) ?_
  refine lv_aload_n hx hb dL_law_521 rfl (lv_at hl 3 rfl) ?_
  refine lv_iload_n hx hb dL_law_522 rfl (lv_at hl 0 rfl) ?_
  refine lv_iconst (v := 1) hx hb dL_law_523 (by decide) ?_
  refine lv_iadd hx hb dL_law_524 ?_
  refine va_sld hx hb hX hbl hbA hS h1 dL_law_525 ?_
  refine lv_aload_n hx hb dL_law_526 rfl (lv_at hl 3 rfl) ?_
  refine lv_iload_n hx hb dL_law_527 rfl (lv_at hl 0 rfl) ?_
  refine lv_iconst (v := 2) hx hb dL_law_528 (by decide) ?_
  refine lv_iadd hx hb dL_law_529 ?_
  refine va_sld hx hb hX hbl hbA hS h2 dL_law_530 ?_
  refine lv_aload_n hx hb dL_law_531 rfl (lv_at hl 3 rfl) ?_
  refine lv_iload_n hx hb dL_law_532 rfl (lv_at hl 0 rfl) ?_
  refine lv_iconst (v := 3) hx hb dL_law_533 (by decide) ?_
  refine lv_iadd hx hb dL_law_534 ?_
  refine va_sld hx hb hX hbl hbA hS h3 dL_law_535 ?_
  refine lv_aload_n hx hb dL_law_536 rfl (lv_at hl 3 rfl) ?_
  refine lv_iload_n hx hb dL_law_537 rfl (lv_at hl 0 rfl) ?_
  refine lv_iconst (v := 4) hx hb dL_law_538 (by decide) ?_
  refine lv_iadd hx hb dL_law_539 ?_
  refine va_sld hx hb hX hbl hbA hS h4 dL_law_540 ?_
  refine lv_aload_n hx hb dL_law_541 rfl (lv_at hl 3 rfl) ?_
  refine lv_iload_n hx hb dL_law_542 rfl (lv_at hl 0 rfl) ?_
  refine lv_iconst (v := 5) hx hb dL_law_543 (by decide) ?_
  refine lv_iadd hx hb dL_law_544 ?_
  refine va_sld hx hb hX hbl hbA hS h5 dL_law_545 ?_
  obtain ⟨σ2, ra, f2, w2, qa, ec, em, hI2, hcmp⟩ := law_s_goose (xs (Int32.toNatClampNeg (i + 1))) (xs (Int32.toNatClampNeg (i + 2))) (xs (Int32.toNatClampNeg (i + 3))) (xs (Int32.toNatClampNeg (i + 4))) (xs (Int32.toNatClampNeg (i + 5))) w hI
  refine gb_calli (va_runV (C := RX11) (As := [.int (xs (Int32.toNatClampNeg (i + 1))), .int (xs (Int32.toNatClampNeg (i + 2))), .int (xs (Int32.toNatClampNeg (i + 3))), .int (xs (Int32.toNatClampNeg (i + 4))), .int (xs (Int32.toNatClampNeg (i + 5)))]) (rest := []) ⟨hx, hb, hml, hown, hq⟩ (cc_Face_goose l D cT tt z z (Nat.le_refl z) gb_N σ (xs (Int32.toNatClampNeg (i + 1))) (xs (Int32.toNatClampNeg (i + 2))) (xs (Int32.toNatClampNeg (i + 3))) (xs (Int32.toNatClampNeg (i + 4))) (xs (Int32.toNatClampNeg (i + 5))) σ2 ra ec) (cwV 5 hq (gb_gV w_759 w_760 w_761 w_1 w_762) rfl rfl rfl (by decide +kernel) ⟨Nat.le_of_ble_eq_true rfl, Nat.le_of_ble_eq_true rfl⟩) (gb_preV (r := (RX11, TX11, 10)) (ci := 9) (q0 := 0) hSt2.1 hPc rfl (gb_at z rfl) hS (fun q h => h) hPc) rfl rfl hl.1 rfl (lv_room (Nat.le_of_ble_eq_true rfl)) dL_law_546 ⟨Nat.le_of_ble_eq_true rfl, Nat.le_of_ble_eq_true rfl⟩) hS (fun q h => h.1) (fun q h => h.1) (fun rc H2 locs2 hY hk hS => ?_)
  obtain ⟨hr_, hY⟩ := hY
  subst hr_
  have hPm := gb_kept hPm (fun q h1 h2 => hk q (Nat.lt_of_lt_of_le h2 ((hPm 21 _ (gb_at (z + 135) rfl)).lt)) (fun h3 => Nat.not_lt.mpr h1 h3.2))
  have hPc := hY
  clear hY
  refine lv_pop hx hb dL_law_549 rfl ?_
  refine lv_aload_n hx hb dL_law_550 rfl (lv_at hl 1 rfl) ?_
  refine lv_aload_n hx hb dL_law_551 rfl (lv_at hl 3 rfl) ?_
  refine lv_iload_n hx hb dL_law_552 rfl (lv_at hl 0 rfl) ?_
  refine lv_iconst (v := 1) hx hb dL_law_553 (by decide) ?_
  refine lv_iadd hx hb dL_law_554 ?_
  refine va_sld hx hb hX hbl hbA hS h1 dL_law_555 ?_
  refine lv_aload_n hx hb dL_law_556 rfl (lv_at hl 3 rfl) ?_
  refine lv_iload_n hx hb dL_law_557 rfl (lv_at hl 0 rfl) ?_
  refine lv_iconst (v := 2) hx hb dL_law_558 (by decide) ?_
  refine lv_iadd hx hb dL_law_559 ?_
  refine va_sld hx hb hX hbl hbA hS h2 dL_law_560 ?_
  refine lv_aload_n hx hb dL_law_561 rfl (lv_at hl 3 rfl) ?_
  refine lv_iload_n hx hb dL_law_562 rfl (lv_at hl 0 rfl) ?_
  refine lv_iconst (v := 3) hx hb dL_law_563 (by decide) ?_
  refine lv_iadd hx hb dL_law_564 ?_
  refine va_sld hx hb hX hbl hbA hS h3 dL_law_565 ?_
  refine lv_aload_n hx hb dL_law_566 rfl (lv_at hl 3 rfl) ?_
  refine lv_iload_n hx hb dL_law_567 rfl (lv_at hl 0 rfl) ?_
  refine lv_iconst (v := 4) hx hb dL_law_568 (by decide) ?_
  refine lv_iadd hx hb dL_law_569 ?_
  refine va_sld hx hb hX hbl hbA hS h4 dL_law_570 ?_
  refine lv_aload_n hx hb dL_law_571 rfl (lv_at hl 3 rfl) ?_
  refine lv_iload_n hx hb dL_law_572 rfl (lv_at hl 0 rfl) ?_
  refine lv_iconst (v := 5) hx hb dL_law_573 (by decide) ?_
  refine lv_iadd hx hb dL_law_574 ?_
  refine va_sld hx hb hX hbl hbA hS h5 dL_law_575 ?_
  refine gb_calli (va_runV (C := RX12) (As := [.int (xs (Int32.toNatClampNeg (i + 1))), .int (xs (Int32.toNatClampNeg (i + 2))), .int (xs (Int32.toNatClampNeg (i + 3))), .int (xs (Int32.toNatClampNeg (i + 4))), .int (xs (Int32.toNatClampNeg (i + 5)))]) (rest := []) ⟨hx, hb, hml, hown, hq⟩ (mc_goose l D cT tt z (z + 135) (Nat.le_add_right z 135) gb_N f w (xs (Int32.toNatClampNeg (i + 1))) (xs (Int32.toNatClampNeg (i + 2))) (xs (Int32.toNatClampNeg (i + 3))) (xs (Int32.toNatClampNeg (i + 4))) (xs (Int32.toNatClampNeg (i + 5))) f2 w2 qa em) (cwV 5 hq (gb_gV w_1464 w_1465 w_1466 w_14 w_1467) rfl rfl rfl (by decide +kernel) ⟨Nat.le_of_ble_eq_true rfl, Nat.le_of_ble_eq_true rfl⟩) (gb_preV (r := (RX12, TX12, 44)) (ci := 10) (q0 := 0) hSt2.1 hPm rfl (gb_at (z + 135) rfl) hS (fun q h => h) hPm) rfl rfl hl.1 rfl (lv_room (Nat.le_of_ble_eq_true rfl)) dL_law_576 ⟨Nat.le_of_ble_eq_true rfl, Nat.le_of_ble_eq_true rfl⟩) hS (fun q h => Nat.le_trans (Nat.le_add_right z 135) h.1) (fun q h => Nat.le_trans (Nat.le_add_right z 135) h.1) (fun rm H2 locs2 hY hk hS => ?_)
  obtain ⟨hr_, hY⟩ := hY
  subst hr_
  have hPc := gb_kept hPc (fun q h1 h2 => hk q (Nat.lt_of_lt_of_le h2 (Nat.le_of_lt (Nat.lt_of_le_of_lt (Nat.le_add_right (z + 135) 21) ((hPm 21 _ (gb_at (z + 135) rfl)).lt)))) (fun h3 => Nat.not_lt.mpr h3.1 h2))
  have hPm := hY
  clear hY
  refine lv_pop hx hb dL_law_579 rfl ?_
  refine lv_goto (tgt := 1890) hx hb dL_law_580 (by decide) ?_
  exact hend _ _ _ _ _ _ hI2 hPc hPm hS hl
theorem dL_law_583 : decode cL_law 583 = .ok (.aload_n 1, 1) := dc_43 (dc_cut (j := 7) (n := 1) (l := [43]) dq_cL_law_576 (by decide +kernel) (by decide))
theorem dL_law_584 : decode cL_law 584 = .ok (.aload_n 0, 1) := dc_42 (dc_cut (j := 8) (n := 1) (l := [42]) dq_cL_law_576 (by decide +kernel) (by decide))
theorem dL_law_585 : decode cL_law 585 = .ok (.iload_n 3, 1) := dc_29 (dc_cut (j := 9) (n := 1) (l := [29]) dq_cL_law_576 (by decide +kernel) (by decide))
theorem dL_law_586 : decode cL_law 586 = .ok (.iconst 1, 1) := dc_4 (dc_cut (j := 10) (n := 1) (l := [4]) dq_cL_law_576 (by decide +kernel) (by decide))
theorem dL_law_587 : decode cL_law 587 = .ok (.iadd, 1) := dc_96 (dc_cut (j := 11) (n := 1) (l := [96]) dq_cL_law_576 (by decide +kernel) (by decide))
theorem dL_law_588 : decode cL_law 588 = .ok (.iaload, 1) := dc_46 (dc_cut (j := 12) (n := 1) (l := [46]) dq_cL_law_576 (by decide +kernel) (by decide))
theorem dL_law_589 : decode cL_law 589 = .ok (.aload_n 0, 1) := dc_42 (dc_cut (j := 13) (n := 1) (l := [42]) dq_cL_law_576 (by decide +kernel) (by decide))
theorem dL_law_590 : decode cL_law 590 = .ok (.iload_n 3, 1) := dc_29 (dc_cut (j := 14) (n := 1) (l := [29]) dq_cL_law_576 (by decide +kernel) (by decide))
theorem dL_law_591 : decode cL_law 591 = .ok (.iconst 2, 1) := dc_5 (dc_cut (j := 15) (n := 1) (l := [5]) dq_cL_law_576 (by decide +kernel) (by decide))
theorem dL_law_592 : decode cL_law 592 = .ok (.iadd, 1) := dc_96 (dc_cut (j := 16) (n := 1) (l := [96]) dq_cL_law_576 (by decide +kernel) (by decide))
theorem dL_law_593 : decode cL_law 593 = .ok (.iaload, 1) := dc_46 (dc_cut (j := 17) (n := 1) (l := [46]) dq_cL_law_576 (by decide +kernel) (by decide))
theorem dL_law_594 : decode cL_law 594 = .ok (.aload_n 0, 1) := dc_42 (dc_cut (j := 18) (n := 1) (l := [42]) dq_cL_law_576 (by decide +kernel) (by decide))
theorem dL_law_595 : decode cL_law 595 = .ok (.iload_n 3, 1) := dc_29 (dc_cut (j := 19) (n := 1) (l := [29]) dq_cL_law_576 (by decide +kernel) (by decide))
theorem dL_law_596 : decode cL_law 596 = .ok (.iconst 3, 1) := dc_6 (dc_cut (j := 20) (n := 1) (l := [6]) dq_cL_law_576 (by decide +kernel) (by decide))
theorem dL_law_597 : decode cL_law 597 = .ok (.iadd, 1) := dc_96 (dc_cut (j := 21) (n := 1) (l := [96]) dq_cL_law_576 (by decide +kernel) (by decide))
theorem dL_law_598 : decode cL_law 598 = .ok (.iaload, 1) := dc_46 (dc_cut (j := 22) (n := 1) (l := [46]) dq_cL_law_576 (by decide +kernel) (by decide))
theorem dL_law_599 : decode cL_law 599 = .ok (.aload_n 0, 1) := dc_42 (dc_cut (j := 23) (n := 1) (l := [42]) dq_cL_law_576 (by decide +kernel) (by decide))
theorem dL_law_600 : decode cL_law 600 = .ok (.iload_n 3, 1) := dc_29 (dc_cut (j := 24) (n := 1) (l := [29]) dq_cL_law_576 (by decide +kernel) (by decide))
theorem dL_law_601 : decode cL_law 601 = .ok (.iconst 4, 1) := dc_7 (dc_cut (j := 25) (n := 1) (l := [7]) dq_cL_law_576 (by decide +kernel) (by decide))
theorem dL_law_602 : decode cL_law 602 = .ok (.iadd, 1) := dc_96 (dc_cut (j := 26) (n := 1) (l := [96]) dq_cL_law_576 (by decide +kernel) (by decide))
theorem dL_law_603 : decode cL_law 603 = .ok (.iaload, 1) := dc_46 (dc_cut (j := 27) (n := 1) (l := [46]) dq_cL_law_576 (by decide +kernel) (by decide))
theorem dL_law_604 : decode cL_law 604 = .ok (.aload_n 0, 1) := dc_42 (dc_cut (j := 28) (n := 1) (l := [42]) dq_cL_law_576 (by decide +kernel) (by decide))
theorem dL_law_605 : decode cL_law 605 = .ok (.iload_n 3, 1) := dc_29 (dc_cut (j := 29) (n := 1) (l := [29]) dq_cL_law_576 (by decide +kernel) (by decide))
theorem dL_law_606 : decode cL_law 606 = .ok (.iconst 5, 1) := dc_8 (dc_cut (j := 30) (n := 1) (l := [8]) dq_cL_law_576 (by decide +kernel) (by decide))
theorem dL_law_607 : decode cL_law 607 = .ok (.iadd, 1) := dc_96 (dc_cut (j := 31) (n := 1) (l := [96]) dq_cL_law_576 (by decide +kernel) (by decide))
theorem dL_law_608 : decode cL_law 608 = .ok (.iaload, 1) := dc_46 (dc_cut (j := 32) (n := 1) (l := [46]) dq_cL_law_576 (by decide +kernel) (by decide))
theorem dL_law_609 : decode cL_law 609 = .ok (.invokevirtual 54, 3) := dc_182 (dc_cut (j := 33) (n := 3) (l := [182, 0, 54]) dq_cL_law_576 (by decide +kernel) (by decide)) rfl
theorem w_767 : (Cond.methodLink "GooseBorderLaw" (54 : Nat) ({ cls := "GooseBorder", name := "path", desc := "(IIIII)I" } : MethodName)) ∈ gb_wA := gb_t4 47 rfl rfl
theorem w_768 : (Cond.instanceMethod ({ cls := "GooseBorder", name := "path", desc := "(IIIII)I" } : MethodName)) ∈ gb_wA := gb_t4 48 rfl rfl
theorem w_769 : (Cond.selects "GooseBorder" ({ cls := "GooseBorder", name := "path", desc := "(IIIII)I" } : MethodName) ({ cls := "GooseBorder", name := "path", desc := "(IIIII)I" } : MethodName)) ∈ gb_wA := gb_t4 49 rfl rfl
theorem w_770 : (Cond.code ({ cls := "GooseBorder", name := "path", desc := "(IIIII)I" } : MethodName) prog_1_method_22_code (7 : Nat) (Option.some FieldType.int)) ∈ gb_wA := gb_t4 50 rfl rfl
theorem dL_law_612 : decode cL_law 612 = .ok (.pop, 1) := dc_87 (dc_cut (j := 36) (n := 1) (l := [87]) dq_cL_law_576 (by decide +kernel) (by decide))
theorem dL_law_613 : decode cL_law 613 = .ok (.aload_n 2, 1) := dc_44 (dc_cut (j := 37) (n := 1) (l := [44]) dq_cL_law_576 (by decide +kernel) (by decide))
theorem dL_law_614 : decode cL_law 614 = .ok (.aload_n 0, 1) := dc_42 (dc_cut (j := 38) (n := 1) (l := [42]) dq_cL_law_576 (by decide +kernel) (by decide))
theorem dL_law_615 : decode cL_law 615 = .ok (.iload_n 3, 1) := dc_29 (dc_cut (j := 39) (n := 1) (l := [29]) dq_cL_law_576 (by decide +kernel) (by decide))
theorem dL_law_616 : decode cL_law 616 = .ok (.iconst 1, 1) := dc_4 (dc_cut (j := 40) (n := 1) (l := [4]) dq_cL_law_576 (by decide +kernel) (by decide))
theorem dL_law_617 : decode cL_law 617 = .ok (.iadd, 1) := dc_96 (dc_cut (j := 41) (n := 1) (l := [96]) dq_cL_law_576 (by decide +kernel) (by decide))
theorem dL_law_618 : decode cL_law 618 = .ok (.iaload, 1) := dc_46 (dc_cut (j := 42) (n := 1) (l := [46]) dq_cL_law_576 (by decide +kernel) (by decide))
theorem dL_law_619 : decode cL_law 619 = .ok (.aload_n 0, 1) := dc_42 (dc_cut (j := 43) (n := 1) (l := [42]) dq_cL_law_576 (by decide +kernel) (by decide))
theorem dL_law_620 : decode cL_law 620 = .ok (.iload_n 3, 1) := dc_29 (dc_cut (j := 44) (n := 1) (l := [29]) dq_cL_law_576 (by decide +kernel) (by decide))
theorem dL_law_621 : decode cL_law 621 = .ok (.iconst 2, 1) := dc_5 (dc_cut (j := 45) (n := 1) (l := [5]) dq_cL_law_576 (by decide +kernel) (by decide))
theorem dL_law_622 : decode cL_law 622 = .ok (.iadd, 1) := dc_96 (dc_cut (j := 46) (n := 1) (l := [96]) dq_cL_law_576 (by decide +kernel) (by decide))
theorem dL_law_623 : decode cL_law 623 = .ok (.iaload, 1) := dc_46 (dc_cut (j := 47) (n := 1) (l := [46]) dq_cL_law_576 (by decide +kernel) (by decide))
theorem dL_law_624 : decode cL_law 624 = .ok (.aload_n 0, 1) := dc_42 (dc_cut (j := 48) (n := 1) (l := [42]) dq_cL_law_576 (by decide +kernel) (by decide))
theorem dL_law_625 : decode cL_law 625 = .ok (.iload_n 3, 1) := dc_29 (dc_cut (j := 49) (n := 1) (l := [29]) dq_cL_law_576 (by decide +kernel) (by decide))
theorem dL_law_626 : decode cL_law 626 = .ok (.iconst 3, 1) := dc_6 (dc_cut (j := 50) (n := 1) (l := [6]) dq_cL_law_576 (by decide +kernel) (by decide))
theorem dL_law_627 : decode cL_law 627 = .ok (.iadd, 1) := dc_96 (dc_cut (j := 51) (n := 1) (l := [96]) dq_cL_law_576 (by decide +kernel) (by decide))
theorem dL_law_628 : decode cL_law 628 = .ok (.iaload, 1) := dc_46 (dc_cut (j := 52) (n := 1) (l := [46]) dq_cL_law_576 (by decide +kernel) (by decide))
theorem dL_law_629 : decode cL_law 629 = .ok (.aload_n 0, 1) := dc_42 (dc_cut (j := 53) (n := 1) (l := [42]) dq_cL_law_576 (by decide +kernel) (by decide))
theorem dL_law_630 : decode cL_law 630 = .ok (.iload_n 3, 1) := dc_29 (dc_cut (j := 54) (n := 1) (l := [29]) dq_cL_law_576 (by decide +kernel) (by decide))
theorem dL_law_631 : decode cL_law 631 = .ok (.iconst 4, 1) := dc_7 (dc_cut (j := 55) (n := 1) (l := [7]) dq_cL_law_576 (by decide +kernel) (by decide))
theorem dL_law_632 : decode cL_law 632 = .ok (.iadd, 1) := dc_96 (dc_cut (j := 56) (n := 1) (l := [96]) dq_cL_law_576 (by decide +kernel) (by decide))
theorem dL_law_633 : decode cL_law 633 = .ok (.iaload, 1) := dc_46 (dc_cut (j := 57) (n := 1) (l := [46]) dq_cL_law_576 (by decide +kernel) (by decide))
theorem dL_law_634 : decode cL_law 634 = .ok (.aload_n 0, 1) := dc_42 (dc_cut (j := 58) (n := 1) (l := [42]) dq_cL_law_576 (by decide +kernel) (by decide))
theorem dL_law_635 : decode cL_law 635 = .ok (.iload_n 3, 1) := dc_29 (dc_cut (j := 59) (n := 1) (l := [29]) dq_cL_law_576 (by decide +kernel) (by decide))
theorem dL_law_636 : decode cL_law 636 = .ok (.iconst 5, 1) := dc_8 (dc_cut (j := 60) (n := 1) (l := [8]) dq_cL_law_576 (by decide +kernel) (by decide))
theorem dL_law_637 : decode cL_law 637 = .ok (.iadd, 1) := dc_96 (dc_cut (j := 61) (n := 1) (l := [96]) dq_cL_law_576 (by decide +kernel) (by decide))
theorem dL_law_638 : decode cL_law 638 = .ok (.iaload, 1) := dc_46 (dc_cut (j := 62) (n := 1) (l := [46]) dq_cL_law_576 (by decide +kernel) (by decide))
theorem dL_law_639 : decode cL_law 639 = .ok (.invokevirtual 57, 3) := dc_182 (dc_cut (j := 63) (n := 3) (l := [182, 0, 57]) dq_cL_law_576 (by decide +kernel) (by decide)) rfl
theorem w_1472 : (Cond.methodLink "GooseBorderLaw" (57 : Nat) ({ cls := "GooseBorderModel", name := "path", desc := "(IIIII)I" } : MethodName)) ∈ gb_wA := gb_t7 32 rfl rfl
theorem w_1473 : (Cond.instanceMethod ({ cls := "GooseBorderModel", name := "path", desc := "(IIIII)I" } : MethodName)) ∈ gb_wA := gb_t7 33 rfl rfl
theorem w_1474 : (Cond.selects "GooseBorderModel" ({ cls := "GooseBorderModel", name := "path", desc := "(IIIII)I" } : MethodName) ({ cls := "GooseBorderModel", name := "path", desc := "(IIIII)I" } : MethodName)) ∈ gb_wA := gb_t7 34 rfl rfl
theorem w_1475 : (Cond.code ({ cls := "GooseBorderModel", name := "path", desc := "(IIIII)I" } : MethodName) prog_14_method_62_code (6 : Nat) (Option.some FieldType.int)) ∈ gb_wA := gb_t7 35 rfl rfl
theorem dq_cL_law_640 : ((cL_law.data.toList.drop 640).take 67).map UInt8.toNat = [0, 57, 87, 167, 4, 223, 43, 42, 29, 4, 96, 46, 42, 29, 5, 96, 46, 42, 29, 6, 96, 46, 42, 29, 7, 96, 46, 182, 0, 58, 87, 44, 42, 29, 4, 96, 46, 42, 29, 5, 96, 46, 42, 29, 6, 96, 46, 42, 29, 7, 96, 46, 182, 0, 62, 87, 167, 4, 170, 43, 42, 29, 4, 96, 46, 42, 29] := by decide +kernel
theorem dL_law_642 : decode cL_law 642 = .ok (.pop, 1) := dc_87 (dc_cut (j := 2) (n := 1) (l := [87]) dq_cL_law_640 (by decide +kernel) (by decide))
theorem dL_law_643 : decode cL_law 643 = .ok (.goto 1247, 3) := dc_167 (dc_cut (j := 3) (n := 3) (l := [167, 4, 223]) dq_cL_law_640 (by decide +kernel) (by decide)) rfl
set_option maxHeartbeats 4000000 in
set_option maxRecDepth 100000 in
theorem law_c9 {p : Program} {l : Launch} {e : Env} {s : State} {m : MethodId} {below : List Frame} {meth : Method} {c : Code} {b z L : Nat} {xs : Nat → Int32} (C0 : lw_At p s m meth c b L xs) (hzz : Array.size s.heap = z) {D : va_G} {cT : Nat → ClassId} {tt ak av : Nat → Nat} (hSt2 : gb_St2 D cT tt ak av z s) {i : Int32} (h1 : vp_in (i + 1) L) (h2 : vp_in (i + 2) L) (h3 : vp_in (i + 3) L) (h4 : vp_in (i + 4) L) (h5 : vp_in (i + 5) L) (hend : ∀ (σ : gb_S) (f : gb_F) (w : Int64) (H : Heap) (locs : List Loc) (ls : Array Slot), gb_Inv σ f → va_P D vwCl (gb_wl z (gb_CW cT z σ)) H → va_P D vwCl (gb_wl (z + 135) (gb_MW cT (z + 135) f w)) H → va_S (gb_ge z) s.heap H locs → lv_has ls 4 [(3, .int i), (2, .ref (z + 135 + 0)), (1, .ref (z + 0)), (0, .ref b)] → W p l e room_1 s m #[Value.ref b] below meth c H locs 157 10381 (lw_Z below #[Value.ref b] s) (F0 m 1890 ls [])) : ∀ (σ : gb_S) (f : gb_F) (w : Int64) (H : Heap) (locs : List Loc) (ls : Array Slot), gb_Inv σ f → va_P D vwCl (gb_wl z (gb_CW cT z σ)) H → va_P D vwCl (gb_wl (z + 135) (gb_MW cT (z + 135) f w)) H → va_S (gb_ge z) s.heap H locs → lv_has ls 4 [(3, .int i), (2, .ref (z + 135 + 0)), (1, .ref (z + 0)), (0, .ref b)] → W p l e room_1 s m #[Value.ref b] below meth c H locs 157 10381 (lw_Z below #[Value.ref b] s) (F0 m 583 ls []) := by
  obtain ⟨hx, hb, hr, hml, hown, hts, hX, hbl, hlocks, hgv⟩ := C0
  have hq : ∀ w ∈ gb_wA, w.before #[Value.ref b] s = true := fun w h => hts w (gb_wA_tbl w h)
  have hbA : ¬ gb_ge z b := Nat.not_le.mpr (by rw [← hzz]; exact hbl)
  intro σ f w H locs ls hI hPc hPm hS hl
  refine lv_aload_n hx hb dL_law_583 rfl (lv_at hl 2 rfl) ?_
  refine lv_aload_n hx hb dL_law_584 rfl (lv_at hl 3 rfl) ?_
  refine lv_iload_n hx hb dL_law_585 rfl (lv_at hl 0 rfl) ?_
  refine lv_iconst (v := 1) hx hb dL_law_586 (by decide) ?_
  refine lv_iadd hx hb dL_law_587 ?_
  refine va_sld hx hb hX hbl hbA hS h1 dL_law_588 ?_
  refine lv_aload_n hx hb dL_law_589 rfl (lv_at hl 3 rfl) ?_
  refine lv_iload_n hx hb dL_law_590 rfl (lv_at hl 0 rfl) ?_
  refine lv_iconst (v := 2) hx hb dL_law_591 (by decide) ?_
  refine lv_iadd hx hb dL_law_592 ?_
  refine va_sld hx hb hX hbl hbA hS h2 dL_law_593 ?_
  refine lv_aload_n hx hb dL_law_594 rfl (lv_at hl 3 rfl) ?_
  refine lv_iload_n hx hb dL_law_595 rfl (lv_at hl 0 rfl) ?_
  refine lv_iconst (v := 3) hx hb dL_law_596 (by decide) ?_
  refine lv_iadd hx hb dL_law_597 ?_
  refine va_sld hx hb hX hbl hbA hS h3 dL_law_598 ?_
  refine lv_aload_n hx hb dL_law_599 rfl (lv_at hl 3 rfl) ?_
  refine lv_iload_n hx hb dL_law_600 rfl (lv_at hl 0 rfl) ?_
  refine lv_iconst (v := 4) hx hb dL_law_601 (by decide) ?_
  refine lv_iadd hx hb dL_law_602 ?_
  refine va_sld hx hb hX hbl hbA hS h4 dL_law_603 ?_
  refine lv_aload_n hx hb dL_law_604 rfl (lv_at hl 3 rfl) ?_
  refine lv_iload_n hx hb dL_law_605 rfl (lv_at hl 0 rfl) ?_
  refine lv_iconst (v := 5) hx hb dL_law_606 (by decide) ?_
  refine lv_iadd hx hb dL_law_607 ?_
  refine va_sld hx hb hX hbl hbA hS h5 dL_law_608 ?_
  obtain ⟨σ2, ra, f2, w2, qa, ec, em, hI2, hcmp⟩ := law_s_path (xs (Int32.toNatClampNeg (i + 1))) (xs (Int32.toNatClampNeg (i + 2))) (xs (Int32.toNatClampNeg (i + 3))) (xs (Int32.toNatClampNeg (i + 4))) (xs (Int32.toNatClampNeg (i + 5))) w hI
  refine gb_calli (va_runV (C := RX11) (As := [.int (xs (Int32.toNatClampNeg (i + 1))), .int (xs (Int32.toNatClampNeg (i + 2))), .int (xs (Int32.toNatClampNeg (i + 3))), .int (xs (Int32.toNatClampNeg (i + 4))), .int (xs (Int32.toNatClampNeg (i + 5)))]) (rest := []) ⟨hx, hb, hml, hown, hq⟩ (cc_Face_path l D cT tt z z (Nat.le_refl z) gb_N σ (xs (Int32.toNatClampNeg (i + 1))) (xs (Int32.toNatClampNeg (i + 2))) (xs (Int32.toNatClampNeg (i + 3))) (xs (Int32.toNatClampNeg (i + 4))) (xs (Int32.toNatClampNeg (i + 5))) σ2 ra ec) (cwV 5 hq (gb_gV w_767 w_768 w_769 w_1 w_770) rfl rfl rfl (by decide +kernel) ⟨Nat.le_of_ble_eq_true rfl, Nat.le_of_ble_eq_true rfl⟩) (gb_preV (r := (RX11, TX11, 10)) (ci := 9) (q0 := 0) hSt2.1 hPc rfl (gb_at z rfl) hS (fun q h => h) hPc) rfl rfl hl.1 rfl (lv_room (Nat.le_of_ble_eq_true rfl)) dL_law_609 ⟨Nat.le_of_ble_eq_true rfl, Nat.le_of_ble_eq_true rfl⟩) hS (fun q h => h.1) (fun q h => h.1) (fun rc H2 locs2 hY hk hS => ?_)
  obtain ⟨hr_, hY⟩ := hY
  subst hr_
  have hPm := gb_kept hPm (fun q h1 h2 => hk q (Nat.lt_of_lt_of_le h2 ((hPm 21 _ (gb_at (z + 135) rfl)).lt)) (fun h3 => Nat.not_lt.mpr h1 h3.2))
  have hPc := hY
  clear hY
  refine lv_pop hx hb dL_law_612 rfl ?_
  refine lv_aload_n hx hb dL_law_613 rfl (lv_at hl 1 rfl) ?_
  refine lv_aload_n hx hb dL_law_614 rfl (lv_at hl 3 rfl) ?_
  refine lv_iload_n hx hb dL_law_615 rfl (lv_at hl 0 rfl) ?_
  refine lv_iconst (v := 1) hx hb dL_law_616 (by decide) ?_
  refine lv_iadd hx hb dL_law_617 ?_
  refine va_sld hx hb hX hbl hbA hS h1 dL_law_618 ?_
  refine lv_aload_n hx hb dL_law_619 rfl (lv_at hl 3 rfl) ?_
  refine lv_iload_n hx hb dL_law_620 rfl (lv_at hl 0 rfl) ?_
  refine lv_iconst (v := 2) hx hb dL_law_621 (by decide) ?_
  refine lv_iadd hx hb dL_law_622 ?_
  refine va_sld hx hb hX hbl hbA hS h2 dL_law_623 ?_
  refine lv_aload_n hx hb dL_law_624 rfl (lv_at hl 3 rfl) ?_
  refine lv_iload_n hx hb dL_law_625 rfl (lv_at hl 0 rfl) ?_
  refine lv_iconst (v := 3) hx hb dL_law_626 (by decide) ?_
  refine lv_iadd hx hb dL_law_627 ?_
  refine va_sld hx hb hX hbl hbA hS h3 dL_law_628 ?_
  refine lv_aload_n hx hb dL_law_629 rfl (lv_at hl 3 rfl) ?_
  refine lv_iload_n hx hb dL_law_630 rfl (lv_at hl 0 rfl) ?_
  refine lv_iconst (v := 4) hx hb dL_law_631 (by decide) ?_
  refine lv_iadd hx hb dL_law_632 ?_
  refine va_sld hx hb hX hbl hbA hS h4 dL_law_633 ?_
  refine lv_aload_n hx hb dL_law_634 rfl (lv_at hl 3 rfl) ?_
  refine lv_iload_n hx hb dL_law_635 rfl (lv_at hl 0 rfl) ?_
  refine lv_iconst (v := 5) hx hb dL_law_636 (by decide) ?_
  refine lv_iadd hx hb dL_law_637 ?_
  refine va_sld hx hb hX hbl hbA hS h5 dL_law_638 ?_
  refine gb_calli (va_runV (C := RX12) (As := [.int (xs (Int32.toNatClampNeg (i + 1))), .int (xs (Int32.toNatClampNeg (i + 2))), .int (xs (Int32.toNatClampNeg (i + 3))), .int (xs (Int32.toNatClampNeg (i + 4))), .int (xs (Int32.toNatClampNeg (i + 5)))]) (rest := []) ⟨hx, hb, hml, hown, hq⟩ (mc_path l D cT tt z (z + 135) (Nat.le_add_right z 135) gb_N f w (xs (Int32.toNatClampNeg (i + 1))) (xs (Int32.toNatClampNeg (i + 2))) (xs (Int32.toNatClampNeg (i + 3))) (xs (Int32.toNatClampNeg (i + 4))) (xs (Int32.toNatClampNeg (i + 5))) f2 w2 qa em) (cwV 5 hq (gb_gV w_1472 w_1473 w_1474 w_14 w_1475) rfl rfl rfl (by decide +kernel) ⟨Nat.le_of_ble_eq_true rfl, Nat.le_of_ble_eq_true rfl⟩) (gb_preV (r := (RX12, TX12, 44)) (ci := 10) (q0 := 0) hSt2.1 hPm rfl (gb_at (z + 135) rfl) hS (fun q h => h) hPm) rfl rfl hl.1 rfl (lv_room (Nat.le_of_ble_eq_true rfl)) dL_law_639 ⟨Nat.le_of_ble_eq_true rfl, Nat.le_of_ble_eq_true rfl⟩) hS (fun q h => Nat.le_trans (Nat.le_add_right z 135) h.1) (fun q h => Nat.le_trans (Nat.le_add_right z 135) h.1) (fun rm H2 locs2 hY hk hS => ?_)
  obtain ⟨hr_, hY⟩ := hY
  subst hr_
  have hPc := gb_kept hPc (fun q h1 h2 => hk q (Nat.lt_of_lt_of_le h2 (Nat.le_of_lt (Nat.lt_of_le_of_lt (Nat.le_add_right (z + 135) 21) ((hPm 21 _ (gb_at (z + 135) rfl)).lt)))) (fun h3 => Nat.not_lt.mpr h3.1 h2))
  have hPm := hY
  clear hY
  refine lv_pop hx hb dL_law_642 rfl ?_
  refine lv_goto (tgt := 1890) hx hb dL_law_643 (by decide) ?_
  exact hend _ _ _ _ _ _ hI2 hPc hPm hS hl
