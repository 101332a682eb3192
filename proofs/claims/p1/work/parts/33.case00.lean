theorem dL_law_200 : decode cL_law 200 = .ok (.aload_n 1, 1) := by decide +kernel
theorem dL_law_201 : decode cL_law 201 = .ok (.aload_n 0, 1) := by decide +kernel
theorem dL_law_202 : decode cL_law 202 = .ok (.iload_n 3, 1) := by decide +kernel
theorem dL_law_203 : decode cL_law 203 = .ok (.iconst 1, 1) := by decide +kernel
theorem dL_law_204 : decode cL_law 204 = .ok (.iadd, 1) := by decide +kernel
theorem dL_law_205 : decode cL_law 205 = .ok (.iaload, 1) := by decide +kernel
theorem dL_law_206 : decode cL_law 206 = .ok (.aload_n 0, 1) := by decide +kernel
theorem dL_law_207 : decode cL_law 207 = .ok (.iload_n 3, 1) := by decide +kernel
theorem dL_law_208 : decode cL_law 208 = .ok (.iconst 2, 1) := by decide +kernel
theorem dL_law_209 : decode cL_law 209 = .ok (.iadd, 1) := by decide +kernel
theorem dL_law_210 : decode cL_law 210 = .ok (.iaload, 1) := by decide +kernel
theorem dL_law_211 : decode cL_law 211 = .ok (.aload_n 0, 1) := by decide +kernel
theorem dL_law_212 : decode cL_law 212 = .ok (.iload_n 3, 1) := by decide +kernel
theorem dL_law_213 : decode cL_law 213 = .ok (.iconst 3, 1) := by decide +kernel
theorem dL_law_214 : decode cL_law 214 = .ok (.iadd, 1) := by decide +kernel
theorem dL_law_215 : decode cL_law 215 = .ok (.iaload, 1) := by decide +kernel
theorem dL_law_216 : decode cL_law 216 = .ok (.aload_n 0, 1) := by decide +kernel
theorem dL_law_217 : decode cL_law 217 = .ok (.iload_n 3, 1) := by decide +kernel
theorem dL_law_218 : decode cL_law 218 = .ok (.iconst 4, 1) := by decide +kernel
theorem dL_law_219 : decode cL_law 219 = .ok (.iadd, 1) := by decide +kernel
theorem dL_law_220 : decode cL_law 220 = .ok (.iaload, 1) := by decide +kernel
theorem dL_law_221 : decode cL_law 221 = .ok (.aload_n 0, 1) := by decide +kernel
theorem dL_law_222 : decode cL_law 222 = .ok (.iload_n 3, 1) := by decide +kernel
theorem dL_law_223 : decode cL_law 223 = .ok (.iconst 5, 1) := by decide +kernel
theorem dL_law_224 : decode cL_law 224 = .ok (.iadd, 1) := by decide +kernel
theorem dL_law_225 : decode cL_law 225 = .ok (.iaload, 1) := by decide +kernel
theorem dL_law_226 : decode cL_law 226 = .ok (.invokevirtual 13, 3) := by decide +kernel
theorem w_346 : (Cond.methodLink "GooseBorderLaw" (13 : Nat) ({ cls := "GooseBorder", name := "feed", desc := "(IIIII)I" } : MethodName)) ∈ gb_wA := gb_t2 106 rfl rfl
theorem w_347 : (Cond.instanceMethod ({ cls := "GooseBorder", name := "feed", desc := "(IIIII)I" } : MethodName)) ∈ gb_wA := gb_t2 107 rfl rfl
theorem w_348 : (Cond.selects "GooseBorder" ({ cls := "GooseBorder", name := "feed", desc := "(IIIII)I" } : MethodName) ({ cls := "GooseBorder", name := "feed", desc := "(IIIII)I" } : MethodName)) ∈ gb_wA := gb_t2 108 rfl rfl
theorem w_349 : (Cond.code ({ cls := "GooseBorder", name := "feed", desc := "(IIIII)I" } : MethodName) prog_1_method_2_code (6 : Nat) (Option.some FieldType.int)) ∈ gb_wA := gb_t2 109 rfl rfl
theorem dL_law_229 : decode cL_law 229 = .ok (.aload_n 2, 1) := by decide +kernel
theorem dL_law_230 : decode cL_law 230 = .ok (.aload_n 0, 1) := by decide +kernel
theorem dL_law_231 : decode cL_law 231 = .ok (.iload_n 3, 1) := by decide +kernel
theorem dL_law_232 : decode cL_law 232 = .ok (.iconst 1, 1) := by decide +kernel
theorem dL_law_233 : decode cL_law 233 = .ok (.iadd, 1) := by decide +kernel
theorem dL_law_234 : decode cL_law 234 = .ok (.iaload, 1) := by decide +kernel
theorem dL_law_235 : decode cL_law 235 = .ok (.aload_n 0, 1) := by decide +kernel
theorem dL_law_236 : decode cL_law 236 = .ok (.iload_n 3, 1) := by decide +kernel
theorem dL_law_237 : decode cL_law 237 = .ok (.iconst 2, 1) := by decide +kernel
theorem dL_law_238 : decode cL_law 238 = .ok (.iadd, 1) := by decide +kernel
theorem dL_law_239 : decode cL_law 239 = .ok (.iaload, 1) := by decide +kernel
theorem dL_law_240 : decode cL_law 240 = .ok (.aload_n 0, 1) := by decide +kernel
theorem dL_law_241 : decode cL_law 241 = .ok (.iload_n 3, 1) := by decide +kernel
theorem dL_law_242 : decode cL_law 242 = .ok (.iconst 3, 1) := by decide +kernel
theorem dL_law_243 : decode cL_law 243 = .ok (.iadd, 1) := by decide +kernel
theorem dL_law_244 : decode cL_law 244 = .ok (.iaload, 1) := by decide +kernel
theorem dL_law_245 : decode cL_law 245 = .ok (.aload_n 0, 1) := by decide +kernel
theorem dL_law_246 : decode cL_law 246 = .ok (.iload_n 3, 1) := by decide +kernel
theorem dL_law_247 : decode cL_law 247 = .ok (.iconst 4, 1) := by decide +kernel
theorem dL_law_248 : decode cL_law 248 = .ok (.iadd, 1) := by decide +kernel
theorem dL_law_249 : decode cL_law 249 = .ok (.iaload, 1) := by decide +kernel
theorem dL_law_250 : decode cL_law 250 = .ok (.aload_n 0, 1) := by decide +kernel
theorem dL_law_251 : decode cL_law 251 = .ok (.iload_n 3, 1) := by decide +kernel
theorem dL_law_252 : decode cL_law 252 = .ok (.iconst 5, 1) := by decide +kernel
theorem dL_law_253 : decode cL_law 253 = .ok (.iadd, 1) := by decide +kernel
theorem dL_law_254 : decode cL_law 254 = .ok (.iaload, 1) := by decide +kernel
theorem dL_law_255 : decode cL_law 255 = .ok (.invokevirtual 17, 3) := by decide +kernel
theorem w_1257 : (Cond.methodLink "GooseBorderLaw" (17 : Nat) ({ cls := "GooseBorderModel", name := "feed", desc := "(IIIII)I" } : MethodName)) ∈ gb_wA := gb_t6 57 rfl rfl
theorem w_1258 : (Cond.instanceMethod ({ cls := "GooseBorderModel", name := "feed", desc := "(IIIII)I" } : MethodName)) ∈ gb_wA := gb_t6 58 rfl rfl
theorem w_1259 : (Cond.selects "GooseBorderModel" ({ cls := "GooseBorderModel", name := "feed", desc := "(IIIII)I" } : MethodName) ({ cls := "GooseBorderModel", name := "feed", desc := "(IIIII)I" } : MethodName)) ∈ gb_wA := gb_t6 59 rfl rfl
theorem w_1260 : (Cond.code ({ cls := "GooseBorderModel", name := "feed", desc := "(IIIII)I" } : MethodName) prog_14_method_3_code (8 : Nat) (Option.some FieldType.int)) ∈ gb_wA := gb_t6 60 rfl rfl
theorem dL_law_258 : decode cL_law 258 = .ok (.if_icmp .eq 1633, 3) := by decide +kernel
set_option maxHeartbeats 4000000 in
set_option maxRecDepth 100000 in
theorem law_c0 {p : Program} {l : Launch} {e : Env} {s : State} {m : MethodId} {below : List Frame} {meth : Method} {c : Code} {b z : Nat} {xs : Nat → Int32} (C0 : lw_At p s m meth c b 6 xs) (hzz : Array.size s.heap = z) {D : va_G} {cT : Nat → ClassId} {tt : Nat → Nat} (hSt : gb_St D cT tt z s) {H : Heap} {locs : List Loc} {ls : Array Slot} (hPc : va_P D vwCl (gb_wl z (gb_C cT z)) H) (hPm : va_P D vwCl (gb_wl (z + 135) (gb_M cT (z + 135))) H) (hS : va_S (gb_ge z) s.heap H locs) (hl : lv_has ls 4 [(3, .int 0), (2, .ref (z + 135 + 0)), (1, .ref (z + 0)), (0, .ref b)]) : W p l e room_1 s m #[Value.ref b] below meth c H locs 157 10381 (lw_Z below #[Value.ref b] s) (F0 m 200 ls []) := by
  have C1 := C0
  obtain ⟨hx, hb, hr, hml, hown, hts, hX, hbl, hlocks, hgv⟩ := C0
  have hq : ∀ w ∈ gb_wA, w.before #[Value.ref b] s = true := fun w h => hts w (gb_wA_tbl w h)
  have hbA : ¬ gb_ge z b := Nat.not_le.mpr (by rw [← hzz]; exact hbl)
  refine lv_aload_n hx hb dL_law_200 rfl (lv_at hl 2 rfl) ?_
  refine lv_aload_n hx hb dL_law_201 rfl (lv_at hl 3 rfl) ?_
  refine lv_iload_n hx hb dL_law_202 rfl (lv_at hl 0 rfl) ?_
  refine lv_iconst (v := 1) hx hb dL_law_203 (by decide) ?_
  refine lv_iadd hx hb dL_law_204 ?_
  refine W.eq (g2 := F0 m 205 ls [.int 1, .ref b, .ref (z + 0)]) (congrArg (fun v => F0 m 205 ls (Value.int v :: [.ref b, .ref (z + 0)])) (show (0 : Int32) + 1 = 1 by decide)) ?_
  refine va_sld hx hb hX hbl hbA hS (gb_in rfl) dL_law_205 ?_
  refine lv_aload_n hx hb dL_law_206 rfl (lv_at hl 3 rfl) ?_
  refine lv_iload_n hx hb dL_law_207 rfl (lv_at hl 0 rfl) ?_
  refine lv_iconst (v := 2) hx hb dL_law_208 (by decide) ?_
  refine lv_iadd hx hb dL_law_209 ?_
  refine W.eq (g2 := F0 m 210 ls [.int 2, .ref b, .int (xs (Int32.toNatClampNeg 1)), .ref (z + 0)]) (congrArg (fun v => F0 m 210 ls (Value.int v :: [.ref b, .int (xs (Int32.toNatClampNeg 1)), .ref (z + 0)])) (show (0 : Int32) + 2 = 2 by decide)) ?_
  refine va_sld hx hb hX hbl hbA hS (gb_in rfl) dL_law_210 ?_
  refine lv_aload_n hx hb dL_law_211 rfl (lv_at hl 3 rfl) ?_
  refine lv_iload_n hx hb dL_law_212 rfl (lv_at hl 0 rfl) ?_
  refine lv_iconst (v := 3) hx hb dL_law_213 (by decide) ?_
  refine lv_iadd hx hb dL_law_214 ?_
  refine W.eq (g2 := F0 m 215 ls [.int 3, .ref b, .int (xs (Int32.toNatClampNeg 2)), .int (xs (Int32.toNatClampNeg 1)), .ref (z + 0)]) (congrArg (fun v => F0 m 215 ls (Value.int v :: [.ref b, .int (xs (Int32.toNatClampNeg 2)), .int (xs (Int32.toNatClampNeg 1)), .ref (z + 0)])) (show (0 : Int32) + 3 = 3 by decide)) ?_
  refine va_sld hx hb hX hbl hbA hS (gb_in rfl) dL_law_215 ?_
  refine lv_aload_n hx hb dL_law_216 rfl (lv_at hl 3 rfl) ?_
  refine lv_iload_n hx hb dL_law_217 rfl (lv_at hl 0 rfl) ?_
  refine lv_iconst (v := 4) hx hb dL_law_218 (by decide) ?_
  refine lv_iadd hx hb dL_law_219 ?_
  refine W.eq (g2 := F0 m 220 ls [.int 4, .ref b, .int (xs (Int32.toNatClampNeg 3)), .int (xs (Int32.toNatClampNeg 2)), .int (xs (Int32.toNatClampNeg 1)), .ref (z + 0)]) (congrArg (fun v => F0 m 220 ls (Value.int v :: [.ref b, .int (xs (Int32.toNatClampNeg 3)), .int (xs (Int32.toNatClampNeg 2)), .int (xs (Int32.toNatClampNeg 1)), .ref (z + 0)])) (show (0 : Int32) + 4 = 4 by decide)) ?_
  refine va_sld hx hb hX hbl hbA hS (gb_in rfl) dL_law_220 ?_
  refine lv_aload_n hx hb dL_law_221 rfl (lv_at hl 3 rfl) ?_
  refine lv_iload_n hx hb dL_law_222 rfl (lv_at hl 0 rfl) ?_
  refine lv_iconst (v := 5) hx hb dL_law_223 (by decide) ?_
  refine lv_iadd hx hb dL_law_224 ?_
  refine W.eq (g2 := F0 m 225 ls [.int 5, .ref b, .int (xs (Int32.toNatClampNeg 4)), .int (xs (Int32.toNatClampNeg 3)), .int (xs (Int32.toNatClampNeg 2)), .int (xs (Int32.toNatClampNeg 1)), .ref (z + 0)]) (congrArg (fun v => F0 m 225 ls (Value.int v :: [.ref b, .int (xs (Int32.toNatClampNeg 4)), .int (xs (Int32.toNatClampNeg 3)), .int (xs (Int32.toNatClampNeg 2)), .int (xs (Int32.toNatClampNeg 1)), .ref (z + 0)])) (show (0 : Int32) + 5 = 5 by decide)) ?_
  refine va_sld hx hb hX hbl hbA hS (gb_in rfl) dL_law_225 ?_
  refine gb_calli (va_runV (C := RX11) (As := [.int (xs (Int32.toNatClampNeg 1)), .int (xs (Int32.toNatClampNeg 2)), .int (xs (Int32.toNatClampNeg 3)), .int (xs (Int32.toNatClampNeg 4)), .int (xs (Int32.toNatClampNeg 5))]) (rest := []) ⟨hx, hb, hml, hown, hq⟩ (a_X11_feed l D cT tt z z (Nat.le_refl z) (xs (Int32.toNatClampNeg 1)) (xs (Int32.toNatClampNeg 2)) (xs (Int32.toNatClampNeg 3)) (xs (Int32.toNatClampNeg 4)) (xs (Int32.toNatClampNeg 5))) (cwV 5 hq (gb_gV w_346 w_347 w_348 w_1 w_349) rfl rfl rfl (by decide +kernel) ⟨Nat.le_of_ble_eq_true rfl, Nat.le_of_ble_eq_true rfl⟩) (gb_preV (r := (RX11, TX11, 10)) (ci := 9) (q0 := 0) hSt hPc rfl (gb_at z rfl) hS (fun q h => h) hPc) rfl rfl hl.1 rfl (lv_room (Nat.le_of_ble_eq_true rfl)) dL_law_226 ⟨Nat.le_of_ble_eq_true rfl, Nat.le_of_ble_eq_true rfl⟩) hS (fun q h => h.1) (fun q h => h.1) (fun r H locs hY hk hS => ?_)
  subst hY
  have hPm := gb_kept hPm (fun q h1 h2 => hk q (Nat.lt_of_lt_of_le h2 ((hPm 21 _ (gb_at (z + 135) rfl)).lt)) (fun h3 => Nat.not_lt.mpr h1 h3.2))
  refine lv_aload_n hx hb dL_law_229 rfl (lv_at hl 1 rfl) ?_
  refine lv_aload_n hx hb dL_law_230 rfl (lv_at hl 3 rfl) ?_
  refine lv_iload_n hx hb dL_law_231 rfl (lv_at hl 0 rfl) ?_
  refine lv_iconst (v := 1) hx hb dL_law_232 (by decide) ?_
  refine lv_iadd hx hb dL_law_233 ?_
  refine W.eq (g2 := F0 m 234 ls [.int 1, .ref b, .ref (z + 135 + 0), .int 20]) (congrArg (fun v => F0 m 234 ls (Value.int v :: [.ref b, .ref (z + 135 + 0), .int 20])) (show (0 : Int32) + 1 = 1 by decide)) ?_
  refine va_sld hx hb hX hbl hbA hS (gb_in rfl) dL_law_234 ?_
  refine lv_aload_n hx hb dL_law_235 rfl (lv_at hl 3 rfl) ?_
  refine lv_iload_n hx hb dL_law_236 rfl (lv_at hl 0 rfl) ?_
  refine lv_iconst (v := 2) hx hb dL_law_237 (by decide) ?_
  refine lv_iadd hx hb dL_law_238 ?_
  refine W.eq (g2 := F0 m 239 ls [.int 2, .ref b, .int (xs (Int32.toNatClampNeg 1)), .ref (z + 135 + 0), .int 20]) (congrArg (fun v => F0 m 239 ls (Value.int v :: [.ref b, .int (xs (Int32.toNatClampNeg 1)), .ref (z + 135 + 0), .int 20])) (show (0 : Int32) + 2 = 2 by decide)) ?_
  refine va_sld hx hb hX hbl hbA hS (gb_in rfl) dL_law_239 ?_
  refine lv_aload_n hx hb dL_law_240 rfl (lv_at hl 3 rfl) ?_
  refine lv_iload_n hx hb dL_law_241 rfl (lv_at hl 0 rfl) ?_
  refine lv_iconst (v := 3) hx hb dL_law_242 (by decide) ?_
  refine lv_iadd hx hb dL_law_243 ?_
  refine W.eq (g2 := F0 m 244 ls [.int 3, .ref b, .int (xs (Int32.toNatClampNeg 2)), .int (xs (Int32.toNatClampNeg 1)), .ref (z + 135 + 0), .int 20]) (congrArg (fun v => F0 m 244 ls (Value.int v :: [.ref b, .int (xs (Int32.toNatClampNeg 2)), .int (xs (Int32.toNatClampNeg 1)), .ref (z + 135 + 0), .int 20])) (show (0 : Int32) + 3 = 3 by decide)) ?_
  refine va_sld hx hb hX hbl hbA hS (gb_in rfl) dL_law_244 ?_
  refine lv_aload_n hx hb dL_law_245 rfl (lv_at hl 3 rfl) ?_
  refine lv_iload_n hx hb dL_law_246 rfl (lv_at hl 0 rfl) ?_
  refine lv_iconst (v := 4) hx hb dL_law_247 (by decide) ?_
  refine lv_iadd hx hb dL_law_248 ?_
  refine W.eq (g2 := F0 m 249 ls [.int 4, .ref b, .int (xs (Int32.toNatClampNeg 3)), .int (xs (Int32.toNatClampNeg 2)), .int (xs (Int32.toNatClampNeg 1)), .ref (z + 135 + 0), .int 20]) (congrArg (fun v => F0 m 249 ls (Value.int v :: [.ref b, .int (xs (Int32.toNatClampNeg 3)), .int (xs (Int32.toNatClampNeg 2)), .int (xs (Int32.toNatClampNeg 1)), .ref (z + 135 + 0), .int 20])) (show (0 : Int32) + 4 = 4 by decide)) ?_
  refine va_sld hx hb hX hbl hbA hS (gb_in rfl) dL_law_249 ?_
  refine lv_aload_n hx hb dL_law_250 rfl (lv_at hl 3 rfl) ?_
  refine lv_iload_n hx hb dL_law_251 rfl (lv_at hl 0 rfl) ?_
  refine lv_iconst (v := 5) hx hb dL_law_252 (by decide) ?_
  refine lv_iadd hx hb dL_law_253 ?_
  refine W.eq (g2 := F0 m 254 ls [.int 5, .ref b, .int (xs (Int32.toNatClampNeg 4)), .int (xs (Int32.toNatClampNeg 3)), .int (xs (Int32.toNatClampNeg 2)), .int (xs (Int32.toNatClampNeg 1)), .ref (z + 135 + 0), .int 20]) (congrArg (fun v => F0 m 254 ls (Value.int v :: [.ref b, .int (xs (Int32.toNatClampNeg 4)), .int (xs (Int32.toNatClampNeg 3)), .int (xs (Int32.toNatClampNeg 2)), .int (xs (Int32.toNatClampNeg 1)), .ref (z + 135 + 0), .int 20])) (show (0 : Int32) + 5 = 5 by decide)) ?_
  refine va_sld hx hb hX hbl hbA hS (gb_in rfl) dL_law_254 ?_
  refine gb_calli (va_runV (C := RX12) (As := [.int (xs (Int32.toNatClampNeg 1)), .int (xs (Int32.toNatClampNeg 2)), .int (xs (Int32.toNatClampNeg 3)), .int (xs (Int32.toNatClampNeg 4)), .int (xs (Int32.toNatClampNeg 5))]) (rest := [.int 20]) ⟨hx, hb, hml, hown, hq⟩ (a_X12_feed l D cT tt z (z + 135) (Nat.le_add_right z 135) (xs (Int32.toNatClampNeg 1)) (xs (Int32.toNatClampNeg 2)) (xs (Int32.toNatClampNeg 3)) (xs (Int32.toNatClampNeg 4)) (xs (Int32.toNatClampNeg 5))) (cwV 5 hq (gb_gV w_1257 w_1258 w_1259 w_14 w_1260) rfl rfl rfl (by decide +kernel) ⟨Nat.le_of_ble_eq_true rfl, Nat.le_of_ble_eq_true rfl⟩) (gb_preV (r := (RX12, TX12, 44)) (ci := 10) (q0 := 0) hSt hPm rfl (gb_at (z + 135) rfl) hS (fun q h => h) hPm) rfl rfl hl.1 rfl (lv_room (Nat.le_of_ble_eq_true rfl)) dL_law_255 ⟨Nat.le_of_ble_eq_true rfl, Nat.le_of_ble_eq_true rfl⟩) hS (fun q h => Nat.le_trans (Nat.le_add_right z 135) h.1) (fun q h => Nat.le_trans (Nat.le_add_right z 135) h.1) (fun r H locs hY hk hS => ?_)
  subst hY
  refine lv_icmp_eq (tgt := 1891) hx hb dL_law_258 (by decide) (fun _ => ?_) (fun hc => absurd rfl hc)
  exact law_end C1 hzz hS (lv_sub hl [0, 3] rfl)
theorem dL_law_263 : decode cL_law 263 = .ok (.aload_n 1, 1) := by decide +kernel
theorem dL_law_264 : decode cL_law 264 = .ok (.aload_n 0, 1) := by decide +kernel
theorem dL_law_265 : decode cL_law 265 = .ok (.iload_n 3, 1) := by decide +kernel
theorem dL_law_266 : decode cL_law 266 = .ok (.iconst 1, 1) := by decide +kernel
theorem dL_law_267 : decode cL_law 267 = .ok (.iadd, 1) := by decide +kernel
theorem dL_law_268 : decode cL_law 268 = .ok (.iaload, 1) := by decide +kernel
theorem dL_law_269 : decode cL_law 269 = .ok (.invokevirtual 18, 3) := by decide +kernel
theorem w_354 : (Cond.methodLink "GooseBorderLaw" (18 : Nat) ({ cls := "GooseBorder", name := "end", desc := "(I)I" } : MethodName)) ∈ gb_wA := gb_t2 114 rfl rfl
theorem w_355 : (Cond.instanceMethod ({ cls := "GooseBorder", name := "end", desc := "(I)I" } : MethodName)) ∈ gb_wA := gb_t2 115 rfl rfl
theorem w_356 : (Cond.selects "GooseBorder" ({ cls := "GooseBorder", name := "end", desc := "(I)I" } : MethodName) ({ cls := "GooseBorder", name := "end", desc := "(I)I" } : MethodName)) ∈ gb_wA := gb_t2 116 rfl rfl
theorem w_357 : (Cond.code ({ cls := "GooseBorder", name := "end", desc := "(I)I" } : MethodName) prog_1_method_3_code (2 : Nat) (Option.some FieldType.int)) ∈ gb_wA := gb_t2 117 rfl rfl
theorem dL_law_272 : decode cL_law 272 = .ok (.aload_n 2, 1) := by decide +kernel
theorem dL_law_273 : decode cL_law 273 = .ok (.aload_n 0, 1) := by decide +kernel
theorem dL_law_274 : decode cL_law 274 = .ok (.iload_n 3, 1) := by decide +kernel
theorem dL_law_275 : decode cL_law 275 = .ok (.iconst 1, 1) := by decide +kernel
theorem dL_law_276 : decode cL_law 276 = .ok (.iadd, 1) := by decide +kernel
theorem dL_law_277 : decode cL_law 277 = .ok (.iaload, 1) := by decide +kernel
theorem dL_law_278 : decode cL_law 278 = .ok (.invokevirtual 22, 3) := by decide +kernel
theorem w_1261 : (Cond.methodLink "GooseBorderLaw" (22 : Nat) ({ cls := "GooseBorderModel", name := "end", desc := "(I)I" } : MethodName)) ∈ gb_wA := gb_t6 61 rfl rfl
theorem w_1262 : (Cond.instanceMethod ({ cls := "GooseBorderModel", name := "end", desc := "(I)I" } : MethodName)) ∈ gb_wA := gb_t6 62 rfl rfl
theorem w_1263 : (Cond.selects "GooseBorderModel" ({ cls := "GooseBorderModel", name := "end", desc := "(I)I" } : MethodName) ({ cls := "GooseBorderModel", name := "end", desc := "(I)I" } : MethodName)) ∈ gb_wA := gb_t6 63 rfl rfl
theorem w_1264 : (Cond.code ({ cls := "GooseBorderModel", name := "end", desc := "(I)I" } : MethodName) prog_14_method_4_code (2 : Nat) (Option.some FieldType.int)) ∈ gb_wA := gb_t6 64 rfl rfl
theorem dL_law_281 : decode cL_law 281 = .ok (.if_icmp .eq 1610, 3) := by decide +kernel
set_option maxHeartbeats 4000000 in
set_option maxRecDepth 100000 in
theorem law_c1 {p : Program} {l : Launch} {e : Env} {s : State} {m : MethodId} {below : List Frame} {meth : Method} {c : Code} {b z : Nat} {xs : Nat → Int32} (C0 : lw_At p s m meth c b 6 xs) (hzz : Array.size s.heap = z) {D : va_G} {cT : Nat → ClassId} {tt : Nat → Nat} (hSt : gb_St D cT tt z s) {H : Heap} {locs : List Loc} {ls : Array Slot} (hPc : va_P D vwCl (gb_wl z (gb_C cT z)) H) (hPm : va_P D vwCl (gb_wl (z + 135) (gb_M cT (z + 135))) H) (hS : va_S (gb_ge z) s.heap H locs) (hl : lv_has ls 4 [(3, .int 0), (2, .ref (z + 135 + 0)), (1, .ref (z + 0)), (0, .ref b)]) : W p l e room_1 s m #[Value.ref b] below meth c H locs 157 10381 (lw_Z below #[Value.ref b] s) (F0 m 263 ls []) := by
  have C1 := C0
  obtain ⟨hx, hb, hr, hml, hown, hts, hX, hbl, hlocks, hgv⟩ := C0
  have hq : ∀ w ∈ gb_wA, w.before #[Value.ref b] s = true := fun w h => hts w (gb_wA_tbl w h)
  have hbA : ¬ gb_ge z b := Nat.not_le.mpr (by rw [← hzz]; exact hbl)
  refine lv_aload_n hx hb dL_law_263 rfl (lv_at hl 2 rfl) ?_
  refine lv_aload_n hx hb dL_law_264 rfl (lv_at hl 3 rfl) ?_
  refine lv_iload_n hx hb dL_law_265 rfl (lv_at hl 0 rfl) ?_
  refine lv_iconst (v := 1) hx hb dL_law_266 (by decide) ?_
  refine lv_iadd hx hb dL_law_267 ?_
  refine W.eq (g2 := F0 m 268 ls [.int 1, .ref b, .ref (z + 0)]) (congrArg (fun v => F0 m 268 ls (Value.int v :: [.ref b, .ref (z + 0)])) (show (0 : Int32) + 1 = 1 by decide)) ?_
  refine va_sld hx hb hX hbl hbA hS (gb_in rfl) dL_law_268 ?_
  refine gb_calli (va_runV (C := RX11) (As := [.int (xs (Int32.toNatClampNeg 1))]) (rest := []) ⟨hx, hb, hml, hown, hq⟩ (a_X11_end l D cT tt z z (Nat.le_refl z) (xs (Int32.toNatClampNeg 1))) (cwV 1 hq (gb_gV w_354 w_355 w_356 w_1 w_357) rfl rfl rfl (by decide +kernel) ⟨Nat.le_of_ble_eq_true rfl, Nat.le_of_ble_eq_true rfl⟩) (gb_preV (r := (RX11, TX11, 10)) (ci := 9) (q0 := 0) hSt hPc rfl (gb_at z rfl) hS (fun q h => h) hPc) rfl rfl hl.1 rfl (lv_room (Nat.le_of_ble_eq_true rfl)) dL_law_269 ⟨Nat.le_of_ble_eq_true rfl, Nat.le_of_ble_eq_true rfl⟩) hS (fun q h => h.1) (fun q h => h.1) (fun r H locs hY hk hS => ?_)
  subst hY
  have hPm := gb_kept hPm (fun q h1 h2 => hk q (Nat.lt_of_lt_of_le h2 ((hPm 21 _ (gb_at (z + 135) rfl)).lt)) (fun h3 => Nat.not_lt.mpr h1 h3.2))
  refine lv_aload_n hx hb dL_law_272 rfl (lv_at hl 1 rfl) ?_
  refine lv_aload_n hx hb dL_law_273 rfl (lv_at hl 3 rfl) ?_
  refine lv_iload_n hx hb dL_law_274 rfl (lv_at hl 0 rfl) ?_
  refine lv_iconst (v := 1) hx hb dL_law_275 (by decide) ?_
  refine lv_iadd hx hb dL_law_276 ?_
  refine W.eq (g2 := F0 m 277 ls [.int 1, .ref b, .ref (z + 135 + 0), .int (if (xs (Int32.toNatClampNeg 1)) < 0 then (-1) else if (xs (Int32.toNatClampNeg 1)) ≤ 0 then (xs (Int32.toNatClampNeg 1)) else (-1))]) (congrArg (fun v => F0 m 277 ls (Value.int v :: [.ref b, .ref (z + 135 + 0), .int (if (xs (Int32.toNatClampNeg 1)) < 0 then (-1) else if (xs (Int32.toNatClampNeg 1)) ≤ 0 then (xs (Int32.toNatClampNeg 1)) else (-1))])) (show (0 : Int32) + 1 = 1 by decide)) ?_
  refine va_sld hx hb hX hbl hbA hS (gb_in rfl) dL_law_277 ?_
  refine gb_calli (va_runV (C := RX12) (As := [.int (xs (Int32.toNatClampNeg 1))]) (rest := [.int (if (xs (Int32.toNatClampNeg 1)) < 0 then (-1) else if (xs (Int32.toNatClampNeg 1)) ≤ 0 then (xs (Int32.toNatClampNeg 1)) else (-1))]) ⟨hx, hb, hml, hown, hq⟩ (a_X12_end l D cT tt z (z + 135) (Nat.le_add_right z 135) (xs (Int32.toNatClampNeg 1))) (cwV 1 hq (gb_gV w_1261 w_1262 w_1263 w_14 w_1264) rfl rfl rfl (by decide +kernel) ⟨Nat.le_of_ble_eq_true rfl, Nat.le_of_ble_eq_true rfl⟩) (gb_preV (r := (RX12, TX12, 44)) (ci := 10) (q0 := 0) hSt hPm rfl (gb_at (z + 135) rfl) hS (fun q h => h) hPm) rfl rfl hl.1 rfl (lv_room (Nat.le_of_ble_eq_true rfl)) dL_law_278 ⟨Nat.le_of_ble_eq_true rfl, Nat.le_of_ble_eq_true rfl⟩) hS (fun q h => Nat.le_trans (Nat.le_add_right z 135) h.1) (fun q h => Nat.le_trans (Nat.le_add_right z 135) h.1) (fun r H locs hY hk hS => ?_)
  subst hY
  refine lv_icmp_eq (tgt := 1891) hx hb dL_law_281 (by decide) (fun _ => ?_) (fun hc => absurd rfl hc)
  exact law_end C1 hzz hS (lv_sub hl [0, 3] rfl)
theorem dL_law_286 : decode cL_law 286 = .ok (.aload_n 1, 1) := by decide +kernel
theorem dL_law_287 : decode cL_law 287 = .ok (.aload_n 0, 1) := by decide +kernel
theorem dL_law_288 : decode cL_law 288 = .ok (.iload_n 3, 1) := by decide +kernel
theorem dL_law_289 : decode cL_law 289 = .ok (.iconst 1, 1) := by decide +kernel
theorem dL_law_290 : decode cL_law 290 = .ok (.iadd, 1) := by decide +kernel
theorem dL_law_291 : decode cL_law 291 = .ok (.iaload, 1) := by decide +kernel
theorem dL_law_292 : decode cL_law 292 = .ok (.aload_n 0, 1) := by decide +kernel
theorem dL_law_293 : decode cL_law 293 = .ok (.iload_n 3, 1) := by decide +kernel
theorem dL_law_294 : decode cL_law 294 = .ok (.iconst 2, 1) := by decide +kernel
theorem dL_law_295 : decode cL_law 295 = .ok (.iadd, 1) := by decide +kernel
theorem dL_law_296 : decode cL_law 296 = .ok (.iaload, 1) := by decide +kernel
theorem dL_law_297 : decode cL_law 297 = .ok (.invokevirtual 23, 3) := by decide +kernel
theorem w_358 : (Cond.methodLink "GooseBorderLaw" (23 : Nat) ({ cls := "GooseBorder", name := "text", desc := "(II)I" } : MethodName)) ∈ gb_wA := gb_t2 118 rfl rfl
theorem w_359 : (Cond.instanceMethod ({ cls := "GooseBorder", name := "text", desc := "(II)I" } : MethodName)) ∈ gb_wA := gb_t2 119 rfl rfl
theorem w_360 : (Cond.selects "GooseBorder" ({ cls := "GooseBorder", name := "text", desc := "(II)I" } : MethodName) ({ cls := "GooseBorder", name := "text", desc := "(II)I" } : MethodName)) ∈ gb_wA := gb_t2 120 rfl rfl
theorem w_361 : (Cond.code ({ cls := "GooseBorder", name := "text", desc := "(II)I" } : MethodName) prog_1_method_4_code (8 : Nat) (Option.some FieldType.int)) ∈ gb_wA := gb_t2 121 rfl rfl
theorem dL_law_300 : decode cL_law 300 = .ok (.aload_n 2, 1) := by decide +kernel
theorem dL_law_301 : decode cL_law 301 = .ok (.aload_n 0, 1) := by decide +kernel
theorem dL_law_302 : decode cL_law 302 = .ok (.iload_n 3, 1) := by decide +kernel
theorem dL_law_303 : decode cL_law 303 = .ok (.iconst 1, 1) := by decide +kernel
theorem dL_law_304 : decode cL_law 304 = .ok (.iadd, 1) := by decide +kernel
theorem dL_law_305 : decode cL_law 305 = .ok (.iaload, 1) := by decide +kernel
theorem dL_law_306 : decode cL_law 306 = .ok (.aload_n 0, 1) := by decide +kernel
theorem dL_law_307 : decode cL_law 307 = .ok (.iload_n 3, 1) := by decide +kernel
theorem dL_law_308 : decode cL_law 308 = .ok (.iconst 2, 1) := by decide +kernel
theorem dL_law_309 : decode cL_law 309 = .ok (.iadd, 1) := by decide +kernel
theorem dL_law_310 : decode cL_law 310 = .ok (.iaload, 1) := by decide +kernel
theorem dL_law_311 : decode cL_law 311 = .ok (.invokevirtual 27, 3) := by decide +kernel
theorem w_1265 : (Cond.methodLink "GooseBorderLaw" (27 : Nat) ({ cls := "GooseBorderModel", name := "text", desc := "(II)I" } : MethodName)) ∈ gb_wA := gb_t6 65 rfl rfl
theorem w_1266 : (Cond.instanceMethod ({ cls := "GooseBorderModel", name := "text", desc := "(II)I" } : MethodName)) ∈ gb_wA := gb_t6 66 rfl rfl
theorem w_1267 : (Cond.selects "GooseBorderModel" ({ cls := "GooseBorderModel", name := "text", desc := "(II)I" } : MethodName) ({ cls := "GooseBorderModel", name := "text", desc := "(II)I" } : MethodName)) ∈ gb_wA := gb_t6 67 rfl rfl
theorem w_1268 : (Cond.code ({ cls := "GooseBorderModel", name := "text", desc := "(II)I" } : MethodName) prog_14_method_29_code (5 : Nat) (Option.some FieldType.int)) ∈ gb_wA := gb_t6 68 rfl rfl
theorem dL_law_314 : decode cL_law 314 = .ok (.if_icmp .eq 1577, 3) := by decide +kernel
set_option maxHeartbeats 4000000 in
set_option maxRecDepth 100000 in
theorem law_c2 {p : Program} {l : Launch} {e : Env} {s : State} {m : MethodId} {below : List Frame} {meth : Method} {c : Code} {b z : Nat} {xs : Nat → Int32} (C0 : lw_At p s m meth c b 6 xs) (hzz : Array.size s.heap = z) {D : va_G} {cT : Nat → ClassId} {tt : Nat → Nat} (hSt : gb_St D cT tt z s) {H : Heap} {locs : List Loc} {ls : Array Slot} (hPc : va_P D vwCl (gb_wl z (gb_C cT z)) H) (hPm : va_P D vwCl (gb_wl (z + 135) (gb_M cT (z + 135))) H) (hS : va_S (gb_ge z) s.heap H locs) (hl : lv_has ls 4 [(3, .int 0), (2, .ref (z + 135 + 0)), (1, .ref (z + 0)), (0, .ref b)]) : W p l e room_1 s m #[Value.ref b] below meth c H locs 157 10381 (lw_Z below #[Value.ref b] s) (F0 m 286 ls []) := by
  have C1 := C0
  obtain ⟨hx, hb, hr, hml, hown, hts, hX, hbl, hlocks, hgv⟩ := C0
  have hq : ∀ w ∈ gb_wA, w.before #[Value.ref b] s = true := fun w h => hts w (gb_wA_tbl w h)
  have hbA : ¬ gb_ge z b := Nat.not_le.mpr (by rw [← hzz]; exact hbl)
  refine lv_aload_n hx hb dL_law_286 rfl (lv_at hl 2 rfl) ?_
  refine lv_aload_n hx hb dL_law_287 rfl (lv_at hl 3 rfl) ?_
  refine lv_iload_n hx hb dL_law_288 rfl (lv_at hl 0 rfl) ?_
  refine lv_iconst (v := 1) hx hb dL_law_289 (by decide) ?_
  refine lv_iadd hx hb dL_law_290 ?_
  refine W.eq (g2 := F0 m 291 ls [.int 1, .ref b, .ref (z + 0)]) (congrArg (fun v => F0 m 291 ls (Value.int v :: [.ref b, .ref (z + 0)])) (show (0 : Int32) + 1 = 1 by decide)) ?_
  refine va_sld hx hb hX hbl hbA hS (gb_in rfl) dL_law_291 ?_
  refine lv_aload_n hx hb dL_law_292 rfl (lv_at hl 3 rfl) ?_
  refine lv_iload_n hx hb dL_law_293 rfl (lv_at hl 0 rfl) ?_
  refine lv_iconst (v := 2) hx hb dL_law_294 (by decide) ?_
  refine lv_iadd hx hb dL_law_295 ?_
  refine W.eq (g2 := F0 m 296 ls [.int 2, .ref b, .int (xs (Int32.toNatClampNeg 1)), .ref (z + 0)]) (congrArg (fun v => F0 m 296 ls (Value.int v :: [.ref b, .int (xs (Int32.toNatClampNeg 1)), .ref (z + 0)])) (show (0 : Int32) + 2 = 2 by decide)) ?_
  refine va_sld hx hb hX hbl hbA hS (gb_in rfl) dL_law_296 ?_
  refine gb_calli (va_runV (C := RX11) (As := [.int (xs (Int32.toNatClampNeg 1)), .int (xs (Int32.toNatClampNeg 2))]) (rest := []) ⟨hx, hb, hml, hown, hq⟩ (a_X11_text l D cT tt z z (Nat.le_refl z) (xs (Int32.toNatClampNeg 1)) (xs (Int32.toNatClampNeg 2))) (cwV 2 hq (gb_gV w_358 w_359 w_360 w_1 w_361) rfl rfl rfl (by decide +kernel) ⟨Nat.le_of_ble_eq_true rfl, Nat.le_of_ble_eq_true rfl⟩) (gb_preV (r := (RX11, TX11, 10)) (ci := 9) (q0 := 0) hSt hPc rfl (gb_at z rfl) hS (fun q h => h) hPc) rfl rfl hl.1 rfl (lv_room (Nat.le_of_ble_eq_true rfl)) dL_law_297 ⟨Nat.le_of_ble_eq_true rfl, Nat.le_of_ble_eq_true rfl⟩) hS (fun q h => h.1) (fun q h => h.1) (fun r H locs hY hk hS => ?_)
  subst hY
  have hPm := gb_kept hPm (fun q h1 h2 => hk q (Nat.lt_of_lt_of_le h2 ((hPm 21 _ (gb_at (z + 135) rfl)).lt)) (fun h3 => Nat.not_lt.mpr h1 h3.2))
  refine lv_aload_n hx hb dL_law_300 rfl (lv_at hl 1 rfl) ?_
  refine lv_aload_n hx hb dL_law_301 rfl (lv_at hl 3 rfl) ?_
  refine lv_iload_n hx hb dL_law_302 rfl (lv_at hl 0 rfl) ?_
  refine lv_iconst (v := 1) hx hb dL_law_303 (by decide) ?_
  refine lv_iadd hx hb dL_law_304 ?_
  refine W.eq (g2 := F0 m 305 ls [.int 1, .ref b, .ref (z + 135 + 0), .int (if (xs (Int32.toNatClampNeg 1)) < 0 then (-2) else if (xs (Int32.toNatClampNeg 1)) < 4 then (if (xs (Int32.toNatClampNeg 2)) = (-1) then 0 else (-2)) else (-2))]) (congrArg (fun v => F0 m 305 ls (Value.int v :: [.ref b, .ref (z + 135 + 0), .int (if (xs (Int32.toNatClampNeg 1)) < 0 then (-2) else if (xs (Int32.toNatClampNeg 1)) < 4 then (if (xs (Int32.toNatClampNeg 2)) = (-1) then 0 else (-2)) else (-2))])) (show (0 : Int32) + 1 = 1 by decide)) ?_
  refine va_sld hx hb hX hbl hbA hS (gb_in rfl) dL_law_305 ?_
  refine lv_aload_n hx hb dL_law_306 rfl (lv_at hl 3 rfl) ?_
  refine lv_iload_n hx hb dL_law_307 rfl (lv_at hl 0 rfl) ?_
  refine lv_iconst (v := 2) hx hb dL_law_308 (by decide) ?_
  refine lv_iadd hx hb dL_law_309 ?_
  refine W.eq (g2 := F0 m 310 ls [.int 2, .ref b, .int (xs (Int32.toNatClampNeg 1)), .ref (z + 135 + 0), .int (if (xs (Int32.toNatClampNeg 1)) < 0 then (-2) else if (xs (Int32.toNatClampNeg 1)) < 4 then (if (xs (Int32.toNatClampNeg 2)) = (-1) then 0 else (-2)) else (-2))]) (congrArg (fun v => F0 m 310 ls (Value.int v :: [.ref b, .int (xs (Int32.toNatClampNeg 1)), .ref (z + 135 + 0), .int (if (xs (Int32.toNatClampNeg 1)) < 0 then (-2) else if (xs (Int32.toNatClampNeg 1)) < 4 then (if (xs (Int32.toNatClampNeg 2)) = (-1) then 0 else (-2)) else (-2))])) (show (0 : Int32) + 2 = 2 by decide)) ?_
  refine va_sld hx hb hX hbl hbA hS (gb_in rfl) dL_law_310 ?_
  refine gb_calli (va_runV (C := RX12) (As := [.int (xs (Int32.toNatClampNeg 1)), .int (xs (Int32.toNatClampNeg 2))]) (rest := [.int (if (xs (Int32.toNatClampNeg 1)) < 0 then (-2) else if (xs (Int32.toNatClampNeg 1)) < 4 then (if (xs (Int32.toNatClampNeg 2)) = (-1) then 0 else (-2)) else (-2))]) ⟨hx, hb, hml, hown, hq⟩ (a_X12_text l D cT tt z (z + 135) (Nat.le_add_right z 135) (xs (Int32.toNatClampNeg 1)) (xs (Int32.toNatClampNeg 2))) (cwV 2 hq (gb_gV w_1265 w_1266 w_1267 w_14 w_1268) rfl rfl rfl (by decide +kernel) ⟨Nat.le_of_ble_eq_true rfl, Nat.le_of_ble_eq_true rfl⟩) (gb_preV (r := (RX12, TX12, 44)) (ci := 10) (q0 := 0) hSt hPm rfl (gb_at (z + 135) rfl) hS (fun q h => h) hPm) rfl rfl hl.1 rfl (lv_room (Nat.le_of_ble_eq_true rfl)) dL_law_311 ⟨Nat.le_of_ble_eq_true rfl, Nat.le_of_ble_eq_true rfl⟩) hS (fun q h => Nat.le_trans (Nat.le_add_right z 135) h.1) (fun q h => Nat.le_trans (Nat.le_add_right z 135) h.1) (fun r H locs hY hk hS => ?_)
  subst hY
  refine lv_icmp_eq (tgt := 1891) hx hb dL_law_314 (by decide) (fun _ => ?_) (fun hc => absurd rfl hc)
  exact law_end C1 hzz hS (lv_sub hl [0, 3] rfl)
theorem dL_law_319 : decode cL_law 319 = .ok (.aload_n 1, 1) := by decide +kernel
theorem dL_law_320 : decode cL_law 320 = .ok (.aload_n 0, 1) := by decide +kernel
theorem dL_law_321 : decode cL_law 321 = .ok (.iload_n 3, 1) := by decide +kernel
theorem dL_law_322 : decode cL_law 322 = .ok (.iconst 1, 1) := by decide +kernel
theorem dL_law_323 : decode cL_law 323 = .ok (.iadd, 1) := by decide +kernel
theorem dL_law_324 : decode cL_law 324 = .ok (.iaload, 1) := by decide +kernel
theorem dL_law_325 : decode cL_law 325 = .ok (.invokevirtual 28, 3) := by decide +kernel
theorem w_566 : (Cond.methodLink "GooseBorderLaw" (28 : Nat) ({ cls := "GooseBorder", name := "fault", desc := "(I)I" } : MethodName)) ∈ gb_wA := gb_t3 86 rfl rfl
theorem w_567 : (Cond.instanceMethod ({ cls := "GooseBorder", name := "fault", desc := "(I)I" } : MethodName)) ∈ gb_wA := gb_t3 87 rfl rfl
theorem w_568 : (Cond.selects "GooseBorder" ({ cls := "GooseBorder", name := "fault", desc := "(I)I" } : MethodName) ({ cls := "GooseBorder", name := "fault", desc := "(I)I" } : MethodName)) ∈ gb_wA := gb_t3 88 rfl rfl
theorem w_569 : (Cond.code ({ cls := "GooseBorder", name := "fault", desc := "(I)I" } : MethodName) prog_1_method_5_code (2 : Nat) (Option.some FieldType.int)) ∈ gb_wA := gb_t3 89 rfl rfl
theorem dL_law_328 : decode cL_law 328 = .ok (.aload_n 2, 1) := by decide +kernel
theorem dL_law_329 : decode cL_law 329 = .ok (.aload_n 0, 1) := by decide +kernel
theorem dL_law_330 : decode cL_law 330 = .ok (.iload_n 3, 1) := by decide +kernel
theorem dL_law_331 : decode cL_law 331 = .ok (.iconst 1, 1) := by decide +kernel
theorem dL_law_332 : decode cL_law 332 = .ok (.iadd, 1) := by decide +kernel
theorem dL_law_333 : decode cL_law 333 = .ok (.iaload, 1) := by decide +kernel
theorem dL_law_334 : decode cL_law 334 = .ok (.invokevirtual 31, 3) := by decide +kernel
theorem w_1364 : (Cond.methodLink "GooseBorderLaw" (31 : Nat) ({ cls := "GooseBorderModel", name := "fault", desc := "(I)I" } : MethodName)) ∈ gb_wA := gb_t6 164 rfl rfl
theorem w_1365 : (Cond.instanceMethod ({ cls := "GooseBorderModel", name := "fault", desc := "(I)I" } : MethodName)) ∈ gb_wA := gb_t6 165 rfl rfl
theorem w_1366 : (Cond.selects "GooseBorderModel" ({ cls := "GooseBorderModel", name := "fault", desc := "(I)I" } : MethodName) ({ cls := "GooseBorderModel", name := "fault", desc := "(I)I" } : MethodName)) ∈ gb_wA := gb_t6 166 rfl rfl
theorem w_1367 : (Cond.code ({ cls := "GooseBorderModel", name := "fault", desc := "(I)I" } : MethodName) prog_14_method_30_code (2 : Nat) (Option.some FieldType.int)) ∈ gb_wA := gb_t6 167 rfl rfl
theorem dL_law_337 : decode cL_law 337 = .ok (.if_icmp .eq 1554, 3) := by decide +kernel
set_option maxHeartbeats 4000000 in
set_option maxRecDepth 100000 in
theorem law_c3 {p : Program} {l : Launch} {e : Env} {s : State} {m : MethodId} {below : List Frame} {meth : Method} {c : Code} {b z : Nat} {xs : Nat → Int32} (C0 : lw_At p s m meth c b 6 xs) (hzz : Array.size s.heap = z) {D : va_G} {cT : Nat → ClassId} {tt : Nat → Nat} (hSt : gb_St D cT tt z s) {H : Heap} {locs : List Loc} {ls : Array Slot} (hPc : va_P D vwCl (gb_wl z (gb_C cT z)) H) (hPm : va_P D vwCl (gb_wl (z + 135) (gb_M cT (z + 135))) H) (hS : va_S (gb_ge z) s.heap H locs) (hl : lv_has ls 4 [(3, .int 0), (2, .ref (z + 135 + 0)), (1, .ref (z + 0)), (0, .ref b)]) : W p l e room_1 s m #[Value.ref b] below meth c H locs 157 10381 (lw_Z below #[Value.ref b] s) (F0 m 319 ls []) := by
  have C1 := C0
  obtain ⟨hx, hb, hr, hml, hown, hts, hX, hbl, hlocks, hgv⟩ := C0
  have hq : ∀ w ∈ gb_wA, w.before #[Value.ref b] s = true := fun w h => hts w (gb_wA_tbl w h)
  have hbA : ¬ gb_ge z b := Nat.not_le.mpr (by rw [← hzz]; exact hbl)
  refine lv_aload_n hx hb dL_law_319 rfl (lv_at hl 2 rfl) ?_
  refine lv_aload_n hx hb dL_law_320 rfl (lv_at hl 3 rfl) ?_
  refine lv_iload_n hx hb dL_law_321 rfl (lv_at hl 0 rfl) ?_
  refine lv_iconst (v := 1) hx hb dL_law_322 (by decide) ?_
  refine lv_iadd hx hb dL_law_323 ?_
  refine W.eq (g2 := F0 m 324 ls [.int 1, .ref b, .ref (z + 0)]) (congrArg (fun v => F0 m 324 ls (Value.int v :: [.ref b, .ref (z + 0)])) (show (0 : Int32) + 1 = 1 by decide)) ?_
  refine va_sld hx hb hX hbl hbA hS (gb_in rfl) dL_law_324 ?_
  refine gb_calli (va_runV (C := RX11) (As := [.int (xs (Int32.toNatClampNeg 1))]) (rest := []) ⟨hx, hb, hml, hown, hq⟩ (a_X11_fault l D cT tt z z (Nat.le_refl z) (xs (Int32.toNatClampNeg 1))) (cwV 1 hq (gb_gV w_566 w_567 w_568 w_1 w_569) rfl rfl rfl (by decide +kernel) ⟨Nat.le_of_ble_eq_true rfl, Nat.le_of_ble_eq_true rfl⟩) (gb_preV (r := (RX11, TX11, 10)) (ci := 9) (q0 := 0) hSt hPc rfl (gb_at z rfl) hS (fun q h => h) hPc) rfl rfl hl.1 rfl (lv_room (Nat.le_of_ble_eq_true rfl)) dL_law_325 ⟨Nat.le_of_ble_eq_true rfl, Nat.le_of_ble_eq_true rfl⟩) hS (fun q h => h.1) (fun q h => h.1) (fun r H locs hY hk hS => ?_)
  subst hY
  have hPm := gb_kept hPm (fun q h1 h2 => hk q (Nat.lt_of_lt_of_le h2 ((hPm 21 _ (gb_at (z + 135) rfl)).lt)) (fun h3 => Nat.not_lt.mpr h1 h3.2))
  refine lv_aload_n hx hb dL_law_328 rfl (lv_at hl 1 rfl) ?_
  refine lv_aload_n hx hb dL_law_329 rfl (lv_at hl 3 rfl) ?_
  refine lv_iload_n hx hb dL_law_330 rfl (lv_at hl 0 rfl) ?_
  refine lv_iconst (v := 1) hx hb dL_law_331 (by decide) ?_
  refine lv_iadd hx hb dL_law_332 ?_
  refine W.eq (g2 := F0 m 333 ls [.int 1, .ref b, .ref (z + 135 + 0), .int (if (xs (Int32.toNatClampNeg 1)) = 0 then 0 else (-1))]) (congrArg (fun v => F0 m 333 ls (Value.int v :: [.ref b, .ref (z + 135 + 0), .int (if (xs (Int32.toNatClampNeg 1)) = 0 then 0 else (-1))])) (show (0 : Int32) + 1 = 1 by decide)) ?_
  refine va_sld hx hb hX hbl hbA hS (gb_in rfl) dL_law_333 ?_
  refine gb_calli (va_runV (C := RX12) (As := [.int (xs (Int32.toNatClampNeg 1))]) (rest := [.int (if (xs (Int32.toNatClampNeg 1)) = 0 then 0 else (-1))]) ⟨hx, hb, hml, hown, hq⟩ (a_X12_fault l D cT tt z (z + 135) (Nat.le_add_right z 135) (xs (Int32.toNatClampNeg 1))) (cwV 1 hq (gb_gV w_1364 w_1365 w_1366 w_14 w_1367) rfl rfl rfl (by decide +kernel) ⟨Nat.le_of_ble_eq_true rfl, Nat.le_of_ble_eq_true rfl⟩) (gb_preV (r := (RX12, TX12, 44)) (ci := 10) (q0 := 0) hSt hPm rfl (gb_at (z + 135) rfl) hS (fun q h => h) hPm) rfl rfl hl.1 rfl (lv_room (Nat.le_of_ble_eq_true rfl)) dL_law_334 ⟨Nat.le_of_ble_eq_true rfl, Nat.le_of_ble_eq_true rfl⟩) hS (fun q h => Nat.le_trans (Nat.le_add_right z 135) h.1) (fun q h => Nat.le_trans (Nat.le_add_right z 135) h.1) (fun r H locs hY hk hS => ?_)
  subst hY
  refine lv_icmp_eq (tgt := 1891) hx hb dL_law_337 (by decide) (fun _ => ?_) (fun hc => absurd rfl hc)
  exact law_end C1 hzz hS (lv_sub hl [0, 3] rfl)
theorem dL_law_342 : decode cL_law 342 = .ok (.aload_n 1, 1) := by decide +kernel
theorem dL_law_343 : decode cL_law 343 = .ok (.aload_n 0, 1) := by decide +kernel
theorem dL_law_344 : decode cL_law 344 = .ok (.iload_n 3, 1) := by decide +kernel
theorem dL_law_345 : decode cL_law 345 = .ok (.iconst 1, 1) := by decide +kernel
theorem dL_law_346 : decode cL_law 346 = .ok (.iadd, 1) := by decide +kernel
theorem dL_law_347 : decode cL_law 347 = .ok (.iaload, 1) := by decide +kernel
theorem dL_law_348 : decode cL_law 348 = .ok (.aload_n 0, 1) := by decide +kernel
theorem dL_law_349 : decode cL_law 349 = .ok (.iload_n 3, 1) := by decide +kernel
theorem dL_law_350 : decode cL_law 350 = .ok (.iconst 2, 1) := by decide +kernel
theorem dL_law_351 : decode cL_law 351 = .ok (.iadd, 1) := by decide +kernel
theorem dL_law_352 : decode cL_law 352 = .ok (.iaload, 1) := by decide +kernel
theorem dL_law_353 : decode cL_law 353 = .ok (.invokevirtual 32, 3) := by decide +kernel
theorem w_589 : (Cond.methodLink "GooseBorderLaw" (32 : Nat) ({ cls := "GooseBorder", name := "border", desc := "(II)I" } : MethodName)) ∈ gb_wA := gb_t3 109 rfl rfl
theorem w_590 : (Cond.instanceMethod ({ cls := "GooseBorder", name := "border", desc := "(II)I" } : MethodName)) ∈ gb_wA := gb_t3 110 rfl rfl
theorem w_591 : (Cond.selects "GooseBorder" ({ cls := "GooseBorder", name := "border", desc := "(II)I" } : MethodName) ({ cls := "GooseBorder", name := "border", desc := "(II)I" } : MethodName)) ∈ gb_wA := gb_t3 111 rfl rfl
theorem w_592 : (Cond.code ({ cls := "GooseBorder", name := "border", desc := "(II)I" } : MethodName) prog_1_method_9_code (4 : Nat) (Option.some FieldType.int)) ∈ gb_wA := gb_t3 112 rfl rfl
theorem dL_law_356 : decode cL_law 356 = .ok (.aload_n 2, 1) := by decide +kernel
theorem dL_law_357 : decode cL_law 357 = .ok (.aload_n 0, 1) := by decide +kernel
theorem dL_law_358 : decode cL_law 358 = .ok (.iload_n 3, 1) := by decide +kernel
theorem dL_law_359 : decode cL_law 359 = .ok (.iconst 1, 1) := by decide +kernel
theorem dL_law_360 : decode cL_law 360 = .ok (.iadd, 1) := by decide +kernel
theorem dL_law_361 : decode cL_law 361 = .ok (.iaload, 1) := by decide +kernel
theorem dL_law_362 : decode cL_law 362 = .ok (.aload_n 0, 1) := by decide +kernel
theorem dL_law_363 : decode cL_law 363 = .ok (.iload_n 3, 1) := by decide +kernel
theorem dL_law_364 : decode cL_law 364 = .ok (.iconst 2, 1) := by decide +kernel
theorem dL_law_365 : decode cL_law 365 = .ok (.iadd, 1) := by decide +kernel
theorem dL_law_366 : decode cL_law 366 = .ok (.iaload, 1) := by decide +kernel
theorem dL_law_367 : decode cL_law 367 = .ok (.invokevirtual 35, 3) := by decide +kernel
theorem w_1368 : (Cond.methodLink "GooseBorderLaw" (35 : Nat) ({ cls := "GooseBorderModel", name := "border", desc := "(II)I" } : MethodName)) ∈ gb_wA := gb_t6 168 rfl rfl
theorem w_1369 : (Cond.instanceMethod ({ cls := "GooseBorderModel", name := "border", desc := "(II)I" } : MethodName)) ∈ gb_wA := gb_t6 169 rfl rfl
theorem w_1370 : (Cond.selects "GooseBorderModel" ({ cls := "GooseBorderModel", name := "border", desc := "(II)I" } : MethodName) ({ cls := "GooseBorderModel", name := "border", desc := "(II)I" } : MethodName)) ∈ gb_wA := gb_t6 170 rfl rfl
theorem w_1371 : (Cond.code ({ cls := "GooseBorderModel", name := "border", desc := "(II)I" } : MethodName) prog_14_method_39_code (4 : Nat) (Option.some FieldType.int)) ∈ gb_wA := gb_t6 171 rfl rfl
theorem dL_law_370 : decode cL_law 370 = .ok (.if_icmp .eq 1521, 3) := by decide +kernel
set_option maxHeartbeats 4000000 in
set_option maxRecDepth 100000 in
theorem law_c4 {p : Program} {l : Launch} {e : Env} {s : State} {m : MethodId} {below : List Frame} {meth : Method} {c : Code} {b z : Nat} {xs : Nat → Int32} (C0 : lw_At p s m meth c b 6 xs) (hzz : Array.size s.heap = z) {D : va_G} {cT : Nat → ClassId} {tt : Nat → Nat} (hSt : gb_St D cT tt z s) {H : Heap} {locs : List Loc} {ls : Array Slot} (hPc : va_P D vwCl (gb_wl z (gb_C cT z)) H) (hPm : va_P D vwCl (gb_wl (z + 135) (gb_M cT (z + 135))) H) (hS : va_S (gb_ge z) s.heap H locs) (hl : lv_has ls 4 [(3, .int 0), (2, .ref (z + 135 + 0)), (1, .ref (z + 0)), (0, .ref b)]) : W p l e room_1 s m #[Value.ref b] below meth c H locs 157 10381 (lw_Z below #[Value.ref b] s) (F0 m 342 ls []) := by
  have C1 := C0
  obtain ⟨hx, hb, hr, hml, hown, hts, hX, hbl, hlocks, hgv⟩ := C0
  have hq : ∀ w ∈ gb_wA, w.before #[Value.ref b] s = true := fun w h => hts w (gb_wA_tbl w h)
  have hbA : ¬ gb_ge z b := Nat.not_le.mpr (by rw [← hzz]; exact hbl)
  refine lv_aload_n hx hb dL_law_342 rfl (lv_at hl 2 rfl) ?_
  refine lv_aload_n hx hb dL_law_343 rfl (lv_at hl 3 rfl) ?_
  refine lv_iload_n hx hb dL_law_344 rfl (lv_at hl 0 rfl) ?_
  refine lv_iconst (v := 1) hx hb dL_law_345 (by decide) ?_
  refine lv_iadd hx hb dL_law_346 ?_
  refine W.eq (g2 := F0 m 347 ls [.int 1, .ref b, .ref (z + 0)]) (congrArg (fun v => F0 m 347 ls (Value.int v :: [.ref b, .ref (z + 0)])) (show (0 : Int32) + 1 = 1 by decide)) ?_
  refine va_sld hx hb hX hbl hbA hS (gb_in rfl) dL_law_347 ?_
  refine lv_aload_n hx hb dL_law_348 rfl (lv_at hl 3 rfl) ?_
  refine lv_iload_n hx hb dL_law_349 rfl (lv_at hl 0 rfl) ?_
  refine lv_iconst (v := 2) hx hb dL_law_350 (by decide) ?_
  refine lv_iadd hx hb dL_law_351 ?_
  refine W.eq (g2 := F0 m 352 ls [.int 2, .ref b, .int (xs (Int32.toNatClampNeg 1)), .ref (z + 0)]) (congrArg (fun v => F0 m 352 ls (Value.int v :: [.ref b, .int (xs (Int32.toNatClampNeg 1)), .ref (z + 0)])) (show (0 : Int32) + 2 = 2 by decide)) ?_
  refine va_sld hx hb hX hbl hbA hS (gb_in rfl) dL_law_352 ?_
  refine gb_calli (va_runV (C := RX11) (As := [.int (xs (Int32.toNatClampNeg 1)), .int (xs (Int32.toNatClampNeg 2))]) (rest := []) ⟨hx, hb, hml, hown, hq⟩ (a_X11_border l D cT tt z z (Nat.le_refl z) (xs (Int32.toNatClampNeg 1)) (xs (Int32.toNatClampNeg 2))) (cwV 2 hq (gb_gV w_589 w_590 w_591 w_1 w_592) rfl rfl rfl (by decide +kernel) ⟨Nat.le_of_ble_eq_true rfl, Nat.le_of_ble_eq_true rfl⟩) (gb_preV (r := (RX11, TX11, 10)) (ci := 9) (q0 := 0) hSt hPc rfl (gb_at z rfl) hS (fun q h => h) hPc) rfl rfl hl.1 rfl (lv_room (Nat.le_of_ble_eq_true rfl)) dL_law_353 ⟨Nat.le_of_ble_eq_true rfl, Nat.le_of_ble_eq_true rfl⟩) hS (fun q h => h.1) (fun q h => h.1) (fun r H locs hY hk hS => ?_)
  subst hY
  have hPm := gb_kept hPm (fun q h1 h2 => hk q (Nat.lt_of_lt_of_le h2 ((hPm 21 _ (gb_at (z + 135) rfl)).lt)) (fun h3 => Nat.not_lt.mpr h1 h3.2))
  refine lv_aload_n hx hb dL_law_356 rfl (lv_at hl 1 rfl) ?_
  refine lv_aload_n hx hb dL_law_357 rfl (lv_at hl 3 rfl) ?_
  refine lv_iload_n hx hb dL_law_358 rfl (lv_at hl 0 rfl) ?_
  refine lv_iconst (v := 1) hx hb dL_law_359 (by decide) ?_
  refine lv_iadd hx hb dL_law_360 ?_
  refine W.eq (g2 := F0 m 361 ls [.int 1, .ref b, .ref (z + 135 + 0), .int (-2)]) (congrArg (fun v => F0 m 361 ls (Value.int v :: [.ref b, .ref (z + 135 + 0), .int (-2)])) (show (0 : Int32) + 1 = 1 by decide)) ?_
  refine va_sld hx hb hX hbl hbA hS (gb_in rfl) dL_law_361 ?_
  refine lv_aload_n hx hb dL_law_362 rfl (lv_at hl 3 rfl) ?_
  refine lv_iload_n hx hb dL_law_363 rfl (lv_at hl 0 rfl) ?_
  refine lv_iconst (v := 2) hx hb dL_law_364 (by decide) ?_
  refine lv_iadd hx hb dL_law_365 ?_
  refine W.eq (g2 := F0 m 366 ls [.int 2, .ref b, .int (xs (Int32.toNatClampNeg 1)), .ref (z + 135 + 0), .int (-2)]) (congrArg (fun v => F0 m 366 ls (Value.int v :: [.ref b, .int (xs (Int32.toNatClampNeg 1)), .ref (z + 135 + 0), .int (-2)])) (show (0 : Int32) + 2 = 2 by decide)) ?_
  refine va_sld hx hb hX hbl hbA hS (gb_in rfl) dL_law_366 ?_
  refine gb_calli (va_runV (C := RX12) (As := [.int (xs (Int32.toNatClampNeg 1)), .int (xs (Int32.toNatClampNeg 2))]) (rest := [.int (-2)]) ⟨hx, hb, hml, hown, hq⟩ (a_X12_border l D cT tt z (z + 135) (Nat.le_add_right z 135) (xs (Int32.toNatClampNeg 1)) (xs (Int32.toNatClampNeg 2))) (cwV 2 hq (gb_gV w_1368 w_1369 w_1370 w_14 w_1371) rfl rfl rfl (by decide +kernel) ⟨Nat.le_of_ble_eq_true rfl, Nat.le_of_ble_eq_true rfl⟩) (gb_preV (r := (RX12, TX12, 44)) (ci := 10) (q0 := 0) hSt hPm rfl (gb_at (z + 135) rfl) hS (fun q h => h) hPm) rfl rfl hl.1 rfl (lv_room (Nat.le_of_ble_eq_true rfl)) dL_law_367 ⟨Nat.le_of_ble_eq_true rfl, Nat.le_of_ble_eq_true rfl⟩) hS (fun q h => Nat.le_trans (Nat.le_add_right z 135) h.1) (fun q h => Nat.le_trans (Nat.le_add_right z 135) h.1) (fun r H locs hY hk hS => ?_)
  subst hY
  refine lv_icmp_eq (tgt := 1891) hx hb dL_law_370 (by decide) (fun _ => ?_) (fun hc => absurd rfl hc)
  exact law_end C1 hzz hS (lv_sub hl [0, 3] rfl)
theorem dL_law_375 : decode cL_law 375 = .ok (.aload_n 1, 1) := by decide +kernel
theorem dL_law_376 : decode cL_law 376 = .ok (.aload_n 0, 1) := by decide +kernel
theorem dL_law_377 : decode cL_law 377 = .ok (.iload_n 3, 1) := by decide +kernel
theorem dL_law_378 : decode cL_law 378 = .ok (.iconst 1, 1) := by decide +kernel
theorem dL_law_379 : decode cL_law 379 = .ok (.iadd, 1) := by decide +kernel
theorem dL_law_380 : decode cL_law 380 = .ok (.iaload, 1) := by decide +kernel
theorem dL_law_381 : decode cL_law 381 = .ok (.aload_n 0, 1) := by decide +kernel
theorem dL_law_382 : decode cL_law 382 = .ok (.iload_n 3, 1) := by decide +kernel
theorem dL_law_383 : decode cL_law 383 = .ok (.iconst 2, 1) := by decide +kernel
theorem dL_law_384 : decode cL_law 384 = .ok (.iadd, 1) := by decide +kernel
theorem dL_law_385 : decode cL_law 385 = .ok (.iaload, 1) := by decide +kernel
theorem dL_law_386 : decode cL_law 386 = .ok (.aload_n 0, 1) := by decide +kernel
theorem dL_law_387 : decode cL_law 387 = .ok (.iload_n 3, 1) := by decide +kernel
theorem dL_law_388 : decode cL_law 388 = .ok (.iconst 3, 1) := by decide +kernel
theorem dL_law_389 : decode cL_law 389 = .ok (.iadd, 1) := by decide +kernel
theorem dL_law_390 : decode cL_law 390 = .ok (.iaload, 1) := by decide +kernel
theorem dL_law_391 : decode cL_law 391 = .ok (.aload_n 0, 1) := by decide +kernel
theorem dL_law_392 : decode cL_law 392 = .ok (.iload_n 3, 1) := by decide +kernel
theorem dL_law_393 : decode cL_law 393 = .ok (.iconst 4, 1) := by decide +kernel
theorem dL_law_394 : decode cL_law 394 = .ok (.iadd, 1) := by decide +kernel
theorem dL_law_395 : decode cL_law 395 = .ok (.iaload, 1) := by decide +kernel
theorem dL_law_396 : decode cL_law 396 = .ok (.ifCond .eq 7, 3) := by decide +kernel
theorem dL_law_403 : decode cL_law 403 = .ok (.iconst 0, 1) := by decide +kernel
theorem dL_law_404 : decode cL_law 404 = .ok (.invokevirtual 36, 3) := by decide +kernel
theorem w_615 : (Cond.methodLink "GooseBorderLaw" (36 : Nat) ({ cls := "GooseBorder", name := "marks", desc := "(IIIZ)I" } : MethodName)) ∈ gb_wA := gb_t3 135 rfl rfl
theorem w_616 : (Cond.instanceMethod ({ cls := "GooseBorder", name := "marks", desc := "(IIIZ)I" } : MethodName)) ∈ gb_wA := gb_t3 136 rfl rfl
theorem w_617 : (Cond.selects "GooseBorder" ({ cls := "GooseBorder", name := "marks", desc := "(IIIZ)I" } : MethodName) ({ cls := "GooseBorder", name := "marks", desc := "(IIIZ)I" } : MethodName)) ∈ gb_wA := gb_t3 137 rfl rfl
theorem w_618 : (Cond.code ({ cls := "GooseBorder", name := "marks", desc := "(IIIZ)I" } : MethodName) prog_1_method_10_code (6 : Nat) (Option.some FieldType.int)) ∈ gb_wA := gb_t3 138 rfl rfl
theorem dL_law_407 : decode cL_law 407 = .ok (.aload_n 2, 1) := by decide +kernel
theorem dL_law_408 : decode cL_law 408 = .ok (.aload_n 0, 1) := by decide +kernel
theorem dL_law_409 : decode cL_law 409 = .ok (.iload_n 3, 1) := by decide +kernel
theorem dL_law_410 : decode cL_law 410 = .ok (.iconst 1, 1) := by decide +kernel
theorem dL_law_411 : decode cL_law 411 = .ok (.iadd, 1) := by decide +kernel
theorem dL_law_412 : decode cL_law 412 = .ok (.iaload, 1) := by decide +kernel
theorem dL_law_413 : decode cL_law 413 = .ok (.aload_n 0, 1) := by decide +kernel
theorem dL_law_414 : decode cL_law 414 = .ok (.iload_n 3, 1) := by decide +kernel
theorem dL_law_415 : decode cL_law 415 = .ok (.iconst 2, 1) := by decide +kernel
theorem dL_law_416 : decode cL_law 416 = .ok (.iadd, 1) := by decide +kernel
theorem dL_law_417 : decode cL_law 417 = .ok (.iaload, 1) := by decide +kernel
theorem dL_law_418 : decode cL_law 418 = .ok (.aload_n 0, 1) := by decide +kernel
theorem dL_law_419 : decode cL_law 419 = .ok (.iload_n 3, 1) := by decide +kernel
theorem dL_law_420 : decode cL_law 420 = .ok (.iconst 3, 1) := by decide +kernel
theorem dL_law_421 : decode cL_law 421 = .ok (.iadd, 1) := by decide +kernel
theorem dL_law_422 : decode cL_law 422 = .ok (.iaload, 1) := by decide +kernel
theorem dL_law_423 : decode cL_law 423 = .ok (.aload_n 0, 1) := by decide +kernel
theorem dL_law_424 : decode cL_law 424 = .ok (.iload_n 3, 1) := by decide +kernel
theorem dL_law_425 : decode cL_law 425 = .ok (.iconst 4, 1) := by decide +kernel
theorem dL_law_426 : decode cL_law 426 = .ok (.iadd, 1) := by decide +kernel
theorem dL_law_427 : decode cL_law 427 = .ok (.iaload, 1) := by decide +kernel
theorem dL_law_428 : decode cL_law 428 = .ok (.ifCond .eq 7, 3) := by decide +kernel
theorem dL_law_435 : decode cL_law 435 = .ok (.iconst 0, 1) := by decide +kernel
theorem dL_law_436 : decode cL_law 436 = .ok (.invokevirtual 40, 3) := by decide +kernel
theorem w_1404 : (Cond.methodLink "GooseBorderLaw" (40 : Nat) ({ cls := "GooseBorderModel", name := "marks", desc := "(IIIZ)I" } : MethodName)) ∈ gb_wA := gb_t6 204 rfl rfl
theorem w_1405 : (Cond.instanceMethod ({ cls := "GooseBorderModel", name := "marks", desc := "(IIIZ)I" } : MethodName)) ∈ gb_wA := gb_t6 205 rfl rfl
theorem w_1406 : (Cond.selects "GooseBorderModel" ({ cls := "GooseBorderModel", name := "marks", desc := "(IIIZ)I" } : MethodName) ({ cls := "GooseBorderModel", name := "marks", desc := "(IIIZ)I" } : MethodName)) ∈ gb_wA := gb_t6 206 rfl rfl
theorem w_1407 : (Cond.code ({ cls := "GooseBorderModel", name := "marks", desc := "(IIIZ)I" } : MethodName) prog_14_method_42_code (5 : Nat) (Option.some FieldType.int)) ∈ gb_wA := gb_t6 207 rfl rfl
theorem dL_law_439 : decode cL_law 439 = .ok (.if_icmp .eq 1452, 3) := by decide +kernel
theorem dL_law_431 : decode cL_law 431 = .ok (.iconst 1, 1) := by decide +kernel
theorem dL_law_432 : decode cL_law 432 = .ok (.goto 4, 3) := by decide +kernel
theorem dL_law_399 : decode cL_law 399 = .ok (.iconst 1, 1) := by decide +kernel
theorem dL_law_400 : decode cL_law 400 = .ok (.goto 4, 3) := by decide +kernel
set_option maxHeartbeats 4000000 in
set_option maxRecDepth 100000 in
theorem law_c5 {p : Program} {l : Launch} {e : Env} {s : State} {m : MethodId} {below : List Frame} {meth : Method} {c : Code} {b z : Nat} {xs : Nat → Int32} (C0 : lw_At p s m meth c b 6 xs) (hzz : Array.size s.heap = z) {D : va_G} {cT : Nat → ClassId} {tt : Nat → Nat} (hSt : gb_St D cT tt z s) {H : Heap} {locs : List Loc} {ls : Array Slot} (hPc : va_P D vwCl (gb_wl z (gb_C cT z)) H) (hPm : va_P D vwCl (gb_wl (z + 135) (gb_M cT (z + 135))) H) (hS : va_S (gb_ge z) s.heap H locs) (hl : lv_has ls 4 [(3, .int 0), (2, .ref (z + 135 + 0)), (1, .ref (z + 0)), (0, .ref b)]) : W p l e room_1 s m #[Value.ref b] below meth c H locs 157 10381 (lw_Z below #[Value.ref b] s) (F0 m 375 ls []) := by
  have C1 := C0
  obtain ⟨hx, hb, hr, hml, hown, hts, hX, hbl, hlocks, hgv⟩ := C0
  have hq : ∀ w ∈ gb_wA, w.before #[Value.ref b] s = true := fun w h => hts w (gb_wA_tbl w h)
  have hbA : ¬ gb_ge z b := Nat.not_le.mpr (by rw [← hzz]; exact hbl)
  refine lv_aload_n hx hb dL_law_375 rfl (lv_at hl 2 rfl) ?_
  refine lv_aload_n hx hb dL_law_376 rfl (lv_at hl 3 rfl) ?_
  refine lv_iload_n hx hb dL_law_377 rfl (lv_at hl 0 rfl) ?_
  refine lv_iconst (v := 1) hx hb dL_law_378 (by decide) ?_
  refine lv_iadd hx hb dL_law_379 ?_
  refine W.eq (g2 := F0 m 380 ls [.int 1, .ref b, .ref (z + 0)]) (congrArg (fun v => F0 m 380 ls (Value.int v :: [.ref b, .ref (z + 0)])) (show (0 : Int32) + 1 = 1 by decide)) ?_
  refine va_sld hx hb hX hbl hbA hS (gb_in rfl) dL_law_380 ?_
  refine lv_aload_n hx hb dL_law_381 rfl (lv_at hl 3 rfl) ?_
  refine lv_iload_n hx hb dL_law_382 rfl (lv_at hl 0 rfl) ?_
  refine lv_iconst (v := 2) hx hb dL_law_383 (by decide) ?_
  refine lv_iadd hx hb dL_law_384 ?_
  refine W.eq (g2 := F0 m 385 ls [.int 2, .ref b, .int (xs (Int32.toNatClampNeg 1)), .ref (z + 0)]) (congrArg (fun v => F0 m 385 ls (Value.int v :: [.ref b, .int (xs (Int32.toNatClampNeg 1)), .ref (z + 0)])) (show (0 : Int32) + 2 = 2 by decide)) ?_
  refine va_sld hx hb hX hbl hbA hS (gb_in rfl) dL_law_385 ?_
  refine lv_aload_n hx hb dL_law_386 rfl (lv_at hl 3 rfl) ?_
  refine lv_iload_n hx hb dL_law_387 rfl (lv_at hl 0 rfl) ?_
  refine lv_iconst (v := 3) hx hb dL_law_388 (by decide) ?_
  refine lv_iadd hx hb dL_law_389 ?_
  refine W.eq (g2 := F0 m 390 ls [.int 3, .ref b, .int (xs (Int32.toNatClampNeg 2)), .int (xs (Int32.toNatClampNeg 1)), .ref (z + 0)]) (congrArg (fun v => F0 m 390 ls (Value.int v :: [.ref b, .int (xs (Int32.toNatClampNeg 2)), .int (xs (Int32.toNatClampNeg 1)), .ref (z + 0)])) (show (0 : Int32) + 3 = 3 by decide)) ?_
  refine va_sld hx hb hX hbl hbA hS (gb_in rfl) dL_law_390 ?_
  refine lv_aload_n hx hb dL_law_391 rfl (lv_at hl 3 rfl) ?_
  refine lv_iload_n hx hb dL_law_392 rfl (lv_at hl 0 rfl) ?_
  refine lv_iconst (v := 4) hx hb dL_law_393 (by decide) ?_
  refine lv_iadd hx hb dL_law_394 ?_
  refine W.eq (g2 := F0 m 395 ls [.int 4, .ref b, .int (xs (Int32.toNatClampNeg 3)), .int (xs (Int32.toNatClampNeg 2)), .int (xs (Int32.toNatClampNeg 1)), .ref (z + 0)]) (congrArg (fun v => F0 m 395 ls (Value.int v :: [.ref b, .int (xs (Int32.toNatClampNeg 3)), .int (xs (Int32.toNatClampNeg 2)), .int (xs (Int32.toNatClampNeg 1)), .ref (z + 0)])) (show (0 : Int32) + 4 = 4 by decide)) ?_
  refine va_sld hx hb hX hbl hbA hS (gb_in rfl) dL_law_395 ?_
  refine lv_if_eq (tgt := 403) hx hb dL_law_396 (by decide) (fun _ => ?_) (fun _ => ?_)
  · refine lv_iconst (v := 0) hx hb dL_law_403 (by decide) ?_
    refine gb_calli (va_runV (C := RX11) (As := [.int (xs (Int32.toNatClampNeg 1)), .int (xs (Int32.toNatClampNeg 2)), .int (xs (Int32.toNatClampNeg 3)), .int 0]) (rest := []) ⟨hx, hb, hml, hown, hq⟩ (a_X11_marks l D cT tt z z (Nat.le_refl z) (xs (Int32.toNatClampNeg 1)) (xs (Int32.toNatClampNeg 2)) (xs (Int32.toNatClampNeg 3)) 0) (cwV 4 hq (gb_gV w_615 w_616 w_617 w_1 w_618) rfl rfl rfl (by decide +kernel) ⟨Nat.le_of_ble_eq_true rfl, Nat.le_of_ble_eq_true rfl⟩) (gb_preV (r := (RX11, TX11, 10)) (ci := 9) (q0 := 0) hSt hPc rfl (gb_at z rfl) hS (fun q h => h) hPc) rfl rfl hl.1 rfl (lv_room (Nat.le_of_ble_eq_true rfl)) dL_law_404 ⟨Nat.le_of_ble_eq_true rfl, Nat.le_of_ble_eq_true rfl⟩) hS (fun q h => h.1) (fun q h => h.1) (fun r H locs hY hk hS => ?_)
    subst hY
    have hPm := gb_kept hPm (fun q h1 h2 => hk q (Nat.lt_of_lt_of_le h2 ((hPm 21 _ (gb_at (z + 135) rfl)).lt)) (fun h3 => Nat.not_lt.mpr h1 h3.2))
    refine lv_aload_n hx hb dL_law_407 rfl (lv_at hl 1 rfl) ?_
    refine lv_aload_n hx hb dL_law_408 rfl (lv_at hl 3 rfl) ?_
    refine lv_iload_n hx hb dL_law_409 rfl (lv_at hl 0 rfl) ?_
    refine lv_iconst (v := 1) hx hb dL_law_410 (by decide) ?_
    refine lv_iadd hx hb dL_law_411 ?_
    refine W.eq (g2 := F0 m 412 ls [.int 1, .ref b, .ref (z + 135 + 0), .int (-1)]) (congrArg (fun v => F0 m 412 ls (Value.int v :: [.ref b, .ref (z + 135 + 0), .int (-1)])) (show (0 : Int32) + 1 = 1 by decide)) ?_
    refine va_sld hx hb hX hbl hbA hS (gb_in rfl) dL_law_412 ?_
    refine lv_aload_n hx hb dL_law_413 rfl (lv_at hl 3 rfl) ?_
    refine lv_iload_n hx hb dL_law_414 rfl (lv_at hl 0 rfl) ?_
    refine lv_iconst (v := 2) hx hb dL_law_415 (by decide) ?_
    refine lv_iadd hx hb dL_law_416 ?_
    refine W.eq (g2 := F0 m 417 ls [.int 2, .ref b, .int (xs (Int32.toNatClampNeg 1)), .ref (z + 135 + 0), .int (-1)]) (congrArg (fun v => F0 m 417 ls (Value.int v :: [.ref b, .int (xs (Int32.toNatClampNeg 1)), .ref (z + 135 + 0), .int (-1)])) (show (0 : Int32) + 2 = 2 by decide)) ?_
    refine va_sld hx hb hX hbl hbA hS (gb_in rfl) dL_law_417 ?_
    refine lv_aload_n hx hb dL_law_418 rfl (lv_at hl 3 rfl) ?_
    refine lv_iload_n hx hb dL_law_419 rfl (lv_at hl 0 rfl) ?_
    refine lv_iconst (v := 3) hx hb dL_law_420 (by decide) ?_
    refine lv_iadd hx hb dL_law_421 ?_
    refine W.eq (g2 := F0 m 422 ls [.int 3, .ref b, .int (xs (Int32.toNatClampNeg 2)), .int (xs (Int32.toNatClampNeg 1)), .ref (z + 135 + 0), .int (-1)]) (congrArg (fun v => F0 m 422 ls (Value.int v :: [.ref b, .int (xs (Int32.toNatClampNeg 2)), .int (xs (Int32.toNatClampNeg 1)), .ref (z + 135 + 0), .int (-1)])) (show (0 : Int32) + 3 = 3 by decide)) ?_
    refine va_sld hx hb hX hbl hbA hS (gb_in rfl) dL_law_422 ?_
    refine lv_aload_n hx hb dL_law_423 rfl (lv_at hl 3 rfl) ?_
    refine lv_iload_n hx hb dL_law_424 rfl (lv_at hl 0 rfl) ?_
    refine lv_iconst (v := 4) hx hb dL_law_425 (by decide) ?_
    refine lv_iadd hx hb dL_law_426 ?_
    refine W.eq (g2 := F0 m 427 ls [.int 4, .ref b, .int (xs (Int32.toNatClampNeg 3)), .int (xs (Int32.toNatClampNeg 2)), .int (xs (Int32.toNatClampNeg 1)), .ref (z + 135 + 0), .int (-1)]) (congrArg (fun v => F0 m 427 ls (Value.int v :: [.ref b, .int (xs (Int32.toNatClampNeg 3)), .int (xs (Int32.toNatClampNeg 2)), .int (xs (Int32.toNatClampNeg 1)), .ref (z + 135 + 0), .int (-1)])) (show (0 : Int32) + 4 = 4 by decide)) ?_
    refine va_sld hx hb hX hbl hbA hS (gb_in rfl) dL_law_427 ?_
    refine lv_if_eq (tgt := 435) hx hb dL_law_428 (by decide) (fun _ => ?_) (fun _ => ?_)
    · refine lv_iconst (v := 0) hx hb dL_law_435 (by decide) ?_
      refine gb_calli (va_runV (C := RX12) (As := [.int (xs (Int32.toNatClampNeg 1)), .int (xs (Int32.toNatClampNeg 2)), .int (xs (Int32.toNatClampNeg 3)), .int 0]) (rest := [.int (-1)]) ⟨hx, hb, hml, hown, hq⟩ (a_X12_marks l D cT tt z (z + 135) (Nat.le_add_right z 135) (xs (Int32.toNatClampNeg 1)) (xs (Int32.toNatClampNeg 2)) (xs (Int32.toNatClampNeg 3)) 0) (cwV 4 hq (gb_gV w_1404 w_1405 w_1406 w_14 w_1407) rfl rfl rfl (by decide +kernel) ⟨Nat.le_of_ble_eq_true rfl, Nat.le_of_ble_eq_true rfl⟩) (gb_preV (r := (RX12, TX12, 44)) (ci := 10) (q0 := 0) hSt hPm rfl (gb_at (z + 135) rfl) hS (fun q h => h) hPm) rfl rfl hl.1 rfl (lv_room (Nat.le_of_ble_eq_true rfl)) dL_law_436 ⟨Nat.le_of_ble_eq_true rfl, Nat.le_of_ble_eq_true rfl⟩) hS (fun q h => Nat.le_trans (Nat.le_add_right z 135) h.1) (fun q h => Nat.le_trans (Nat.le_add_right z 135) h.1) (fun r H locs hY hk hS => ?_)
      subst hY
      refine lv_icmp_eq (tgt := 1891) hx hb dL_law_439 (by decide) (fun _ => ?_) (fun hc => absurd rfl hc)
      exact law_end C1 hzz hS (lv_sub hl [0, 3] rfl)
    · refine lv_iconst (v := 1) hx hb dL_law_431 (by decide) ?_
      refine lv_goto (tgt := 436) hx hb dL_law_432 (by decide) ?_
      refine gb_calli (va_runV (C := RX12) (As := [.int (xs (Int32.toNatClampNeg 1)), .int (xs (Int32.toNatClampNeg 2)), .int (xs (Int32.toNatClampNeg 3)), .int 1]) (rest := [.int (-1)]) ⟨hx, hb, hml, hown, hq⟩ (a_X12_marks l D cT tt z (z + 135) (Nat.le_add_right z 135) (xs (Int32.toNatClampNeg 1)) (xs (Int32.toNatClampNeg 2)) (xs (Int32.toNatClampNeg 3)) 1) (cwV 4 hq (gb_gV w_1404 w_1405 w_1406 w_14 w_1407) rfl rfl rfl (by decide +kernel) ⟨Nat.le_of_ble_eq_true rfl, Nat.le_of_ble_eq_true rfl⟩) (gb_preV (r := (RX12, TX12, 44)) (ci := 10) (q0 := 0) hSt hPm rfl (gb_at (z + 135) rfl) hS (fun q h => h) hPm) rfl rfl hl.1 rfl (lv_room (Nat.le_of_ble_eq_true rfl)) dL_law_436 ⟨Nat.le_of_ble_eq_true rfl, Nat.le_of_ble_eq_true rfl⟩) hS (fun q h => Nat.le_trans (Nat.le_add_right z 135) h.1) (fun q h => Nat.le_trans (Nat.le_add_right z 135) h.1) (fun r H locs hY hk hS => ?_)
      subst hY
      refine lv_icmp_eq (tgt := 1891) hx hb dL_law_439 (by decide) (fun _ => ?_) (fun hc => absurd rfl hc)
      exact law_end C1 hzz hS (lv_sub hl [0, 3] rfl)
  · refine lv_iconst (v := 1) hx hb dL_law_399 (by decide) ?_
    refine lv_goto (tgt := 404) hx hb dL_law_400 (by decide) ?_
    refine gb_calli (va_runV (C := RX11) (As := [.int (xs (Int32.toNatClampNeg 1)), .int (xs (Int32.toNatClampNeg 2)), .int (xs (Int32.toNatClampNeg 3)), .int 1]) (rest := []) ⟨hx, hb, hml, hown, hq⟩ (a_X11_marks l D cT tt z z (Nat.le_refl z) (xs (Int32.toNatClampNeg 1)) (xs (Int32.toNatClampNeg 2)) (xs (Int32.toNatClampNeg 3)) 1) (cwV 4 hq (gb_gV w_615 w_616 w_617 w_1 w_618) rfl rfl rfl (by decide +kernel) ⟨Nat.le_of_ble_eq_true rfl, Nat.le_of_ble_eq_true rfl⟩) (gb_preV (r := (RX11, TX11, 10)) (ci := 9) (q0 := 0) hSt hPc rfl (gb_at z rfl) hS (fun q h => h) hPc) rfl rfl hl.1 rfl (lv_room (Nat.le_of_ble_eq_true rfl)) dL_law_404 ⟨Nat.le_of_ble_eq_true rfl, Nat.le_of_ble_eq_true rfl⟩) hS (fun q h => h.1) (fun q h => h.1) (fun r H locs hY hk hS => ?_)
    subst hY
    have hPm := gb_kept hPm (fun q h1 h2 => hk q (Nat.lt_of_lt_of_le h2 ((hPm 21 _ (gb_at (z + 135) rfl)).lt)) (fun h3 => Nat.not_lt.mpr h1 h3.2))
    refine lv_aload_n hx hb dL_law_407 rfl (lv_at hl 1 rfl) ?_
    refine lv_aload_n hx hb dL_law_408 rfl (lv_at hl 3 rfl) ?_
    refine lv_iload_n hx hb dL_law_409 rfl (lv_at hl 0 rfl) ?_
    refine lv_iconst (v := 1) hx hb dL_law_410 (by decide) ?_
    refine lv_iadd hx hb dL_law_411 ?_
    refine W.eq (g2 := F0 m 412 ls [.int 1, .ref b, .ref (z + 135 + 0), .int (-1)]) (congrArg (fun v => F0 m 412 ls (Value.int v :: [.ref b, .ref (z + 135 + 0), .int (-1)])) (show (0 : Int32) + 1 = 1 by decide)) ?_
    refine va_sld hx hb hX hbl hbA hS (gb_in rfl) dL_law_412 ?_
    refine lv_aload_n hx hb dL_law_413 rfl (lv_at hl 3 rfl) ?_
    refine lv_iload_n hx hb dL_law_414 rfl (lv_at hl 0 rfl) ?_
    refine lv_iconst (v := 2) hx hb dL_law_415 (by decide) ?_
    refine lv_iadd hx hb dL_law_416 ?_
    refine W.eq (g2 := F0 m 417 ls [.int 2, .ref b, .int (xs (Int32.toNatClampNeg 1)), .ref (z + 135 + 0), .int (-1)]) (congrArg (fun v => F0 m 417 ls (Value.int v :: [.ref b, .int (xs (Int32.toNatClampNeg 1)), .ref (z + 135 + 0), .int (-1)])) (show (0 : Int32) + 2 = 2 by decide)) ?_
    refine va_sld hx hb hX hbl hbA hS (gb_in rfl) dL_law_417 ?_
    refine lv_aload_n hx hb dL_law_418 rfl (lv_at hl 3 rfl) ?_
    refine lv_iload_n hx hb dL_law_419 rfl (lv_at hl 0 rfl) ?_
    refine lv_iconst (v := 3) hx hb dL_law_420 (by decide) ?_
    refine lv_iadd hx hb dL_law_421 ?_
    refine W.eq (g2 := F0 m 422 ls [.int 3, .ref b, .int (xs (Int32.toNatClampNeg 2)), .int (xs (Int32.toNatClampNeg 1)), .ref (z + 135 + 0), .int (-1)]) (congrArg (fun v => F0 m 422 ls (Value.int v :: [.ref b, .int (xs (Int32.toNatClampNeg 2)), .int (xs (Int32.toNatClampNeg 1)), .ref (z + 135 + 0), .int (-1)])) (show (0 : Int32) + 3 = 3 by decide)) ?_
    refine va_sld hx hb hX hbl hbA hS (gb_in rfl) dL_law_422 ?_
    refine lv_aload_n hx hb dL_law_423 rfl (lv_at hl 3 rfl) ?_
    refine lv_iload_n hx hb dL_law_424 rfl (lv_at hl 0 rfl) ?_
    refine lv_iconst (v := 4) hx hb dL_law_425 (by decide) ?_
    refine lv_iadd hx hb dL_law_426 ?_
    refine W.eq (g2 := F0 m 427 ls [.int 4, .ref b, .int (xs (Int32.toNatClampNeg 3)), .int (xs (Int32.toNatClampNeg 2)), .int (xs (Int32.toNatClampNeg 1)), .ref (z + 135 + 0), .int (-1)]) (congrArg (fun v => F0 m 427 ls (Value.int v :: [.ref b, .int (xs (Int32.toNatClampNeg 3)), .int (xs (Int32.toNatClampNeg 2)), .int (xs (Int32.toNatClampNeg 1)), .ref (z + 135 + 0), .int (-1)])) (show (0 : Int32) + 4 = 4 by decide)) ?_
    refine va_sld hx hb hX hbl hbA hS (gb_in rfl) dL_law_427 ?_
    refine lv_if_eq (tgt := 435) hx hb dL_law_428 (by decide) (fun _ => ?_) (fun _ => ?_)
    · refine lv_iconst (v := 0) hx hb dL_law_435 (by decide) ?_
      refine gb_calli (va_runV (C := RX12) (As := [.int (xs (Int32.toNatClampNeg 1)), .int (xs (Int32.toNatClampNeg 2)), .int (xs (Int32.toNatClampNeg 3)), .int 0]) (rest := [.int (-1)]) ⟨hx, hb, hml, hown, hq⟩ (a_X12_marks l D cT tt z (z + 135) (Nat.le_add_right z 135) (xs (Int32.toNatClampNeg 1)) (xs (Int32.toNatClampNeg 2)) (xs (Int32.toNatClampNeg 3)) 0) (cwV 4 hq (gb_gV w_1404 w_1405 w_1406 w_14 w_1407) rfl rfl rfl (by decide +kernel) ⟨Nat.le_of_ble_eq_true rfl, Nat.le_of_ble_eq_true rfl⟩) (gb_preV (r := (RX12, TX12, 44)) (ci := 10) (q0 := 0) hSt hPm rfl (gb_at (z + 135) rfl) hS (fun q h => h) hPm) rfl rfl hl.1 rfl (lv_room (Nat.le_of_ble_eq_true rfl)) dL_law_436 ⟨Nat.le_of_ble_eq_true rfl, Nat.le_of_ble_eq_true rfl⟩) hS (fun q h => Nat.le_trans (Nat.le_add_right z 135) h.1) (fun q h => Nat.le_trans (Nat.le_add_right z 135) h.1) (fun r H locs hY hk hS => ?_)
      subst hY
      refine lv_icmp_eq (tgt := 1891) hx hb dL_law_439 (by decide) (fun _ => ?_) (fun hc => absurd rfl hc)
      exact law_end C1 hzz hS (lv_sub hl [0, 3] rfl)
    · refine lv_iconst (v := 1) hx hb dL_law_431 (by decide) ?_
      refine lv_goto (tgt := 436) hx hb dL_law_432 (by decide) ?_
      refine gb_calli (va_runV (C := RX12) (As := [.int (xs (Int32.toNatClampNeg 1)), .int (xs (Int32.toNatClampNeg 2)), .int (xs (Int32.toNatClampNeg 3)), .int 1]) (rest := [.int (-1)]) ⟨hx, hb, hml, hown, hq⟩ (a_X12_marks l D cT tt z (z + 135) (Nat.le_add_right z 135) (xs (Int32.toNatClampNeg 1)) (xs (Int32.toNatClampNeg 2)) (xs (Int32.toNatClampNeg 3)) 1) (cwV 4 hq (gb_gV w_1404 w_1405 w_1406 w_14 w_1407) rfl rfl rfl (by decide +kernel) ⟨Nat.le_of_ble_eq_true rfl, Nat.le_of_ble_eq_true rfl⟩) (gb_preV (r := (RX12, TX12, 44)) (ci := 10) (q0 := 0) hSt hPm rfl (gb_at (z + 135) rfl) hS (fun q h => h) hPm) rfl rfl hl.1 rfl (lv_room (Nat.le_of_ble_eq_true rfl)) dL_law_436 ⟨Nat.le_of_ble_eq_true rfl, Nat.le_of_ble_eq_true rfl⟩) hS (fun q h => Nat.le_trans (Nat.le_add_right z 135) h.1) (fun q h => Nat.le_trans (Nat.le_add_right z 135) h.1) (fun r H locs hY hk hS => ?_)
      subst hY
      refine lv_icmp_eq (tgt := 1891) hx hb dL_law_439 (by decide) (fun _ => ?_) (fun hc => absurd rfl hc)
      exact law_end C1 hzz hS (lv_sub hl [0, 3] rfl)
