theorem dL_law_444 : decode cL_law 444 = .ok (.aload_n 1, 1) := by decide +kernel
theorem dL_law_445 : decode cL_law 445 = .ok (.aload_n 0, 1) := by decide +kernel
theorem dL_law_446 : decode cL_law 446 = .ok (.iload_n 3, 1) := by decide +kernel
theorem dL_law_447 : decode cL_law 447 = .ok (.iconst 1, 1) := by decide +kernel
theorem dL_law_448 : decode cL_law 448 = .ok (.iadd, 1) := by decide +kernel
theorem dL_law_449 : decode cL_law 449 = .ok (.iaload, 1) := by decide +kernel
theorem dL_law_450 : decode cL_law 450 = .ok (.aload_n 0, 1) := by decide +kernel
theorem dL_law_451 : decode cL_law 451 = .ok (.iload_n 3, 1) := by decide +kernel
theorem dL_law_452 : decode cL_law 452 = .ok (.iconst 2, 1) := by decide +kernel
theorem dL_law_453 : decode cL_law 453 = .ok (.iadd, 1) := by decide +kernel
theorem dL_law_454 : decode cL_law 454 = .ok (.iaload, 1) := by decide +kernel
theorem dL_law_455 : decode cL_law 455 = .ok (.aload_n 0, 1) := by decide +kernel
theorem dL_law_456 : decode cL_law 456 = .ok (.iload_n 3, 1) := by decide +kernel
theorem dL_law_457 : decode cL_law 457 = .ok (.iconst 3, 1) := by decide +kernel
theorem dL_law_458 : decode cL_law 458 = .ok (.iadd, 1) := by decide +kernel
theorem dL_law_459 : decode cL_law 459 = .ok (.iaload, 1) := by decide +kernel
theorem dL_law_460 : decode cL_law 460 = .ok (.invokevirtual 41, 3) := by decide +kernel
theorem w_642 : (Cond.methodLink "GooseBorderLaw" (41 : Nat) ({ cls := "GooseBorder", name := "deed", desc := "(III)I" } : MethodName)) ∈ gb_wA := gb_t3 162 rfl rfl
theorem w_643 : (Cond.instanceMethod ({ cls := "GooseBorder", name := "deed", desc := "(III)I" } : MethodName)) ∈ gb_wA := gb_t3 163 rfl rfl
theorem w_644 : (Cond.selects "GooseBorder" ({ cls := "GooseBorder", name := "deed", desc := "(III)I" } : MethodName) ({ cls := "GooseBorder", name := "deed", desc := "(III)I" } : MethodName)) ∈ gb_wA := gb_t3 164 rfl rfl
theorem w_645 : (Cond.code ({ cls := "GooseBorder", name := "deed", desc := "(III)I" } : MethodName) prog_1_method_11_code (5 : Nat) (Option.some FieldType.int)) ∈ gb_wA := gb_t3 165 rfl rfl
theorem dL_law_463 : decode cL_law 463 = .ok (.aload_n 2, 1) := by decide +kernel
theorem dL_law_464 : decode cL_law 464 = .ok (.aload_n 0, 1) := by decide +kernel
theorem dL_law_465 : decode cL_law 465 = .ok (.iload_n 3, 1) := by decide +kernel
theorem dL_law_466 : decode cL_law 466 = .ok (.iconst 1, 1) := by decide +kernel
theorem dL_law_467 : decode cL_law 467 = .ok (.iadd, 1) := by decide +kernel
theorem dL_law_468 : decode cL_law 468 = .ok (.iaload, 1) := by decide +kernel
theorem dL_law_469 : decode cL_law 469 = .ok (.aload_n 0, 1) := by decide +kernel
theorem dL_law_470 : decode cL_law 470 = .ok (.iload_n 3, 1) := by decide +kernel
theorem dL_law_471 : decode cL_law 471 = .ok (.iconst 2, 1) := by decide +kernel
theorem dL_law_472 : decode cL_law 472 = .ok (.iadd, 1) := by decide +kernel
theorem dL_law_473 : decode cL_law 473 = .ok (.iaload, 1) := by decide +kernel
theorem dL_law_474 : decode cL_law 474 = .ok (.aload_n 0, 1) := by decide +kernel
theorem dL_law_475 : decode cL_law 475 = .ok (.iload_n 3, 1) := by decide +kernel
theorem dL_law_476 : decode cL_law 476 = .ok (.iconst 3, 1) := by decide +kernel
theorem dL_law_477 : decode cL_law 477 = .ok (.iadd, 1) := by decide +kernel
theorem dL_law_478 : decode cL_law 478 = .ok (.iaload, 1) := by decide +kernel
theorem dL_law_479 : decode cL_law 479 = .ok (.invokevirtual 45, 3) := by decide +kernel
theorem w_1412 : (Cond.methodLink "GooseBorderLaw" (45 : Nat) ({ cls := "GooseBorderModel", name := "deed", desc := "(III)I" } : MethodName)) ∈ gb_wA := gb_t6 212 rfl rfl
theorem w_1413 : (Cond.instanceMethod ({ cls := "GooseBorderModel", name := "deed", desc := "(III)I" } : MethodName)) ∈ gb_wA := gb_t6 213 rfl rfl
theorem w_1414 : (Cond.selects "GooseBorderModel" ({ cls := "GooseBorderModel", name := "deed", desc := "(III)I" } : MethodName) ({ cls := "GooseBorderModel", name := "deed", desc := "(III)I" } : MethodName)) ∈ gb_wA := gb_t6 214 rfl rfl
theorem w_1415 : (Cond.code ({ cls := "GooseBorderModel", name := "deed", desc := "(III)I" } : MethodName) prog_14_method_45_code (4 : Nat) (Option.some FieldType.int)) ∈ gb_wA := gb_t6 215 rfl rfl
theorem dL_law_482 : decode cL_law 482 = .ok (.if_icmp .eq 1409, 3) := by decide +kernel
set_option maxHeartbeats 4000000 in
set_option maxRecDepth 100000 in
theorem law_c6 {p : Program} {l : Launch} {e : Env} {s : State} {m : MethodId} {below : List Frame} {meth : Method} {c : Code} {b z : Nat} {xs : Nat → Int32} (C0 : lw_At p s m meth c b 6 xs) (hzz : Array.size s.heap = z) {D : va_G} {cT : Nat → ClassId} {tt : Nat → Nat} (hSt : gb_St D cT tt z s) {H : Heap} {locs : List Loc} {ls : Array Slot} (hPc : va_P D vwCl (gb_wl z (gb_C cT z)) H) (hPm : va_P D vwCl (gb_wl (z + 135) (gb_M cT (z + 135))) H) (hS : va_S (gb_ge z) s.heap H locs) (hl : lv_has ls 4 [(3, .int 0), (2, .ref (z + 135 + 0)), (1, .ref (z + 0)), (0, .ref b)]) : W p l e room_1 s m #[Value.ref b] below meth c H locs 157 10381 (lw_Z below #[Value.ref b] s) (F0 m 444 ls []) := by
  have C1 := C0
  obtain ⟨hx, hb, hr, hml, hown, hts, hX, hbl, hlocks, hgv⟩ := C0
  have hq : ∀ w ∈ gb_wA, w.before #[Value.ref b] s = true := fun w h => hts w (gb_wA_tbl w h)
  have hbA : ¬ gb_ge z b := Nat.not_le.mpr (by rw [← hzz]; exact hbl)
  refine lv_aload_n hx hb dL_law_444 rfl (lv_at hl 2 rfl) ?_
  refine lv_aload_n hx hb dL_law_445 rfl (lv_at hl 3 rfl) ?_
  refine lv_iload_n hx hb dL_law_446 rfl (lv_at hl 0 rfl) ?_
  refine lv_iconst (v := 1) hx hb dL_law_447 (by decide) ?_
  refine lv_iadd hx hb dL_law_448 ?_
  refine W.eq (g2 := F0 m 449 ls [.int 1, .ref b, .ref (z + 0)]) (congrArg (fun v => F0 m 449 ls (Value.int v :: [.ref b, .ref (z + 0)])) (show (0 : Int32) + 1 = 1 by decide)) ?_
  refine va_sld hx hb hX hbl hbA hS (gb_in rfl) dL_law_449 ?_
  refine lv_aload_n hx hb dL_law_450 rfl (lv_at hl 3 rfl) ?_
  refine lv_iload_n hx hb dL_law_451 rfl (lv_at hl 0 rfl) ?_
  refine lv_iconst (v := 2) hx hb dL_law_452 (by decide) ?_
  refine lv_iadd hx hb dL_law_453 ?_
  refine W.eq (g2 := F0 m 454 ls [.int 2, .ref b, .int (xs (Int32.toNatClampNeg 1)), .ref (z + 0)]) (congrArg (fun v => F0 m 454 ls (Value.int v :: [.ref b, .int (xs (Int32.toNatClampNeg 1)), .ref (z + 0)])) (show (0 : Int32) + 2 = 2 by decide)) ?_
  refine va_sld hx hb hX hbl hbA hS (gb_in rfl) dL_law_454 ?_
  refine lv_aload_n hx hb dL_law_455 rfl (lv_at hl 3 rfl) ?_
  refine lv_iload_n hx hb dL_law_456 rfl (lv_at hl 0 rfl) ?_
  refine lv_iconst (v := 3) hx hb dL_law_457 (by decide) ?_
  refine lv_iadd hx hb dL_law_458 ?_
  refine W.eq (g2 := F0 m 459 ls [.int 3, .ref b, .int (xs (Int32.toNatClampNeg 2)), .int (xs (Int32.toNatClampNeg 1)), .ref (z + 0)]) (congrArg (fun v => F0 m 459 ls (Value.int v :: [.ref b, .int (xs (Int32.toNatClampNeg 2)), .int (xs (Int32.toNatClampNeg 1)), .ref (z + 0)])) (show (0 : Int32) + 3 = 3 by decide)) ?_
  refine va_sld hx hb hX hbl hbA hS (gb_in rfl) dL_law_459 ?_
  refine gb_calli (va_runV (C := RX11) (As := [.int (xs (Int32.toNatClampNeg 1)), .int (xs (Int32.toNatClampNeg 2)), .int (xs (Int32.toNatClampNeg 3))]) (rest := []) ⟨hx, hb, hml, hown, hq⟩ (a_X11_deed l D cT tt z z (Nat.le_refl z) (xs (Int32.toNatClampNeg 1)) (xs (Int32.toNatClampNeg 2)) (xs (Int32.toNatClampNeg 3))) (cwV 3 hq (gb_gV w_642 w_643 w_644 w_1 w_645) rfl rfl rfl (by decide +kernel) ⟨Nat.le_of_ble_eq_true rfl, Nat.le_of_ble_eq_true rfl⟩) (gb_preV (r := (RX11, TX11, 10)) (ci := 9) (q0 := 0) hSt hPc rfl (gb_at z rfl) hS (fun q h => h) hPc) rfl rfl hl.1 rfl (lv_room (Nat.le_of_ble_eq_true rfl)) dL_law_460 ⟨Nat.le_of_ble_eq_true rfl, Nat.le_of_ble_eq_true rfl⟩) hS (fun q h => h.1) (fun q h => h.1) (fun r H locs hY hk hS => ?_)
  subst hY
  have hPm := gb_kept hPm (fun q h1 h2 => hk q (Nat.lt_of_lt_of_le h2 ((hPm 21 _ (gb_at (z + 135) rfl)).lt)) (fun h3 => Nat.not_lt.mpr h1 h3.2))
  refine lv_aload_n hx hb dL_law_463 rfl (lv_at hl 1 rfl) ?_
  refine lv_aload_n hx hb dL_law_464 rfl (lv_at hl 3 rfl) ?_
  refine lv_iload_n hx hb dL_law_465 rfl (lv_at hl 0 rfl) ?_
  refine lv_iconst (v := 1) hx hb dL_law_466 (by decide) ?_
  refine lv_iadd hx hb dL_law_467 ?_
  refine W.eq (g2 := F0 m 468 ls [.int 1, .ref b, .ref (z + 135 + 0), .int (-2)]) (congrArg (fun v => F0 m 468 ls (Value.int v :: [.ref b, .ref (z + 135 + 0), .int (-2)])) (show (0 : Int32) + 1 = 1 by decide)) ?_
  refine va_sld hx hb hX hbl hbA hS (gb_in rfl) dL_law_468 ?_
  refine lv_aload_n hx hb dL_law_469 rfl (lv_at hl 3 rfl) ?_
  refine lv_iload_n hx hb dL_law_470 rfl (lv_at hl 0 rfl) ?_
  refine lv_iconst (v := 2) hx hb dL_law_471 (by decide) ?_
  refine lv_iadd hx hb dL_law_472 ?_
  refine W.eq (g2 := F0 m 473 ls [.int 2, .ref b, .int (xs (Int32.toNatClampNeg 1)), .ref (z + 135 + 0), .int (-2)]) (congrArg (fun v => F0 m 473 ls (Value.int v :: [.ref b, .int (xs (Int32.toNatClampNeg 1)), .ref (z + 135 + 0), .int (-2)])) (show (0 : Int32) + 2 = 2 by decide)) ?_
  refine va_sld hx hb hX hbl hbA hS (gb_in rfl) dL_law_473 ?_
  refine lv_aload_n hx hb dL_law_474 rfl (lv_at hl 3 rfl) ?_
  refine lv_iload_n hx hb dL_law_475 rfl (lv_at hl 0 rfl) ?_
  refine lv_iconst (v := 3) hx hb dL_law_476 (by decide) ?_
  refine lv_iadd hx hb dL_law_477 ?_
  refine W.eq (g2 := F0 m 478 ls [.int 3, .ref b, .int (xs (Int32.toNatClampNeg 2)), .int (xs (Int32.toNatClampNeg 1)), .ref (z + 135 + 0), .int (-2)]) (congrArg (fun v => F0 m 478 ls (Value.int v :: [.ref b, .int (xs (Int32.toNatClampNeg 2)), .int (xs (Int32.toNatClampNeg 1)), .ref (z + 135 + 0), .int (-2)])) (show (0 : Int32) + 3 = 3 by decide)) ?_
  refine va_sld hx hb hX hbl hbA hS (gb_in rfl) dL_law_478 ?_
  refine gb_calli (va_runV (C := RX12) (As := [.int (xs (Int32.toNatClampNeg 1)), .int (xs (Int32.toNatClampNeg 2)), .int (xs (Int32.toNatClampNeg 3))]) (rest := [.int (-2)]) ⟨hx, hb, hml, hown, hq⟩ (a_X12_deed l D cT tt z (z + 135) (Nat.le_add_right z 135) (xs (Int32.toNatClampNeg 1)) (xs (Int32.toNatClampNeg 2)) (xs (Int32.toNatClampNeg 3))) (cwV 3 hq (gb_gV w_1412 w_1413 w_1414 w_14 w_1415) rfl rfl rfl (by decide +kernel) ⟨Nat.le_of_ble_eq_true rfl, Nat.le_of_ble_eq_true rfl⟩) (gb_preV (r := (RX12, TX12, 44)) (ci := 10) (q0 := 0) hSt hPm rfl (gb_at (z + 135) rfl) hS (fun q h => h) hPm) rfl rfl hl.1 rfl (lv_room (Nat.le_of_ble_eq_true rfl)) dL_law_479 ⟨Nat.le_of_ble_eq_true rfl, Nat.le_of_ble_eq_true rfl⟩) hS (fun q h => Nat.le_trans (Nat.le_add_right z 135) h.1) (fun q h => Nat.le_trans (Nat.le_add_right z 135) h.1) (fun r H locs hY hk hS => ?_)
  subst hY
  refine lv_icmp_eq (tgt := 1891) hx hb dL_law_482 (by decide) (fun _ => ?_) (fun hc => absurd rfl hc)
  exact law_end C1 hzz hS (lv_sub hl [0, 3] rfl)
theorem dL_law_487 : decode cL_law 487 = .ok (.aload_n 1, 1) := by decide +kernel
theorem dL_law_488 : decode cL_law 488 = .ok (.aload_n 0, 1) := by decide +kernel
theorem dL_law_489 : decode cL_law 489 = .ok (.iload_n 3, 1) := by decide +kernel
theorem dL_law_490 : decode cL_law 490 = .ok (.iconst 1, 1) := by decide +kernel
theorem dL_law_491 : decode cL_law 491 = .ok (.iadd, 1) := by decide +kernel
theorem dL_law_492 : decode cL_law 492 = .ok (.iaload, 1) := by decide +kernel
theorem dL_law_493 : decode cL_law 493 = .ok (.aload_n 0, 1) := by decide +kernel
theorem dL_law_494 : decode cL_law 494 = .ok (.iload_n 3, 1) := by decide +kernel
theorem dL_law_495 : decode cL_law 495 = .ok (.iconst 2, 1) := by decide +kernel
theorem dL_law_496 : decode cL_law 496 = .ok (.iadd, 1) := by decide +kernel
theorem dL_law_497 : decode cL_law 497 = .ok (.iaload, 1) := by decide +kernel
theorem dL_law_498 : decode cL_law 498 = .ok (.invokevirtual 46, 3) := by decide +kernel
theorem w_693 : (Cond.methodLink "GooseBorderLaw" (46 : Nat) ({ cls := "GooseBorder", name := "stop", desc := "(II)I" } : MethodName)) ∈ gb_wA := gb_t3 213 rfl rfl
theorem w_694 : (Cond.instanceMethod ({ cls := "GooseBorder", name := "stop", desc := "(II)I" } : MethodName)) ∈ gb_wA := gb_t3 214 rfl rfl
theorem w_695 : (Cond.selects "GooseBorder" ({ cls := "GooseBorder", name := "stop", desc := "(II)I" } : MethodName) ({ cls := "GooseBorder", name := "stop", desc := "(II)I" } : MethodName)) ∈ gb_wA := gb_t3 215 rfl rfl
theorem w_696 : (Cond.code ({ cls := "GooseBorder", name := "stop", desc := "(II)I" } : MethodName) prog_1_method_20_code (3 : Nat) (Option.some FieldType.int)) ∈ gb_wA := gb_t3 216 rfl rfl
theorem dL_law_501 : decode cL_law 501 = .ok (.aload_n 2, 1) := by decide +kernel
theorem dL_law_502 : decode cL_law 502 = .ok (.aload_n 0, 1) := by decide +kernel
theorem dL_law_503 : decode cL_law 503 = .ok (.iload_n 3, 1) := by decide +kernel
theorem dL_law_504 : decode cL_law 504 = .ok (.iconst 1, 1) := by decide +kernel
theorem dL_law_505 : decode cL_law 505 = .ok (.iadd, 1) := by decide +kernel
theorem dL_law_506 : decode cL_law 506 = .ok (.iaload, 1) := by decide +kernel
theorem dL_law_507 : decode cL_law 507 = .ok (.aload_n 0, 1) := by decide +kernel
theorem dL_law_508 : decode cL_law 508 = .ok (.iload_n 3, 1) := by decide +kernel
theorem dL_law_509 : decode cL_law 509 = .ok (.iconst 2, 1) := by decide +kernel
theorem dL_law_510 : decode cL_law 510 = .ok (.iadd, 1) := by decide +kernel
theorem dL_law_511 : decode cL_law 511 = .ok (.iaload, 1) := by decide +kernel
theorem dL_law_512 : decode cL_law 512 = .ok (.invokevirtual 49, 3) := by decide +kernel
theorem w_1424 : (Cond.methodLink "GooseBorderLaw" (49 : Nat) ({ cls := "GooseBorderModel", name := "stop", desc := "(II)I" } : MethodName)) ∈ gb_wA := gb_t6 224 rfl rfl
theorem w_1425 : (Cond.instanceMethod ({ cls := "GooseBorderModel", name := "stop", desc := "(II)I" } : MethodName)) ∈ gb_wA := gb_t6 225 rfl rfl
theorem w_1426 : (Cond.selects "GooseBorderModel" ({ cls := "GooseBorderModel", name := "stop", desc := "(II)I" } : MethodName) ({ cls := "GooseBorderModel", name := "stop", desc := "(II)I" } : MethodName)) ∈ gb_wA := gb_t6 226 rfl rfl
theorem w_1427 : (Cond.code ({ cls := "GooseBorderModel", name := "stop", desc := "(II)I" } : MethodName) prog_14_method_55_code (3 : Nat) (Option.some FieldType.int)) ∈ gb_wA := gb_t6 227 rfl rfl
theorem dL_law_515 : decode cL_law 515 = .ok (.if_icmp .eq 1376, 3) := by decide +kernel
set_option maxHeartbeats 4000000 in
set_option maxRecDepth 100000 in
theorem law_c7 {p : Program} {l : Launch} {e : Env} {s : State} {m : MethodId} {below : List Frame} {meth : Method} {c : Code} {b z : Nat} {xs : Nat → Int32} (C0 : lw_At p s m meth c b 6 xs) (hzz : Array.size s.heap = z) {D : va_G} {cT : Nat → ClassId} {tt : Nat → Nat} (hSt : gb_St D cT tt z s) {H : Heap} {locs : List Loc} {ls : Array Slot} (hPc : va_P D vwCl (gb_wl z (gb_C cT z)) H) (hPm : va_P D vwCl (gb_wl (z + 135) (gb_M cT (z + 135))) H) (hS : va_S (gb_ge z) s.heap H locs) (hl : lv_has ls 4 [(3, .int 0), (2, .ref (z + 135 + 0)), (1, .ref (z + 0)), (0, .ref b)]) : W p l e room_1 s m #[Value.ref b] below meth c H locs 157 10381 (lw_Z below #[Value.ref b] s) (F0 m 487 ls []) := by
  have C1 := C0
  obtain ⟨hx, hb, hr, hml, hown, hts, hX, hbl, hlocks, hgv⟩ := C0
  have hq : ∀ w ∈ gb_wA, w.before #[Value.ref b] s = true := fun w h => hts w (gb_wA_tbl w h)
  have hbA : ¬ gb_ge z b := Nat.not_le.mpr (by rw [← hzz]; exact hbl)
  refine lv_aload_n hx hb dL_law_487 rfl (lv_at hl 2 rfl) ?_
  refine lv_aload_n hx hb dL_law_488 rfl (lv_at hl 3 rfl) ?_
  refine lv_iload_n hx hb dL_law_489 rfl (lv_at hl 0 rfl) ?_
  refine lv_iconst (v := 1) hx hb dL_law_490 (by decide) ?_
  refine lv_iadd hx hb dL_law_491 ?_
  refine W.eq (g2 := F0 m 492 ls [.int 1, .ref b, .ref (z + 0)]) (congrArg (fun v => F0 m 492 ls (Value.int v :: [.ref b, .ref (z + 0)])) (show (0 : Int32) + 1 = 1 by decide)) ?_
  refine va_sld hx hb hX hbl hbA hS (gb_in rfl) dL_law_492 ?_
  refine lv_aload_n hx hb dL_law_493 rfl (lv_at hl 3 rfl) ?_
  refine lv_iload_n hx hb dL_law_494 rfl (lv_at hl 0 rfl) ?_
  refine lv_iconst (v := 2) hx hb dL_law_495 (by decide) ?_
  refine lv_iadd hx hb dL_law_496 ?_
  refine W.eq (g2 := F0 m 497 ls [.int 2, .ref b, .int (xs (Int32.toNatClampNeg 1)), .ref (z + 0)]) (congrArg (fun v => F0 m 497 ls (Value.int v :: [.ref b, .int (xs (Int32.toNatClampNeg 1)), .ref (z + 0)])) (show (0 : Int32) + 2 = 2 by decide)) ?_
  refine va_sld hx hb hX hbl hbA hS (gb_in rfl) dL_law_497 ?_
  refine gb_calli (va_runV (C := RX11) (As := [.int (xs (Int32.toNatClampNeg 1)), .int (xs (Int32.toNatClampNeg 2))]) (rest := []) ⟨hx, hb, hml, hown, hq⟩ (a_X11_stop l D cT tt z z (Nat.le_refl z) (xs (Int32.toNatClampNeg 1)) (xs (Int32.toNatClampNeg 2))) (cwV 2 hq (gb_gV w_693 w_694 w_695 w_1 w_696) rfl rfl rfl (by decide +kernel) ⟨Nat.le_of_ble_eq_true rfl, Nat.le_of_ble_eq_true rfl⟩) (gb_preV (r := (RX11, TX11, 10)) (ci := 9) (q0 := 0) hSt hPc rfl (gb_at z rfl) hS (fun q h => h) hPc) rfl rfl hl.1 rfl (lv_room (Nat.le_of_ble_eq_true rfl)) dL_law_498 ⟨Nat.le_of_ble_eq_true rfl, Nat.le_of_ble_eq_true rfl⟩) hS (fun q h => h.1) (fun q h => h.1) (fun r H locs hY hk hS => ?_)
  subst hY
  have hPm := gb_kept hPm (fun q h1 h2 => hk q (Nat.lt_of_lt_of_le h2 ((hPm 21 _ (gb_at (z + 135) rfl)).lt)) (fun h3 => Nat.not_lt.mpr h1 h3.2))
  refine lv_aload_n hx hb dL_law_501 rfl (lv_at hl 1 rfl) ?_
  refine lv_aload_n hx hb dL_law_502 rfl (lv_at hl 3 rfl) ?_
  refine lv_iload_n hx hb dL_law_503 rfl (lv_at hl 0 rfl) ?_
  refine lv_iconst (v := 1) hx hb dL_law_504 (by decide) ?_
  refine lv_iadd hx hb dL_law_505 ?_
  refine W.eq (g2 := F0 m 506 ls [.int 1, .ref b, .ref (z + 135 + 0), .int (-1)]) (congrArg (fun v => F0 m 506 ls (Value.int v :: [.ref b, .ref (z + 135 + 0), .int (-1)])) (show (0 : Int32) + 1 = 1 by decide)) ?_
  refine va_sld hx hb hX hbl hbA hS (gb_in rfl) dL_law_506 ?_
  refine lv_aload_n hx hb dL_law_507 rfl (lv_at hl 3 rfl) ?_
  refine lv_iload_n hx hb dL_law_508 rfl (lv_at hl 0 rfl) ?_
  refine lv_iconst (v := 2) hx hb dL_law_509 (by decide) ?_
  refine lv_iadd hx hb dL_law_510 ?_
  refine W.eq (g2 := F0 m 511 ls [.int 2, .ref b, .int (xs (Int32.toNatClampNeg 1)), .ref (z + 135 + 0), .int (-1)]) (congrArg (fun v => F0 m 511 ls (Value.int v :: [.ref b, .int (xs (Int32.toNatClampNeg 1)), .ref (z + 135 + 0), .int (-1)])) (show (0 : Int32) + 2 = 2 by decide)) ?_
  refine va_sld hx hb hX hbl hbA hS (gb_in rfl) dL_law_511 ?_
  refine gb_calli (va_runV (C := RX12) (As := [.int (xs (Int32.toNatClampNeg 1)), .int (xs (Int32.toNatClampNeg 2))]) (rest := [.int (-1)]) ⟨hx, hb, hml, hown, hq⟩ (a_X12_stop l D cT tt z (z + 135) (Nat.le_add_right z 135) (xs (Int32.toNatClampNeg 1)) (xs (Int32.toNatClampNeg 2))) (cwV 2 hq (gb_gV w_1424 w_1425 w_1426 w_14 w_1427) rfl rfl rfl (by decide +kernel) ⟨Nat.le_of_ble_eq_true rfl, Nat.le_of_ble_eq_true rfl⟩) (gb_preV (r := (RX12, TX12, 44)) (ci := 10) (q0 := 0) hSt hPm rfl (gb_at (z + 135) rfl) hS (fun q h => h) hPm) rfl rfl hl.1 rfl (lv_room (Nat.le_of_ble_eq_true rfl)) dL_law_512 ⟨Nat.le_of_ble_eq_true rfl, Nat.le_of_ble_eq_true rfl⟩) hS (fun q h => Nat.le_trans (Nat.le_add_right z 135) h.1) (fun q h => Nat.le_trans (Nat.le_add_right z 135) h.1) (fun r H locs hY hk hS => ?_)
  subst hY
  refine lv_icmp_eq (tgt := 1891) hx hb dL_law_515 (by decide) (fun _ => ?_) (fun hc => absurd rfl hc)
  exact law_end C1 hzz hS (lv_sub hl [0, 3] rfl)
theorem dL_law_520 : decode cL_law 520 = .ok (.aload_n 1, 1) := by decide +kernel
theorem dL_law_521 : decode cL_law 521 = .ok (.aload_n 0, 1) := by decide +kernel
theorem dL_law_522 : decode cL_law 522 = .ok (.iload_n 3, 1) := by decide +kernel
theorem dL_law_523 : decode cL_law 523 = .ok (.iconst 1, 1) := by decide +kernel
theorem dL_law_524 : decode cL_law 524 = .ok (.iadd, 1) := by decide +kernel
theorem dL_law_525 : decode cL_law 525 = .ok (.iaload, 1) := by decide +kernel
theorem dL_law_526 : decode cL_law 526 = .ok (.aload_n 0, 1) := by decide +kernel
theorem dL_law_527 : decode cL_law 527 = .ok (.iload_n 3, 1) := by decide +kernel
theorem dL_law_528 : decode cL_law 528 = .ok (.iconst 2, 1) := by decide +kernel
theorem dL_law_529 : decode cL_law 529 = .ok (.iadd, 1) := by decide +kernel
theorem dL_law_530 : decode cL_law 530 = .ok (.iaload, 1) := by decide +kernel
theorem dL_law_531 : decode cL_law 531 = .ok (.aload_n 0, 1) := by decide +kernel
theorem dL_law_532 : decode cL_law 532 = .ok (.iload_n 3, 1) := by decide +kernel
theorem dL_law_533 : decode cL_law 533 = .ok (.iconst 3, 1) := by decide +kernel
theorem dL_law_534 : decode cL_law 534 = .ok (.iadd, 1) := by decide +kernel
theorem dL_law_535 : decode cL_law 535 = .ok (.iaload, 1) := by decide +kernel
theorem dL_law_536 : decode cL_law 536 = .ok (.aload_n 0, 1) := by decide +kernel
theorem dL_law_537 : decode cL_law 537 = .ok (.iload_n 3, 1) := by decide +kernel
theorem dL_law_538 : decode cL_law 538 = .ok (.iconst 4, 1) := by decide +kernel
theorem dL_law_539 : decode cL_law 539 = .ok (.iadd, 1) := by decide +kernel
theorem dL_law_540 : decode cL_law 540 = .ok (.iaload, 1) := by decide +kernel
theorem dL_law_541 : decode cL_law 541 = .ok (.aload_n 0, 1) := by decide +kernel
theorem dL_law_542 : decode cL_law 542 = .ok (.iload_n 3, 1) := by decide +kernel
theorem dL_law_543 : decode cL_law 543 = .ok (.iconst 5, 1) := by decide +kernel
theorem dL_law_544 : decode cL_law 544 = .ok (.iadd, 1) := by decide +kernel
theorem dL_law_545 : decode cL_law 545 = .ok (.iaload, 1) := by decide +kernel
theorem dL_law_546 : decode cL_law 546 = .ok (.invokevirtual 50, 3) := by decide +kernel
theorem w_759 : (Cond.methodLink "GooseBorderLaw" (50 : Nat) ({ cls := "GooseBorder", name := "goose", desc := "(IIIII)I" } : MethodName)) ∈ gb_wA := gb_t4 39 rfl rfl
theorem w_760 : (Cond.instanceMethod ({ cls := "GooseBorder", name := "goose", desc := "(IIIII)I" } : MethodName)) ∈ gb_wA := gb_t4 40 rfl rfl
theorem w_761 : (Cond.selects "GooseBorder" ({ cls := "GooseBorder", name := "goose", desc := "(IIIII)I" } : MethodName) ({ cls := "GooseBorder", name := "goose", desc := "(IIIII)I" } : MethodName)) ∈ gb_wA := gb_t4 41 rfl rfl
theorem w_762 : (Cond.code ({ cls := "GooseBorder", name := "goose", desc := "(IIIII)I" } : MethodName) prog_1_method_21_code (7 : Nat) (Option.some FieldType.int)) ∈ gb_wA := gb_t4 42 rfl rfl
theorem dL_law_549 : decode cL_law 549 = .ok (.aload_n 2, 1) := by decide +kernel
theorem dL_law_550 : decode cL_law 550 = .ok (.aload_n 0, 1) := by decide +kernel
theorem dL_law_551 : decode cL_law 551 = .ok (.iload_n 3, 1) := by decide +kernel
theorem dL_law_552 : decode cL_law 552 = .ok (.iconst 1, 1) := by decide +kernel
theorem dL_law_553 : decode cL_law 553 = .ok (.iadd, 1) := by decide +kernel
theorem dL_law_554 : decode cL_law 554 = .ok (.iaload, 1) := by decide +kernel
theorem dL_law_555 : decode cL_law 555 = .ok (.aload_n 0, 1) := by decide +kernel
theorem dL_law_556 : decode cL_law 556 = .ok (.iload_n 3, 1) := by decide +kernel
theorem dL_law_557 : decode cL_law 557 = .ok (.iconst 2, 1) := by decide +kernel
theorem dL_law_558 : decode cL_law 558 = .ok (.iadd, 1) := by decide +kernel
theorem dL_law_559 : decode cL_law 559 = .ok (.iaload, 1) := by decide +kernel
theorem dL_law_560 : decode cL_law 560 = .ok (.aload_n 0, 1) := by decide +kernel
theorem dL_law_561 : decode cL_law 561 = .ok (.iload_n 3, 1) := by decide +kernel
theorem dL_law_562 : decode cL_law 562 = .ok (.iconst 3, 1) := by decide +kernel
theorem dL_law_563 : decode cL_law 563 = .ok (.iadd, 1) := by decide +kernel
theorem dL_law_564 : decode cL_law 564 = .ok (.iaload, 1) := by decide +kernel
theorem dL_law_565 : decode cL_law 565 = .ok (.aload_n 0, 1) := by decide +kernel
theorem dL_law_566 : decode cL_law 566 = .ok (.iload_n 3, 1) := by decide +kernel
theorem dL_law_567 : decode cL_law 567 = .ok (.iconst 4, 1) := by decide +kernel
theorem dL_law_568 : decode cL_law 568 = .ok (.iadd, 1) := by decide +kernel
theorem dL_law_569 : decode cL_law 569 = .ok (.iaload, 1) := by decide +kernel
theorem dL_law_570 : decode cL_law 570 = .ok (.aload_n 0, 1) := by decide +kernel
theorem dL_law_571 : decode cL_law 571 = .ok (.iload_n 3, 1) := by decide +kernel
theorem dL_law_572 : decode cL_law 572 = .ok (.iconst 5, 1) := by decide +kernel
theorem dL_law_573 : decode cL_law 573 = .ok (.iadd, 1) := by decide +kernel
theorem dL_law_574 : decode cL_law 574 = .ok (.iaload, 1) := by decide +kernel
theorem dL_law_575 : decode cL_law 575 = .ok (.invokevirtual 53, 3) := by decide +kernel
theorem w_1464 : (Cond.methodLink "GooseBorderLaw" (53 : Nat) ({ cls := "GooseBorderModel", name := "goose", desc := "(IIIII)I" } : MethodName)) ∈ gb_wA := gb_t7 24 rfl rfl
theorem w_1465 : (Cond.instanceMethod ({ cls := "GooseBorderModel", name := "goose", desc := "(IIIII)I" } : MethodName)) ∈ gb_wA := gb_t7 25 rfl rfl
theorem w_1466 : (Cond.selects "GooseBorderModel" ({ cls := "GooseBorderModel", name := "goose", desc := "(IIIII)I" } : MethodName) ({ cls := "GooseBorderModel", name := "goose", desc := "(IIIII)I" } : MethodName)) ∈ gb_wA := gb_t7 26 rfl rfl
theorem w_1467 : (Cond.code ({ cls := "GooseBorderModel", name := "goose", desc := "(IIIII)I" } : MethodName) prog_14_method_57_code (6 : Nat) (Option.some FieldType.int)) ∈ gb_wA := gb_t7 27 rfl rfl
theorem dL_law_578 : decode cL_law 578 = .ok (.if_icmp .eq 1313, 3) := by decide +kernel
set_option maxHeartbeats 4000000 in
set_option maxRecDepth 100000 in
theorem law_c8 {p : Program} {l : Launch} {e : Env} {s : State} {m : MethodId} {below : List Frame} {meth : Method} {c : Code} {b z : Nat} {xs : Nat → Int32} (C0 : lw_At p s m meth c b 6 xs) (hzz : Array.size s.heap = z) {D : va_G} {cT : Nat → ClassId} {tt : Nat → Nat} (hSt : gb_St D cT tt z s) {H : Heap} {locs : List Loc} {ls : Array Slot} (hPc : va_P D vwCl (gb_wl z (gb_C cT z)) H) (hPm : va_P D vwCl (gb_wl (z + 135) (gb_M cT (z + 135))) H) (hS : va_S (gb_ge z) s.heap H locs) (hl : lv_has ls 4 [(3, .int 0), (2, .ref (z + 135 + 0)), (1, .ref (z + 0)), (0, .ref b)]) : W p l e room_1 s m #[Value.ref b] below meth c H locs 157 10381 (lw_Z below #[Value.ref b] s) (F0 m 520 ls []) := by
  have C1 := C0
  obtain ⟨hx, hb, hr, hml, hown, hts, hX, hbl, hlocks, hgv⟩ := C0
  have hq : ∀ w ∈ gb_wA, w.before #[Value.ref b] s = true := fun w h => hts w (gb_wA_tbl w h)
  have hbA : ¬ gb_ge z b := Nat.not_le.mpr (by rw [← hzz]; exact hbl)
  refine lv_aload_n hx hb dL_law_520 rfl (lv_at hl 2 rfl) ?_
  refine lv_aload_n hx hb dL_law_521 rfl (lv_at hl 3 rfl) ?_
  refine lv_iload_n hx hb dL_law_522 rfl (lv_at hl 0 rfl) ?_
  refine lv_iconst (v := 1) hx hb dL_law_523 (by decide) ?_
  refine lv_iadd hx hb dL_law_524 ?_
  refine W.eq (g2 := F0 m 525 ls [.int 1, .ref b, .ref (z + 0)]) (congrArg (fun v => F0 m 525 ls (Value.int v :: [.ref b, .ref (z + 0)])) (show (0 : Int32) + 1 = 1 by decide)) ?_
  refine va_sld hx hb hX hbl hbA hS (gb_in rfl) dL_law_525 ?_
  refine lv_aload_n hx hb dL_law_526 rfl (lv_at hl 3 rfl) ?_
  refine lv_iload_n hx hb dL_law_527 rfl (lv_at hl 0 rfl) ?_
  refine lv_iconst (v := 2) hx hb dL_law_528 (by decide) ?_
  refine lv_iadd hx hb dL_law_529 ?_
  refine W.eq (g2 := F0 m 530 ls [.int 2, .ref b, .int (xs (Int32.toNatClampNeg 1)), .ref (z + 0)]) (congrArg (fun v => F0 m 530 ls (Value.int v :: [.ref b, .int (xs (Int32.toNatClampNeg 1)), .ref (z + 0)])) (show (0 : Int32) + 2 = 2 by decide)) ?_
  refine va_sld hx hb hX hbl hbA hS (gb_in rfl) dL_law_530 ?_
  refine lv_aload_n hx hb dL_law_531 rfl (lv_at hl 3 rfl) ?_
  refine lv_iload_n hx hb dL_law_532 rfl (lv_at hl 0 rfl) ?_
  refine lv_iconst (v := 3) hx hb dL_law_533 (by decide) ?_
  refine lv_iadd hx hb dL_law_534 ?_
  refine W.eq (g2 := F0 m 535 ls [.int 3, .ref b, .int (xs (Int32.toNatClampNeg 2)), .int (xs (Int32.toNatClampNeg 1)), .ref (z + 0)]) (congrArg (fun v => F0 m 535 ls (Value.int v :: [.ref b, .int (xs (Int32.toNatClampNeg 2)), .int (xs (Int32.toNatClampNeg 1)), .ref (z + 0)])) (show (0 : Int32) + 3 = 3 by decide)) ?_
  refine va_sld hx hb hX hbl hbA hS (gb_in rfl) dL_law_535 ?_
  refine lv_aload_n hx hb dL_law_536 rfl (lv_at hl 3 rfl) ?_
  refine lv_iload_n hx hb dL_law_537 rfl (lv_at hl 0 rfl) ?_
  refine lv_iconst (v := 4) hx hb dL_law_538 (by decide) ?_
  refine lv_iadd hx hb dL_law_539 ?_
  refine W.eq (g2 := F0 m 540 ls [.int 4, .ref b, .int (xs (Int32.toNatClampNeg 3)), .int (xs (Int32.toNatClampNeg 2)), .int (xs (Int32.toNatClampNeg 1)), .ref (z + 0)]) (congrArg (fun v => F0 m 540 ls (Value.int v :: [.ref b, .int (xs (Int32.toNatClampNeg 3)), .int (xs (Int32.toNatClampNeg 2)), .int (xs (Int32.toNatClampNeg 1)), .ref (z + 0)])) (show (0 : Int32) + 4 = 4 by decide)) ?_
  refine va_sld hx hb hX hbl hbA hS (gb_in rfl) dL_law_540 ?_
  refine lv_aload_n hx hb dL_law_541 rfl (lv_at hl 3 rfl) ?_
  refine lv_iload_n hx hb dL_law_542 rfl (lv_at hl 0 rfl) ?_
  refine lv_iconst (v := 5) hx hb dL_law_543 (by decide) ?_
  refine lv_iadd hx hb dL_law_544 ?_
  refine W.eq (g2 := F0 m 545 ls [.int 5, .ref b, .int (xs (Int32.toNatClampNeg 4)), .int (xs (Int32.toNatClampNeg 3)), .int (xs (Int32.toNatClampNeg 2)), .int (xs (Int32.toNatClampNeg 1)), .ref (z + 0)]) (congrArg (fun v => F0 m 545 ls (Value.int v :: [.ref b, .int (xs (Int32.toNatClampNeg 4)), .int (xs (Int32.toNatClampNeg 3)), .int (xs (Int32.toNatClampNeg 2)), .int (xs (Int32.toNatClampNeg 1)), .ref (z + 0)])) (show (0 : Int32) + 5 = 5 by decide)) ?_
  refine va_sld hx hb hX hbl hbA hS (gb_in rfl) dL_law_545 ?_
  refine gb_calli (va_runV (C := RX11) (As := [.int (xs (Int32.toNatClampNeg 1)), .int (xs (Int32.toNatClampNeg 2)), .int (xs (Int32.toNatClampNeg 3)), .int (xs (Int32.toNatClampNeg 4)), .int (xs (Int32.toNatClampNeg 5))]) (rest := []) ⟨hx, hb, hml, hown, hq⟩ (a_X11_goose l D cT tt z z (Nat.le_refl z) (xs (Int32.toNatClampNeg 1)) (xs (Int32.toNatClampNeg 2)) (xs (Int32.toNatClampNeg 3)) (xs (Int32.toNatClampNeg 4)) (xs (Int32.toNatClampNeg 5))) (cwV 5 hq (gb_gV w_759 w_760 w_761 w_1 w_762) rfl rfl rfl (by decide +kernel) ⟨Nat.le_of_ble_eq_true rfl, Nat.le_of_ble_eq_true rfl⟩) (gb_preV (r := (RX11, TX11, 10)) (ci := 9) (q0 := 0) hSt hPc rfl (gb_at z rfl) hS (fun q h => h) hPc) rfl rfl hl.1 rfl (lv_room (Nat.le_of_ble_eq_true rfl)) dL_law_546 ⟨Nat.le_of_ble_eq_true rfl, Nat.le_of_ble_eq_true rfl⟩) hS (fun q h => h.1) (fun q h => h.1) (fun r H locs hY hk hS => ?_)
  subst hY
  have hPm := gb_kept hPm (fun q h1 h2 => hk q (Nat.lt_of_lt_of_le h2 ((hPm 21 _ (gb_at (z + 135) rfl)).lt)) (fun h3 => Nat.not_lt.mpr h1 h3.2))
  refine lv_aload_n hx hb dL_law_549 rfl (lv_at hl 1 rfl) ?_
  refine lv_aload_n hx hb dL_law_550 rfl (lv_at hl 3 rfl) ?_
  refine lv_iload_n hx hb dL_law_551 rfl (lv_at hl 0 rfl) ?_
  refine lv_iconst (v := 1) hx hb dL_law_552 (by decide) ?_
  refine lv_iadd hx hb dL_law_553 ?_
  refine W.eq (g2 := F0 m 554 ls [.int 1, .ref b, .ref (z + 135 + 0), .int (-2)]) (congrArg (fun v => F0 m 554 ls (Value.int v :: [.ref b, .ref (z + 135 + 0), .int (-2)])) (show (0 : Int32) + 1 = 1 by decide)) ?_
  refine va_sld hx hb hX hbl hbA hS (gb_in rfl) dL_law_554 ?_
  refine lv_aload_n hx hb dL_law_555 rfl (lv_at hl 3 rfl) ?_
  refine lv_iload_n hx hb dL_law_556 rfl (lv_at hl 0 rfl) ?_
  refine lv_iconst (v := 2) hx hb dL_law_557 (by decide) ?_
  refine lv_iadd hx hb dL_law_558 ?_
  refine W.eq (g2 := F0 m 559 ls [.int 2, .ref b, .int (xs (Int32.toNatClampNeg 1)), .ref (z + 135 + 0), .int (-2)]) (congrArg (fun v => F0 m 559 ls (Value.int v :: [.ref b, .int (xs (Int32.toNatClampNeg 1)), .ref (z + 135 + 0), .int (-2)])) (show (0 : Int32) + 2 = 2 by decide)) ?_
  refine va_sld hx hb hX hbl hbA hS (gb_in rfl) dL_law_559 ?_
  refine lv_aload_n hx hb dL_law_560 rfl (lv_at hl 3 rfl) ?_
  refine lv_iload_n hx hb dL_law_561 rfl (lv_at hl 0 rfl) ?_
  refine lv_iconst (v := 3) hx hb dL_law_562 (by decide) ?_
  refine lv_iadd hx hb dL_law_563 ?_
  refine W.eq (g2 := F0 m 564 ls [.int 3, .ref b, .int (xs (Int32.toNatClampNeg 2)), .int (xs (Int32.toNatClampNeg 1)), .ref (z + 135 + 0), .int (-2)]) (congrArg (fun v => F0 m 564 ls (Value.int v :: [.ref b, .int (xs (Int32.toNatClampNeg 2)), .int (xs (Int32.toNatClampNeg 1)), .ref (z + 135 + 0), .int (-2)])) (show (0 : Int32) + 3 = 3 by decide)) ?_
  refine va_sld hx hb hX hbl hbA hS (gb_in rfl) dL_law_564 ?_
  refine lv_aload_n hx hb dL_law_565 rfl (lv_at hl 3 rfl) ?_
  refine lv_iload_n hx hb dL_law_566 rfl (lv_at hl 0 rfl) ?_
  refine lv_iconst (v := 4) hx hb dL_law_567 (by decide) ?_
  refine lv_iadd hx hb dL_law_568 ?_
  refine W.eq (g2 := F0 m 569 ls [.int 4, .ref b, .int (xs (Int32.toNatClampNeg 3)), .int (xs (Int32.toNatClampNeg 2)), .int (xs (Int32.toNatClampNeg 1)), .ref (z + 135 + 0), .int (-2)]) (congrArg (fun v => F0 m 569 ls (Value.int v :: [.ref b, .int (xs (Int32.toNatClampNeg 3)), .int (xs (Int32.toNatClampNeg 2)), .int (xs (Int32.toNatClampNeg 1)), .ref (z + 135 + 0), .int (-2)])) (show (0 : Int32) + 4 = 4 by decide)) ?_
  refine va_sld hx hb hX hbl hbA hS (gb_in rfl) dL_law_569 ?_
  refine lv_aload_n hx hb dL_law_570 rfl (lv_at hl 3 rfl) ?_
  refine lv_iload_n hx hb dL_law_571 rfl (lv_at hl 0 rfl) ?_
  refine lv_iconst (v := 5) hx hb dL_law_572 (by decide) ?_
  refine lv_iadd hx hb dL_law_573 ?_
  refine W.eq (g2 := F0 m 574 ls [.int 5, .ref b, .int (xs (Int32.toNatClampNeg 4)), .int (xs (Int32.toNatClampNeg 3)), .int (xs (Int32.toNatClampNeg 2)), .int (xs (Int32.toNatClampNeg 1)), .ref (z + 135 + 0), .int (-2)]) (congrArg (fun v => F0 m 574 ls (Value.int v :: [.ref b, .int (xs (Int32.toNatClampNeg 4)), .int (xs (Int32.toNatClampNeg 3)), .int (xs (Int32.toNatClampNeg 2)), .int (xs (Int32.toNatClampNeg 1)), .ref (z + 135 + 0), .int (-2)])) (show (0 : Int32) + 5 = 5 by decide)) ?_
  refine va_sld hx hb hX hbl hbA hS (gb_in rfl) dL_law_574 ?_
  refine gb_calli (va_runV (C := RX12) (As := [.int (xs (Int32.toNatClampNeg 1)), .int (xs (Int32.toNatClampNeg 2)), .int (xs (Int32.toNatClampNeg 3)), .int (xs (Int32.toNatClampNeg 4)), .int (xs (Int32.toNatClampNeg 5))]) (rest := [.int (-2)]) ⟨hx, hb, hml, hown, hq⟩ (a_X12_goose l D cT tt z (z + 135) (Nat.le_add_right z 135) (xs (Int32.toNatClampNeg 1)) (xs (Int32.toNatClampNeg 2)) (xs (Int32.toNatClampNeg 3)) (xs (Int32.toNatClampNeg 4)) (xs (Int32.toNatClampNeg 5))) (cwV 5 hq (gb_gV w_1464 w_1465 w_1466 w_14 w_1467) rfl rfl rfl (by decide +kernel) ⟨Nat.le_of_ble_eq_true rfl, Nat.le_of_ble_eq_true rfl⟩) (gb_preV (r := (RX12, TX12, 44)) (ci := 10) (q0 := 0) hSt hPm rfl (gb_at (z + 135) rfl) hS (fun q h => h) hPm) rfl rfl hl.1 rfl (lv_room (Nat.le_of_ble_eq_true rfl)) dL_law_575 ⟨Nat.le_of_ble_eq_true rfl, Nat.le_of_ble_eq_true rfl⟩) hS (fun q h => Nat.le_trans (Nat.le_add_right z 135) h.1) (fun q h => Nat.le_trans (Nat.le_add_right z 135) h.1) (fun r H locs hY hk hS => ?_)
  subst hY
  refine lv_icmp_eq (tgt := 1891) hx hb dL_law_578 (by decide) (fun _ => ?_) (fun hc => absurd rfl hc)
  exact law_end C1 hzz hS (lv_sub hl [0, 3] rfl)
theorem dL_law_583 : decode cL_law 583 = .ok (.aload_n 1, 1) := by decide +kernel
theorem dL_law_584 : decode cL_law 584 = .ok (.aload_n 0, 1) := by decide +kernel
theorem dL_law_585 : decode cL_law 585 = .ok (.iload_n 3, 1) := by decide +kernel
theorem dL_law_586 : decode cL_law 586 = .ok (.iconst 1, 1) := by decide +kernel
theorem dL_law_587 : decode cL_law 587 = .ok (.iadd, 1) := by decide +kernel
theorem dL_law_588 : decode cL_law 588 = .ok (.iaload, 1) := by decide +kernel
theorem dL_law_589 : decode cL_law 589 = .ok (.aload_n 0, 1) := by decide +kernel
theorem dL_law_590 : decode cL_law 590 = .ok (.iload_n 3, 1) := by decide +kernel
theorem dL_law_591 : decode cL_law 591 = .ok (.iconst 2, 1) := by decide +kernel
theorem dL_law_592 : decode cL_law 592 = .ok (.iadd, 1) := by decide +kernel
theorem dL_law_593 : decode cL_law 593 = .ok (.iaload, 1) := by decide +kernel
theorem dL_law_594 : decode cL_law 594 = .ok (.aload_n 0, 1) := by decide +kernel
theorem dL_law_595 : decode cL_law 595 = .ok (.iload_n 3, 1) := by decide +kernel
theorem dL_law_596 : decode cL_law 596 = .ok (.iconst 3, 1) := by decide +kernel
theorem dL_law_597 : decode cL_law 597 = .ok (.iadd, 1) := by decide +kernel
theorem dL_law_598 : decode cL_law 598 = .ok (.iaload, 1) := by decide +kernel
theorem dL_law_599 : decode cL_law 599 = .ok (.aload_n 0, 1) := by decide +kernel
theorem dL_law_600 : decode cL_law 600 = .ok (.iload_n 3, 1) := by decide +kernel
theorem dL_law_601 : decode cL_law 601 = .ok (.iconst 4, 1) := by decide +kernel
theorem dL_law_602 : decode cL_law 602 = .ok (.iadd, 1) := by decide +kernel
theorem dL_law_603 : decode cL_law 603 = .ok (.iaload, 1) := by decide +kernel
theorem dL_law_604 : decode cL_law 604 = .ok (.aload_n 0, 1) := by decide +kernel
theorem dL_law_605 : decode cL_law 605 = .ok (.iload_n 3, 1) := by decide +kernel
theorem dL_law_606 : decode cL_law 606 = .ok (.iconst 5, 1) := by decide +kernel
theorem dL_law_607 : decode cL_law 607 = .ok (.iadd, 1) := by decide +kernel
theorem dL_law_608 : decode cL_law 608 = .ok (.iaload, 1) := by decide +kernel
theorem dL_law_609 : decode cL_law 609 = .ok (.invokevirtual 54, 3) := by decide +kernel
theorem w_767 : (Cond.methodLink "GooseBorderLaw" (54 : Nat) ({ cls := "GooseBorder", name := "path", desc := "(IIIII)I" } : MethodName)) ∈ gb_wA := gb_t4 47 rfl rfl
theorem w_768 : (Cond.instanceMethod ({ cls := "GooseBorder", name := "path", desc := "(IIIII)I" } : MethodName)) ∈ gb_wA := gb_t4 48 rfl rfl
theorem w_769 : (Cond.selects "GooseBorder" ({ cls := "GooseBorder", name := "path", desc := "(IIIII)I" } : MethodName) ({ cls := "GooseBorder", name := "path", desc := "(IIIII)I" } : MethodName)) ∈ gb_wA := gb_t4 49 rfl rfl
theorem w_770 : (Cond.code ({ cls := "GooseBorder", name := "path", desc := "(IIIII)I" } : MethodName) prog_1_method_22_code (7 : Nat) (Option.some FieldType.int)) ∈ gb_wA := gb_t4 50 rfl rfl
theorem dL_law_612 : decode cL_law 612 = .ok (.aload_n 2, 1) := by decide +kernel
theorem dL_law_613 : decode cL_law 613 = .ok (.aload_n 0, 1) := by decide +kernel
theorem dL_law_614 : decode cL_law 614 = .ok (.iload_n 3, 1) := by decide +kernel
theorem dL_law_615 : decode cL_law 615 = .ok (.iconst 1, 1) := by decide +kernel
theorem dL_law_616 : decode cL_law 616 = .ok (.iadd, 1) := by decide +kernel
theorem dL_law_617 : decode cL_law 617 = .ok (.iaload, 1) := by decide +kernel
theorem dL_law_618 : decode cL_law 618 = .ok (.aload_n 0, 1) := by decide +kernel
theorem dL_law_619 : decode cL_law 619 = .ok (.iload_n 3, 1) := by decide +kernel
theorem dL_law_620 : decode cL_law 620 = .ok (.iconst 2, 1) := by decide +kernel
theorem dL_law_621 : decode cL_law 621 = .ok (.iadd, 1) := by decide +kernel
theorem dL_law_622 : decode cL_law 622 = .ok (.iaload, 1) := by decide +kernel
theorem dL_law_623 : decode cL_law 623 = .ok (.aload_n 0, 1) := by decide +kernel
theorem dL_law_624 : decode cL_law 624 = .ok (.iload_n 3, 1) := by decide +kernel
theorem dL_law_625 : decode cL_law 625 = .ok (.iconst 3, 1) := by decide +kernel
theorem dL_law_626 : decode cL_law 626 = .ok (.iadd, 1) := by decide +kernel
theorem dL_law_627 : decode cL_law 627 = .ok (.iaload, 1) := by decide +kernel
theorem dL_law_628 : decode cL_law 628 = .ok (.aload_n 0, 1) := by decide +kernel
theorem dL_law_629 : decode cL_law 629 = .ok (.iload_n 3, 1) := by decide +kernel
theorem dL_law_630 : decode cL_law 630 = .ok (.iconst 4, 1) := by decide +kernel
theorem dL_law_631 : decode cL_law 631 = .ok (.iadd, 1) := by decide +kernel
theorem dL_law_632 : decode cL_law 632 = .ok (.iaload, 1) := by decide +kernel
theorem dL_law_633 : decode cL_law 633 = .ok (.aload_n 0, 1) := by decide +kernel
theorem dL_law_634 : decode cL_law 634 = .ok (.iload_n 3, 1) := by decide +kernel
theorem dL_law_635 : decode cL_law 635 = .ok (.iconst 5, 1) := by decide +kernel
theorem dL_law_636 : decode cL_law 636 = .ok (.iadd, 1) := by decide +kernel
theorem dL_law_637 : decode cL_law 637 = .ok (.iaload, 1) := by decide +kernel
theorem dL_law_638 : decode cL_law 638 = .ok (.invokevirtual 57, 3) := by decide +kernel
theorem w_1472 : (Cond.methodLink "GooseBorderLaw" (57 : Nat) ({ cls := "GooseBorderModel", name := "path", desc := "(IIIII)I" } : MethodName)) ∈ gb_wA := gb_t7 32 rfl rfl
theorem w_1473 : (Cond.instanceMethod ({ cls := "GooseBorderModel", name := "path", desc := "(IIIII)I" } : MethodName)) ∈ gb_wA := gb_t7 33 rfl rfl
theorem w_1474 : (Cond.selects "GooseBorderModel" ({ cls := "GooseBorderModel", name := "path", desc := "(IIIII)I" } : MethodName) ({ cls := "GooseBorderModel", name := "path", desc := "(IIIII)I" } : MethodName)) ∈ gb_wA := gb_t7 34 rfl rfl
theorem w_1475 : (Cond.code ({ cls := "GooseBorderModel", name := "path", desc := "(IIIII)I" } : MethodName) prog_14_method_62_code (6 : Nat) (Option.some FieldType.int)) ∈ gb_wA := gb_t7 35 rfl rfl
theorem dL_law_641 : decode cL_law 641 = .ok (.if_icmp .eq 1250, 3) := by decide +kernel
set_option maxHeartbeats 4000000 in
set_option maxRecDepth 100000 in
theorem law_c9 {p : Program} {l : Launch} {e : Env} {s : State} {m : MethodId} {below : List Frame} {meth : Method} {c : Code} {b z : Nat} {xs : Nat → Int32} (C0 : lw_At p s m meth c b 6 xs) (hzz : Array.size s.heap = z) {D : va_G} {cT : Nat → ClassId} {tt : Nat → Nat} (hSt : gb_St D cT tt z s) {H : Heap} {locs : List Loc} {ls : Array Slot} (hPc : va_P D vwCl (gb_wl z (gb_C cT z)) H) (hPm : va_P D vwCl (gb_wl (z + 135) (gb_M cT (z + 135))) H) (hS : va_S (gb_ge z) s.heap H locs) (hl : lv_has ls 4 [(3, .int 0), (2, .ref (z + 135 + 0)), (1, .ref (z + 0)), (0, .ref b)]) : W p l e room_1 s m #[Value.ref b] below meth c H locs 157 10381 (lw_Z below #[Value.ref b] s) (F0 m 583 ls []) := by
  have C1 := C0
  obtain ⟨hx, hb, hr, hml, hown, hts, hX, hbl, hlocks, hgv⟩ := C0
  have hq : ∀ w ∈ gb_wA, w.before #[Value.ref b] s = true := fun w h => hts w (gb_wA_tbl w h)
  have hbA : ¬ gb_ge z b := Nat.not_le.mpr (by rw [← hzz]; exact hbl)
  refine lv_aload_n hx hb dL_law_583 rfl (lv_at hl 2 rfl) ?_
  refine lv_aload_n hx hb dL_law_584 rfl (lv_at hl 3 rfl) ?_
  refine lv_iload_n hx hb dL_law_585 rfl (lv_at hl 0 rfl) ?_
  refine lv_iconst (v := 1) hx hb dL_law_586 (by decide) ?_
  refine lv_iadd hx hb dL_law_587 ?_
  refine W.eq (g2 := F0 m 588 ls [.int 1, .ref b, .ref (z + 0)]) (congrArg (fun v => F0 m 588 ls (Value.int v :: [.ref b, .ref (z + 0)])) (show (0 : Int32) + 1 = 1 by decide)) ?_
  refine va_sld hx hb hX hbl hbA hS (gb_in rfl) dL_law_588 ?_
  refine lv_aload_n hx hb dL_law_589 rfl (lv_at hl 3 rfl) ?_
  refine lv_iload_n hx hb dL_law_590 rfl (lv_at hl 0 rfl) ?_
  refine lv_iconst (v := 2) hx hb dL_law_591 (by decide) ?_
  refine lv_iadd hx hb dL_law_592 ?_
  refine W.eq (g2 := F0 m 593 ls [.int 2, .ref b, .int (xs (Int32.toNatClampNeg 1)), .ref (z + 0)]) (congrArg (fun v => F0 m 593 ls (Value.int v :: [.ref b, .int (xs (Int32.toNatClampNeg 1)), .ref (z + 0)])) (show (0 : Int32) + 2 = 2 by decide)) ?_
  refine va_sld hx hb hX hbl hbA hS (gb_in rfl) dL_law_593 ?_
  refine lv_aload_n hx hb dL_law_594 rfl (lv_at hl 3 rfl) ?_
  refine lv_iload_n hx hb dL_law_595 rfl (lv_at hl 0 rfl) ?_
  refine lv_iconst (v := 3) hx hb dL_law_596 (by decide) ?_
  refine lv_iadd hx hb dL_law_597 ?_
  refine W.eq (g2 := F0 m 598 ls [.int 3, .ref b, .int (xs (Int32.toNatClampNeg 2)), .int (xs (Int32.toNatClampNeg 1)), .ref (z + 0)]) (congrArg (fun v => F0 m 598 ls (Value.int v :: [.ref b, .int (xs (Int32.toNatClampNeg 2)), .int (xs (Int32.toNatClampNeg 1)), .ref (z + 0)])) (show (0 : Int32) + 3 = 3 by decide)) ?_
  refine va_sld hx hb hX hbl hbA hS (gb_in rfl) dL_law_598 ?_
  refine lv_aload_n hx hb dL_law_599 rfl (lv_at hl 3 rfl) ?_
  refine lv_iload_n hx hb dL_law_600 rfl (lv_at hl 0 rfl) ?_
  refine lv_iconst (v := 4) hx hb dL_law_601 (by decide) ?_
  refine lv_iadd hx hb dL_law_602 ?_
  refine W.eq (g2 := F0 m 603 ls [.int 4, .ref b, .int (xs (Int32.toNatClampNeg 3)), .int (xs (Int32.toNatClampNeg 2)), .int (xs (Int32.toNatClampNeg 1)), .ref (z + 0)]) (congrArg (fun v => F0 m 603 ls (Value.int v :: [.ref b, .int (xs (Int32.toNatClampNeg 3)), .int (xs (Int32.toNatClampNeg 2)), .int (xs (Int32.toNatClampNeg 1)), .ref (z + 0)])) (show (0 : Int32) + 4 = 4 by decide)) ?_
  refine va_sld hx hb hX hbl hbA hS (gb_in rfl) dL_law_603 ?_
  refine lv_aload_n hx hb dL_law_604 rfl (lv_at hl 3 rfl) ?_
  refine lv_iload_n hx hb dL_law_605 rfl (lv_at hl 0 rfl) ?_
  refine lv_iconst (v := 5) hx hb dL_law_606 (by decide) ?_
  refine lv_iadd hx hb dL_law_607 ?_
  refine W.eq (g2 := F0 m 608 ls [.int 5, .ref b, .int (xs (Int32.toNatClampNeg 4)), .int (xs (Int32.toNatClampNeg 3)), .int (xs (Int32.toNatClampNeg 2)), .int (xs (Int32.toNatClampNeg 1)), .ref (z + 0)]) (congrArg (fun v => F0 m 608 ls (Value.int v :: [.ref b, .int (xs (Int32.toNatClampNeg 4)), .int (xs (Int32.toNatClampNeg 3)), .int (xs (Int32.toNatClampNeg 2)), .int (xs (Int32.toNatClampNeg 1)), .ref (z + 0)])) (show (0 : Int32) + 5 = 5 by decide)) ?_
  refine va_sld hx hb hX hbl hbA hS (gb_in rfl) dL_law_608 ?_
  refine gb_calli (va_runV (C := RX11) (As := [.int (xs (Int32.toNatClampNeg 1)), .int (xs (Int32.toNatClampNeg 2)), .int (xs (Int32.toNatClampNeg 3)), .int (xs (Int32.toNatClampNeg 4)), .int (xs (Int32.toNatClampNeg 5))]) (rest := []) ⟨hx, hb, hml, hown, hq⟩ (a_X11_path l D cT tt z z (Nat.le_refl z) (xs (Int32.toNatClampNeg 1)) (xs (Int32.toNatClampNeg 2)) (xs (Int32.toNatClampNeg 3)) (xs (Int32.toNatClampNeg 4)) (xs (Int32.toNatClampNeg 5))) (cwV 5 hq (gb_gV w_767 w_768 w_769 w_1 w_770) rfl rfl rfl (by decide +kernel) ⟨Nat.le_of_ble_eq_true rfl, Nat.le_of_ble_eq_true rfl⟩) (gb_preV (r := (RX11, TX11, 10)) (ci := 9) (q0 := 0) hSt hPc rfl (gb_at z rfl) hS (fun q h => h) hPc) rfl rfl hl.1 rfl (lv_room (Nat.le_of_ble_eq_true rfl)) dL_law_609 ⟨Nat.le_of_ble_eq_true rfl, Nat.le_of_ble_eq_true rfl⟩) hS (fun q h => h.1) (fun q h => h.1) (fun r H locs hY hk hS => ?_)
  subst hY
  have hPm := gb_kept hPm (fun q h1 h2 => hk q (Nat.lt_of_lt_of_le h2 ((hPm 21 _ (gb_at (z + 135) rfl)).lt)) (fun h3 => Nat.not_lt.mpr h1 h3.2))
  refine lv_aload_n hx hb dL_law_612 rfl (lv_at hl 1 rfl) ?_
  refine lv_aload_n hx hb dL_law_613 rfl (lv_at hl 3 rfl) ?_
  refine lv_iload_n hx hb dL_law_614 rfl (lv_at hl 0 rfl) ?_
  refine lv_iconst (v := 1) hx hb dL_law_615 (by decide) ?_
  refine lv_iadd hx hb dL_law_616 ?_
  refine W.eq (g2 := F0 m 617 ls [.int 1, .ref b, .ref (z + 135 + 0), .int (-2)]) (congrArg (fun v => F0 m 617 ls (Value.int v :: [.ref b, .ref (z + 135 + 0), .int (-2)])) (show (0 : Int32) + 1 = 1 by decide)) ?_
  refine va_sld hx hb hX hbl hbA hS (gb_in rfl) dL_law_617 ?_
  refine lv_aload_n hx hb dL_law_618 rfl (lv_at hl 3 rfl) ?_
  refine lv_iload_n hx hb dL_law_619 rfl (lv_at hl 0 rfl) ?_
  refine lv_iconst (v := 2) hx hb dL_law_620 (by decide) ?_
  refine lv_iadd hx hb dL_law_621 ?_
  refine W.eq (g2 := F0 m 622 ls [.int 2, .ref b, .int (xs (Int32.toNatClampNeg 1)), .ref (z + 135 + 0), .int (-2)]) (congrArg (fun v => F0 m 622 ls (Value.int v :: [.ref b, .int (xs (Int32.toNatClampNeg 1)), .ref (z + 135 + 0), .int (-2)])) (show (0 : Int32) + 2 = 2 by decide)) ?_
  refine va_sld hx hb hX hbl hbA hS (gb_in rfl) dL_law_622 ?_
  refine lv_aload_n hx hb dL_law_623 rfl (lv_at hl 3 rfl) ?_
  refine lv_iload_n hx hb dL_law_624 rfl (lv_at hl 0 rfl) ?_
  refine lv_iconst (v := 3) hx hb dL_law_625 (by decide) ?_
  refine lv_iadd hx hb dL_law_626 ?_
  refine W.eq (g2 := F0 m 627 ls [.int 3, .ref b, .int (xs (Int32.toNatClampNeg 2)), .int (xs (Int32.toNatClampNeg 1)), .ref (z + 135 + 0), .int (-2)]) (congrArg (fun v => F0 m 627 ls (Value.int v :: [.ref b, .int (xs (Int32.toNatClampNeg 2)), .int (xs (Int32.toNatClampNeg 1)), .ref (z + 135 + 0), .int (-2)])) (show (0 : Int32) + 3 = 3 by decide)) ?_
  refine va_sld hx hb hX hbl hbA hS (gb_in rfl) dL_law_627 ?_
  refine lv_aload_n hx hb dL_law_628 rfl (lv_at hl 3 rfl) ?_
  refine lv_iload_n hx hb dL_law_629 rfl (lv_at hl 0 rfl) ?_
  refine lv_iconst (v := 4) hx hb dL_law_630 (by decide) ?_
  refine lv_iadd hx hb dL_law_631 ?_
  refine W.eq (g2 := F0 m 632 ls [.int 4, .ref b, .int (xs (Int32.toNatClampNeg 3)), .int (xs (Int32.toNatClampNeg 2)), .int (xs (Int32.toNatClampNeg 1)), .ref (z + 135 + 0), .int (-2)]) (congrArg (fun v => F0 m 632 ls (Value.int v :: [.ref b, .int (xs (Int32.toNatClampNeg 3)), .int (xs (Int32.toNatClampNeg 2)), .int (xs (Int32.toNatClampNeg 1)), .ref (z + 135 + 0), .int (-2)])) (show (0 : Int32) + 4 = 4 by decide)) ?_
  refine va_sld hx hb hX hbl hbA hS (gb_in rfl) dL_law_632 ?_
  refine lv_aload_n hx hb dL_law_633 rfl (lv_at hl 3 rfl) ?_
  refine lv_iload_n hx hb dL_law_634 rfl (lv_at hl 0 rfl) ?_
  refine lv_iconst (v := 5) hx hb dL_law_635 (by decide) ?_
  refine lv_iadd hx hb dL_law_636 ?_
  refine W.eq (g2 := F0 m 637 ls [.int 5, .ref b, .int (xs (Int32.toNatClampNeg 4)), .int (xs (Int32.toNatClampNeg 3)), .int (xs (Int32.toNatClampNeg 2)), .int (xs (Int32.toNatClampNeg 1)), .ref (z + 135 + 0), .int (-2)]) (congrArg (fun v => F0 m 637 ls (Value.int v :: [.ref b, .int (xs (Int32.toNatClampNeg 4)), .int (xs (Int32.toNatClampNeg 3)), .int (xs (Int32.toNatClampNeg 2)), .int (xs (Int32.toNatClampNeg 1)), .ref (z + 135 + 0), .int (-2)])) (show (0 : Int32) + 5 = 5 by decide)) ?_
  refine va_sld hx hb hX hbl hbA hS (gb_in rfl) dL_law_637 ?_
  refine gb_calli (va_runV (C := RX12) (As := [.int (xs (Int32.toNatClampNeg 1)), .int (xs (Int32.toNatClampNeg 2)), .int (xs (Int32.toNatClampNeg 3)), .int (xs (Int32.toNatClampNeg 4)), .int (xs (Int32.toNatClampNeg 5))]) (rest := [.int (-2)]) ⟨hx, hb, hml, hown, hq⟩ (a_X12_path l D cT tt z (z + 135) (Nat.le_add_right z 135) (xs (Int32.toNatClampNeg 1)) (xs (Int32.toNatClampNeg 2)) (xs (Int32.toNatClampNeg 3)) (xs (Int32.toNatClampNeg 4)) (xs (Int32.toNatClampNeg 5))) (cwV 5 hq (gb_gV w_1472 w_1473 w_1474 w_14 w_1475) rfl rfl rfl (by decide +kernel) ⟨Nat.le_of_ble_eq_true rfl, Nat.le_of_ble_eq_true rfl⟩) (gb_preV (r := (RX12, TX12, 44)) (ci := 10) (q0 := 0) hSt hPm rfl (gb_at (z + 135) rfl) hS (fun q h => h) hPm) rfl rfl hl.1 rfl (lv_room (Nat.le_of_ble_eq_true rfl)) dL_law_638 ⟨Nat.le_of_ble_eq_true rfl, Nat.le_of_ble_eq_true rfl⟩) hS (fun q h => Nat.le_trans (Nat.le_add_right z 135) h.1) (fun q h => Nat.le_trans (Nat.le_add_right z 135) h.1) (fun r H locs hY hk hS => ?_)
  subst hY
  refine lv_icmp_eq (tgt := 1891) hx hb dL_law_641 (by decide) (fun _ => ?_) (fun hc => absurd rfl hc)
  exact law_end C1 hzz hS (lv_sub hl [0, 3] rfl)
theorem dL_law_646 : decode cL_law 646 = .ok (.aload_n 1, 1) := by decide +kernel
theorem dL_law_647 : decode cL_law 647 = .ok (.aload_n 0, 1) := by decide +kernel
theorem dL_law_648 : decode cL_law 648 = .ok (.iload_n 3, 1) := by decide +kernel
theorem dL_law_649 : decode cL_law 649 = .ok (.iconst 1, 1) := by decide +kernel
theorem dL_law_650 : decode cL_law 650 = .ok (.iadd, 1) := by decide +kernel
theorem dL_law_651 : decode cL_law 651 = .ok (.iaload, 1) := by decide +kernel
theorem dL_law_652 : decode cL_law 652 = .ok (.aload_n 0, 1) := by decide +kernel
theorem dL_law_653 : decode cL_law 653 = .ok (.iload_n 3, 1) := by decide +kernel
theorem dL_law_654 : decode cL_law 654 = .ok (.iconst 2, 1) := by decide +kernel
theorem dL_law_655 : decode cL_law 655 = .ok (.iadd, 1) := by decide +kernel
theorem dL_law_656 : decode cL_law 656 = .ok (.iaload, 1) := by decide +kernel
theorem dL_law_657 : decode cL_law 657 = .ok (.aload_n 0, 1) := by decide +kernel
theorem dL_law_658 : decode cL_law 658 = .ok (.iload_n 3, 1) := by decide +kernel
theorem dL_law_659 : decode cL_law 659 = .ok (.iconst 3, 1) := by decide +kernel
theorem dL_law_660 : decode cL_law 660 = .ok (.iadd, 1) := by decide +kernel
theorem dL_law_661 : decode cL_law 661 = .ok (.iaload, 1) := by decide +kernel
theorem dL_law_662 : decode cL_law 662 = .ok (.aload_n 0, 1) := by decide +kernel
theorem dL_law_663 : decode cL_law 663 = .ok (.iload_n 3, 1) := by decide +kernel
theorem dL_law_664 : decode cL_law 664 = .ok (.iconst 4, 1) := by decide +kernel
theorem dL_law_665 : decode cL_law 665 = .ok (.iadd, 1) := by decide +kernel
theorem dL_law_666 : decode cL_law 666 = .ok (.iaload, 1) := by decide +kernel
theorem dL_law_667 : decode cL_law 667 = .ok (.invokevirtual 58, 3) := by decide +kernel
theorem w_792 : (Cond.methodLink "GooseBorderLaw" (58 : Nat) ({ cls := "GooseBorder", name := "state", desc := "(IIII)I" } : MethodName)) ∈ gb_wA := gb_t4 72 rfl rfl
theorem w_793 : (Cond.instanceMethod ({ cls := "GooseBorder", name := "state", desc := "(IIII)I" } : MethodName)) ∈ gb_wA := gb_t4 73 rfl rfl
theorem w_794 : (Cond.selects "GooseBorder" ({ cls := "GooseBorder", name := "state", desc := "(IIII)I" } : MethodName) ({ cls := "GooseBorder", name := "state", desc := "(IIII)I" } : MethodName)) ∈ gb_wA := gb_t4 74 rfl rfl
theorem w_795 : (Cond.code ({ cls := "GooseBorder", name := "state", desc := "(IIII)I" } : MethodName) prog_1_method_23_code (6 : Nat) (Option.some FieldType.int)) ∈ gb_wA := gb_t4 75 rfl rfl
theorem dL_law_670 : decode cL_law 670 = .ok (.aload_n 2, 1) := by decide +kernel
theorem dL_law_671 : decode cL_law 671 = .ok (.aload_n 0, 1) := by decide +kernel
theorem dL_law_672 : decode cL_law 672 = .ok (.iload_n 3, 1) := by decide +kernel
theorem dL_law_673 : decode cL_law 673 = .ok (.iconst 1, 1) := by decide +kernel
theorem dL_law_674 : decode cL_law 674 = .ok (.iadd, 1) := by decide +kernel
theorem dL_law_675 : decode cL_law 675 = .ok (.iaload, 1) := by decide +kernel
theorem dL_law_676 : decode cL_law 676 = .ok (.aload_n 0, 1) := by decide +kernel
theorem dL_law_677 : decode cL_law 677 = .ok (.iload_n 3, 1) := by decide +kernel
theorem dL_law_678 : decode cL_law 678 = .ok (.iconst 2, 1) := by decide +kernel
theorem dL_law_679 : decode cL_law 679 = .ok (.iadd, 1) := by decide +kernel
theorem dL_law_680 : decode cL_law 680 = .ok (.iaload, 1) := by decide +kernel
theorem dL_law_681 : decode cL_law 681 = .ok (.aload_n 0, 1) := by decide +kernel
theorem dL_law_682 : decode cL_law 682 = .ok (.iload_n 3, 1) := by decide +kernel
theorem dL_law_683 : decode cL_law 683 = .ok (.iconst 3, 1) := by decide +kernel
theorem dL_law_684 : decode cL_law 684 = .ok (.iadd, 1) := by decide +kernel
theorem dL_law_685 : decode cL_law 685 = .ok (.iaload, 1) := by decide +kernel
theorem dL_law_686 : decode cL_law 686 = .ok (.aload_n 0, 1) := by decide +kernel
theorem dL_law_687 : decode cL_law 687 = .ok (.iload_n 3, 1) := by decide +kernel
theorem dL_law_688 : decode cL_law 688 = .ok (.iconst 4, 1) := by decide +kernel
theorem dL_law_689 : decode cL_law 689 = .ok (.iadd, 1) := by decide +kernel
theorem dL_law_690 : decode cL_law 690 = .ok (.iaload, 1) := by decide +kernel
theorem dL_law_691 : decode cL_law 691 = .ok (.invokevirtual 62, 3) := by decide +kernel
theorem w_1488 : (Cond.methodLink "GooseBorderLaw" (62 : Nat) ({ cls := "GooseBorderModel", name := "state", desc := "(IIII)I" } : MethodName)) ∈ gb_wA := gb_t7 48 rfl rfl
theorem w_1489 : (Cond.instanceMethod ({ cls := "GooseBorderModel", name := "state", desc := "(IIII)I" } : MethodName)) ∈ gb_wA := gb_t7 49 rfl rfl
theorem w_1490 : (Cond.selects "GooseBorderModel" ({ cls := "GooseBorderModel", name := "state", desc := "(IIII)I" } : MethodName) ({ cls := "GooseBorderModel", name := "state", desc := "(IIII)I" } : MethodName)) ∈ gb_wA := gb_t7 50 rfl rfl
theorem w_1491 : (Cond.code ({ cls := "GooseBorderModel", name := "state", desc := "(IIII)I" } : MethodName) prog_14_method_64_code (8 : Nat) (Option.some FieldType.int)) ∈ gb_wA := gb_t7 51 rfl rfl
theorem dL_law_694 : decode cL_law 694 = .ok (.if_icmp .eq 1197, 3) := by decide +kernel
set_option maxHeartbeats 4000000 in
set_option maxRecDepth 100000 in
theorem law_c10 {p : Program} {l : Launch} {e : Env} {s : State} {m : MethodId} {below : List Frame} {meth : Method} {c : Code} {b z : Nat} {xs : Nat → Int32} (C0 : lw_At p s m meth c b 6 xs) (hzz : Array.size s.heap = z) {D : va_G} {cT : Nat → ClassId} {tt : Nat → Nat} (hSt : gb_St D cT tt z s) {H : Heap} {locs : List Loc} {ls : Array Slot} (hPc : va_P D vwCl (gb_wl z (gb_C cT z)) H) (hPm : va_P D vwCl (gb_wl (z + 135) (gb_M cT (z + 135))) H) (hS : va_S (gb_ge z) s.heap H locs) (hl : lv_has ls 4 [(3, .int 0), (2, .ref (z + 135 + 0)), (1, .ref (z + 0)), (0, .ref b)]) : W p l e room_1 s m #[Value.ref b] below meth c H locs 157 10381 (lw_Z below #[Value.ref b] s) (F0 m 646 ls []) := by
  have C1 := C0
  obtain ⟨hx, hb, hr, hml, hown, hts, hX, hbl, hlocks, hgv⟩ := C0
  have hq : ∀ w ∈ gb_wA, w.before #[Value.ref b] s = true := fun w h => hts w (gb_wA_tbl w h)
  have hbA : ¬ gb_ge z b := Nat.not_le.mpr (by rw [← hzz]; exact hbl)
  refine lv_aload_n hx hb dL_law_646 rfl (lv_at hl 2 rfl) ?_
  refine lv_aload_n hx hb dL_law_647 rfl (lv_at hl 3 rfl) ?_
  refine lv_iload_n hx hb dL_law_648 rfl (lv_at hl 0 rfl) ?_
  refine lv_iconst (v := 1) hx hb dL_law_649 (by decide) ?_
  refine lv_iadd hx hb dL_law_650 ?_
  refine W.eq (g2 := F0 m 651 ls [.int 1, .ref b, .ref (z + 0)]) (congrArg (fun v => F0 m 651 ls (Value.int v :: [.ref b, .ref (z + 0)])) (show (0 : Int32) + 1 = 1 by decide)) ?_
  refine va_sld hx hb hX hbl hbA hS (gb_in rfl) dL_law_651 ?_
  refine lv_aload_n hx hb dL_law_652 rfl (lv_at hl 3 rfl) ?_
  refine lv_iload_n hx hb dL_law_653 rfl (lv_at hl 0 rfl) ?_
  refine lv_iconst (v := 2) hx hb dL_law_654 (by decide) ?_
  refine lv_iadd hx hb dL_law_655 ?_
  refine W.eq (g2 := F0 m 656 ls [.int 2, .ref b, .int (xs (Int32.toNatClampNeg 1)), .ref (z + 0)]) (congrArg (fun v => F0 m 656 ls (Value.int v :: [.ref b, .int (xs (Int32.toNatClampNeg 1)), .ref (z + 0)])) (show (0 : Int32) + 2 = 2 by decide)) ?_
  refine va_sld hx hb hX hbl hbA hS (gb_in rfl) dL_law_656 ?_
  refine lv_aload_n hx hb dL_law_657 rfl (lv_at hl 3 rfl) ?_
  refine lv_iload_n hx hb dL_law_658 rfl (lv_at hl 0 rfl) ?_
  refine lv_iconst (v := 3) hx hb dL_law_659 (by decide) ?_
  refine lv_iadd hx hb dL_law_660 ?_
  refine W.eq (g2 := F0 m 661 ls [.int 3, .ref b, .int (xs (Int32.toNatClampNeg 2)), .int (xs (Int32.toNatClampNeg 1)), .ref (z + 0)]) (congrArg (fun v => F0 m 661 ls (Value.int v :: [.ref b, .int (xs (Int32.toNatClampNeg 2)), .int (xs (Int32.toNatClampNeg 1)), .ref (z + 0)])) (show (0 : Int32) + 3 = 3 by decide)) ?_
  refine va_sld hx hb hX hbl hbA hS (gb_in rfl) dL_law_661 ?_
  refine lv_aload_n hx hb dL_law_662 rfl (lv_at hl 3 rfl) ?_
  refine lv_iload_n hx hb dL_law_663 rfl (lv_at hl 0 rfl) ?_
  refine lv_iconst (v := 4) hx hb dL_law_664 (by decide) ?_
  refine lv_iadd hx hb dL_law_665 ?_
  refine W.eq (g2 := F0 m 666 ls [.int 4, .ref b, .int (xs (Int32.toNatClampNeg 3)), .int (xs (Int32.toNatClampNeg 2)), .int (xs (Int32.toNatClampNeg 1)), .ref (z + 0)]) (congrArg (fun v => F0 m 666 ls (Value.int v :: [.ref b, .int (xs (Int32.toNatClampNeg 3)), .int (xs (Int32.toNatClampNeg 2)), .int (xs (Int32.toNatClampNeg 1)), .ref (z + 0)])) (show (0 : Int32) + 4 = 4 by decide)) ?_
  refine va_sld hx hb hX hbl hbA hS (gb_in rfl) dL_law_666 ?_
  refine gb_calli (va_runV (C := RX11) (As := [.int (xs (Int32.toNatClampNeg 1)), .int (xs (Int32.toNatClampNeg 2)), .int (xs (Int32.toNatClampNeg 3)), .int (xs (Int32.toNatClampNeg 4))]) (rest := []) ⟨hx, hb, hml, hown, hq⟩ (a_X11_state l D cT tt z z (Nat.le_refl z) (xs (Int32.toNatClampNeg 1)) (xs (Int32.toNatClampNeg 2)) (xs (Int32.toNatClampNeg 3)) (xs (Int32.toNatClampNeg 4))) (cwV 4 hq (gb_gV w_792 w_793 w_794 w_1 w_795) rfl rfl rfl (by decide +kernel) ⟨Nat.le_of_ble_eq_true rfl, Nat.le_of_ble_eq_true rfl⟩) (gb_preV (r := (RX11, TX11, 10)) (ci := 9) (q0 := 0) hSt hPc rfl (gb_at z rfl) hS (fun q h => h) hPc) rfl rfl hl.1 rfl (lv_room (Nat.le_of_ble_eq_true rfl)) dL_law_667 ⟨Nat.le_of_ble_eq_true rfl, Nat.le_of_ble_eq_true rfl⟩) hS (fun q h => h.1) (fun q h => h.1) (fun r H locs hY hk hS => ?_)
  subst hY
  have hPm := gb_kept hPm (fun q h1 h2 => hk q (Nat.lt_of_lt_of_le h2 ((hPm 21 _ (gb_at (z + 135) rfl)).lt)) (fun h3 => Nat.not_lt.mpr h1 h3.2))
  refine lv_aload_n hx hb dL_law_670 rfl (lv_at hl 1 rfl) ?_
  refine lv_aload_n hx hb dL_law_671 rfl (lv_at hl 3 rfl) ?_
  refine lv_iload_n hx hb dL_law_672 rfl (lv_at hl 0 rfl) ?_
  refine lv_iconst (v := 1) hx hb dL_law_673 (by decide) ?_
  refine lv_iadd hx hb dL_law_674 ?_
  refine W.eq (g2 := F0 m 675 ls [.int 1, .ref b, .ref (z + 135 + 0), .int (-2)]) (congrArg (fun v => F0 m 675 ls (Value.int v :: [.ref b, .ref (z + 135 + 0), .int (-2)])) (show (0 : Int32) + 1 = 1 by decide)) ?_
  refine va_sld hx hb hX hbl hbA hS (gb_in rfl) dL_law_675 ?_
  refine lv_aload_n hx hb dL_law_676 rfl (lv_at hl 3 rfl) ?_
  refine lv_iload_n hx hb dL_law_677 rfl (lv_at hl 0 rfl) ?_
  refine lv_iconst (v := 2) hx hb dL_law_678 (by decide) ?_
  refine lv_iadd hx hb dL_law_679 ?_
  refine W.eq (g2 := F0 m 680 ls [.int 2, .ref b, .int (xs (Int32.toNatClampNeg 1)), .ref (z + 135 + 0), .int (-2)]) (congrArg (fun v => F0 m 680 ls (Value.int v :: [.ref b, .int (xs (Int32.toNatClampNeg 1)), .ref (z + 135 + 0), .int (-2)])) (show (0 : Int32) + 2 = 2 by decide)) ?_
  refine va_sld hx hb hX hbl hbA hS (gb_in rfl) dL_law_680 ?_
  refine lv_aload_n hx hb dL_law_681 rfl (lv_at hl 3 rfl) ?_
  refine lv_iload_n hx hb dL_law_682 rfl (lv_at hl 0 rfl) ?_
  refine lv_iconst (v := 3) hx hb dL_law_683 (by decide) ?_
  refine lv_iadd hx hb dL_law_684 ?_
  refine W.eq (g2 := F0 m 685 ls [.int 3, .ref b, .int (xs (Int32.toNatClampNeg 2)), .int (xs (Int32.toNatClampNeg 1)), .ref (z + 135 + 0), .int (-2)]) (congrArg (fun v => F0 m 685 ls (Value.int v :: [.ref b, .int (xs (Int32.toNatClampNeg 2)), .int (xs (Int32.toNatClampNeg 1)), .ref (z + 135 + 0), .int (-2)])) (show (0 : Int32) + 3 = 3 by decide)) ?_
  refine va_sld hx hb hX hbl hbA hS (gb_in rfl) dL_law_685 ?_
  refine lv_aload_n hx hb dL_law_686 rfl (lv_at hl 3 rfl) ?_
  refine lv_iload_n hx hb dL_law_687 rfl (lv_at hl 0 rfl) ?_
  refine lv_iconst (v := 4) hx hb dL_law_688 (by decide) ?_
  refine lv_iadd hx hb dL_law_689 ?_
  refine W.eq (g2 := F0 m 690 ls [.int 4, .ref b, .int (xs (Int32.toNatClampNeg 3)), .int (xs (Int32.toNatClampNeg 2)), .int (xs (Int32.toNatClampNeg 1)), .ref (z + 135 + 0), .int (-2)]) (congrArg (fun v => F0 m 690 ls (Value.int v :: [.ref b, .int (xs (Int32.toNatClampNeg 3)), .int (xs (Int32.toNatClampNeg 2)), .int (xs (Int32.toNatClampNeg 1)), .ref (z + 135 + 0), .int (-2)])) (show (0 : Int32) + 4 = 4 by decide)) ?_
  refine va_sld hx hb hX hbl hbA hS (gb_in rfl) dL_law_690 ?_
  refine gb_calli (va_runV (C := RX12) (As := [.int (xs (Int32.toNatClampNeg 1)), .int (xs (Int32.toNatClampNeg 2)), .int (xs (Int32.toNatClampNeg 3)), .int (xs (Int32.toNatClampNeg 4))]) (rest := [.int (-2)]) ⟨hx, hb, hml, hown, hq⟩ (a_X12_state l D cT tt z (z + 135) (Nat.le_add_right z 135) (xs (Int32.toNatClampNeg 1)) (xs (Int32.toNatClampNeg 2)) (xs (Int32.toNatClampNeg 3)) (xs (Int32.toNatClampNeg 4))) (cwV 4 hq (gb_gV w_1488 w_1489 w_1490 w_14 w_1491) rfl rfl rfl (by decide +kernel) ⟨Nat.le_of_ble_eq_true rfl, Nat.le_of_ble_eq_true rfl⟩) (gb_preV (r := (RX12, TX12, 44)) (ci := 10) (q0 := 0) hSt hPm rfl (gb_at (z + 135) rfl) hS (fun q h => h) hPm) rfl rfl hl.1 rfl (lv_room (Nat.le_of_ble_eq_true rfl)) dL_law_691 ⟨Nat.le_of_ble_eq_true rfl, Nat.le_of_ble_eq_true rfl⟩) hS (fun q h => Nat.le_trans (Nat.le_add_right z 135) h.1) (fun q h => Nat.le_trans (Nat.le_add_right z 135) h.1) (fun r H locs hY hk hS => ?_)
  subst hY
  refine lv_icmp_eq (tgt := 1891) hx hb dL_law_694 (by decide) (fun _ => ?_) (fun hc => absurd rfl hc)
  exact law_end C1 hzz hS (lv_sub hl [0, 3] rfl)
theorem dL_law_699 : decode cL_law 699 = .ok (.aload_n 1, 1) := by decide +kernel
theorem dL_law_700 : decode cL_law 700 = .ok (.aload_n 0, 1) := by decide +kernel
theorem dL_law_701 : decode cL_law 701 = .ok (.iload_n 3, 1) := by decide +kernel
theorem dL_law_702 : decode cL_law 702 = .ok (.iconst 1, 1) := by decide +kernel
theorem dL_law_703 : decode cL_law 703 = .ok (.iadd, 1) := by decide +kernel
theorem dL_law_704 : decode cL_law 704 = .ok (.iaload, 1) := by decide +kernel
theorem dL_law_705 : decode cL_law 705 = .ok (.aload_n 0, 1) := by decide +kernel
theorem dL_law_706 : decode cL_law 706 = .ok (.iload_n 3, 1) := by decide +kernel
theorem dL_law_707 : decode cL_law 707 = .ok (.iconst 2, 1) := by decide +kernel
theorem dL_law_708 : decode cL_law 708 = .ok (.iadd, 1) := by decide +kernel
theorem dL_law_709 : decode cL_law 709 = .ok (.iaload, 1) := by decide +kernel
theorem dL_law_710 : decode cL_law 710 = .ok (.aload_n 0, 1) := by decide +kernel
theorem dL_law_711 : decode cL_law 711 = .ok (.iload_n 3, 1) := by decide +kernel
theorem dL_law_712 : decode cL_law 712 = .ok (.iconst 3, 1) := by decide +kernel
theorem dL_law_713 : decode cL_law 713 = .ok (.iadd, 1) := by decide +kernel
theorem dL_law_714 : decode cL_law 714 = .ok (.iaload, 1) := by decide +kernel
theorem dL_law_715 : decode cL_law 715 = .ok (.invokevirtual 63, 3) := by decide +kernel
theorem w_655 : (Cond.methodLink "GooseBorderLaw" (63 : Nat) ({ cls := "GooseBorder", name := "term", desc := "(III)I" } : MethodName)) ∈ gb_wA := gb_t3 175 rfl rfl
theorem w_656 : (Cond.instanceMethod ({ cls := "GooseBorder", name := "term", desc := "(III)I" } : MethodName)) ∈ gb_wA := gb_t3 176 rfl rfl
theorem w_657 : (Cond.selects "GooseBorder" ({ cls := "GooseBorder", name := "term", desc := "(III)I" } : MethodName) ({ cls := "GooseBorder", name := "term", desc := "(III)I" } : MethodName)) ∈ gb_wA := gb_t3 177 rfl rfl
theorem w_658 : (Cond.code ({ cls := "GooseBorder", name := "term", desc := "(III)I" } : MethodName) prog_1_method_12_code (5 : Nat) (Option.some FieldType.int)) ∈ gb_wA := gb_t3 178 rfl rfl
theorem dL_law_718 : decode cL_law 718 = .ok (.aload_n 2, 1) := by decide +kernel
theorem dL_law_719 : decode cL_law 719 = .ok (.aload_n 0, 1) := by decide +kernel
theorem dL_law_720 : decode cL_law 720 = .ok (.iload_n 3, 1) := by decide +kernel
theorem dL_law_721 : decode cL_law 721 = .ok (.iconst 1, 1) := by decide +kernel
theorem dL_law_722 : decode cL_law 722 = .ok (.iadd, 1) := by decide +kernel
theorem dL_law_723 : decode cL_law 723 = .ok (.iaload, 1) := by decide +kernel
theorem dL_law_724 : decode cL_law 724 = .ok (.aload_n 0, 1) := by decide +kernel
theorem dL_law_725 : decode cL_law 725 = .ok (.iload_n 3, 1) := by decide +kernel
theorem dL_law_726 : decode cL_law 726 = .ok (.iconst 2, 1) := by decide +kernel
theorem dL_law_727 : decode cL_law 727 = .ok (.iadd, 1) := by decide +kernel
theorem dL_law_728 : decode cL_law 728 = .ok (.iaload, 1) := by decide +kernel
theorem dL_law_729 : decode cL_law 729 = .ok (.aload_n 0, 1) := by decide +kernel
theorem dL_law_730 : decode cL_law 730 = .ok (.iload_n 3, 1) := by decide +kernel
theorem dL_law_731 : decode cL_law 731 = .ok (.iconst 3, 1) := by decide +kernel
theorem dL_law_732 : decode cL_law 732 = .ok (.iadd, 1) := by decide +kernel
theorem dL_law_733 : decode cL_law 733 = .ok (.iaload, 1) := by decide +kernel
theorem dL_law_734 : decode cL_law 734 = .ok (.invokevirtual 66, 3) := by decide +kernel
theorem w_1500 : (Cond.methodLink "GooseBorderLaw" (66 : Nat) ({ cls := "GooseBorderModel", name := "term", desc := "(III)I" } : MethodName)) ∈ gb_wA := gb_t7 60 rfl rfl
theorem w_1501 : (Cond.instanceMethod ({ cls := "GooseBorderModel", name := "term", desc := "(III)I" } : MethodName)) ∈ gb_wA := gb_t7 61 rfl rfl
theorem w_1502 : (Cond.selects "GooseBorderModel" ({ cls := "GooseBorderModel", name := "term", desc := "(III)I" } : MethodName) ({ cls := "GooseBorderModel", name := "term", desc := "(III)I" } : MethodName)) ∈ gb_wA := gb_t7 62 rfl rfl
theorem w_1503 : (Cond.code ({ cls := "GooseBorderModel", name := "term", desc := "(III)I" } : MethodName) prog_14_method_66_code (4 : Nat) (Option.some FieldType.int)) ∈ gb_wA := gb_t7 63 rfl rfl
theorem dL_law_737 : decode cL_law 737 = .ok (.if_icmp .eq 1154, 3) := by decide +kernel
set_option maxHeartbeats 4000000 in
set_option maxRecDepth 100000 in
theorem law_c11 {p : Program} {l : Launch} {e : Env} {s : State} {m : MethodId} {below : List Frame} {meth : Method} {c : Code} {b z : Nat} {xs : Nat → Int32} (C0 : lw_At p s m meth c b 6 xs) (hzz : Array.size s.heap = z) {D : va_G} {cT : Nat → ClassId} {tt : Nat → Nat} (hSt : gb_St D cT tt z s) {H : Heap} {locs : List Loc} {ls : Array Slot} (hPc : va_P D vwCl (gb_wl z (gb_C cT z)) H) (hPm : va_P D vwCl (gb_wl (z + 135) (gb_M cT (z + 135))) H) (hS : va_S (gb_ge z) s.heap H locs) (hl : lv_has ls 4 [(3, .int 0), (2, .ref (z + 135 + 0)), (1, .ref (z + 0)), (0, .ref b)]) : W p l e room_1 s m #[Value.ref b] below meth c H locs 157 10381 (lw_Z below #[Value.ref b] s) (F0 m 699 ls []) := by
  have C1 := C0
  obtain ⟨hx, hb, hr, hml, hown, hts, hX, hbl, hlocks, hgv⟩ := C0
  have hq : ∀ w ∈ gb_wA, w.before #[Value.ref b] s = true := fun w h => hts w (gb_wA_tbl w h)
  have hbA : ¬ gb_ge z b := Nat.not_le.mpr (by rw [← hzz]; exact hbl)
  refine lv_aload_n hx hb dL_law_699 rfl (lv_at hl 2 rfl) ?_
  refine lv_aload_n hx hb dL_law_700 rfl (lv_at hl 3 rfl) ?_
  refine lv_iload_n hx hb dL_law_701 rfl (lv_at hl 0 rfl) ?_
  refine lv_iconst (v := 1) hx hb dL_law_702 (by decide) ?_
  refine lv_iadd hx hb dL_law_703 ?_
  refine W.eq (g2 := F0 m 704 ls [.int 1, .ref b, .ref (z + 0)]) (congrArg (fun v => F0 m 704 ls (Value.int v :: [.ref b, .ref (z + 0)])) (show (0 : Int32) + 1 = 1 by decide)) ?_
  refine va_sld hx hb hX hbl hbA hS (gb_in rfl) dL_law_704 ?_
  refine lv_aload_n hx hb dL_law_705 rfl (lv_at hl 3 rfl) ?_
  refine lv_iload_n hx hb dL_law_706 rfl (lv_at hl 0 rfl) ?_
  refine lv_iconst (v := 2) hx hb dL_law_707 (by decide) ?_
  refine lv_iadd hx hb dL_law_708 ?_
  refine W.eq (g2 := F0 m 709 ls [.int 2, .ref b, .int (xs (Int32.toNatClampNeg 1)), .ref (z + 0)]) (congrArg (fun v => F0 m 709 ls (Value.int v :: [.ref b, .int (xs (Int32.toNatClampNeg 1)), .ref (z + 0)])) (show (0 : Int32) + 2 = 2 by decide)) ?_
  refine va_sld hx hb hX hbl hbA hS (gb_in rfl) dL_law_709 ?_
  refine lv_aload_n hx hb dL_law_710 rfl (lv_at hl 3 rfl) ?_
  refine lv_iload_n hx hb dL_law_711 rfl (lv_at hl 0 rfl) ?_
  refine lv_iconst (v := 3) hx hb dL_law_712 (by decide) ?_
  refine lv_iadd hx hb dL_law_713 ?_
  refine W.eq (g2 := F0 m 714 ls [.int 3, .ref b, .int (xs (Int32.toNatClampNeg 2)), .int (xs (Int32.toNatClampNeg 1)), .ref (z + 0)]) (congrArg (fun v => F0 m 714 ls (Value.int v :: [.ref b, .int (xs (Int32.toNatClampNeg 2)), .int (xs (Int32.toNatClampNeg 1)), .ref (z + 0)])) (show (0 : Int32) + 3 = 3 by decide)) ?_
  refine va_sld hx hb hX hbl hbA hS (gb_in rfl) dL_law_714 ?_
  refine gb_calli (va_runV (C := RX11) (As := [.int (xs (Int32.toNatClampNeg 1)), .int (xs (Int32.toNatClampNeg 2)), .int (xs (Int32.toNatClampNeg 3))]) (rest := []) ⟨hx, hb, hml, hown, hq⟩ (a_X11_term l D cT tt z z (Nat.le_refl z) (xs (Int32.toNatClampNeg 1)) (xs (Int32.toNatClampNeg 2)) (xs (Int32.toNatClampNeg 3))) (cwV 3 hq (gb_gV w_655 w_656 w_657 w_1 w_658) rfl rfl rfl (by decide +kernel) ⟨Nat.le_of_ble_eq_true rfl, Nat.le_of_ble_eq_true rfl⟩) (gb_preV (r := (RX11, TX11, 10)) (ci := 9) (q0 := 0) hSt hPc rfl (gb_at z rfl) hS (fun q h => h) hPc) rfl rfl hl.1 rfl (lv_room (Nat.le_of_ble_eq_true rfl)) dL_law_715 ⟨Nat.le_of_ble_eq_true rfl, Nat.le_of_ble_eq_true rfl⟩) hS (fun q h => h.1) (fun q h => h.1) (fun r H locs hY hk hS => ?_)
  subst hY
  have hPm := gb_kept hPm (fun q h1 h2 => hk q (Nat.lt_of_lt_of_le h2 ((hPm 21 _ (gb_at (z + 135) rfl)).lt)) (fun h3 => Nat.not_lt.mpr h1 h3.2))
  refine lv_aload_n hx hb dL_law_718 rfl (lv_at hl 1 rfl) ?_
  refine lv_aload_n hx hb dL_law_719 rfl (lv_at hl 3 rfl) ?_
  refine lv_iload_n hx hb dL_law_720 rfl (lv_at hl 0 rfl) ?_
  refine lv_iconst (v := 1) hx hb dL_law_721 (by decide) ?_
  refine lv_iadd hx hb dL_law_722 ?_
  refine W.eq (g2 := F0 m 723 ls [.int 1, .ref b, .ref (z + 135 + 0), .int (-2)]) (congrArg (fun v => F0 m 723 ls (Value.int v :: [.ref b, .ref (z + 135 + 0), .int (-2)])) (show (0 : Int32) + 1 = 1 by decide)) ?_
  refine va_sld hx hb hX hbl hbA hS (gb_in rfl) dL_law_723 ?_
  refine lv_aload_n hx hb dL_law_724 rfl (lv_at hl 3 rfl) ?_
  refine lv_iload_n hx hb dL_law_725 rfl (lv_at hl 0 rfl) ?_
  refine lv_iconst (v := 2) hx hb dL_law_726 (by decide) ?_
  refine lv_iadd hx hb dL_law_727 ?_
  refine W.eq (g2 := F0 m 728 ls [.int 2, .ref b, .int (xs (Int32.toNatClampNeg 1)), .ref (z + 135 + 0), .int (-2)]) (congrArg (fun v => F0 m 728 ls (Value.int v :: [.ref b, .int (xs (Int32.toNatClampNeg 1)), .ref (z + 135 + 0), .int (-2)])) (show (0 : Int32) + 2 = 2 by decide)) ?_
  refine va_sld hx hb hX hbl hbA hS (gb_in rfl) dL_law_728 ?_
  refine lv_aload_n hx hb dL_law_729 rfl (lv_at hl 3 rfl) ?_
  refine lv_iload_n hx hb dL_law_730 rfl (lv_at hl 0 rfl) ?_
  refine lv_iconst (v := 3) hx hb dL_law_731 (by decide) ?_
  refine lv_iadd hx hb dL_law_732 ?_
  refine W.eq (g2 := F0 m 733 ls [.int 3, .ref b, .int (xs (Int32.toNatClampNeg 2)), .int (xs (Int32.toNatClampNeg 1)), .ref (z + 135 + 0), .int (-2)]) (congrArg (fun v => F0 m 733 ls (Value.int v :: [.ref b, .int (xs (Int32.toNatClampNeg 2)), .int (xs (Int32.toNatClampNeg 1)), .ref (z + 135 + 0), .int (-2)])) (show (0 : Int32) + 3 = 3 by decide)) ?_
  refine va_sld hx hb hX hbl hbA hS (gb_in rfl) dL_law_733 ?_
  refine gb_calli (va_runV (C := RX12) (As := [.int (xs (Int32.toNatClampNeg 1)), .int (xs (Int32.toNatClampNeg 2)), .int (xs (Int32.toNatClampNeg 3))]) (rest := [.int (-2)]) ⟨hx, hb, hml, hown, hq⟩ (a_X12_term l D cT tt z (z + 135) (Nat.le_add_right z 135) (xs (Int32.toNatClampNeg 1)) (xs (Int32.toNatClampNeg 2)) (xs (Int32.toNatClampNeg 3))) (cwV 3 hq (gb_gV w_1500 w_1501 w_1502 w_14 w_1503) rfl rfl rfl (by decide +kernel) ⟨Nat.le_of_ble_eq_true rfl, Nat.le_of_ble_eq_true rfl⟩) (gb_preV (r := (RX12, TX12, 44)) (ci := 10) (q0 := 0) hSt hPm rfl (gb_at (z + 135) rfl) hS (fun q h => h) hPm) rfl rfl hl.1 rfl (lv_room (Nat.le_of_ble_eq_true rfl)) dL_law_734 ⟨Nat.le_of_ble_eq_true rfl, Nat.le_of_ble_eq_true rfl⟩) hS (fun q h => Nat.le_trans (Nat.le_add_right z 135) h.1) (fun q h => Nat.le_trans (Nat.le_add_right z 135) h.1) (fun r H locs hY hk hS => ?_)
  subst hY
  refine lv_icmp_eq (tgt := 1891) hx hb dL_law_737 (by decide) (fun _ => ?_) (fun hc => absurd rfl hc)
  exact law_end C1 hzz hS (lv_sub hl [0, 3] rfl)
