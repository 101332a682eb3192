theorem dL_law_1578 : decode cL_law 1578 = .ok (.aload_n 1, 1) := dc_43 (dc_cut (j := 42) (n := 1) (l := [43]) dq_cL_law_1536 (by decide +kernel) (by decide))
theorem dL_law_1579 : decode cL_law 1579 = .ok (.aload_n 0, 1) := dc_42 (dc_cut (j := 43) (n := 1) (l := [42]) dq_cL_law_1536 (by decide +kernel) (by decide))
theorem dL_law_1580 : decode cL_law 1580 = .ok (.iload_n 3, 1) := dc_29 (dc_cut (j := 44) (n := 1) (l := [29]) dq_cL_law_1536 (by decide +kernel) (by decide))
theorem dL_law_1581 : decode cL_law 1581 = .ok (.iconst 1, 1) := dc_4 (dc_cut (j := 45) (n := 1) (l := [4]) dq_cL_law_1536 (by decide +kernel) (by decide))
theorem dL_law_1582 : decode cL_law 1582 = .ok (.iadd, 1) := dc_96 (dc_cut (j := 46) (n := 1) (l := [96]) dq_cL_law_1536 (by decide +kernel) (by decide))
theorem dL_law_1583 : decode cL_law 1583 = .ok (.iaload, 1) := dc_46 (dc_cut (j := 47) (n := 1) (l := [46]) dq_cL_law_1536 (by decide +kernel) (by decide))
theorem dL_law_1584 : decode cL_law 1584 = .ok (.aload_n 0, 1) := dc_42 (dc_cut (j := 48) (n := 1) (l := [42]) dq_cL_law_1536 (by decide +kernel) (by decide))
theorem dL_law_1585 : decode cL_law 1585 = .ok (.iload_n 3, 1) := dc_29 (dc_cut (j := 49) (n := 1) (l := [29]) dq_cL_law_1536 (by decide +kernel) (by decide))
theorem dL_law_1586 : decode cL_law 1586 = .ok (.iconst 2, 1) := dc_5 (dc_cut (j := 50) (n := 1) (l := [5]) dq_cL_law_1536 (by decide +kernel) (by decide))
theorem dL_law_1587 : decode cL_law 1587 = .ok (.iadd, 1) := dc_96 (dc_cut (j := 51) (n := 1) (l := [96]) dq_cL_law_1536 (by decide +kernel) (by decide))
theorem dL_law_1588 : decode cL_law 1588 = .ok (.iaload, 1) := dc_46 (dc_cut (j := 52) (n := 1) (l := [46]) dq_cL_law_1536 (by decide +kernel) (by decide))
theorem dL_law_1589 : decode cL_law 1589 = .ok (.aload_n 0, 1) := dc_42 (dc_cut (j := 53) (n := 1) (l := [42]) dq_cL_law_1536 (by decide +kernel) (by decide))
theorem dL_law_1590 : decode cL_law 1590 = .ok (.iload_n 3, 1) := dc_29 (dc_cut (j := 54) (n := 1) (l := [29]) dq_cL_law_1536 (by decide +kernel) (by decide))
theorem dL_law_1591 : decode cL_law 1591 = .ok (.iconst 3, 1) := dc_6 (dc_cut (j := 55) (n := 1) (l := [6]) dq_cL_law_1536 (by decide +kernel) (by decide))
theorem dL_law_1592 : decode cL_law 1592 = .ok (.iadd, 1) := dc_96 (dc_cut (j := 56) (n := 1) (l := [96]) dq_cL_law_1536 (by decide +kernel) (by decide))
theorem dL_law_1593 : decode cL_law 1593 = .ok (.iaload, 1) := dc_46 (dc_cut (j := 57) (n := 1) (l := [46]) dq_cL_law_1536 (by decide +kernel) (by decide))
theorem dL_law_1594 : decode cL_law 1594 = .ok (.aload_n 0, 1) := dc_42 (dc_cut (j := 58) (n := 1) (l := [42]) dq_cL_law_1536 (by decide +kernel) (by decide))
theorem dL_law_1595 : decode cL_law 1595 = .ok (.iload_n 3, 1) := dc_29 (dc_cut (j := 59) (n := 1) (l := [29]) dq_cL_law_1536 (by decide +kernel) (by decide))
theorem dL_law_1596 : decode cL_law 1596 = .ok (.iconst 4, 1) := dc_7 (dc_cut (j := 60) (n := 1) (l := [7]) dq_cL_law_1536 (by decide +kernel) (by decide))
theorem dL_law_1597 : decode cL_law 1597 = .ok (.iadd, 1) := dc_96 (dc_cut (j := 61) (n := 1) (l := [96]) dq_cL_law_1536 (by decide +kernel) (by decide))
theorem dL_law_1598 : decode cL_law 1598 = .ok (.iaload, 1) := dc_46 (dc_cut (j := 62) (n := 1) (l := [46]) dq_cL_law_1536 (by decide +kernel) (by decide))
theorem dL_law_1599 : decode cL_law 1599 = .ok (.ifCond .eq 7, 3) := dc_153 (dc_cut (j := 63) (n := 3) (l := [153, 0, 7]) dq_cL_law_1536 (by decide +kernel) (by decide)) rfl
theorem dq_cL_law_1600 : ((cL_law.data.toList.drop 1600).take 67).map UInt8.toNat = [0, 7, 4, 167, 0, 4, 3, 182, 0, 140, 87, 44, 42, 29, 4, 96, 46, 42, 29, 5, 96, 46, 42, 29, 6, 96, 46, 42, 29, 7, 96, 46, 153, 0, 7, 4, 167, 0, 4, 3, 182, 0, 143, 87, 167, 0, 246, 43, 42, 29, 4, 96, 46, 42, 29, 5, 96, 46, 153, 0, 7, 4, 167, 0, 4, 3, 182] := by decide +kernel
theorem dL_law_1606 : decode cL_law 1606 = .ok (.iconst 0, 1) := dc_3 (dc_cut (j := 6) (n := 1) (l := [3]) dq_cL_law_1600 (by decide +kernel) (by decide))
theorem dL_law_1607 : decode cL_law 1607 = .ok (.invokevirtual 140, 3) := dc_182 (dc_cut (j := 7) (n := 3) (l := [182, 0, 140]) dq_cL_law_1600 (by decide +kernel) (by decide)) rfl
theorem w_1005 : (Cond.methodLink "GooseBorderLaw" (140 : Nat) ({ cls := "GooseBorder", name := "backs", desc := "(IIIZ)I" } : MethodName)) ∈ gb_wA := gb_t5 45 rfl rfl
theorem w_1006 : (Cond.instanceMethod ({ cls := "GooseBorder", name := "backs", desc := "(IIIZ)I" } : MethodName)) ∈ gb_wA := gb_t5 46 rfl rfl
theorem w_1007 : (Cond.selects "GooseBorder" ({ cls := "GooseBorder", name := "backs", desc := "(IIIZ)I" } : MethodName) ({ cls := "GooseBorder", name := "backs", desc := "(IIIZ)I" } : MethodName)) ∈ gb_wA := gb_t5 47 rfl rfl
theorem w_1008 : (Cond.code ({ cls := "GooseBorder", name := "backs", desc := "(IIIZ)I" } : MethodName) prog_1_method_42_code (7 : Nat) (Option.some FieldType.int)) ∈ gb_wA := gb_t5 48 rfl rfl
theorem dL_law_1610 : decode cL_law 1610 = .ok (.pop, 1) := dc_87 (dc_cut (j := 10) (n := 1) (l := [87]) dq_cL_law_1600 (by decide +kernel) (by decide))
theorem dL_law_1611 : decode cL_law 1611 = .ok (.aload_n 2, 1) := dc_44 (dc_cut (j := 11) (n := 1) (l := [44]) dq_cL_law_1600 (by decide +kernel) (by decide))
theorem dL_law_1612 : decode cL_law 1612 = .ok (.aload_n 0, 1) := dc_42 (dc_cut (j := 12) (n := 1) (l := [42]) dq_cL_law_1600 (by decide +kernel) (by decide))
theorem dL_law_1613 : decode cL_law 1613 = .ok (.iload_n 3, 1) := dc_29 (dc_cut (j := 13) (n := 1) (l := [29]) dq_cL_law_1600 (by decide +kernel) (by decide))
theorem dL_law_1614 : decode cL_law 1614 = .ok (.iconst 1, 1) := dc_4 (dc_cut (j := 14) (n := 1) (l := [4]) dq_cL_law_1600 (by decide +kernel) (by decide))
theorem dL_law_1615 : decode cL_law 1615 = .ok (.iadd, 1) := dc_96 (dc_cut (j := 15) (n := 1) (l := [96]) dq_cL_law_1600 (by decide +kernel) (by decide))
theorem dL_law_1616 : decode cL_law 1616 = .ok (.iaload, 1) := dc_46 (dc_cut (j := 16) (n := 1) (l := [46]) dq_cL_law_1600 (by decide +kernel) (by decide))
theorem dL_law_1617 : decode cL_law 1617 = .ok (.aload_n 0, 1) := dc_42 (dc_cut (j := 17) (n := 1) (l := [42]) dq_cL_law_1600 (by decide +kernel) (by decide))
theorem dL_law_1618 : decode cL_law 1618 = .ok (.iload_n 3, 1) := dc_29 (dc_cut (j := 18) (n := 1) (l := [29]) dq_cL_law_1600 (by decide +kernel) (by decide))
theorem dL_law_1619 : decode cL_law 1619 = .ok (.iconst 2, 1) := dc_5 (dc_cut (j := 19) (n := 1) (l := [5]) dq_cL_law_1600 (by decide +kernel) (by decide))
theorem dL_law_1620 : decode cL_law 1620 = .ok (.iadd, 1) := dc_96 (dc_cut (j := 20) (n := 1) (l := [96]) dq_cL_law_1600 (by decide +kernel) (by decide))
theorem dL_law_1621 : decode cL_law 1621 = .ok (.iaload, 1) := dc_46 (dc_cut (j := 21) (n := 1) (l := [46]) dq_cL_law_1600 (by decide +kernel) (by decide))
theorem dL_law_1622 : decode cL_law 1622 = .ok (.aload_n 0, 1) := dc_42 (dc_cut (j := 22) (n := 1) (l := [42]) dq_cL_law_1600 (by decide +kernel) (by decide))
theorem dL_law_1623 : decode cL_law 1623 = .ok (.iload_n 3, 1) := dc_29 (dc_cut (j := 23) (n := 1) (l := [29]) dq_cL_law_1600 (by decide +kernel) (by decide))
theorem dL_law_1624 : decode cL_law 1624 = .ok (.iconst 3, 1) := dc_6 (dc_cut (j := 24) (n := 1) (l := [6]) dq_cL_law_1600 (by decide +kernel) (by decide))
theorem dL_law_1625 : decode cL_law 1625 = .ok (.iadd, 1) := dc_96 (dc_cut (j := 25) (n := 1) (l := [96]) dq_cL_law_1600 (by decide +kernel) (by decide))
theorem dL_law_1626 : decode cL_law 1626 = .ok (.iaload, 1) := dc_46 (dc_cut (j := 26) (n := 1) (l := [46]) dq_cL_law_1600 (by decide +kernel) (by decide))
theorem dL_law_1627 : decode cL_law 1627 = .ok (.aload_n 0, 1) := dc_42 (dc_cut (j := 27) (n := 1) (l := [42]) dq_cL_law_1600 (by decide +kernel) (by decide))
theorem dL_law_1628 : decode cL_law 1628 = .ok (.iload_n 3, 1) := dc_29 (dc_cut (j := 28) (n := 1) (l := [29]) dq_cL_law_1600 (by decide +kernel) (by decide))
theorem dL_law_1629 : decode cL_law 1629 = .ok (.iconst 4, 1) := dc_7 (dc_cut (j := 29) (n := 1) (l := [7]) dq_cL_law_1600 (by decide +kernel) (by decide))
theorem dL_law_1630 : decode cL_law 1630 = .ok (.iadd, 1) := dc_96 (dc_cut (j := 30) (n := 1) (l := [96]) dq_cL_law_1600 (by decide +kernel) (by decide))
theorem dL_law_1631 : decode cL_law 1631 = .ok (.iaload, 1) := dc_46 (dc_cut (j := 31) (n := 1) (l := [46]) dq_cL_law_1600 (by decide +kernel) (by decide))
theorem dL_law_1632 : decode cL_law 1632 = .ok (.ifCond .eq 7, 3) := dc_153 (dc_cut (j := 32) (n := 3) (l := [153, 0, 7]) dq_cL_law_1600 (by decide +kernel) (by decide)) rfl
theorem dL_law_1639 : decode cL_law 1639 = .ok (.iconst 0, 1) := dc_3 (dc_cut (j := 39) (n := 1) (l := [3]) dq_cL_law_1600 (by decide +kernel) (by decide))
theorem dL_law_1640 : decode cL_law 1640 = .ok (.invokevirtual 143, 3) := dc_182 (dc_cut (j := 40) (n := 3) (l := [182, 0, 143]) dq_cL_law_1600 (by decide +kernel) (by decide)) rfl
theorem w_1678 : (Cond.methodLink "GooseBorderLaw" (143 : Nat) ({ cls := "GooseBorderModel", name := "backs", desc := "(IIIZ)I" } : MethodName)) ∈ gb_wA := gb_t7 238 rfl rfl
theorem w_1679 : (Cond.instanceMethod ({ cls := "GooseBorderModel", name := "backs", desc := "(IIIZ)I" } : MethodName)) ∈ gb_wA := gb_t7 239 rfl rfl
theorem w_1680 : (Cond.selects "GooseBorderModel" ({ cls := "GooseBorderModel", name := "backs", desc := "(IIIZ)I" } : MethodName) ({ cls := "GooseBorderModel", name := "backs", desc := "(IIIZ)I" } : MethodName)) ∈ gb_wA := gb_t8 0 rfl rfl
theorem w_1681 : (Cond.code ({ cls := "GooseBorderModel", name := "backs", desc := "(IIIZ)I" } : MethodName) prog_14_method_108_code (9 : Nat) (Option.some FieldType.int)) ∈ gb_wA := gb_t8 1 rfl rfl
theorem dL_law_1643 : decode cL_law 1643 = .ok (.pop, 1) := dc_87 (dc_cut (j := 43) (n := 1) (l := [87]) dq_cL_law_1600 (by decide +kernel) (by decide))
theorem dL_law_1644 : decode cL_law 1644 = .ok (.goto 246, 3) := dc_167 (dc_cut (j := 44) (n := 3) (l := [167, 0, 246]) dq_cL_law_1600 (by decide +kernel) (by decide)) rfl
theorem dL_law_1602 : decode cL_law 1602 = .ok (.iconst 1, 1) := dc_4 (dc_cut (j := 2) (n := 1) (l := [4]) dq_cL_law_1600 (by decide +kernel) (by decide))
theorem dL_law_1603 : decode cL_law 1603 = .ok (.goto 4, 3) := dc_167 (dc_cut (j := 3) (n := 3) (l := [167, 0, 4]) dq_cL_law_1600 (by decide +kernel) (by decide)) rfl
theorem dL_law_1635 : decode cL_law 1635 = .ok (.iconst 1, 1) := dc_4 (dc_cut (j := 35) (n := 1) (l := [4]) dq_cL_law_1600 (by decide +kernel) (by decide))
theorem dL_law_1636 : decode cL_law 1636 = .ok (.goto 4, 3) := dc_167 (dc_cut (j := 36) (n := 3) (l := [167, 0, 4]) dq_cL_law_1600 (by decide +kernel) (by decide)) rfl
set_option maxHeartbeats 4000000 in
set_option maxRecDepth 100000 in
theorem law_c30 {p : Program} {l : Launch} {e : Env} {s : State} {m : MethodId} {below : List Frame} {meth : Method} {c : Code} {b z L : Nat} {xs : Nat → Int32} (C0 : lw_At p s m meth c b L xs) (hzz : Array.size s.heap = z) {D : va_G} {cT : Nat → ClassId} {tt ak av : Nat → Nat} (hSt2 : gb_St2 D cT tt ak av z s) {i : Int32} (h1 : vp_in (i + 1) L) (h2 : vp_in (i + 2) L) (h3 : vp_in (i + 3) L) (h4 : vp_in (i + 4) L) (h5 : vp_in (i + 5) L) (hend : ∀ (σ : gb_S) (f : gb_F) (w : Int64) (H : Heap) (locs : List Loc) (ls : Array Slot), gb_Inv σ f → va_P D vwCl (gb_wl z (gb_CW cT z σ)) H → va_P D vwCl (gb_wl (z + 135) (gb_MW cT (z + 135) f w)) H → va_S (gb_ge z) s.heap H locs → lv_has ls 4 [(3, .int i), (2, .ref (z + 135 + 0)), (1, .ref (z + 0)), (0, .ref b)] → W p l e room_1 s m #[Value.ref b] below meth c H locs 157 10381 (lw_Z below #[Value.ref b] s) (F0 m 1890 ls [])) : ∀ (σ : gb_S) (f : gb_F) (w : Int64) (H : Heap) (locs : List Loc) (ls : Array Slot), gb_Inv σ f → va_P D vwCl (gb_wl z (gb_CW cT z σ)) H → va_P D vwCl (gb_wl (z + 135) (gb_MW cT (z + 135) f w)) H → va_S (gb_ge z) s.heap H locs → lv_has ls 4 [(3, .int i), (2, .ref (z + 135 + 0)), (1, .ref (z + 0)), (0, .ref b)] → W p l e room_1 s m #[Value.ref b] below meth c H locs 157 10381 (lw_Z below #[Value.ref b] s) (F0 m 1578 ls []) := by
  obtain ⟨hx, hb, hr, hml, hown, hts, hX, hbl, hlocks, hgv⟩ := C0
  have hq : ∀ w ∈ gb_wA, w.before #[Value.ref b] s = true := fun w h => hts w (gb_wA_tbl w h)
  have hbA : ¬ gb_ge z b := Nat.not_le.mpr (by rw [← hzz]; exact hbl)
  intro σ f w H locs ls hI hPc hPm hS hl
  refine lv_aload_n hx hb dL_law_1578 rfl (lv_at hl 2 rfl) ?_
  refine lv_aload_n hx hb dL_law_1579 rfl (lv_at hl 3 rfl) ?_
  refine lv_iload_n hx hb dL_law_1580 rfl (lv_at hl 0 rfl) ?_
  refine lv_iconst (v := 1) hx hb dL_law_1581 (by decide) ?_
  refine lv_iadd hx hb dL_law_1582 ?_
  refine va_sld hx hb hX hbl hbA hS h1 dL_law_1583 ?_
  refine lv_aload_n hx hb dL_law_1584 rfl (lv_at hl 3 rfl) ?_
  refine lv_iload_n hx hb dL_law_1585 rfl (lv_at hl 0 rfl) ?_
  refine lv_iconst (v := 2) hx hb dL_law_1586 (by decide) ?_
  refine lv_iadd hx hb dL_law_1587 ?_
  refine va_sld hx hb hX hbl hbA hS h2 dL_law_1588 ?_
  refine lv_aload_n hx hb dL_law_1589 rfl (lv_at hl 3 rfl) ?_
  refine lv_iload_n hx hb dL_law_1590 rfl (lv_at hl 0 rfl) ?_
  refine lv_iconst (v := 3) hx hb dL_law_1591 (by decide) ?_
  refine lv_iadd hx hb dL_law_1592 ?_
  refine va_sld hx hb hX hbl hbA hS h3 dL_law_1593 ?_
  refine lv_aload_n hx hb dL_law_1594 rfl (lv_at hl 3 rfl) ?_
  refine lv_iload_n hx hb dL_law_1595 rfl (lv_at hl 0 rfl) ?_
  refine lv_iconst (v := 4) hx hb dL_law_1596 (by decide) ?_
  refine lv_iadd hx hb dL_law_1597 ?_
  refine va_sld hx hb hX hbl hbA hS h4 dL_law_1598 ?_
  by_cases hz_ : (xs (Int32.toNatClampNeg (i + 4))) = 0
  · refine lv_if_eq (tgt := 1606) hx hb dL_law_1599 (by decide) (fun _ => ?_) (fun hc => absurd hz_ hc)
    refine lv_iconst (v := 0) hx hb dL_law_1606 (by decide) ?_
    obtain ⟨σ2, ra, f2, w2, qa, ec, em, hI2, hcmp⟩ := law_s_backs (xs (Int32.toNatClampNeg (i + 1))) (xs (Int32.toNatClampNeg (i + 2))) (xs (Int32.toNatClampNeg (i + 3))) 0 w hI
    refine gb_calli (va_runV (C := RX11) (As := [.int (xs (Int32.toNatClampNeg (i + 1))), .int (xs (Int32.toNatClampNeg (i + 2))), .int (xs (Int32.toNatClampNeg (i + 3))), .int 0]) (rest := []) ⟨hx, hb, hml, hown, hq⟩ (cc_Face_backs l D cT tt z z (Nat.le_refl z) gb_N σ (xs (Int32.toNatClampNeg (i + 1))) (xs (Int32.toNatClampNeg (i + 2))) (xs (Int32.toNatClampNeg (i + 3))) 0 σ2 ra ec) (cwV 4 hq (gb_gV w_1005 w_1006 w_1007 w_1 w_1008) rfl rfl rfl (by decide +kernel) ⟨Nat.le_of_ble_eq_true rfl, Nat.le_of_ble_eq_true rfl⟩) (gb_preV (r := (RX11, TX11, 10)) (ci := 9) (q0 := 0) hSt2.1 hPc rfl (gb_at z rfl) hS (fun q h => h) hPc) rfl rfl hl.1 rfl (lv_room (Nat.le_of_ble_eq_true rfl)) dL_law_1607 ⟨Nat.le_of_ble_eq_true rfl, Nat.le_of_ble_eq_true rfl⟩) hS (fun q h => h.1) (fun q h => h.1) (fun rc H2 locs2 hY hk hS => ?_)
    obtain ⟨hr_, hY⟩ := hY
    subst hr_
    have hPm := gb_kept hPm (fun q h1 h2 => hk q (Nat.lt_of_lt_of_le h2 ((hPm 21 _ (gb_at (z + 135) rfl)).lt)) (fun h3 => Nat.not_lt.mpr h1 h3.2))
    have hPc := hY
    clear hY
    refine lv_pop hx hb dL_law_1610 rfl ?_
    refine lv_aload_n hx hb dL_law_1611 rfl (lv_at hl 1 rfl) ?_
    refine lv_aload_n hx hb dL_law_1612 rfl (lv_at hl 3 rfl) ?_
    refine lv_iload_n hx hb dL_law_1613 rfl (lv_at hl 0 rfl) ?_
    refine lv_iconst (v := 1) hx hb dL_law_1614 (by decide) ?_
    refine lv_iadd hx hb dL_law_1615 ?_
    refine va_sld hx hb hX hbl hbA hS h1 dL_law_1616 ?_
    refine lv_aload_n hx hb dL_law_1617 rfl (lv_at hl 3 rfl) ?_
    refine lv_iload_n hx hb dL_law_1618 rfl (lv_at hl 0 rfl) ?_
    refine lv_iconst (v := 2) hx hb dL_law_1619 (by decide) ?_
    refine lv_iadd hx hb dL_law_1620 ?_
    refine va_sld hx hb hX hbl hbA hS h2 dL_law_1621 ?_
    refine lv_aload_n hx hb dL_law_1622 rfl (lv_at hl 3 rfl) ?_
    refine lv_iload_n hx hb dL_law_1623 rfl (lv_at hl 0 rfl) ?_
    refine lv_iconst (v := 3) hx hb dL_law_1624 (by decide) ?_
    refine lv_iadd hx hb dL_law_1625 ?_
    refine va_sld hx hb hX hbl hbA hS h3 dL_law_1626 ?_
    refine lv_aload_n hx hb dL_law_1627 rfl (lv_at hl 3 rfl) ?_
    refine lv_iload_n hx hb dL_law_1628 rfl (lv_at hl 0 rfl) ?_
    refine lv_iconst (v := 4) hx hb dL_law_1629 (by decide) ?_
    refine lv_iadd hx hb dL_law_1630 ?_
    refine va_sld hx hb hX hbl hbA hS h4 dL_law_1631 ?_
    refine lv_if_eq (tgt := 1639) hx hb dL_law_1632 (by decide) (fun _ => ?_) (fun hc => absurd hz_ hc)
    refine lv_iconst (v := 0) hx hb dL_law_1639 (by decide) ?_
    refine gb_calli (va_runV (C := RX12) (As := [.int (xs (Int32.toNatClampNeg (i + 1))), .int (xs (Int32.toNatClampNeg (i + 2))), .int (xs (Int32.toNatClampNeg (i + 3))), .int 0]) (rest := []) ⟨hx, hb, hml, hown, hq⟩ (mc_backs l D cT tt z (z + 135) (Nat.le_add_right z 135) gb_N f w (xs (Int32.toNatClampNeg (i + 1))) (xs (Int32.toNatClampNeg (i + 2))) (xs (Int32.toNatClampNeg (i + 3))) 0 f2 w2 qa em) (cwV 4 hq (gb_gV w_1678 w_1679 w_1680 w_14 w_1681) rfl rfl rfl (by decide +kernel) ⟨Nat.le_of_ble_eq_true rfl, Nat.le_of_ble_eq_true rfl⟩) (gb_preV (r := (RX12, TX12, 44)) (ci := 10) (q0 := 0) hSt2.1 hPm rfl (gb_at (z + 135) rfl) hS (fun q h => h) hPm) rfl rfl hl.1 rfl (lv_room (Nat.le_of_ble_eq_true rfl)) dL_law_1640 ⟨Nat.le_of_ble_eq_true rfl, Nat.le_of_ble_eq_true rfl⟩) hS (fun q h => Nat.le_trans (Nat.le_add_right z 135) h.1) (fun q h => Nat.le_trans (Nat.le_add_right z 135) h.1) (fun rm H2 locs2 hY hk hS => ?_)
    obtain ⟨hr_, hY⟩ := hY
    subst hr_
    have hPc := gb_kept hPc (fun q h1 h2 => hk q (Nat.lt_of_lt_of_le h2 (Nat.le_of_lt (Nat.lt_of_le_of_lt (Nat.le_add_right (z + 135) 21) ((hPm 21 _ (gb_at (z + 135) rfl)).lt)))) (fun h3 => Nat.not_lt.mpr h3.1 h2))
    have hPm := hY
    clear hY
    refine lv_pop hx hb dL_law_1643 rfl ?_
    refine lv_goto (tgt := 1890) hx hb dL_law_1644 (by decide) ?_
    exact hend _ _ _ _ _ _ hI2 hPc hPm hS hl
  · refine lv_if_eq (tgt := 1606) hx hb dL_law_1599 (by decide) (fun hc => absurd hc hz_) (fun _ => ?_)
    refine lv_iconst (v := 1) hx hb dL_law_1602 (by decide) ?_
    refine lv_goto (tgt := 1607) hx hb dL_law_1603 (by decide) ?_
    obtain ⟨σ2, ra, f2, w2, qa, ec, em, hI2, hcmp⟩ := law_s_backs (xs (Int32.toNatClampNeg (i + 1))) (xs (Int32.toNatClampNeg (i + 2))) (xs (Int32.toNatClampNeg (i + 3))) 1 w hI
    refine gb_calli (va_runV (C := RX11) (As := [.int (xs (Int32.toNatClampNeg (i + 1))), .int (xs (Int32.toNatClampNeg (i + 2))), .int (xs (Int32.toNatClampNeg (i + 3))), .int 1]) (rest := []) ⟨hx, hb, hml, hown, hq⟩ (cc_Face_backs l D cT tt z z (Nat.le_refl z) gb_N σ (xs (Int32.toNatClampNeg (i + 1))) (xs (Int32.toNatClampNeg (i + 2))) (xs (Int32.toNatClampNeg (i + 3))) 1 σ2 ra ec) (cwV 4 hq (gb_gV w_1005 w_1006 w_1007 w_1 w_1008) rfl rfl rfl (by decide +kernel) ⟨Nat.le_of_ble_eq_true rfl, Nat.le_of_ble_eq_true rfl⟩) (gb_preV (r := (RX11, TX11, 10)) (ci := 9) (q0 := 0) hSt2.1 hPc rfl (gb_at z rfl) hS (fun q h => h) hPc) rfl rfl hl.1 rfl (lv_room (Nat.le_of_ble_eq_true rfl)) dL_law_1607 ⟨Nat.le_of_ble_eq_true rfl, Nat.le_of_ble_eq_true rfl⟩) hS (fun q h => h.1) (fun q h => h.1) (fun rc H2 locs2 hY hk hS => ?_)
    obtain ⟨hr_, hY⟩ := hY
    subst hr_
    have hPm := gb_kept hPm (fun q h1 h2 => hk q (Nat.lt_of_lt_of_le h2 ((hPm 21 _ (gb_at (z + 135) rfl)).lt)) (fun h3 => Nat.not_lt.mpr h1 h3.2))
    have hPc := hY
    clear hY
    refine lv_pop hx hb dL_law_1610 rfl ?_
    refine lv_aload_n hx hb dL_law_1611 rfl (lv_at hl 1 rfl) ?_
    refine lv_aload_n hx hb dL_law_1612 rfl (lv_at hl 3 rfl) ?_
    refine lv_iload_n hx hb dL_law_1613 rfl (lv_at hl 0 rfl) ?_
    refine lv_iconst (v := 1) hx hb dL_law_1614 (by decide) ?_
    refine lv_iadd hx hb dL_law_1615 ?_
    refine va_sld hx hb hX hbl hbA hS h1 dL_law_1616 ?_
    refine lv_aload_n hx hb dL_law_1617 rfl (lv_at hl 3 rfl) ?_
    refine lv_iload_n hx hb dL_law_1618 rfl (lv_at hl 0 rfl) ?_
    refine lv_iconst (v := 2) hx hb dL_law_1619 (by decide) ?_
    refine lv_iadd hx hb dL_law_1620 ?_
    refine va_sld hx hb hX hbl hbA hS h2 dL_law_1621 ?_
    refine lv_aload_n hx hb dL_law_1622 rfl (lv_at hl 3 rfl) ?_
    refine lv_iload_n hx hb dL_law_1623 rfl (lv_at hl 0 rfl) ?_
    refine lv_iconst (v := 3) hx hb dL_law_1624 (by decide) ?_
    refine lv_iadd hx hb dL_law_1625 ?_
    refine va_sld hx hb hX hbl hbA hS h3 dL_law_1626 ?_
    refine lv_aload_n hx hb dL_law_1627 rfl (lv_at hl 3 rfl) ?_
    refine lv_iload_n hx hb dL_law_1628 rfl (lv_at hl 0 rfl) ?_
    refine lv_iconst (v := 4) hx hb dL_law_1629 (by decide) ?_
    refine lv_iadd hx hb dL_law_1630 ?_
    refine va_sld hx hb hX hbl hbA hS h4 dL_law_1631 ?_
    refine lv_if_eq (tgt := 1639) hx hb dL_law_1632 (by decide) (fun hc => absurd hc hz_) (fun _ => ?_)
    refine lv_iconst (v := 1) hx hb dL_law_1635 (by decide) ?_
    refine lv_goto (tgt := 1640) hx hb dL_law_1636 (by decide) ?_
    refine gb_calli (va_runV (C := RX12) (As := [.int (xs (Int32.toNatClampNeg (i + 1))), .int (xs (Int32.toNatClampNeg (i + 2))), .int (xs (Int32.toNatClampNeg (i + 3))), .int 1]) (rest := []) ⟨hx, hb, hml, hown, hq⟩ (mc_backs l D cT tt z (z + 135) (Nat.le_add_right z 135) gb_N f w (xs (Int32.toNatClampNeg (i + 1))) (xs (Int32.toNatClampNeg (i + 2))) (xs (Int32.toNatClampNeg (i + 3))) 1 f2 w2 qa em) (cwV 4 hq (gb_gV w_1678 w_1679 w_1680 w_14 w_1681) rfl rfl rfl (by decide +kernel) ⟨Nat.le_of_ble_eq_true rfl, Nat.le_of_ble_eq_true rfl⟩) (gb_preV (r := (RX12, TX12, 44)) (ci := 10) (q0 := 0) hSt2.1 hPm rfl (gb_at (z + 135) rfl) hS (fun q h => h) hPm) rfl rfl hl.1 rfl (lv_room (Nat.le_of_ble_eq_true rfl)) dL_law_1640 ⟨Nat.le_of_ble_eq_true rfl, Nat.le_of_ble_eq_true rfl⟩) hS (fun q h => Nat.le_trans (Nat.le_add_right z 135) h.1) (fun q h => Nat.le_trans (Nat.le_add_right z 135) h.1) (fun rm H2 locs2 hY hk hS => ?_)
    obtain ⟨hr_, hY⟩ := hY
    subst hr_
    have hPc := gb_kept hPc (fun q h1 h2 => hk q (Nat.lt_of_lt_of_le h2 (Nat.le_of_lt (Nat.lt_of_le_of_lt (Nat.le_add_right (z + 135) 21) ((hPm 21 _ (gb_at (z + 135) rfl)).lt)))) (fun h3 => Nat.not_lt.mpr h3.1 h2))
    have hPm := hY
    clear hY
    refine lv_pop hx hb dL_law_1643 rfl ?_
    refine lv_goto (tgt := 1890) hx hb dL_law_1644 (by decide) ?_
    exact hend _ _ _ _ _ _ hI2 hPc hPm hS hl
theorem dL_law_1647 : decode cL_law 1647 = .ok (.aload_n 1, 1) := dc_43 (dc_cut (j := 47) (n := 1) (l := [43]) dq_cL_law_1600 (by decide +kernel) (by decide))
theorem dL_law_1648 : decode cL_law 1648 = .ok (.aload_n 0, 1) := dc_42 (dc_cut (j := 48) (n := 1) (l := [42]) dq_cL_law_1600 (by decide +kernel) (by decide))
theorem dL_law_1649 : decode cL_law 1649 = .ok (.iload_n 3, 1) := dc_29 (dc_cut (j := 49) (n := 1) (l := [29]) dq_cL_law_1600 (by decide +kernel) (by decide))
theorem dL_law_1650 : decode cL_law 1650 = .ok (.iconst 1, 1) := dc_4 (dc_cut (j := 50) (n := 1) (l := [4]) dq_cL_law_1600 (by decide +kernel) (by decide))
theorem dL_law_1651 : decode cL_law 1651 = .ok (.iadd, 1) := dc_96 (dc_cut (j := 51) (n := 1) (l := [96]) dq_cL_law_1600 (by decide +kernel) (by decide))
theorem dL_law_1652 : decode cL_law 1652 = .ok (.iaload, 1) := dc_46 (dc_cut (j := 52) (n := 1) (l := [46]) dq_cL_law_1600 (by decide +kernel) (by decide))
theorem dL_law_1653 : decode cL_law 1653 = .ok (.aload_n 0, 1) := dc_42 (dc_cut (j := 53) (n := 1) (l := [42]) dq_cL_law_1600 (by decide +kernel) (by decide))
theorem dL_law_1654 : decode cL_law 1654 = .ok (.iload_n 3, 1) := dc_29 (dc_cut (j := 54) (n := 1) (l := [29]) dq_cL_law_1600 (by decide +kernel) (by decide))
theorem dL_law_1655 : decode cL_law 1655 = .ok (.iconst 2, 1) := dc_5 (dc_cut (j := 55) (n := 1) (l := [5]) dq_cL_law_1600 (by decide +kernel) (by decide))
theorem dL_law_1656 : decode cL_law 1656 = .ok (.iadd, 1) := dc_96 (dc_cut (j := 56) (n := 1) (l := [96]) dq_cL_law_1600 (by decide +kernel) (by decide))
theorem dL_law_1657 : decode cL_law 1657 = .ok (.iaload, 1) := dc_46 (dc_cut (j := 57) (n := 1) (l := [46]) dq_cL_law_1600 (by decide +kernel) (by decide))
theorem dL_law_1658 : decode cL_law 1658 = .ok (.ifCond .eq 7, 3) := dc_153 (dc_cut (j := 58) (n := 3) (l := [153, 0, 7]) dq_cL_law_1600 (by decide +kernel) (by decide)) rfl
theorem dq_cL_law_1664 : ((cL_law.data.toList.drop 1664).take 67).map UInt8.toNat = [4, 3, 182, 0, 144, 44, 42, 29, 4, 96, 46, 42, 29, 5, 96, 46, 153, 0, 7, 4, 167, 0, 4, 3, 182, 0, 148, 159, 0, 199, 3, 172, 43, 42, 29, 4, 96, 46, 42, 29, 5, 96, 46, 42, 29, 6, 96, 46, 182, 0, 149, 87, 44, 42, 29, 4, 96, 46, 42, 29, 5, 96, 46, 42, 29, 6, 96] := by decide +kernel
theorem dL_law_1665 : decode cL_law 1665 = .ok (.iconst 0, 1) := dc_3 (dc_cut (j := 1) (n := 1) (l := [3]) dq_cL_law_1664 (by decide +kernel) (by decide))
theorem dL_law_1666 : decode cL_law 1666 = .ok (.invokevirtual 144, 3) := dc_182 (dc_cut (j := 2) (n := 3) (l := [182, 0, 144]) dq_cL_law_1664 (by decide +kernel) (by decide)) rfl
theorem w_939 : (Cond.methodLink "GooseBorderLaw" (144 : Nat) ({ cls := "GooseBorder", name := "close", desc := "(IZ)I" } : MethodName)) ∈ gb_wA := gb_t4 219 rfl rfl
theorem w_940 : (Cond.instanceMethod ({ cls := "GooseBorder", name := "close", desc := "(IZ)I" } : MethodName)) ∈ gb_wA := gb_t4 220 rfl rfl
theorem w_941 : (Cond.selects "GooseBorder" ({ cls := "GooseBorder", name := "close", desc := "(IZ)I" } : MethodName) ({ cls := "GooseBorder", name := "close", desc := "(IZ)I" } : MethodName)) ∈ gb_wA := gb_t4 221 rfl rfl
theorem w_942 : (Cond.code ({ cls := "GooseBorder", name := "close", desc := "(IZ)I" } : MethodName) prog_1_method_34_code (7 : Nat) (Option.some FieldType.int)) ∈ gb_wA := gb_t4 222 rfl rfl
theorem dL_law_1669 : decode cL_law 1669 = .ok (.aload_n 2, 1) := dc_44 (dc_cut (j := 5) (n := 1) (l := [44]) dq_cL_law_1664 (by decide +kernel) (by decide))
theorem dL_law_1670 : decode cL_law 1670 = .ok (.aload_n 0, 1) := dc_42 (dc_cut (j := 6) (n := 1) (l := [42]) dq_cL_law_1664 (by decide +kernel) (by decide))
theorem dL_law_1671 : decode cL_law 1671 = .ok (.iload_n 3, 1) := dc_29 (dc_cut (j := 7) (n := 1) (l := [29]) dq_cL_law_1664 (by decide +kernel) (by decide))
theorem dL_law_1672 : decode cL_law 1672 = .ok (.iconst 1, 1) := dc_4 (dc_cut (j := 8) (n := 1) (l := [4]) dq_cL_law_1664 (by decide +kernel) (by decide))
theorem dL_law_1673 : decode cL_law 1673 = .ok (.iadd, 1) := dc_96 (dc_cut (j := 9) (n := 1) (l := [96]) dq_cL_law_1664 (by decide +kernel) (by decide))
theorem dL_law_1674 : decode cL_law 1674 = .ok (.iaload, 1) := dc_46 (dc_cut (j := 10) (n := 1) (l := [46]) dq_cL_law_1664 (by decide +kernel) (by decide))
theorem dL_law_1675 : decode cL_law 1675 = .ok (.aload_n 0, 1) := dc_42 (dc_cut (j := 11) (n := 1) (l := [42]) dq_cL_law_1664 (by decide +kernel) (by decide))
theorem dL_law_1676 : decode cL_law 1676 = .ok (.iload_n 3, 1) := dc_29 (dc_cut (j := 12) (n := 1) (l := [29]) dq_cL_law_1664 (by decide +kernel) (by decide))
theorem dL_law_1677 : decode cL_law 1677 = .ok (.iconst 2, 1) := dc_5 (dc_cut (j := 13) (n := 1) (l := [5]) dq_cL_law_1664 (by decide +kernel) (by decide))
theorem dL_law_1678 : decode cL_law 1678 = .ok (.iadd, 1) := dc_96 (dc_cut (j := 14) (n := 1) (l := [96]) dq_cL_law_1664 (by decide +kernel) (by decide))
theorem dL_law_1679 : decode cL_law 1679 = .ok (.iaload, 1) := dc_46 (dc_cut (j := 15) (n := 1) (l := [46]) dq_cL_law_1664 (by decide +kernel) (by decide))
theorem dL_law_1680 : decode cL_law 1680 = .ok (.ifCond .eq 7, 3) := dc_153 (dc_cut (j := 16) (n := 3) (l := [153, 0, 7]) dq_cL_law_1664 (by decide +kernel) (by decide)) rfl
theorem dL_law_1687 : decode cL_law 1687 = .ok (.iconst 0, 1) := dc_3 (dc_cut (j := 23) (n := 1) (l := [3]) dq_cL_law_1664 (by decide +kernel) (by decide))
theorem dL_law_1688 : decode cL_law 1688 = .ok (.invokevirtual 148, 3) := dc_182 (dc_cut (j := 24) (n := 3) (l := [182, 0, 148]) dq_cL_law_1664 (by decide +kernel) (by decide)) rfl
theorem w_1685 : (Cond.methodLink "GooseBorderLaw" (148 : Nat) ({ cls := "GooseBorderModel", name := "close", desc := "(IZ)I" } : MethodName)) ∈ gb_wA := gb_t8 5 rfl rfl
theorem w_1686 : (Cond.instanceMethod ({ cls := "GooseBorderModel", name := "close", desc := "(IZ)I" } : MethodName)) ∈ gb_wA := gb_t8 6 rfl rfl
theorem w_1687 : (Cond.selects "GooseBorderModel" ({ cls := "GooseBorderModel", name := "close", desc := "(IZ)I" } : MethodName) ({ cls := "GooseBorderModel", name := "close", desc := "(IZ)I" } : MethodName)) ∈ gb_wA := gb_t8 7 rfl rfl
theorem w_1688 : (Cond.code ({ cls := "GooseBorderModel", name := "close", desc := "(IZ)I" } : MethodName) prog_14_method_111_code (7 : Nat) (Option.some FieldType.int)) ∈ gb_wA := gb_t8 8 rfl rfl
theorem dL_law_1691 : decode cL_law 1691 = .ok (.if_icmp .eq 199, 3) := dc_159 (dc_cut (j := 27) (n := 3) (l := [159, 0, 199]) dq_cL_law_1664 (by decide +kernel) (by decide)) rfl
theorem dL_law_1661 : decode cL_law 1661 = .ok (.iconst 1, 1) := dc_4 (dc_cut (j := 61) (n := 1) (l := [4]) dq_cL_law_1600 (by decide +kernel) (by decide))
theorem dL_law_1662 : decode cL_law 1662 = .ok (.goto 4, 3) := dc_167 (dc_cut (j := 62) (n := 3) (l := [167, 0, 4]) dq_cL_law_1600 (by decide +kernel) (by decide)) rfl
theorem dL_law_1683 : decode cL_law 1683 = .ok (.iconst 1, 1) := dc_4 (dc_cut (j := 19) (n := 1) (l := [4]) dq_cL_law_1664 (by decide +kernel) (by decide))
theorem dL_law_1684 : decode cL_law 1684 = .ok (.goto 4, 3) := dc_167 (dc_cut (j := 20) (n := 3) (l := [167, 0, 4]) dq_cL_law_1664 (by decide +kernel) (by decide)) rfl
set_option maxHeartbeats 4000000 in
set_option maxRecDepth 100000 in
theorem law_c31 {p : Program} {l : Launch} {e : Env} {s : State} {m : MethodId} {below : List Frame} {meth : Method} {c : Code} {b z L : Nat} {xs : Nat → Int32} (C0 : lw_At p s m meth c b L xs) (hzz : Array.size s.heap = z) {D : va_G} {cT : Nat → ClassId} {tt ak av : Nat → Nat} (hSt2 : gb_St2 D cT tt ak av z s) {i : Int32} (h1 : vp_in (i + 1) L) (h2 : vp_in (i + 2) L) (h3 : vp_in (i + 3) L) (h4 : vp_in (i + 4) L) (h5 : vp_in (i + 5) L) (hend : ∀ (σ : gb_S) (f : gb_F) (w : Int64) (H : Heap) (locs : List Loc) (ls : Array Slot), gb_Inv σ f → va_P D vwCl (gb_wl z (gb_CW cT z σ)) H → va_P D vwCl (gb_wl (z + 135) (gb_MW cT (z + 135) f w)) H → va_S (gb_ge z) s.heap H locs → lv_has ls 4 [(3, .int i), (2, .ref (z + 135 + 0)), (1, .ref (z + 0)), (0, .ref b)] → W p l e room_1 s m #[Value.ref b] below meth c H locs 157 10381 (lw_Z below #[Value.ref b] s) (F0 m 1890 ls [])) : ∀ (σ : gb_S) (f : gb_F) (w : Int64) (H : Heap) (locs : List Loc) (ls : Array Slot), gb_Inv σ f → va_P D vwCl (gb_wl z (gb_CW cT z σ)) H → va_P D vwCl (gb_wl (z + 135) (gb_MW cT (z + 135) f w)) H → va_S (gb_ge z) s.heap H locs → lv_has ls 4 [(3, .int i), (2, .ref (z + 135 + 0)), (1, .ref (z + 0)), (0, .ref b)] → W p l e room_1 s m #[Value.ref b] below meth c H locs 157 10381 (lw_Z below #[Value.ref b] s) (F0 m 1647 ls []) := by
  obtain ⟨hx, hb, hr, hml, hown, hts, hX, hbl, hlocks, hgv⟩ := C0
  have hq : ∀ w ∈ gb_wA, w.before #[Value.ref b] s = true := fun w h => hts w (gb_wA_tbl w h)
  have hbA : ¬ gb_ge z b := Nat.not_le.mpr (by rw [← hzz]; exact hbl)
  intro σ f w H locs ls hI hPc hPm hS hl
  refine lv_aload_n hx hb dL_law_1647 rfl (lv_at hl 2 rfl) ?_
  refine lv_aload_n hx hb dL_law_1648 rfl (lv_at hl 3 rfl) ?_
  refine lv_iload_n hx hb dL_law_1649 rfl (lv_at hl 0 rfl) ?_
  refine lv_iconst (v := 1) hx hb dL_law_1650 (by decide) ?_
  refine lv_iadd hx hb dL_law_1651 ?_
  refine va_sld hx hb hX hbl hbA hS h1 dL_law_1652 ?_
  refine lv_aload_n hx hb dL_law_1653 rfl (lv_at hl 3 rfl) ?_
  refine lv_iload_n hx hb dL_law_1654 rfl (lv_at hl 0 rfl) ?_
  refine lv_iconst (v := 2) hx hb dL_law_1655 (by decide) ?_
  refine lv_iadd hx hb dL_law_1656 ?_
  refine va_sld hx hb hX hbl hbA hS h2 dL_law_1657 ?_
  by_cases hz_ : (xs (Int32.toNatClampNeg (i + 2))) = 0
  · refine lv_if_eq (tgt := 1665) hx hb dL_law_1658 (by decide) (fun _ => ?_) (fun hc => absurd hz_ hc)
    refine lv_iconst (v := 0) hx hb dL_law_1665 (by decide) ?_
    obtain ⟨σ2, ra, f2, w2, qa, ec, em, hI2, hcmp⟩ := law_s_close (xs (Int32.toNatClampNeg (i + 1))) 0 w hI
    refine gb_calli (va_runV (C := RX11) (As := [.int (xs (Int32.toNatClampNeg (i + 1))), .int 0]) (rest := []) ⟨hx, hb, hml, hown, hq⟩ (cc_Face_close l D cT tt z z (Nat.le_refl z) gb_N σ (xs (Int32.toNatClampNeg (i + 1))) 0 σ2 ra ec) (cwV 2 hq (gb_gV w_939 w_940 w_941 w_1 w_942) rfl rfl rfl (by decide +kernel) ⟨Nat.le_of_ble_eq_true rfl, Nat.le_of_ble_eq_true rfl⟩) (gb_preV (r := (RX11, TX11, 10)) (ci := 9) (q0 := 0) hSt2.1 hPc rfl (gb_at z rfl) hS (fun q h => h) hPc) rfl rfl hl.1 rfl (lv_room (Nat.le_of_ble_eq_true rfl)) dL_law_1666 ⟨Nat.le_of_ble_eq_true rfl, Nat.le_of_ble_eq_true rfl⟩) hS (fun q h => h.1) (fun q h => h.1) (fun rc H2 locs2 hY hk hS => ?_)
    obtain ⟨hr_, hY⟩ := hY
    subst hr_
    have hPm := gb_kept hPm (fun q h1 h2 => hk q (Nat.lt_of_lt_of_le h2 ((hPm 21 _ (gb_at (z + 135) rfl)).lt)) (fun h3 => Nat.not_lt.mpr h1 h3.2))
    have hPc := hY
    clear hY
    refine lv_aload_n hx hb dL_law_1669 rfl (lv_at hl 1 rfl) ?_
    refine lv_aload_n hx hb dL_law_1670 rfl (lv_at hl 3 rfl) ?_
    refine lv_iload_n hx hb dL_law_1671 rfl (lv_at hl 0 rfl) ?_
    refine lv_iconst (v := 1) hx hb dL_law_1672 (by decide) ?_
    refine lv_iadd hx hb dL_law_1673 ?_
    refine va_sld hx hb hX hbl hbA hS h1 dL_law_1674 ?_
    refine lv_aload_n hx hb dL_law_1675 rfl (lv_at hl 3 rfl) ?_
    refine lv_iload_n hx hb dL_law_1676 rfl (lv_at hl 0 rfl) ?_
    refine lv_iconst (v := 2) hx hb dL_law_1677 (by decide) ?_
    refine lv_iadd hx hb dL_law_1678 ?_
    refine va_sld hx hb hX hbl hbA hS h2 dL_law_1679 ?_
    refine lv_if_eq (tgt := 1687) hx hb dL_law_1680 (by decide) (fun _ => ?_) (fun hc => absurd hz_ hc)
    refine lv_iconst (v := 0) hx hb dL_law_1687 (by decide) ?_
    refine gb_calli (va_runV (C := RX12) (As := [.int (xs (Int32.toNatClampNeg (i + 1))), .int 0]) (rest := [.int rc]) ⟨hx, hb, hml, hown, hq⟩ (mc_close l D cT tt z (z + 135) (Nat.le_add_right z 135) gb_N f w (xs (Int32.toNatClampNeg (i + 1))) 0 f2 w2 qa em) (cwV 2 hq (gb_gV w_1685 w_1686 w_1687 w_14 w_1688) rfl rfl rfl (by decide +kernel) ⟨Nat.le_of_ble_eq_true rfl, Nat.le_of_ble_eq_true rfl⟩) (gb_preV (r := (RX12, TX12, 44)) (ci := 10) (q0 := 0) hSt2.1 hPm rfl (gb_at (z + 135) rfl) hS (fun q h => h) hPm) rfl rfl hl.1 rfl (lv_room (Nat.le_of_ble_eq_true rfl)) dL_law_1688 ⟨Nat.le_of_ble_eq_true rfl, Nat.le_of_ble_eq_true rfl⟩) hS (fun q h => Nat.le_trans (Nat.le_add_right z 135) h.1) (fun q h => Nat.le_trans (Nat.le_add_right z 135) h.1) (fun rm H2 locs2 hY hk hS => ?_)
    obtain ⟨hr_, hY⟩ := hY
    subst hr_
    have hPc := gb_kept hPc (fun q h1 h2 => hk q (Nat.lt_of_lt_of_le h2 (Nat.le_of_lt (Nat.lt_of_le_of_lt (Nat.le_add_right (z + 135) 21) ((hPm 21 _ (gb_at (z + 135) rfl)).lt)))) (fun h3 => Nat.not_lt.mpr h3.1 h2))
    have hPm := hY
    clear hY
    refine lv_icmp_eq (tgt := 1890) hx hb dL_law_1691 (by decide) (fun _ => ?_) (fun hc => absurd hcmp hc)
    exact hend _ _ _ _ _ _ hI2 hPc hPm hS hl
  · refine lv_if_eq (tgt := 1665) hx hb dL_law_1658 (by decide) (fun hc => absurd hc hz_) (fun _ => ?_)
    refine lv_iconst (v := 1) hx hb dL_law_1661 (by decide) ?_
    refine lv_goto (tgt := 1666) hx hb dL_law_1662 (by decide) ?_
    obtain ⟨σ2, ra, f2, w2, qa, ec, em, hI2, hcmp⟩ := law_s_close (xs (Int32.toNatClampNeg (i + 1))) 1 w hI
    refine gb_calli (va_runV (C := RX11) (As := [.int (xs (Int32.toNatClampNeg (i + 1))), .int 1]) (rest := []) ⟨hx, hb, hml, hown, hq⟩ (cc_Face_close l D cT tt z z (Nat.le_refl z) gb_N σ (xs (Int32.toNatClampNeg (i + 1))) 1 σ2 ra ec) (cwV 2 hq (gb_gV w_939 w_940 w_941 w_1 w_942) rfl rfl rfl (by decide +kernel) ⟨Nat.le_of_ble_eq_true rfl, Nat.le_of_ble_eq_true rfl⟩) (gb_preV (r := (RX11, TX11, 10)) (ci := 9) (q0 := 0) hSt2.1 hPc rfl (gb_at z rfl) hS (fun q h => h) hPc) rfl rfl hl.1 rfl (lv_room (Nat.le_of_ble_eq_true rfl)) dL_law_1666 ⟨Nat.le_of_ble_eq_true rfl, Nat.le_of_ble_eq_true rfl⟩) hS (fun q h => h.1) (fun q h => h.1) (fun rc H2 locs2 hY hk hS => ?_)
    obtain ⟨hr_, hY⟩ := hY
    subst hr_
    have hPm := gb_kept hPm (fun q h1 h2 => hk q (Nat.lt_of_lt_of_le h2 ((hPm 21 _ (gb_at (z + 135) rfl)).lt)) (fun h3 => Nat.not_lt.mpr h1 h3.2))
    have hPc := hY
    clear hY
    refine lv_aload_n hx hb dL_law_1669 rfl (lv_at hl 1 rfl) ?_
    refine lv_aload_n hx hb dL_law_1670 rfl (lv_at hl 3 rfl) ?_
    refine lv_iload_n hx hb dL_law_1671 rfl (lv_at hl 0 rfl) ?_
    refine lv_iconst (v := 1) hx hb dL_law_1672 (by decide) ?_
    refine lv_iadd hx hb dL_law_1673 ?_
    refine va_sld hx hb hX hbl hbA hS h1 dL_law_1674 ?_
    refine lv_aload_n hx hb dL_law_1675 rfl (lv_at hl 3 rfl) ?_
    refine lv_iload_n hx hb dL_law_1676 rfl (lv_at hl 0 rfl) ?_
    refine lv_iconst (v := 2) hx hb dL_law_1677 (by decide) ?_
    refine lv_iadd hx hb dL_law_1678 ?_
    refine va_sld hx hb hX hbl hbA hS h2 dL_law_1679 ?_
    refine lv_if_eq (tgt := 1687) hx hb dL_law_1680 (by decide) (fun hc => absurd hc hz_) (fun _ => ?_)
    refine lv_iconst (v := 1) hx hb dL_law_1683 (by decide) ?_
    refine lv_goto (tgt := 1688) hx hb dL_law_1684 (by decide) ?_
    refine gb_calli (va_runV (C := RX12) (As := [.int (xs (Int32.toNatClampNeg (i + 1))), .int 1]) (rest := [.int rc]) ⟨hx, hb, hml, hown, hq⟩ (mc_close l D cT tt z (z + 135) (Nat.le_add_right z 135) gb_N f w (xs (Int32.toNatClampNeg (i + 1))) 1 f2 w2 qa em) (cwV 2 hq (gb_gV w_1685 w_1686 w_1687 w_14 w_1688) rfl rfl rfl (by decide +kernel) ⟨Nat.le_of_ble_eq_true rfl, Nat.le_of_ble_eq_true rfl⟩) (gb_preV (r := (RX12, TX12, 44)) (ci := 10) (q0 := 0) hSt2.1 hPm rfl (gb_at (z + 135) rfl) hS (fun q h => h) hPm) rfl rfl hl.1 rfl (lv_room (Nat.le_of_ble_eq_true rfl)) dL_law_1688 ⟨Nat.le_of_ble_eq_true rfl, Nat.le_of_ble_eq_true rfl⟩) hS (fun q h => Nat.le_trans (Nat.le_add_right z 135) h.1) (fun q h => Nat.le_trans (Nat.le_add_right z 135) h.1) (fun rm H2 locs2 hY hk hS => ?_)
    obtain ⟨hr_, hY⟩ := hY
    subst hr_
    have hPc := gb_kept hPc (fun q h1 h2 => hk q (Nat.lt_of_lt_of_le h2 (Nat.le_of_lt (Nat.lt_of_le_of_lt (Nat.le_add_right (z + 135) 21) ((hPm 21 _ (gb_at (z + 135) rfl)).lt)))) (fun h3 => Nat.not_lt.mpr h3.1 h2))
    have hPm := hY
    clear hY
    refine lv_icmp_eq (tgt := 1890) hx hb dL_law_1691 (by decide) (fun _ => ?_) (fun hc => absurd hcmp hc)
    exact hend _ _ _ _ _ _ hI2 hPc hPm hS hl
theorem dL_law_1696 : decode cL_law 1696 = .ok (.aload_n 1, 1) := dc_43 (dc_cut (j := 32) (n := 1) (l := [43]) dq_cL_law_1664 (by decide +kernel) (by decide))
theorem dL_law_1697 : decode cL_law 1697 = .ok (.aload_n 0, 1) := dc_42 (dc_cut (j := 33) (n := 1) (l := [42]) dq_cL_law_1664 (by decide +kernel) (by decide))
theorem dL_law_1698 : decode cL_law 1698 = .ok (.iload_n 3, 1) := dc_29 (dc_cut (j := 34) (n := 1) (l := [29]) dq_cL_law_1664 (by decide +kernel) (by decide))
theorem dL_law_1699 : decode cL_law 1699 = .ok (.iconst 1, 1) := dc_4 (dc_cut (j := 35) (n := 1) (l := [4]) dq_cL_law_1664 (by decide +kernel) (by decide))
theorem dL_law_1700 : decode cL_law 1700 = .ok (.iadd, 1) := dc_96 (dc_cut (j := 36) (n := 1) (l := [96]) dq_cL_law_1664 (by decide +kernel) (by decide))
theorem dL_law_1701 : decode cL_law 1701 = .ok (.iaload, 1) := dc_46 (dc_cut (j := 37) (n := 1) (l := [46]) dq_cL_law_1664 (by decide +kernel) (by decide))
theorem dL_law_1702 : decode cL_law 1702 = .ok (.aload_n 0, 1) := dc_42 (dc_cut (j := 38) (n := 1) (l := [42]) dq_cL_law_1664 (by decide +kernel) (by decide))
theorem dL_law_1703 : decode cL_law 1703 = .ok (.iload_n 3, 1) := dc_29 (dc_cut (j := 39) (n := 1) (l := [29]) dq_cL_law_1664 (by decide +kernel) (by decide))
theorem dL_law_1704 : decode cL_law 1704 = .ok (.iconst 2, 1) := dc_5 (dc_cut (j := 40) (n := 1) (l := [5]) dq_cL_law_1664 (by decide +kernel) (by decide))
theorem dL_law_1705 : decode cL_law 1705 = .ok (.iadd, 1) := dc_96 (dc_cut (j := 41) (n := 1) (l := [96]) dq_cL_law_1664 (by decide +kernel) (by decide))
theorem dL_law_1706 : decode cL_law 1706 = .ok (.iaload, 1) := dc_46 (dc_cut (j := 42) (n := 1) (l := [46]) dq_cL_law_1664 (by decide +kernel) (by decide))
theorem dL_law_1707 : decode cL_law 1707 = .ok (.aload_n 0, 1) := dc_42 (dc_cut (j := 43) (n := 1) (l := [42]) dq_cL_law_1664 (by decide +kernel) (by decide))
theorem dL_law_1708 : decode cL_law 1708 = .ok (.iload_n 3, 1) := dc_29 (dc_cut (j := 44) (n := 1) (l := [29]) dq_cL_law_1664 (by decide +kernel) (by decide))
theorem dL_law_1709 : decode cL_law 1709 = .ok (.iconst 3, 1) := dc_6 (dc_cut (j := 45) (n := 1) (l := [6]) dq_cL_law_1664 (by decide +kernel) (by decide))
theorem dL_law_1710 : decode cL_law 1710 = .ok (.iadd, 1) := dc_96 (dc_cut (j := 46) (n := 1) (l := [96]) dq_cL_law_1664 (by decide +kernel) (by decide))
theorem dL_law_1711 : decode cL_law 1711 = .ok (.iaload, 1) := dc_46 (dc_cut (j := 47) (n := 1) (l := [46]) dq_cL_law_1664 (by decide +kernel) (by decide))
theorem dL_law_1712 : decode cL_law 1712 = .ok (.invokevirtual 149, 3) := dc_182 (dc_cut (j := 48) (n := 3) (l := [182, 0, 149]) dq_cL_law_1664 (by decide +kernel) (by decide)) rfl
theorem w_1014 : (Cond.methodLink "GooseBorderLaw" (149 : Nat) ({ cls := "GooseBorder", name := "near", desc := "(III)I" } : MethodName)) ∈ gb_wA := gb_t5 54 rfl rfl
theorem w_1015 : (Cond.instanceMethod ({ cls := "GooseBorder", name := "near", desc := "(III)I" } : MethodName)) ∈ gb_wA := gb_t5 55 rfl rfl
theorem w_1016 : (Cond.selects "GooseBorder" ({ cls := "GooseBorder", name := "near", desc := "(III)I" } : MethodName) ({ cls := "GooseBorder", name := "near", desc := "(III)I" } : MethodName)) ∈ gb_wA := gb_t5 56 rfl rfl
theorem w_1017 : (Cond.code ({ cls := "GooseBorder", name := "near", desc := "(III)I" } : MethodName) prog_1_method_43_code (6 : Nat) (Option.some FieldType.int)) ∈ gb_wA := gb_t5 57 rfl rfl
theorem dL_law_1715 : decode cL_law 1715 = .ok (.pop, 1) := dc_87 (dc_cut (j := 51) (n := 1) (l := [87]) dq_cL_law_1664 (by decide +kernel) (by decide))
theorem dL_law_1716 : decode cL_law 1716 = .ok (.aload_n 2, 1) := dc_44 (dc_cut (j := 52) (n := 1) (l := [44]) dq_cL_law_1664 (by decide +kernel) (by decide))
theorem dL_law_1717 : decode cL_law 1717 = .ok (.aload_n 0, 1) := dc_42 (dc_cut (j := 53) (n := 1) (l := [42]) dq_cL_law_1664 (by decide +kernel) (by decide))
theorem dL_law_1718 : decode cL_law 1718 = .ok (.iload_n 3, 1) := dc_29 (dc_cut (j := 54) (n := 1) (l := [29]) dq_cL_law_1664 (by decide +kernel) (by decide))
theorem dL_law_1719 : decode cL_law 1719 = .ok (.iconst 1, 1) := dc_4 (dc_cut (j := 55) (n := 1) (l := [4]) dq_cL_law_1664 (by decide +kernel) (by decide))
theorem dL_law_1720 : decode cL_law 1720 = .ok (.iadd, 1) := dc_96 (dc_cut (j := 56) (n := 1) (l := [96]) dq_cL_law_1664 (by decide +kernel) (by decide))
theorem dL_law_1721 : decode cL_law 1721 = .ok (.iaload, 1) := dc_46 (dc_cut (j := 57) (n := 1) (l := [46]) dq_cL_law_1664 (by decide +kernel) (by decide))
theorem dL_law_1722 : decode cL_law 1722 = .ok (.aload_n 0, 1) := dc_42 (dc_cut (j := 58) (n := 1) (l := [42]) dq_cL_law_1664 (by decide +kernel) (by decide))
theorem dL_law_1723 : decode cL_law 1723 = .ok (.iload_n 3, 1) := dc_29 (dc_cut (j := 59) (n := 1) (l := [29]) dq_cL_law_1664 (by decide +kernel) (by decide))
theorem dL_law_1724 : decode cL_law 1724 = .ok (.iconst 2, 1) := dc_5 (dc_cut (j := 60) (n := 1) (l := [5]) dq_cL_law_1664 (by decide +kernel) (by decide))
theorem dL_law_1725 : decode cL_law 1725 = .ok (.iadd, 1) := dc_96 (dc_cut (j := 61) (n := 1) (l := [96]) dq_cL_law_1664 (by decide +kernel) (by decide))
theorem dL_law_1726 : decode cL_law 1726 = .ok (.iaload, 1) := dc_46 (dc_cut (j := 62) (n := 1) (l := [46]) dq_cL_law_1664 (by decide +kernel) (by decide))
theorem dL_law_1727 : decode cL_law 1727 = .ok (.aload_n 0, 1) := dc_42 (dc_cut (j := 63) (n := 1) (l := [42]) dq_cL_law_1664 (by decide +kernel) (by decide))
theorem dq_cL_law_1728 : ((cL_law.data.toList.drop 1728).take 67).map UInt8.toNat = [29, 6, 96, 46, 182, 0, 152, 87, 167, 0, 154, 43, 42, 29, 4, 96, 46, 42, 29, 5, 96, 46, 42, 29, 6, 96, 46, 153, 0, 7, 4, 167, 0, 4, 3, 182, 0, 153, 87, 44, 42, 29, 4, 96, 46, 42, 29, 5, 96, 46, 42, 29, 6, 96, 46, 153, 0, 7, 4, 167, 0, 4, 3, 182, 0, 157, 87] := by decide +kernel
theorem dL_law_1728 : decode cL_law 1728 = .ok (.iload_n 3, 1) := dc_29 (dc_cut (j := 0) (n := 1) (l := [29]) dq_cL_law_1728 (by decide +kernel) (by decide))
theorem dL_law_1729 : decode cL_law 1729 = .ok (.iconst 3, 1) := dc_6 (dc_cut (j := 1) (n := 1) (l := [6]) dq_cL_law_1728 (by decide +kernel) (by decide))
theorem dL_law_1730 : decode cL_law 1730 = .ok (.iadd, 1) := dc_96 (dc_cut (j := 2) (n := 1) (l := [96]) dq_cL_law_1728 (by decide +kernel) (by decide))
theorem dL_law_1731 : decode cL_law 1731 = .ok (.iaload, 1) := dc_46 (dc_cut (j := 3) (n := 1) (l := [46]) dq_cL_law_1728 (by decide +kernel) (by decide))
theorem dL_law_1732 : decode cL_law 1732 = .ok (.invokevirtual 152, 3) := dc_182 (dc_cut (j := 4) (n := 3) (l := [182, 0, 152]) dq_cL_law_1728 (by decide +kernel) (by decide)) rfl
theorem w_1693 : (Cond.methodLink "GooseBorderLaw" (152 : Nat) ({ cls := "GooseBorderModel", name := "near", desc := "(III)I" } : MethodName)) ∈ gb_wA := gb_t8 13 rfl rfl
theorem w_1694 : (Cond.instanceMethod ({ cls := "GooseBorderModel", name := "near", desc := "(III)I" } : MethodName)) ∈ gb_wA := gb_t8 14 rfl rfl
theorem w_1695 : (Cond.selects "GooseBorderModel" ({ cls := "GooseBorderModel", name := "near", desc := "(III)I" } : MethodName) ({ cls := "GooseBorderModel", name := "near", desc := "(III)I" } : MethodName)) ∈ gb_wA := gb_t8 15 rfl rfl
theorem w_1696 : (Cond.code ({ cls := "GooseBorderModel", name := "near", desc := "(III)I" } : MethodName) prog_14_method_112_code (9 : Nat) (Option.some FieldType.int)) ∈ gb_wA := gb_t8 16 rfl rfl
theorem dL_law_1735 : decode cL_law 1735 = .ok (.pop, 1) := dc_87 (dc_cut (j := 7) (n := 1) (l := [87]) dq_cL_law_1728 (by decide +kernel) (by decide))
theorem dL_law_1736 : decode cL_law 1736 = .ok (.goto 154, 3) := dc_167 (dc_cut (j := 8) (n := 3) (l := [167, 0, 154]) dq_cL_law_1728 (by decide +kernel) (by decide)) rfl
set_option maxHeartbeats 4000000 in
set_option maxRecDepth 100000 in
theorem law_c32 {p : Program} {l : Launch} {e : Env} {s : State} {m : MethodId} {below : List Frame} {meth : Method} {c : Code} {b z L : Nat} {xs : Nat → Int32} (C0 : lw_At p s m meth c b L xs) (hzz : Array.size s.heap = z) {D : va_G} {cT : Nat → ClassId} {tt ak av : Nat → Nat} (hSt2 : gb_St2 D cT tt ak av z s) {i : Int32} (h1 : vp_in (i + 1) L) (h2 : vp_in (i + 2) L) (h3 : vp_in (i + 3) L) (h4 : vp_in (i + 4) L) (h5 : vp_in (i + 5) L) (hend : ∀ (σ : gb_S) (f : gb_F) (w : Int64) (H : Heap) (locs : List Loc) (ls : Array Slot), gb_Inv σ f → va_P D vwCl (gb_wl z (gb_CW cT z σ)) H → va_P D vwCl (gb_wl (z + 135) (gb_MW cT (z + 135) f w)) H → va_S (gb_ge z) s.heap H locs → lv_has ls 4 [(3, .int i), (2, .ref (z + 135 + 0)), (1, .ref (z + 0)), (0, .ref b)] → W p l e room_1 s m #[Value.ref b] below meth c H locs 157 10381 (lw_Z below #[Value.ref b] s) (F0 m 1890 ls [])) : ∀ (σ : gb_S) (f : gb_F) (w : Int64) (H : Heap) (locs : List Loc) (ls : Array Slot), gb_Inv σ f → va_P D vwCl (gb_wl z (gb_CW cT z σ)) H → va_P D vwCl (gb_wl (z + 135) (gb_MW cT (z + 135) f w)) H → va_S (gb_ge z) s.heap H locs → lv_has ls 4 [(3, .int i), (2, .ref (z + 135 + 0)), (1, .ref (z + 0)), (0, .ref b)] → W p l e room_1 s m #[Value.ref b] below meth c H locs 157 10381 (lw_Z below #[Value.ref b] s) (F0 m 1696 ls []) := by
  obtain ⟨hx, hb, hr, hml, hown, hts, hX, hbl, hlocks, hgv⟩ := C0
  have hq : ∀ w ∈ gb_wA, w.before #[Value.ref b] s = true := fun w h => hts w (gb_wA_tbl w h)
  have hbA : ¬ gb_ge z b := Nat.not_le.mpr (by rw [← hzz]; exact hbl)
  intro σ f w H locs ls hI hPc hPm hS hl
  refine lv_aload_n hx hb dL_law_1696 rfl (lv_at hl 2 rfl) ?_
  refine lv_aload_n hx hb dL_law_1697 rfl (lv_at hl 3 rfl) ?_
  refine lv_iload_n hx hb dL_law_1698 rfl (lv_at hl 0 rfl) ?_
  refine lv_iconst (v := 1) hx hb dL_law_1699 (by decide) ?_
  refine lv_iadd hx hb dL_law_1700 ?_
  refine va_sld hx hb hX hbl hbA hS h1 dL_law_1701 ?_
  refine lv_aload_n hx hb dL_law_1702 rfl (lv_at hl 3 rfl) ?_
  refine lv_iload_n hx hb dL_law_1703 rfl (lv_at hl 0 rfl) ?_
  refine lv_iconst (v := 2) hx hb dL_law_1704 (by decide) ?_
  refine lv_iadd hx hb dL_law_1705 ?_
  refine va_sld hx hb hX hbl hbA hS h2 dL_law_1706 ?_
  refine lv_aload_n hx hb dL_law_1707 rfl (lv_at hl 3 rfl) ?_
  refine lv_iload_n hx hb dL_law_1708 rfl (lv_at hl 0 rfl) ?_
  refine lv_iconst (v := 3) hx hb dL_law_1709 (by decide) ?_
  refine lv_iadd hx hb dL_law_1710 ?_
  refine va_sld hx hb hX hbl hbA hS h3 dL_law_1711 ?_
  obtain ⟨σ2, ra, f2, w2, qa, ec, em, hI2, hcmp⟩ := law_s_near (xs (Int32.toNatClampNeg (i + 1))) (xs (Int32.toNatClampNeg (i + 2))) (xs (Int32.toNatClampNeg (i + 3))) w hI
  refine gb_calli (va_runV (C := RX11) (As := [.int (xs (Int32.toNatClampNeg (i + 1))), .int (xs (Int32.toNatClampNeg (i + 2))), .int (xs (Int32.toNatClampNeg (i + 3)))]) (rest := []) ⟨hx, hb, hml, hown, hq⟩ (cc_Face_near l D cT tt z z (Nat.le_refl z) gb_N σ (xs (Int32.toNatClampNeg (i + 1))) (xs (Int32.toNatClampNeg (i + 2))) (xs (Int32.toNatClampNeg (i + 3))) σ2 ra ec) (cwV 3 hq (gb_gV w_1014 w_1015 w_1016 w_1 w_1017) rfl rfl rfl (by decide +kernel) ⟨Nat.le_of_ble_eq_true rfl, Nat.le_of_ble_eq_true rfl⟩) (gb_preV (r := (RX11, TX11, 10)) (ci := 9) (q0 := 0) hSt2.1 hPc rfl (gb_at z rfl) hS (fun q h => h) hPc) rfl rfl hl.1 rfl (lv_room (Nat.le_of_ble_eq_true rfl)) dL_law_1712 ⟨Nat.le_of_ble_eq_true rfl, Nat.le_of_ble_eq_true rfl⟩) hS (fun q h => h.1) (fun q h => h.1) (fun rc H2 locs2 hY hk hS => ?_)
  obtain ⟨hr_, hY⟩ := hY
  subst hr_
  have hPm := gb_kept hPm (fun q h1 h2 => hk q (Nat.lt_of_lt_of_le h2 ((hPm 21 _ (gb_at (z + 135) rfl)).lt)) (fun h3 => Nat.not_lt.mpr h1 h3.2))
  have hPc := hY
  clear hY
  refine lv_pop hx hb dL_law_1715 rfl ?_
  refine lv_aload_n hx hb dL_law_1716 rfl (lv_at hl 1 rfl) ?_
  refine lv_aload_n hx hb dL_law_1717 rfl (lv_at hl 3 rfl) ?_
  refine lv_iload_n hx hb dL_law_1718 rfl (lv_at hl 0 rfl) ?_
  refine lv_iconst (v := 1) hx hb dL_law_1719 (by decide) ?_
  refine lv_iadd hx hb dL_law_1720 ?_
  refine va_sld hx hb hX hbl hbA hS h1 dL_law_1721 ?_
  refine lv_aload_n hx hb dL_law_1722 rfl (lv_at hl 3 rfl) ?_
  refine lv_iload_n hx hb dL_law_1723 rfl (lv_at hl 0 rfl) ?_
  refine lv_iconst (v := 2) hx hb dL_law_1724 (by decide) ?_
  refine lv_iadd hx hb dL_law_1725 ?_
  refine va_sld hx hb hX hbl hbA hS h2 dL_law_1726 ?_
  refine lv_aload_n hx hb dL_law_1727 rfl (lv_at hl 3 rfl) ?_
  refine lv_iload_n hx hb dL_law_1728 rfl (lv_at hl 0 rfl) ?_
  refine lv_iconst (v := 3) hx hb dL_law_1729 (by decide) ?_
  refine lv_iadd hx hb dL_law_1730 ?_
  refine va_sld hx hb hX hbl hbA hS h3 dL_law_1731 ?_
  refine gb_calli (va_runV (C := RX12) (As := [.int (xs (Int32.toNatClampNeg (i + 1))), .int (xs (Int32.toNatClampNeg (i + 2))), .int (xs (Int32.toNatClampNeg (i + 3)))]) (rest := []) ⟨hx, hb, hml, hown, hq⟩ (mc_near l D cT tt z (z + 135) (Nat.le_add_right z 135) gb_N f w (xs (Int32.toNatClampNeg (i + 1))) (xs (Int32.toNatClampNeg (i + 2))) (xs (Int32.toNatClampNeg (i + 3))) f2 w2 qa em) (cwV 3 hq (gb_gV w_1693 w_1694 w_1695 w_14 w_1696) rfl rfl rfl (by decide +kernel) ⟨Nat.le_of_ble_eq_true rfl, Nat.le_of_ble_eq_true rfl⟩) (gb_preV (r := (RX12, TX12, 44)) (ci := 10) (q0 := 0) hSt2.1 hPm rfl (gb_at (z + 135) rfl) hS (fun q h => h) hPm) rfl rfl hl.1 rfl (lv_room (Nat.le_of_ble_eq_true rfl)) dL_law_1732 ⟨Nat.le_of_ble_eq_true rfl, Nat.le_of_ble_eq_true rfl⟩) hS (fun q h => Nat.le_trans (Nat.le_add_right z 135) h.1) (fun q h => Nat.le_trans (Nat.le_add_right z 135) h.1) (fun rm H2 locs2 hY hk hS => ?_)
  obtain ⟨hr_, hY⟩ := hY
  subst hr_
  have hPc := gb_kept hPc (fun q h1 h2 => hk q (Nat.lt_of_lt_of_le h2 (Nat.le_of_lt (Nat.lt_of_le_of_lt (Nat.le_add_right (z + 135) 21) ((hPm 21 _ (gb_at (z + 135) rfl)).lt)))) (fun h3 => Nat.not_lt.mpr h3.1 h2))
  have hPm := hY
  clear hY
  refine lv_pop hx hb dL_law_1735 rfl ?_
  refine lv_goto (tgt := 1890) hx hb dL_law_1736 (by decide) ?_
  exact hend _ _ _ _ _ _ hI2 hPc hPm hS hl
theorem dL_law_1739 : decode cL_law 1739 = .ok (.aload_n 1, 1) := dc_43 (dc_cut (j := 11) (n := 1) (l := [43]) dq_cL_law_1728 (by decide +kernel) (by decide))
theorem dL_law_1740 : decode cL_law 1740 = .ok (.aload_n 0, 1) := dc_42 (dc_cut (j := 12) (n := 1) (l := [42]) dq_cL_law_1728 (by decide +kernel) (by decide))
theorem dL_law_1741 : decode cL_law 1741 = .ok (.iload_n 3, 1) := dc_29 (dc_cut (j := 13) (n := 1) (l := [29]) dq_cL_law_1728 (by decide +kernel) (by decide))
theorem dL_law_1742 : decode cL_law 1742 = .ok (.iconst 1, 1) := dc_4 (dc_cut (j := 14) (n := 1) (l := [4]) dq_cL_law_1728 (by decide +kernel) (by decide))
theorem dL_law_1743 : decode cL_law 1743 = .ok (.iadd, 1) := dc_96 (dc_cut (j := 15) (n := 1) (l := [96]) dq_cL_law_1728 (by decide +kernel) (by decide))
theorem dL_law_1744 : decode cL_law 1744 = .ok (.iaload, 1) := dc_46 (dc_cut (j := 16) (n := 1) (l := [46]) dq_cL_law_1728 (by decide +kernel) (by decide))
theorem dL_law_1745 : decode cL_law 1745 = .ok (.aload_n 0, 1) := dc_42 (dc_cut (j := 17) (n := 1) (l := [42]) dq_cL_law_1728 (by decide +kernel) (by decide))
theorem dL_law_1746 : decode cL_law 1746 = .ok (.iload_n 3, 1) := dc_29 (dc_cut (j := 18) (n := 1) (l := [29]) dq_cL_law_1728 (by decide +kernel) (by decide))
theorem dL_law_1747 : decode cL_law 1747 = .ok (.iconst 2, 1) := dc_5 (dc_cut (j := 19) (n := 1) (l := [5]) dq_cL_law_1728 (by decide +kernel) (by decide))
theorem dL_law_1748 : decode cL_law 1748 = .ok (.iadd, 1) := dc_96 (dc_cut (j := 20) (n := 1) (l := [96]) dq_cL_law_1728 (by decide +kernel) (by decide))
theorem dL_law_1749 : decode cL_law 1749 = .ok (.iaload, 1) := dc_46 (dc_cut (j := 21) (n := 1) (l := [46]) dq_cL_law_1728 (by decide +kernel) (by decide))
theorem dL_law_1750 : decode cL_law 1750 = .ok (.aload_n 0, 1) := dc_42 (dc_cut (j := 22) (n := 1) (l := [42]) dq_cL_law_1728 (by decide +kernel) (by decide))
theorem dL_law_1751 : decode cL_law 1751 = .ok (.iload_n 3, 1) := dc_29 (dc_cut (j := 23) (n := 1) (l := [29]) dq_cL_law_1728 (by decide +kernel) (by decide))
theorem dL_law_1752 : decode cL_law 1752 = .ok (.iconst 3, 1) := dc_6 (dc_cut (j := 24) (n := 1) (l := [6]) dq_cL_law_1728 (by decide +kernel) (by decide))
theorem dL_law_1753 : decode cL_law 1753 = .ok (.iadd, 1) := dc_96 (dc_cut (j := 25) (n := 1) (l := [96]) dq_cL_law_1728 (by decide +kernel) (by decide))
theorem dL_law_1754 : decode cL_law 1754 = .ok (.iaload, 1) := dc_46 (dc_cut (j := 26) (n := 1) (l := [46]) dq_cL_law_1728 (by decide +kernel) (by decide))
theorem dL_law_1755 : decode cL_law 1755 = .ok (.ifCond .eq 7, 3) := dc_153 (dc_cut (j := 27) (n := 3) (l := [153, 0, 7]) dq_cL_law_1728 (by decide +kernel) (by decide)) rfl
theorem dL_law_1762 : decode cL_law 1762 = .ok (.iconst 0, 1) := dc_3 (dc_cut (j := 34) (n := 1) (l := [3]) dq_cL_law_1728 (by decide +kernel) (by decide))
theorem dL_law_1763 : decode cL_law 1763 = .ok (.invokevirtual 153, 3) := dc_182 (dc_cut (j := 35) (n := 3) (l := [182, 0, 153]) dq_cL_law_1728 (by decide +kernel) (by decide)) rfl
theorem w_868 : (Cond.methodLink "GooseBorderLaw" (153 : Nat) ({ cls := "GooseBorder", name := "shift", desc := "(IIZ)I" } : MethodName)) ∈ gb_wA := gb_t4 148 rfl rfl
theorem w_869 : (Cond.instanceMethod ({ cls := "GooseBorder", name := "shift", desc := "(IIZ)I" } : MethodName)) ∈ gb_wA := gb_t4 149 rfl rfl
theorem w_870 : (Cond.selects "GooseBorder" ({ cls := "GooseBorder", name := "shift", desc := "(IIZ)I" } : MethodName) ({ cls := "GooseBorder", name := "shift", desc := "(IIZ)I" } : MethodName)) ∈ gb_wA := gb_t4 150 rfl rfl
theorem w_871 : (Cond.code ({ cls := "GooseBorder", name := "shift", desc := "(IIZ)I" } : MethodName) prog_1_method_31_code (10 : Nat) (Option.some FieldType.int)) ∈ gb_wA := gb_t4 151 rfl rfl
theorem dL_law_1766 : decode cL_law 1766 = .ok (.pop, 1) := dc_87 (dc_cut (j := 38) (n := 1) (l := [87]) dq_cL_law_1728 (by decide +kernel) (by decide))
theorem dL_law_1767 : decode cL_law 1767 = .ok (.aload_n 2, 1) := dc_44 (dc_cut (j := 39) (n := 1) (l := [44]) dq_cL_law_1728 (by decide +kernel) (by decide))
theorem dL_law_1768 : decode cL_law 1768 = .ok (.aload_n 0, 1) := dc_42 (dc_cut (j := 40) (n := 1) (l := [42]) dq_cL_law_1728 (by decide +kernel) (by decide))
theorem dL_law_1769 : decode cL_law 1769 = .ok (.iload_n 3, 1) := dc_29 (dc_cut (j := 41) (n := 1) (l := [29]) dq_cL_law_1728 (by decide +kernel) (by decide))
theorem dL_law_1770 : decode cL_law 1770 = .ok (.iconst 1, 1) := dc_4 (dc_cut (j := 42) (n := 1) (l := [4]) dq_cL_law_1728 (by decide +kernel) (by decide))
theorem dL_law_1771 : decode cL_law 1771 = .ok (.iadd, 1) := dc_96 (dc_cut (j := 43) (n := 1) (l := [96]) dq_cL_law_1728 (by decide +kernel) (by decide))
theorem dL_law_1772 : decode cL_law 1772 = .ok (.iaload, 1) := dc_46 (dc_cut (j := 44) (n := 1) (l := [46]) dq_cL_law_1728 (by decide +kernel) (by decide))
theorem dL_law_1773 : decode cL_law 1773 = .ok (.aload_n 0, 1) := dc_42 (dc_cut (j := 45) (n := 1) (l := [42]) dq_cL_law_1728 (by decide +kernel) (by decide))
theorem dL_law_1774 : decode cL_law 1774 = .ok (.iload_n 3, 1) := dc_29 (dc_cut (j := 46) (n := 1) (l := [29]) dq_cL_law_1728 (by decide +kernel) (by decide))
theorem dL_law_1775 : decode cL_law 1775 = .ok (.iconst 2, 1) := dc_5 (dc_cut (j := 47) (n := 1) (l := [5]) dq_cL_law_1728 (by decide +kernel) (by decide))
theorem dL_law_1776 : decode cL_law 1776 = .ok (.iadd, 1) := dc_96 (dc_cut (j := 48) (n := 1) (l := [96]) dq_cL_law_1728 (by decide +kernel) (by decide))
theorem dL_law_1777 : decode cL_law 1777 = .ok (.iaload, 1) := dc_46 (dc_cut (j := 49) (n := 1) (l := [46]) dq_cL_law_1728 (by decide +kernel) (by decide))
theorem dL_law_1778 : decode cL_law 1778 = .ok (.aload_n 0, 1) := dc_42 (dc_cut (j := 50) (n := 1) (l := [42]) dq_cL_law_1728 (by decide +kernel) (by decide))
theorem dL_law_1779 : decode cL_law 1779 = .ok (.iload_n 3, 1) := dc_29 (dc_cut (j := 51) (n := 1) (l := [29]) dq_cL_law_1728 (by decide +kernel) (by decide))
theorem dL_law_1780 : decode cL_law 1780 = .ok (.iconst 3, 1) := dc_6 (dc_cut (j := 52) (n := 1) (l := [6]) dq_cL_law_1728 (by decide +kernel) (by decide))
theorem dL_law_1781 : decode cL_law 1781 = .ok (.iadd, 1) := dc_96 (dc_cut (j := 53) (n := 1) (l := [96]) dq_cL_law_1728 (by decide +kernel) (by decide))
theorem dL_law_1782 : decode cL_law 1782 = .ok (.iaload, 1) := dc_46 (dc_cut (j := 54) (n := 1) (l := [46]) dq_cL_law_1728 (by decide +kernel) (by decide))
theorem dL_law_1783 : decode cL_law 1783 = .ok (.ifCond .eq 7, 3) := dc_153 (dc_cut (j := 55) (n := 3) (l := [153, 0, 7]) dq_cL_law_1728 (by decide +kernel) (by decide)) rfl
theorem dL_law_1790 : decode cL_law 1790 = .ok (.iconst 0, 1) := dc_3 (dc_cut (j := 62) (n := 1) (l := [3]) dq_cL_law_1728 (by decide +kernel) (by decide))
theorem dL_law_1791 : decode cL_law 1791 = .ok (.invokevirtual 157, 3) := dc_182 (dc_cut (j := 63) (n := 3) (l := [182, 0, 157]) dq_cL_law_1728 (by decide +kernel) (by decide)) rfl
theorem w_1697 : (Cond.methodLink "GooseBorderLaw" (157 : Nat) ({ cls := "GooseBorderModel", name := "shift", desc := "(IIZ)I" } : MethodName)) ∈ gb_wA := gb_t8 17 rfl rfl
theorem w_1698 : (Cond.instanceMethod ({ cls := "GooseBorderModel", name := "shift", desc := "(IIZ)I" } : MethodName)) ∈ gb_wA := gb_t8 18 rfl rfl
theorem w_1699 : (Cond.selects "GooseBorderModel" ({ cls := "GooseBorderModel", name := "shift", desc := "(IIZ)I" } : MethodName) ({ cls := "GooseBorderModel", name := "shift", desc := "(IIZ)I" } : MethodName)) ∈ gb_wA := gb_t8 19 rfl rfl
theorem w_1700 : (Cond.code ({ cls := "GooseBorderModel", name := "shift", desc := "(IIZ)I" } : MethodName) prog_14_method_114_code (9 : Nat) (Option.some FieldType.int)) ∈ gb_wA := gb_t8 20 rfl rfl
theorem dq_cL_law_1792 : ((cL_law.data.toList.drop 1792).take 67).map UInt8.toNat = [0, 157, 87, 167, 0, 95, 43, 42, 29, 4, 96, 46, 182, 0, 158, 87, 44, 42, 29, 4, 96, 46, 182, 0, 161, 87, 167, 0, 72, 43, 42, 29, 4, 96, 46, 182, 0, 162, 87, 44, 42, 29, 4, 96, 46, 182, 0, 165, 87, 167, 0, 49, 43, 42, 29, 4, 96, 46, 182, 0, 166, 87, 44, 42, 29, 4, 96] := by decide +kernel
theorem dL_law_1794 : decode cL_law 1794 = .ok (.pop, 1) := dc_87 (dc_cut (j := 2) (n := 1) (l := [87]) dq_cL_law_1792 (by decide +kernel) (by decide))
theorem dL_law_1795 : decode cL_law 1795 = .ok (.goto 95, 3) := dc_167 (dc_cut (j := 3) (n := 3) (l := [167, 0, 95]) dq_cL_law_1792 (by decide +kernel) (by decide)) rfl
theorem dL_law_1758 : decode cL_law 1758 = .ok (.iconst 1, 1) := dc_4 (dc_cut (j := 30) (n := 1) (l := [4]) dq_cL_law_1728 (by decide +kernel) (by decide))
theorem dL_law_1759 : decode cL_law 1759 = .ok (.goto 4, 3) := dc_167 (dc_cut (j := 31) (n := 3) (l := [167, 0, 4]) dq_cL_law_1728 (by decide +kernel) (by decide)) rfl
theorem dL_law_1786 : decode cL_law 1786 = .ok (.iconst 1, 1) := dc_4 (dc_cut (j := 58) (n := 1) (l := [4]) dq_cL_law_1728 (by decide +kernel) (by decide))
theorem dL_law_1787 : decode cL_law 1787 = .ok (.goto 4, 3) := dc_167 (dc_cut (j := 59) (n := 3) (l := [167, 0, 4]) dq_cL_law_1728 (by decide +kernel) (by decide)) rfl
set_option maxHeartbeats 4000000 in
set_option maxRecDepth 100000 in
theorem law_c33 {p : Program} {l : Launch} {e : Env} {s : State} {m : MethodId} {below : List Frame} {meth : Method} {c : Code} {b z L : Nat} {xs : Nat → Int32} (C0 : lw_At p s m meth c b L xs) (hzz : Array.size s.heap = z) {D : va_G} {cT : Nat → ClassId} {tt ak av : Nat → Nat} (hSt2 : gb_St2 D cT tt ak av z s) {i : Int32} (h1 : vp_in (i + 1) L) (h2 : vp_in (i + 2) L) (h3 : vp_in (i + 3) L) (h4 : vp_in (i + 4) L) (h5 : vp_in (i + 5) L) (hend : ∀ (σ : gb_S) (f : gb_F) (w : Int64) (H : Heap) (locs : List Loc) (ls : Array Slot), gb_Inv σ f → va_P D vwCl (gb_wl z (gb_CW cT z σ)) H → va_P D vwCl (gb_wl (z + 135) (gb_MW cT (z + 135) f w)) H → va_S (gb_ge z) s.heap H locs → lv_has ls 4 [(3, .int i), (2, .ref (z + 135 + 0)), (1, .ref (z + 0)), (0, .ref b)] → W p l e room_1 s m #[Value.ref b] below meth c H locs 157 10381 (lw_Z below #[Value.ref b] s) (F0 m 1890 ls [])) : ∀ (σ : gb_S) (f : gb_F) (w : Int64) (H : Heap) (locs : List Loc) (ls : Array Slot), gb_Inv σ f → va_P D vwCl (gb_wl z (gb_CW cT z σ)) H → va_P D vwCl (gb_wl (z + 135) (gb_MW cT (z + 135) f w)) H → va_S (gb_ge z) s.heap H locs → lv_has ls 4 [(3, .int i), (2, .ref (z + 135 + 0)), (1, .ref (z + 0)), (0, .ref b)] → W p l e room_1 s m #[Value.ref b] below meth c H locs 157 10381 (lw_Z below #[Value.ref b] s) (F0 m 1739 ls []) := by
  obtain ⟨hx, hb, hr, hml, hown, hts, hX, hbl, hlocks, hgv⟩ := C0
  have hq : ∀ w ∈ gb_wA, w.before #[Value.ref b] s = true := fun w h => hts w (gb_wA_tbl w h)
  have hbA : ¬ gb_ge z b := Nat.not_le.mpr (by rw [← hzz]; exact hbl)
  intro σ f w H locs ls hI hPc hPm hS hl
  refine lv_aload_n hx hb dL_law_1739 rfl (lv_at hl 2 rfl) ?_
  refine lv_aload_n hx hb dL_law_1740 rfl (lv_at hl 3 rfl) ?_
  refine lv_iload_n hx hb dL_law_1741 rfl (lv_at hl 0 rfl) ?_
  refine lv_iconst (v := 1) hx hb dL_law_1742 (by decide) ?_
  refine lv_iadd hx hb dL_law_1743 ?_
  refine va_sld hx hb hX hbl hbA hS h1 dL_law_1744 ?_
  refine lv_aload_n hx hb dL_law_1745 rfl (lv_at hl 3 rfl) ?_
  refine lv_iload_n hx hb dL_law_1746 rfl (lv_at hl 0 rfl) ?_
  refine lv_iconst (v := 2) hx hb dL_law_1747 (by decide) ?_
  refine lv_iadd hx hb dL_law_1748 ?_
  refine va_sld hx hb hX hbl hbA hS h2 dL_law_1749 ?_
  refine lv_aload_n hx hb dL_law_1750 rfl (lv_at hl 3 rfl) ?_
  refine lv_iload_n hx hb dL_law_1751 rfl (lv_at hl 0 rfl) ?_
  refine lv_iconst (v := 3) hx hb dL_law_1752 (by decide) ?_
  refine lv_iadd hx hb dL_law_1753 ?_
  refine va_sld hx hb hX hbl hbA hS h3 dL_law_1754 ?_
  by_cases hz_ : (xs (Int32.toNatClampNeg (i + 3))) = 0
  · refine lv_if_eq (tgt := 1762) hx hb dL_law_1755 (by decide) (fun _ => ?_) (fun hc => absurd hz_ hc)
    refine lv_iconst (v := 0) hx hb dL_law_1762 (by decide) ?_
    obtain ⟨σ2, ra, f2, w2, qa, ec, em, hI2, hcmp⟩ := law_s_shift (xs (Int32.toNatClampNeg (i + 1))) (xs (Int32.toNatClampNeg (i + 2))) 0 w hI
    refine gb_calli (va_runV (C := RX11) (As := [.int (xs (Int32.toNatClampNeg (i + 1))), .int (xs (Int32.toNatClampNeg (i + 2))), .int 0]) (rest := []) ⟨hx, hb, hml, hown, hq⟩ (cc_Face_shift l D cT tt z z (Nat.le_refl z) gb_N σ (xs (Int32.toNatClampNeg (i + 1))) (xs (Int32.toNatClampNeg (i + 2))) 0 σ2 ra ec) (cwV 3 hq (gb_gV w_868 w_869 w_870 w_1 w_871) rfl rfl rfl (by decide +kernel) ⟨Nat.le_of_ble_eq_true rfl, Nat.le_of_ble_eq_true rfl⟩) (gb_preV (r := (RX11, TX11, 10)) (ci := 9) (q0 := 0) hSt2.1 hPc rfl (gb_at z rfl) hS (fun q h => h) hPc) rfl rfl hl.1 rfl (lv_room (Nat.le_of_ble_eq_true rfl)) dL_law_1763 ⟨Nat.le_of_ble_eq_true rfl, Nat.le_of_ble_eq_true rfl⟩) hS (fun q h => h.1) (fun q h => h.1) (fun rc H2 locs2 hY hk hS => ?_)
    obtain ⟨hr_, hY⟩ := hY
    subst hr_
    have hPm := gb_kept hPm (fun q h1 h2 => hk q (Nat.lt_of_lt_of_le h2 ((hPm 21 _ (gb_at (z + 135) rfl)).lt)) (fun h3 => Nat.not_lt.mpr h1 h3.2))
    have hPc := hY
    clear hY
    refine lv_pop hx hb dL_law_1766 rfl ?_
    refine lv_aload_n hx hb dL_law_1767 rfl (lv_at hl 1 rfl) ?_
    refine lv_aload_n hx hb dL_law_1768 rfl (lv_at hl 3 rfl) ?_
    refine lv_iload_n hx hb dL_law_1769 rfl (lv_at hl 0 rfl) ?_
    refine lv_iconst (v := 1) hx hb dL_law_1770 (by decide) ?_
    refine lv_iadd hx hb dL_law_1771 ?_
    refine va_sld hx hb hX hbl hbA hS h1 dL_law_1772 ?_
    refine lv_aload_n hx hb dL_law_1773 rfl (lv_at hl 3 rfl) ?_
    refine lv_iload_n hx hb dL_law_1774 rfl (lv_at hl 0 rfl) ?_
    refine lv_iconst (v := 2) hx hb dL_law_1775 (by decide) ?_
    refine lv_iadd hx hb dL_law_1776 ?_
    refine va_sld hx hb hX hbl hbA hS h2 dL_law_1777 ?_
    refine lv_aload_n hx hb dL_law_1778 rfl (lv_at hl 3 rfl) ?_
    refine lv_iload_n hx hb dL_law_1779 rfl (lv_at hl 0 rfl) ?_
    refine lv_iconst (v := 3) hx hb dL_law_1780 (by decide) ?_
    refine lv_iadd hx hb dL_law_1781 ?_
    refine va_sld hx hb hX hbl hbA hS h3 dL_law_1782 ?_
    refine lv_if_eq (tgt := 1790) hx hb dL_law_1783 (by decide) (fun _ => ?_) (fun hc => absurd hz_ hc)
    refine lv_iconst (v := 0) hx hb dL_law_1790 (by decide) ?_
    refine gb_calli (va_runV (C := RX12) (As := [.int (xs (Int32.toNatClampNeg (i + 1))), .int (xs (Int32.toNatClampNeg (i + 2))), .int 0]) (rest := []) ⟨hx, hb, hml, hown, hq⟩ (mc_shift l D cT tt z (z + 135) (Nat.le_add_right z 135) gb_N f w (xs (Int32.toNatClampNeg (i + 1))) (xs (Int32.toNatClampNeg (i + 2))) 0 f2 w2 qa em) (cwV 3 hq (gb_gV w_1697 w_1698 w_1699 w_14 w_1700) rfl rfl rfl (by decide +kernel) ⟨Nat.le_of_ble_eq_true rfl, Nat.le_of_ble_eq_true rfl⟩) (gb_preV (r := (RX12, TX12, 44)) (ci := 10) (q0 := 0) hSt2.1 hPm rfl (gb_at (z + 135) rfl) hS (fun q h => h) hPm) rfl rfl hl.1 rfl (lv_room (Nat.le_of_ble_eq_true rfl)) dL_law_1791 ⟨Nat.le_of_ble_eq_true rfl, Nat.le_of_ble_eq_true rfl⟩) hS (fun q h => Nat.le_trans (Nat.le_add_right z 135) h.1) (fun q h => Nat.le_trans (Nat.le_add_right z 135) h.1) (fun rm H2 locs2 hY hk hS => ?_)
    obtain ⟨hr_, hY⟩ := hY
    subst hr_
    have hPc := gb_kept hPc (fun q h1 h2 => hk q (Nat.lt_of_lt_of_le h2 (Nat.le_of_lt (Nat.lt_of_le_of_lt (Nat.le_add_right (z + 135) 21) ((hPm 21 _ (gb_at (z + 135) rfl)).lt)))) (fun h3 => Nat.not_lt.mpr h3.1 h2))
    have hPm := hY
    clear hY
    refine lv_pop hx hb dL_law_1794 rfl ?_
    refine lv_goto (tgt := 1890) hx hb dL_law_1795 (by decide) ?_
    exact hend _ _ _ _ _ _ hI2 hPc hPm hS hl
  · refine lv_if_eq (tgt := 1762) hx hb dL_law_1755 (by decide) (fun hc => absurd hc hz_) (fun _ => ?_)
    refine lv_iconst (v := 1) hx hb dL_law_1758 (by decide) ?_
    refine lv_goto (tgt := 1763) hx hb dL_law_1759 (by decide) ?_
    obtain ⟨σ2, ra, f2, w2, qa, ec, em, hI2, hcmp⟩ := law_s_shift (xs (Int32.toNatClampNeg (i + 1))) (xs (Int32.toNatClampNeg (i + 2))) 1 w hI
    refine gb_calli (va_runV (C := RX11) (As := [.int (xs (Int32.toNatClampNeg (i + 1))), .int (xs (Int32.toNatClampNeg (i + 2))), .int 1]) (rest := []) ⟨hx, hb, hml, hown, hq⟩ (cc_Face_shift l D cT tt z z (Nat.le_refl z) gb_N σ (xs (Int32.toNatClampNeg (i + 1))) (xs (Int32.toNatClampNeg (i + 2))) 1 σ2 ra ec) (cwV 3 hq (gb_gV w_868 w_869 w_870 w_1 w_871) rfl rfl rfl (by decide +kernel) ⟨Nat.le_of_ble_eq_true rfl, Nat.le_of_ble_eq_true rfl⟩) (gb_preV (r := (RX11, TX11, 10)) (ci := 9) (q0 := 0) hSt2.1 hPc rfl (gb_at z rfl) hS (fun q h => h) hPc) rfl rfl hl.1 rfl (lv_room (Nat.le_of_ble_eq_true rfl)) dL_law_1763 ⟨Nat.le_of_ble_eq_true rfl, Nat.le_of_ble_eq_true rfl⟩) hS (fun q h => h.1) (fun q h => h.1) (fun rc H2 locs2 hY hk hS => ?_)
    obtain ⟨hr_, hY⟩ := hY
    subst hr_
    have hPm := gb_kept hPm (fun q h1 h2 => hk q (Nat.lt_of_lt_of_le h2 ((hPm 21 _ (gb_at (z + 135) rfl)).lt)) (fun h3 => Nat.not_lt.mpr h1 h3.2))
    have hPc := hY
    clear hY
    refine lv_pop hx hb dL_law_1766 rfl ?_
    refine lv_aload_n hx hb dL_law_1767 rfl (lv_at hl 1 rfl) ?_
    refine lv_aload_n hx hb dL_law_1768 rfl (lv_at hl 3 rfl) ?_
    refine lv_iload_n hx hb dL_law_1769 rfl (lv_at hl 0 rfl) ?_
    refine lv_iconst (v := 1) hx hb dL_law_1770 (by decide) ?_
    refine lv_iadd hx hb dL_law_1771 ?_
    refine va_sld hx hb hX hbl hbA hS h1 dL_law_1772 ?_
    refine lv_aload_n hx hb dL_law_1773 rfl (lv_at hl 3 rfl) ?_
    refine lv_iload_n hx hb dL_law_1774 rfl (lv_at hl 0 rfl) ?_
    refine lv_iconst (v := 2) hx hb dL_law_1775 (by decide) ?_
    refine lv_iadd hx hb dL_law_1776 ?_
    refine va_sld hx hb hX hbl hbA hS h2 dL_law_1777 ?_
    refine lv_aload_n hx hb dL_law_1778 rfl (lv_at hl 3 rfl) ?_
    refine lv_iload_n hx hb dL_law_1779 rfl (lv_at hl 0 rfl) ?_
    refine lv_iconst (v := 3) hx hb dL_law_1780 (by decide) ?_
    refine lv_iadd hx hb dL_law_1781 ?_
    refine va_sld hx hb hX hbl hbA hS h3 dL_law_1782 ?_
    refine lv_if_eq (tgt := 1790) hx hb dL_law_1783 (by decide) (fun hc => absurd hc hz_) (fun _ => ?_)
    refine lv_iconst (v := 1) hx hb dL_law_1786 (by decide) ?_
    refine lv_goto (tgt := 1791) hx hb dL_law_1787 (by decide) ?_
    refine gb_calli (va_runV (C := RX12) (As := [.int (xs (Int32.toNatClampNeg (i + 1))), .int (xs (Int32.toNatClampNeg (i + 2))), .int 1]) (rest := []) ⟨hx, hb, hml, hown, hq⟩ (mc_shift l D cT tt z (z + 135) (Nat.le_add_right z 135) gb_N f w (xs (Int32.toNatClampNeg (i + 1))) (xs (Int32.toNatClampNeg (i + 2))) 1 f2 w2 qa em) (cwV 3 hq (gb_gV w_1697 w_1698 w_1699 w_14 w_1700) rfl rfl rfl (by decide +kernel) ⟨Nat.le_of_ble_eq_true rfl, Nat.le_of_ble_eq_true rfl⟩) (gb_preV (r := (RX12, TX12, 44)) (ci := 10) (q0 := 0) hSt2.1 hPm rfl (gb_at (z + 135) rfl) hS (fun q h => h) hPm) rfl rfl hl.1 rfl (lv_room (Nat.le_of_ble_eq_true rfl)) dL_law_1791 ⟨Nat.le_of_ble_eq_true rfl, Nat.le_of_ble_eq_true rfl⟩) hS (fun q h => Nat.le_trans (Nat.le_add_right z 135) h.1) (fun q h => Nat.le_trans (Nat.le_add_right z 135) h.1) (fun rm H2 locs2 hY hk hS => ?_)
    obtain ⟨hr_, hY⟩ := hY
    subst hr_
    have hPc := gb_kept hPc (fun q h1 h2 => hk q (Nat.lt_of_lt_of_le h2 (Nat.le_of_lt (Nat.lt_of_le_of_lt (Nat.le_add_right (z + 135) 21) ((hPm 21 _ (gb_at (z + 135) rfl)).lt)))) (fun h3 => Nat.not_lt.mpr h3.1 h2))
    have hPm := hY
    clear hY
    refine lv_pop hx hb dL_law_1794 rfl ?_
    refine lv_goto (tgt := 1890) hx hb dL_law_1795 (by decide) ?_
    exact hend _ _ _ _ _ _ hI2 hPc hPm hS hl
theorem dL_law_1798 : decode cL_law 1798 = .ok (.aload_n 1, 1) := dc_43 (dc_cut (j := 6) (n := 1) (l := [43]) dq_cL_law_1792 (by decide +kernel) (by decide))
theorem dL_law_1799 : decode cL_law 1799 = .ok (.aload_n 0, 1) := dc_42 (dc_cut (j := 7) (n := 1) (l := [42]) dq_cL_law_1792 (by decide +kernel) (by decide))
theorem dL_law_1800 : decode cL_law 1800 = .ok (.iload_n 3, 1) := dc_29 (dc_cut (j := 8) (n := 1) (l := [29]) dq_cL_law_1792 (by decide +kernel) (by decide))
theorem dL_law_1801 : decode cL_law 1801 = .ok (.iconst 1, 1) := dc_4 (dc_cut (j := 9) (n := 1) (l := [4]) dq_cL_law_1792 (by decide +kernel) (by decide))
theorem dL_law_1802 : decode cL_law 1802 = .ok (.iadd, 1) := dc_96 (dc_cut (j := 10) (n := 1) (l := [96]) dq_cL_law_1792 (by decide +kernel) (by decide))
theorem dL_law_1803 : decode cL_law 1803 = .ok (.iaload, 1) := dc_46 (dc_cut (j := 11) (n := 1) (l := [46]) dq_cL_law_1792 (by decide +kernel) (by decide))
theorem dL_law_1804 : decode cL_law 1804 = .ok (.invokevirtual 158, 3) := dc_182 (dc_cut (j := 12) (n := 3) (l := [182, 0, 158]) dq_cL_law_1792 (by decide +kernel) (by decide)) rfl
theorem w_1025 : (Cond.methodLink "GooseBorderLaw" (158 : Nat) ({ cls := "GooseBorder", name := "thrift", desc := "(I)I" } : MethodName)) ∈ gb_wA := gb_t5 65 rfl rfl
theorem w_1026 : (Cond.instanceMethod ({ cls := "GooseBorder", name := "thrift", desc := "(I)I" } : MethodName)) ∈ gb_wA := gb_t5 66 rfl rfl
theorem w_1027 : (Cond.selects "GooseBorder" ({ cls := "GooseBorder", name := "thrift", desc := "(I)I" } : MethodName) ({ cls := "GooseBorder", name := "thrift", desc := "(I)I" } : MethodName)) ∈ gb_wA := gb_t5 67 rfl rfl
theorem w_1028 : (Cond.code ({ cls := "GooseBorder", name := "thrift", desc := "(I)I" } : MethodName) prog_1_method_44_code (3 : Nat) (Option.some FieldType.int)) ∈ gb_wA := gb_t5 68 rfl rfl
theorem dL_law_1807 : decode cL_law 1807 = .ok (.pop, 1) := dc_87 (dc_cut (j := 15) (n := 1) (l := [87]) dq_cL_law_1792 (by decide +kernel) (by decide))
theorem dL_law_1808 : decode cL_law 1808 = .ok (.aload_n 2, 1) := dc_44 (dc_cut (j := 16) (n := 1) (l := [44]) dq_cL_law_1792 (by decide +kernel) (by decide))
theorem dL_law_1809 : decode cL_law 1809 = .ok (.aload_n 0, 1) := dc_42 (dc_cut (j := 17) (n := 1) (l := [42]) dq_cL_law_1792 (by decide +kernel) (by decide))
theorem dL_law_1810 : decode cL_law 1810 = .ok (.iload_n 3, 1) := dc_29 (dc_cut (j := 18) (n := 1) (l := [29]) dq_cL_law_1792 (by decide +kernel) (by decide))
theorem dL_law_1811 : decode cL_law 1811 = .ok (.iconst 1, 1) := dc_4 (dc_cut (j := 19) (n := 1) (l := [4]) dq_cL_law_1792 (by decide +kernel) (by decide))
theorem dL_law_1812 : decode cL_law 1812 = .ok (.iadd, 1) := dc_96 (dc_cut (j := 20) (n := 1) (l := [96]) dq_cL_law_1792 (by decide +kernel) (by decide))
theorem dL_law_1813 : decode cL_law 1813 = .ok (.iaload, 1) := dc_46 (dc_cut (j := 21) (n := 1) (l := [46]) dq_cL_law_1792 (by decide +kernel) (by decide))
theorem dL_law_1814 : decode cL_law 1814 = .ok (.invokevirtual 161, 3) := dc_182 (dc_cut (j := 22) (n := 3) (l := [182, 0, 161]) dq_cL_law_1792 (by decide +kernel) (by decide)) rfl
theorem w_1705 : (Cond.methodLink "GooseBorderLaw" (161 : Nat) ({ cls := "GooseBorderModel", name := "thrift", desc := "(I)I" } : MethodName)) ∈ gb_wA := gb_t8 25 rfl rfl
theorem w_1706 : (Cond.instanceMethod ({ cls := "GooseBorderModel", name := "thrift", desc := "(I)I" } : MethodName)) ∈ gb_wA := gb_t8 26 rfl rfl
theorem w_1707 : (Cond.selects "GooseBorderModel" ({ cls := "GooseBorderModel", name := "thrift", desc := "(I)I" } : MethodName) ({ cls := "GooseBorderModel", name := "thrift", desc := "(I)I" } : MethodName)) ∈ gb_wA := gb_t8 27 rfl rfl
theorem w_1708 : (Cond.code ({ cls := "GooseBorderModel", name := "thrift", desc := "(I)I" } : MethodName) prog_14_method_116_code (3 : Nat) (Option.some FieldType.int)) ∈ gb_wA := gb_t8 28 rfl rfl
theorem dL_law_1817 : decode cL_law 1817 = .ok (.pop, 1) := dc_87 (dc_cut (j := 25) (n := 1) (l := [87]) dq_cL_law_1792 (by decide +kernel) (by decide))
theorem dL_law_1818 : decode cL_law 1818 = .ok (.goto 72, 3) := dc_167 (dc_cut (j := 26) (n := 3) (l := [167, 0, 72]) dq_cL_law_1792 (by decide +kernel) (by decide)) rfl
set_option maxHeartbeats 4000000 in
set_option maxRecDepth 100000 in
theorem law_c34 {p : Program} {l : Launch} {e : Env} {s : State} {m : MethodId} {below : List Frame} {meth : Method} {c : Code} {b z L : Nat} {xs : Nat → Int32} (C0 : lw_At p s m meth c b L xs) (hzz : Array.size s.heap = z) {D : va_G} {cT : Nat → ClassId} {tt ak av : Nat → Nat} (hSt2 : gb_St2 D cT tt ak av z s) {i : Int32} (h1 : vp_in (i + 1) L) (h2 : vp_in (i + 2) L) (h3 : vp_in (i + 3) L) (h4 : vp_in (i + 4) L) (h5 : vp_in (i + 5) L) (hend : ∀ (σ : gb_S) (f : gb_F) (w : Int64) (H : Heap) (locs : List Loc) (ls : Array Slot), gb_Inv σ f → va_P D vwCl (gb_wl z (gb_CW cT z σ)) H → va_P D vwCl (gb_wl (z + 135) (gb_MW cT (z + 135) f w)) H → va_S (gb_ge z) s.heap H locs → lv_has ls 4 [(3, .int i), (2, .ref (z + 135 + 0)), (1, .ref (z + 0)), (0, .ref b)] → W p l e room_1 s m #[Value.ref b] below meth c H locs 157 10381 (lw_Z below #[Value.ref b] s) (F0 m 1890 ls [])) : ∀ (σ : gb_S) (f : gb_F) (w : Int64) (H : Heap) (locs : List Loc) (ls : Array Slot), gb_Inv σ f → va_P D vwCl (gb_wl z (gb_CW cT z σ)) H → va_P D vwCl (gb_wl (z + 135) (gb_MW cT (z + 135) f w)) H → va_S (gb_ge z) s.heap H locs → lv_has ls 4 [(3, .int i), (2, .ref (z + 135 + 0)), (1, .ref (z + 0)), (0, .ref b)] → W p l e room_1 s m #[Value.ref b] below meth c H locs 157 10381 (lw_Z below #[Value.ref b] s) (F0 m 1798 ls []) := by
  obtain ⟨hx, hb, hr, hml, hown, hts, hX, hbl, hlocks, hgv⟩ := C0
  have hq : ∀ w ∈ gb_wA, w.before #[Value.ref b] s = true := fun w h => hts w (gb_wA_tbl w h)
  have hbA : ¬ gb_ge z b := Nat.not_le.mpr (by rw [← hzz]; exact hbl)
  intro σ f w H locs ls hI hPc hPm hS hl
  refine lv_aload_n hx hb dL_law_1798 rfl (lv_at hl 2 rfl) ?_
  refine lv_aload_n hx hb dL_law_1799 rfl (lv_at hl 3 rfl) ?_
  refine lv_iload_n hx hb dL_law_1800 rfl (lv_at hl 0 rfl) ?_
  refine lv_iconst (v := 1) hx hb dL_law_1801 (by decide) ?_
  refine lv_iadd hx hb dL_law_1802 ?_
  refine va_sld hx hb hX hbl hbA hS h1 dL_law_1803 ?_
  obtain ⟨σ2, ra, f2, w2, qa, ec, em, hI2, hcmp⟩ := law_s_thrift (xs (Int32.toNatClampNeg (i + 1))) w hI
  refine gb_calli (va_runV (C := RX11) (As := [.int (xs (Int32.toNatClampNeg (i + 1)))]) (rest := []) ⟨hx, hb, hml, hown, hq⟩ (cc_Face_thrift l D cT tt z z (Nat.le_refl z) gb_N σ (xs (Int32.toNatClampNeg (i + 1))) σ2 ra ec) (cwV 1 hq (gb_gV w_1025 w_1026 w_1027 w_1 w_1028) rfl rfl rfl (by decide +kernel) ⟨Nat.le_of_ble_eq_true rfl, Nat.le_of_ble_eq_true rfl⟩) (gb_preV (r := (RX11, TX11, 10)) (ci := 9) (q0 := 0) hSt2.1 hPc rfl (gb_at z rfl) hS (fun q h => h) hPc) rfl rfl hl.1 rfl (lv_room (Nat.le_of_ble_eq_true rfl)) dL_law_1804 ⟨Nat.le_of_ble_eq_true rfl, Nat.le_of_ble_eq_true rfl⟩) hS (fun q h => h.1) (fun q h => h.1) (fun rc H2 locs2 hY hk hS => ?_)
  obtain ⟨hr_, hY⟩ := hY
  subst hr_
  have hPm := gb_kept hPm (fun q h1 h2 => hk q (Nat.lt_of_lt_of_le h2 ((hPm 21 _ (gb_at (z + 135) rfl)).lt)) (fun h3 => Nat.not_lt.mpr h1 h3.2))
  have hPc := hY
  clear hY
  refine lv_pop hx hb dL_law_1807 rfl ?_
  refine lv_aload_n hx hb dL_law_1808 rfl (lv_at hl 1 rfl) ?_
  refine lv_aload_n hx hb dL_law_1809 rfl (lv_at hl 3 rfl) ?_
  refine lv_iload_n hx hb dL_law_1810 rfl (lv_at hl 0 rfl) ?_
  refine lv_iconst (v := 1) hx hb dL_law_1811 (by decide) ?_
  refine lv_iadd hx hb dL_law_1812 ?_
  refine va_sld hx hb hX hbl hbA hS h1 dL_law_1813 ?_
  refine gb_calli (va_runV (C := RX12) (As := [.int (xs (Int32.toNatClampNeg (i + 1)))]) (rest := []) ⟨hx, hb, hml, hown, hq⟩ (mc_thrift l D cT tt z (z + 135) (Nat.le_add_right z 135) gb_N f w (xs (Int32.toNatClampNeg (i + 1))) f2 w2 qa em) (cwV 1 hq (gb_gV w_1705 w_1706 w_1707 w_14 w_1708) rfl rfl rfl (by decide +kernel) ⟨Nat.le_of_ble_eq_true rfl, Nat.le_of_ble_eq_true rfl⟩) (gb_preV (r := (RX12, TX12, 44)) (ci := 10) (q0 := 0) hSt2.1 hPm rfl (gb_at (z + 135) rfl) hS (fun q h => h) hPm) rfl rfl hl.1 rfl (lv_room (Nat.le_of_ble_eq_true rfl)) dL_law_1814 ⟨Nat.le_of_ble_eq_true rfl, Nat.le_of_ble_eq_true rfl⟩) hS (fun q h => Nat.le_trans (Nat.le_add_right z 135) h.1) (fun q h => Nat.le_trans (Nat.le_add_right z 135) h.1) (fun rm H2 locs2 hY hk hS => ?_)
  obtain ⟨hr_, hY⟩ := hY
  subst hr_
  have hPc := gb_kept hPc (fun q h1 h2 => hk q (Nat.lt_of_lt_of_le h2 (Nat.le_of_lt (Nat.lt_of_le_of_lt (Nat.le_add_right (z + 135) 21) ((hPm 21 _ (gb_at (z + 135) rfl)).lt)))) (fun h3 => Nat.not_lt.mpr h3.1 h2))
  have hPm := hY
  clear hY
  refine lv_pop hx hb dL_law_1817 rfl ?_
  refine lv_goto (tgt := 1890) hx hb dL_law_1818 (by decide) ?_
  exact hend _ _ _ _ _ _ hI2 hPc hPm hS hl
theorem dL_law_1821 : decode cL_law 1821 = .ok (.aload_n 1, 1) := dc_43 (dc_cut (j := 29) (n := 1) (l := [43]) dq_cL_law_1792 (by decide +kernel) (by decide))
theorem dL_law_1822 : decode cL_law 1822 = .ok (.aload_n 0, 1) := dc_42 (dc_cut (j := 30) (n := 1) (l := [42]) dq_cL_law_1792 (by decide +kernel) (by decide))
theorem dL_law_1823 : decode cL_law 1823 = .ok (.iload_n 3, 1) := dc_29 (dc_cut (j := 31) (n := 1) (l := [29]) dq_cL_law_1792 (by decide +kernel) (by decide))
theorem dL_law_1824 : decode cL_law 1824 = .ok (.iconst 1, 1) := dc_4 (dc_cut (j := 32) (n := 1) (l := [4]) dq_cL_law_1792 (by decide +kernel) (by decide))
theorem dL_law_1825 : decode cL_law 1825 = .ok (.iadd, 1) := dc_96 (dc_cut (j := 33) (n := 1) (l := [96]) dq_cL_law_1792 (by decide +kernel) (by decide))
theorem dL_law_1826 : decode cL_law 1826 = .ok (.iaload, 1) := dc_46 (dc_cut (j := 34) (n := 1) (l := [46]) dq_cL_law_1792 (by decide +kernel) (by decide))
theorem dL_law_1827 : decode cL_law 1827 = .ok (.invokevirtual 162, 3) := dc_182 (dc_cut (j := 35) (n := 3) (l := [182, 0, 162]) dq_cL_law_1792 (by decide +kernel) (by decide)) rfl
theorem w_570 : (Cond.methodLink "GooseBorderLaw" (162 : Nat) ({ cls := "GooseBorder", name := "count", desc := "(I)I" } : MethodName)) ∈ gb_wA := gb_t3 90 rfl rfl
theorem w_571 : (Cond.instanceMethod ({ cls := "GooseBorder", name := "count", desc := "(I)I" } : MethodName)) ∈ gb_wA := gb_t3 91 rfl rfl
theorem w_572 : (Cond.selects "GooseBorder" ({ cls := "GooseBorder", name := "count", desc := "(I)I" } : MethodName) ({ cls := "GooseBorder", name := "count", desc := "(I)I" } : MethodName)) ∈ gb_wA := gb_t3 92 rfl rfl
theorem w_573 : (Cond.code ({ cls := "GooseBorder", name := "count", desc := "(I)I" } : MethodName) prog_1_method_6_code (2 : Nat) (Option.some FieldType.int)) ∈ gb_wA := gb_t3 93 rfl rfl
theorem dL_law_1830 : decode cL_law 1830 = .ok (.pop, 1) := dc_87 (dc_cut (j := 38) (n := 1) (l := [87]) dq_cL_law_1792 (by decide +kernel) (by decide))
theorem dL_law_1831 : decode cL_law 1831 = .ok (.aload_n 2, 1) := dc_44 (dc_cut (j := 39) (n := 1) (l := [44]) dq_cL_law_1792 (by decide +kernel) (by decide))
theorem dL_law_1832 : decode cL_law 1832 = .ok (.aload_n 0, 1) := dc_42 (dc_cut (j := 40) (n := 1) (l := [42]) dq_cL_law_1792 (by decide +kernel) (by decide))
theorem dL_law_1833 : decode cL_law 1833 = .ok (.iload_n 3, 1) := dc_29 (dc_cut (j := 41) (n := 1) (l := [29]) dq_cL_law_1792 (by decide +kernel) (by decide))
theorem dL_law_1834 : decode cL_law 1834 = .ok (.iconst 1, 1) := dc_4 (dc_cut (j := 42) (n := 1) (l := [4]) dq_cL_law_1792 (by decide +kernel) (by decide))
theorem dL_law_1835 : decode cL_law 1835 = .ok (.iadd, 1) := dc_96 (dc_cut (j := 43) (n := 1) (l := [96]) dq_cL_law_1792 (by decide +kernel) (by decide))
theorem dL_law_1836 : decode cL_law 1836 = .ok (.iaload, 1) := dc_46 (dc_cut (j := 44) (n := 1) (l := [46]) dq_cL_law_1792 (by decide +kernel) (by decide))
theorem dL_law_1837 : decode cL_law 1837 = .ok (.invokevirtual 165, 3) := dc_182 (dc_cut (j := 45) (n := 3) (l := [182, 0, 165]) dq_cL_law_1792 (by decide +kernel) (by decide)) rfl
theorem w_1713 : (Cond.methodLink "GooseBorderLaw" (165 : Nat) ({ cls := "GooseBorderModel", name := "count", desc := "(I)I" } : MethodName)) ∈ gb_wA := gb_t8 33 rfl rfl
theorem w_1714 : (Cond.instanceMethod ({ cls := "GooseBorderModel", name := "count", desc := "(I)I" } : MethodName)) ∈ gb_wA := gb_t8 34 rfl rfl
theorem w_1715 : (Cond.selects "GooseBorderModel" ({ cls := "GooseBorderModel", name := "count", desc := "(I)I" } : MethodName) ({ cls := "GooseBorderModel", name := "count", desc := "(I)I" } : MethodName)) ∈ gb_wA := gb_t8 35 rfl rfl
theorem w_1716 : (Cond.code ({ cls := "GooseBorderModel", name := "count", desc := "(I)I" } : MethodName) prog_14_method_117_code (2 : Nat) (Option.some FieldType.int)) ∈ gb_wA := gb_t8 36 rfl rfl
theorem dL_law_1840 : decode cL_law 1840 = .ok (.pop, 1) := dc_87 (dc_cut (j := 48) (n := 1) (l := [87]) dq_cL_law_1792 (by decide +kernel) (by decide))
theorem dL_law_1841 : decode cL_law 1841 = .ok (.goto 49, 3) := dc_167 (dc_cut (j := 49) (n := 3) (l := [167, 0, 49]) dq_cL_law_1792 (by decide +kernel) (by decide)) rfl
set_option maxHeartbeats 4000000 in
set_option maxRecDepth 100000 in
theorem law_c35 {p : Program} {l : Launch} {e : Env} {s : State} {m : MethodId} {below : List Frame} {meth : Method} {c : Code} {b z L : Nat} {xs : Nat → Int32} (C0 : lw_At p s m meth c b L xs) (hzz : Array.size s.heap = z) {D : va_G} {cT : Nat → ClassId} {tt ak av : Nat → Nat} (hSt2 : gb_St2 D cT tt ak av z s) {i : Int32} (h1 : vp_in (i + 1) L) (h2 : vp_in (i + 2) L) (h3 : vp_in (i + 3) L) (h4 : vp_in (i + 4) L) (h5 : vp_in (i + 5) L) (hend : ∀ (σ : gb_S) (f : gb_F) (w : Int64) (H : Heap) (locs : List Loc) (ls : Array Slot), gb_Inv σ f → va_P D vwCl (gb_wl z (gb_CW cT z σ)) H → va_P D vwCl (gb_wl (z + 135) (gb_MW cT (z + 135) f w)) H → va_S (gb_ge z) s.heap H locs → lv_has ls 4 [(3, .int i), (2, .ref (z + 135 + 0)), (1, .ref (z + 0)), (0, .ref b)] → W p l e room_1 s m #[Value.ref b] below meth c H locs 157 10381 (lw_Z below #[Value.ref b] s) (F0 m 1890 ls [])) : ∀ (σ : gb_S) (f : gb_F) (w : Int64) (H : Heap) (locs : List Loc) (ls : Array Slot), gb_Inv σ f → va_P D vwCl (gb_wl z (gb_CW cT z σ)) H → va_P D vwCl (gb_wl (z + 135) (gb_MW cT (z + 135) f w)) H → va_S (gb_ge z) s.heap H locs → lv_has ls 4 [(3, .int i), (2, .ref (z + 135 + 0)), (1, .ref (z + 0)), (0, .ref b)] → W p l e room_1 s m #[Value.ref b] below meth c H locs 157 10381 (lw_Z below #[Value.ref b] s) (F0 m 1821 ls []) := by
  obtain ⟨hx, hb, hr, hml, hown, hts, hX, hbl, hlocks, hgv⟩ := C0
  have hq : ∀ w ∈ gb_wA, w.before #[Value.ref b] s = true := fun w h => hts w (gb_wA_tbl w h)
  have hbA : ¬ gb_ge z b := Nat.not_le.mpr (by rw [← hzz]; exact hbl)
  intro σ f w H locs ls hI hPc hPm hS hl
  refine lv_aload_n hx hb dL_law_1821 rfl (lv_at hl 2 rfl) ?_
  refine lv_aload_n hx hb dL_law_1822 rfl (lv_at hl 3 rfl) ?_
  refine lv_iload_n hx hb dL_law_1823 rfl (lv_at hl 0 rfl) ?_
  refine lv_iconst (v := 1) hx hb dL_law_1824 (by decide) ?_
  refine lv_iadd hx hb dL_law_1825 ?_
  refine va_sld hx hb hX hbl hbA hS h1 dL_law_1826 ?_
  obtain ⟨σ2, ra, f2, w2, qa, ec, em, hI2, hcmp⟩ := law_s_count (xs (Int32.toNatClampNeg (i + 1))) w hI
  refine gb_calli (va_runV (C := RX11) (As := [.int (xs (Int32.toNatClampNeg (i + 1)))]) (rest := []) ⟨hx, hb, hml, hown, hq⟩ (cc_Face_count l D cT tt z z (Nat.le_refl z) gb_N σ (xs (Int32.toNatClampNeg (i + 1))) σ2 ra ec) (cwV 1 hq (gb_gV w_570 w_571 w_572 w_1 w_573) rfl rfl rfl (by decide +kernel) ⟨Nat.le_of_ble_eq_true rfl, Nat.le_of_ble_eq_true rfl⟩) (gb_preV (r := (RX11, TX11, 10)) (ci := 9) (q0 := 0) hSt2.1 hPc rfl (gb_at z rfl) hS (fun q h => h) hPc) rfl rfl hl.1 rfl (lv_room (Nat.le_of_ble_eq_true rfl)) dL_law_1827 ⟨Nat.le_of_ble_eq_true rfl, Nat.le_of_ble_eq_true rfl⟩) hS (fun q h => h.1) (fun q h => h.1) (fun rc H2 locs2 hY hk hS => ?_)
  obtain ⟨hr_, hY⟩ := hY
  subst hr_
  have hPm := gb_kept hPm (fun q h1 h2 => hk q (Nat.lt_of_lt_of_le h2 ((hPm 21 _ (gb_at (z + 135) rfl)).lt)) (fun h3 => Nat.not_lt.mpr h1 h3.2))
  have hPc := hY
  clear hY
  refine lv_pop hx hb dL_law_1830 rfl ?_
  refine lv_aload_n hx hb dL_law_1831 rfl (lv_at hl 1 rfl) ?_
  refine lv_aload_n hx hb dL_law_1832 rfl (lv_at hl 3 rfl) ?_
  refine lv_iload_n hx hb dL_law_1833 rfl (lv_at hl 0 rfl) ?_
  refine lv_iconst (v := 1) hx hb dL_law_1834 (by decide) ?_
  refine lv_iadd hx hb dL_law_1835 ?_
  refine va_sld hx hb hX hbl hbA hS h1 dL_law_1836 ?_
  refine gb_calli (va_runV (C := RX12) (As := [.int (xs (Int32.toNatClampNeg (i + 1)))]) (rest := []) ⟨hx, hb, hml, hown, hq⟩ (mc_count l D cT tt z (z + 135) (Nat.le_add_right z 135) gb_N f w (xs (Int32.toNatClampNeg (i + 1))) f2 w2 qa em) (cwV 1 hq (gb_gV w_1713 w_1714 w_1715 w_14 w_1716) rfl rfl rfl (by decide +kernel) ⟨Nat.le_of_ble_eq_true rfl, Nat.le_of_ble_eq_true rfl⟩) (gb_preV (r := (RX12, TX12, 44)) (ci := 10) (q0 := 0) hSt2.1 hPm rfl (gb_at (z + 135) rfl) hS (fun q h => h) hPm) rfl rfl hl.1 rfl (lv_room (Nat.le_of_ble_eq_true rfl)) dL_law_1837 ⟨Nat.le_of_ble_eq_true rfl, Nat.le_of_ble_eq_true rfl⟩) hS (fun q h => Nat.le_trans (Nat.le_add_right z 135) h.1) (fun q h => Nat.le_trans (Nat.le_add_right z 135) h.1) (fun rm H2 locs2 hY hk hS => ?_)
  obtain ⟨hr_, hY⟩ := hY
  subst hr_
  have hPc := gb_kept hPc (fun q h1 h2 => hk q (Nat.lt_of_lt_of_le h2 (Nat.le_of_lt (Nat.lt_of_le_of_lt (Nat.le_add_right (z + 135) 21) ((hPm 21 _ (gb_at (z + 135) rfl)).lt)))) (fun h3 => Nat.not_lt.mpr h3.1 h2))
  have hPm := hY
  clear hY
  refine lv_pop hx hb dL_law_1840 rfl ?_
  refine lv_goto (tgt := 1890) hx hb dL_law_1841 (by decide) ?_
  exact hend _ _ _ _ _ _ hI2 hPc hPm hS hl
theorem dL_law_1844 : decode cL_law 1844 = .ok (.aload_n 1, 1) := dc_43 (dc_cut (j := 52) (n := 1) (l := [43]) dq_cL_law_1792 (by decide +kernel) (by decide))
theorem dL_law_1845 : decode cL_law 1845 = .ok (.aload_n 0, 1) := dc_42 (dc_cut (j := 53) (n := 1) (l := [42]) dq_cL_law_1792 (by decide +kernel) (by decide))
theorem dL_law_1846 : decode cL_law 1846 = .ok (.iload_n 3, 1) := dc_29 (dc_cut (j := 54) (n := 1) (l := [29]) dq_cL_law_1792 (by decide +kernel) (by decide))
theorem dL_law_1847 : decode cL_law 1847 = .ok (.iconst 1, 1) := dc_4 (dc_cut (j := 55) (n := 1) (l := [4]) dq_cL_law_1792 (by decide +kernel) (by decide))
theorem dL_law_1848 : decode cL_law 1848 = .ok (.iadd, 1) := dc_96 (dc_cut (j := 56) (n := 1) (l := [96]) dq_cL_law_1792 (by decide +kernel) (by decide))
theorem dL_law_1849 : decode cL_law 1849 = .ok (.iaload, 1) := dc_46 (dc_cut (j := 57) (n := 1) (l := [46]) dq_cL_law_1792 (by decide +kernel) (by decide))
theorem dL_law_1850 : decode cL_law 1850 = .ok (.invokevirtual 166, 3) := dc_182 (dc_cut (j := 58) (n := 3) (l := [182, 0, 166]) dq_cL_law_1792 (by decide +kernel) (by decide)) rfl
theorem w_574 : (Cond.methodLink "GooseBorderLaw" (166 : Nat) ({ cls := "GooseBorder", name := "image", desc := "(I)Z" } : MethodName)) ∈ gb_wA := gb_t3 94 rfl rfl
theorem w_575 : (Cond.instanceMethod ({ cls := "GooseBorder", name := "image", desc := "(I)Z" } : MethodName)) ∈ gb_wA := gb_t3 95 rfl rfl
theorem w_576 : (Cond.selects "GooseBorder" ({ cls := "GooseBorder", name := "image", desc := "(I)Z" } : MethodName) ({ cls := "GooseBorder", name := "image", desc := "(I)Z" } : MethodName)) ∈ gb_wA := gb_t3 96 rfl rfl
theorem w_577 : (Cond.code ({ cls := "GooseBorder", name := "image", desc := "(I)Z" } : MethodName) prog_1_method_7_code (2 : Nat) (Option.some FieldType.boolean)) ∈ gb_wA := gb_t3 97 rfl rfl
theorem dL_law_1853 : decode cL_law 1853 = .ok (.pop, 1) := dc_87 (dc_cut (j := 61) (n := 1) (l := [87]) dq_cL_law_1792 (by decide +kernel) (by decide))
theorem dL_law_1854 : decode cL_law 1854 = .ok (.aload_n 2, 1) := dc_44 (dc_cut (j := 62) (n := 1) (l := [44]) dq_cL_law_1792 (by decide +kernel) (by decide))
theorem dL_law_1855 : decode cL_law 1855 = .ok (.aload_n 0, 1) := dc_42 (dc_cut (j := 63) (n := 1) (l := [42]) dq_cL_law_1792 (by decide +kernel) (by decide))
theorem dL_law_1856 : decode cL_law 1856 = .ok (.iload_n 3, 1) := dc_29 (dc_cut (j := 0) (n := 1) (l := [29]) dq_cL_law_1856 (by decide +kernel) (by decide))
theorem dL_law_1857 : decode cL_law 1857 = .ok (.iconst 1, 1) := dc_4 (dc_cut (j := 1) (n := 1) (l := [4]) dq_cL_law_1856 (by decide +kernel) (by decide))
theorem dL_law_1858 : decode cL_law 1858 = .ok (.iadd, 1) := dc_96 (dc_cut (j := 2) (n := 1) (l := [96]) dq_cL_law_1856 (by decide +kernel) (by decide))
theorem dL_law_1859 : decode cL_law 1859 = .ok (.iaload, 1) := dc_46 (dc_cut (j := 3) (n := 1) (l := [46]) dq_cL_law_1856 (by decide +kernel) (by decide))
theorem dL_law_1860 : decode cL_law 1860 = .ok (.invokevirtual 170, 3) := dc_182 (dc_cut (j := 4) (n := 3) (l := [182, 0, 170]) dq_cL_law_1856 (by decide +kernel) (by decide)) rfl
theorem w_1717 : (Cond.methodLink "GooseBorderLaw" (170 : Nat) ({ cls := "GooseBorderModel", name := "image", desc := "(I)Z" } : MethodName)) ∈ gb_wA := gb_t8 37 rfl rfl
theorem w_1718 : (Cond.instanceMethod ({ cls := "GooseBorderModel", name := "image", desc := "(I)Z" } : MethodName)) ∈ gb_wA := gb_t8 38 rfl rfl
theorem w_1719 : (Cond.selects "GooseBorderModel" ({ cls := "GooseBorderModel", name := "image", desc := "(I)Z" } : MethodName) ({ cls := "GooseBorderModel", name := "image", desc := "(I)Z" } : MethodName)) ∈ gb_wA := gb_t8 39 rfl rfl
theorem w_1720 : (Cond.code ({ cls := "GooseBorderModel", name := "image", desc := "(I)Z" } : MethodName) prog_14_method_118_code (3 : Nat) (Option.some FieldType.boolean)) ∈ gb_wA := gb_t8 40 rfl rfl
theorem dL_law_1863 : decode cL_law 1863 = .ok (.pop, 1) := dc_87 (dc_cut (j := 7) (n := 1) (l := [87]) dq_cL_law_1856 (by decide +kernel) (by decide))
theorem dL_law_1864 : decode cL_law 1864 = .ok (.goto 26, 3) := dc_167 (dc_cut (j := 8) (n := 3) (l := [167, 0, 26]) dq_cL_law_1856 (by decide +kernel) (by decide)) rfl
set_option maxHeartbeats 4000000 in
set_option maxRecDepth 100000 in
theorem law_c36 {p : Program} {l : Launch} {e : Env} {s : State} {m : MethodId} {below : List Frame} {meth : Method} {c : Code} {b z L : Nat} {xs : Nat → Int32} (C0 : lw_At p s m meth c b L xs) (hzz : Array.size s.heap = z) {D : va_G} {cT : Nat → ClassId} {tt ak av : Nat → Nat} (hSt2 : gb_St2 D cT tt ak av z s) {i : Int32} (h1 : vp_in (i + 1) L) (h2 : vp_in (i + 2) L) (h3 : vp_in (i + 3) L) (h4 : vp_in (i + 4) L) (h5 : vp_in (i + 5) L) (hend : ∀ (σ : gb_S) (f : gb_F) (w : Int64) (H : Heap) (locs : List Loc) (ls : Array Slot), gb_Inv σ f → va_P D vwCl (gb_wl z (gb_CW cT z σ)) H → va_P D vwCl (gb_wl (z + 135) (gb_MW cT (z + 135) f w)) H → va_S (gb_ge z) s.heap H locs → lv_has ls 4 [(3, .int i), (2, .ref (z + 135 + 0)), (1, .ref (z + 0)), (0, .ref b)] → W p l e room_1 s m #[Value.ref b] below meth c H locs 157 10381 (lw_Z below #[Value.ref b] s) (F0 m 1890 ls [])) : ∀ (σ : gb_S) (f : gb_F) (w : Int64) (H : Heap) (locs : List Loc) (ls : Array Slot), gb_Inv σ f → va_P D vwCl (gb_wl z (gb_CW cT z σ)) H → va_P D vwCl (gb_wl (z + 135) (gb_MW cT (z + 135) f w)) H → va_S (gb_ge z) s.heap H locs → lv_has ls 4 [(3, .int i), (2, .ref (z + 135 + 0)), (1, .ref (z + 0)), (0, .ref b)] → W p l e room_1 s m #[Value.ref b] below meth c H locs 157 10381 (lw_Z below #[Value.ref b] s) (F0 m 1844 ls []) := by
  obtain ⟨hx, hb, hr, hml, hown, hts, hX, hbl, hlocks, hgv⟩ := C0
  have hq : ∀ w ∈ gb_wA, w.before #[Value.ref b] s = true := fun w h => hts w (gb_wA_tbl w h)
  have hbA : ¬ gb_ge z b := Nat.not_le.mpr (by rw [← hzz]; exact hbl)
  intro σ f w H locs ls hI hPc hPm hS hl
  refine lv_aload_n hx hb dL_law_1844 rfl (lv_at hl 2 rfl) ?_
  refine lv_aload_n hx hb dL_law_1845 rfl (lv_at hl 3 rfl) ?_
  refine lv_iload_n hx hb dL_law_1846 rfl (lv_at hl 0 rfl) ?_
  refine lv_iconst (v := 1) hx hb dL_law_1847 (by decide) ?_
  refine lv_iadd hx hb dL_law_1848 ?_
  refine va_sld hx hb hX hbl hbA hS h1 dL_law_1849 ?_
  obtain ⟨σ2, ra, f2, w2, qa, ec, em, hI2, hcmp⟩ := law_s_image (xs (Int32.toNatClampNeg (i + 1))) w hI
  refine gb_calli (va_runV (C := RX11) (As := [.int (xs (Int32.toNatClampNeg (i + 1)))]) (rest := []) ⟨hx, hb, hml, hown, hq⟩ (cc_Face_image l D cT tt z z (Nat.le_refl z) gb_N σ (xs (Int32.toNatClampNeg (i + 1))) σ2 ra ec) (cwV 1 hq (gb_gV w_574 w_575 w_576 w_1 w_577) rfl rfl rfl (by decide +kernel) ⟨Nat.le_of_ble_eq_true rfl, Nat.le_of_ble_eq_true rfl⟩) (gb_preV (r := (RX11, TX11, 10)) (ci := 9) (q0 := 0) hSt2.1 hPc rfl (gb_at z rfl) hS (fun q h => h) hPc) rfl rfl hl.1 rfl (lv_room (Nat.le_of_ble_eq_true rfl)) dL_law_1850 ⟨Nat.le_of_ble_eq_true rfl, Nat.le_of_ble_eq_true rfl⟩) hS (fun q h => h.1) (fun q h => h.1) (fun rc H2 locs2 hY hk hS => ?_)
  obtain ⟨hr_, hY⟩ := hY
  subst hr_
  have hPm := gb_kept hPm (fun q h1 h2 => hk q (Nat.lt_of_lt_of_le h2 ((hPm 21 _ (gb_at (z + 135) rfl)).lt)) (fun h3 => Nat.not_lt.mpr h1 h3.2))
  have hPc := hY
  clear hY
  refine lv_pop hx hb dL_law_1853 rfl ?_
  refine lv_aload_n hx hb dL_law_1854 rfl (lv_at hl 1 rfl) ?_
  refine lv_aload_n hx hb dL_law_1855 rfl (lv_at hl 3 rfl) ?_
  refine lv_iload_n hx hb dL_law_1856 rfl (lv_at hl 0 rfl) ?_
  refine lv_iconst (v := 1) hx hb dL_law_1857 (by decide) ?_
  refine lv_iadd hx hb dL_law_1858 ?_
  refine va_sld hx hb hX hbl hbA hS h1 dL_law_1859 ?_
  refine gb_calli (va_runV (C := RX12) (As := [.int (xs (Int32.toNatClampNeg (i + 1)))]) (rest := []) ⟨hx, hb, hml, hown, hq⟩ (mc_image l D cT tt z (z + 135) (Nat.le_add_right z 135) gb_N f w (xs (Int32.toNatClampNeg (i + 1))) f2 w2 qa em) (cwV 1 hq (gb_gV w_1717 w_1718 w_1719 w_14 w_1720) rfl rfl rfl (by decide +kernel) ⟨Nat.le_of_ble_eq_true rfl, Nat.le_of_ble_eq_true rfl⟩) (gb_preV (r := (RX12, TX12, 44)) (ci := 10) (q0 := 0) hSt2.1 hPm rfl (gb_at (z + 135) rfl) hS (fun q h => h) hPm) rfl rfl hl.1 rfl (lv_room (Nat.le_of_ble_eq_true rfl)) dL_law_1860 ⟨Nat.le_of_ble_eq_true rfl, Nat.le_of_ble_eq_true rfl⟩) hS (fun q h => Nat.le_trans (Nat.le_add_right z 135) h.1) (fun q h => Nat.le_trans (Nat.le_add_right z 135) h.1) (fun rm H2 locs2 hY hk hS => ?_)
  obtain ⟨hr_, hY⟩ := hY
  subst hr_
  have hPc := gb_kept hPc (fun q h1 h2 => hk q (Nat.lt_of_lt_of_le h2 (Nat.le_of_lt (Nat.lt_of_le_of_lt (Nat.le_add_right (z + 135) 21) ((hPm 21 _ (gb_at (z + 135) rfl)).lt)))) (fun h3 => Nat.not_lt.mpr h3.1 h2))
  have hPm := hY
  clear hY
  refine lv_pop hx hb dL_law_1863 rfl ?_
  refine lv_goto (tgt := 1890) hx hb dL_law_1864 (by decide) ?_
  exact hend _ _ _ _ _ _ hI2 hPc hPm hS hl
theorem dL_law_1867 : decode cL_law 1867 = .ok (.aload_n 1, 1) := dc_43 (dc_cut (j := 11) (n := 1) (l := [43]) dq_cL_law_1856 (by decide +kernel) (by decide))
theorem dL_law_1868 : decode cL_law 1868 = .ok (.aload_n 0, 1) := dc_42 (dc_cut (j := 12) (n := 1) (l := [42]) dq_cL_law_1856 (by decide +kernel) (by decide))
theorem dL_law_1869 : decode cL_law 1869 = .ok (.iload_n 3, 1) := dc_29 (dc_cut (j := 13) (n := 1) (l := [29]) dq_cL_law_1856 (by decide +kernel) (by decide))
theorem dL_law_1870 : decode cL_law 1870 = .ok (.iconst 1, 1) := dc_4 (dc_cut (j := 14) (n := 1) (l := [4]) dq_cL_law_1856 (by decide +kernel) (by decide))
theorem dL_law_1871 : decode cL_law 1871 = .ok (.iadd, 1) := dc_96 (dc_cut (j := 15) (n := 1) (l := [96]) dq_cL_law_1856 (by decide +kernel) (by decide))
theorem dL_law_1872 : decode cL_law 1872 = .ok (.iaload, 1) := dc_46 (dc_cut (j := 16) (n := 1) (l := [46]) dq_cL_law_1856 (by decide +kernel) (by decide))
theorem dL_law_1873 : decode cL_law 1873 = .ok (.invokevirtual 171, 3) := dc_182 (dc_cut (j := 17) (n := 3) (l := [182, 0, 171]) dq_cL_law_1856 (by decide +kernel) (by decide)) rfl
theorem w_585 : (Cond.methodLink "GooseBorderLaw" (171 : Nat) ({ cls := "GooseBorder", name := "again", desc := "(I)Z" } : MethodName)) ∈ gb_wA := gb_t3 105 rfl rfl
theorem w_586 : (Cond.instanceMethod ({ cls := "GooseBorder", name := "again", desc := "(I)Z" } : MethodName)) ∈ gb_wA := gb_t3 106 rfl rfl
theorem w_587 : (Cond.selects "GooseBorder" ({ cls := "GooseBorder", name := "again", desc := "(I)Z" } : MethodName) ({ cls := "GooseBorder", name := "again", desc := "(I)Z" } : MethodName)) ∈ gb_wA := gb_t3 107 rfl rfl
theorem w_588 : (Cond.code ({ cls := "GooseBorder", name := "again", desc := "(I)Z" } : MethodName) prog_1_method_8_code (2 : Nat) (Option.some FieldType.boolean)) ∈ gb_wA := gb_t3 108 rfl rfl
theorem dL_law_1876 : decode cL_law 1876 = .ok (.pop, 1) := dc_87 (dc_cut (j := 20) (n := 1) (l := [87]) dq_cL_law_1856 (by decide +kernel) (by decide))
theorem dL_law_1877 : decode cL_law 1877 = .ok (.aload_n 2, 1) := dc_44 (dc_cut (j := 21) (n := 1) (l := [44]) dq_cL_law_1856 (by decide +kernel) (by decide))
theorem dL_law_1878 : decode cL_law 1878 = .ok (.aload_n 0, 1) := dc_42 (dc_cut (j := 22) (n := 1) (l := [42]) dq_cL_law_1856 (by decide +kernel) (by decide))
theorem dL_law_1879 : decode cL_law 1879 = .ok (.iload_n 3, 1) := dc_29 (dc_cut (j := 23) (n := 1) (l := [29]) dq_cL_law_1856 (by decide +kernel) (by decide))
theorem dL_law_1880 : decode cL_law 1880 = .ok (.iconst 1, 1) := dc_4 (dc_cut (j := 24) (n := 1) (l := [4]) dq_cL_law_1856 (by decide +kernel) (by decide))
theorem dL_law_1881 : decode cL_law 1881 = .ok (.iadd, 1) := dc_96 (dc_cut (j := 25) (n := 1) (l := [96]) dq_cL_law_1856 (by decide +kernel) (by decide))
theorem dL_law_1882 : decode cL_law 1882 = .ok (.iaload, 1) := dc_46 (dc_cut (j := 26) (n := 1) (l := [46]) dq_cL_law_1856 (by decide +kernel) (by decide))
theorem dL_law_1883 : decode cL_law 1883 = .ok (.invokevirtual 174, 3) := dc_182 (dc_cut (j := 27) (n := 3) (l := [182, 0, 174]) dq_cL_law_1856 (by decide +kernel) (by decide)) rfl
theorem w_1721 : (Cond.methodLink "GooseBorderLaw" (174 : Nat) ({ cls := "GooseBorderModel", name := "again", desc := "(I)Z" } : MethodName)) ∈ gb_wA := gb_t8 41 rfl rfl
theorem w_1722 : (Cond.instanceMethod ({ cls := "GooseBorderModel", name := "again", desc := "(I)Z" } : MethodName)) ∈ gb_wA := gb_t8 42 rfl rfl
theorem w_1723 : (Cond.selects "GooseBorderModel" ({ cls := "GooseBorderModel", name := "again", desc := "(I)Z" } : MethodName) ({ cls := "GooseBorderModel", name := "again", desc := "(I)Z" } : MethodName)) ∈ gb_wA := gb_t8 43 rfl rfl
theorem w_1724 : (Cond.code ({ cls := "GooseBorderModel", name := "again", desc := "(I)Z" } : MethodName) prog_14_method_119_code (3 : Nat) (Option.some FieldType.boolean)) ∈ gb_wA := gb_t8 44 rfl rfl
theorem dL_law_1886 : decode cL_law 1886 = .ok (.pop, 1) := dc_87 (dc_cut (j := 30) (n := 1) (l := [87]) dq_cL_law_1856 (by decide +kernel) (by decide))
theorem dL_law_1887 : decode cL_law 1887 = .ok (.goto 3, 3) := dc_167 (dc_cut (j := 31) (n := 3) (l := [167, 0, 3]) dq_cL_law_1856 (by decide +kernel) (by decide)) rfl
set_option maxHeartbeats 4000000 in
set_option maxRecDepth 100000 in
theorem law_c37 {p : Program} {l : Launch} {e : Env} {s : State} {m : MethodId} {below : List Frame} {meth : Method} {c : Code} {b z L : Nat} {xs : Nat → Int32} (C0 : lw_At p s m meth c b L xs) (hzz : Array.size s.heap = z) {D : va_G} {cT : Nat → ClassId} {tt ak av : Nat → Nat} (hSt2 : gb_St2 D cT tt ak av z s) {i : Int32} (h1 : vp_in (i + 1) L) (h2 : vp_in (i + 2) L) (h3 : vp_in (i + 3) L) (h4 : vp_in (i + 4) L) (h5 : vp_in (i + 5) L) (hend : ∀ (σ : gb_S) (f : gb_F) (w : Int64) (H : Heap) (locs : List Loc) (ls : Array Slot), gb_Inv σ f → va_P D vwCl (gb_wl z (gb_CW cT z σ)) H → va_P D vwCl (gb_wl (z + 135) (gb_MW cT (z + 135) f w)) H → va_S (gb_ge z) s.heap H locs → lv_has ls 4 [(3, .int i), (2, .ref (z + 135 + 0)), (1, .ref (z + 0)), (0, .ref b)] → W p l e room_1 s m #[Value.ref b] below meth c H locs 157 10381 (lw_Z below #[Value.ref b] s) (F0 m 1890 ls [])) : ∀ (σ : gb_S) (f : gb_F) (w : Int64) (H : Heap) (locs : List Loc) (ls : Array Slot), gb_Inv σ f → va_P D vwCl (gb_wl z (gb_CW cT z σ)) H → va_P D vwCl (gb_wl (z + 135) (gb_MW cT (z + 135) f w)) H → va_S (gb_ge z) s.heap H locs → lv_has ls 4 [(3, .int i), (2, .ref (z + 135 + 0)), (1, .ref (z + 0)), (0, .ref b)] → W p l e room_1 s m #[Value.ref b] below meth c H locs 157 10381 (lw_Z below #[Value.ref b] s) (F0 m 1867 ls []) := by
  obtain ⟨hx, hb, hr, hml, hown, hts, hX, hbl, hlocks, hgv⟩ := C0
  have hq : ∀ w ∈ gb_wA, w.before #[Value.ref b] s = true := fun w h => hts w (gb_wA_tbl w h)
  have hbA : ¬ gb_ge z b := Nat.not_le.mpr (by rw [← hzz]; exact hbl)
  intro σ f w H locs ls hI hPc hPm hS hl
  refine lv_aload_n hx hb dL_law_1867 rfl (lv_at hl 2 rfl) ?_
  refine lv_aload_n hx hb dL_law_1868 rfl (lv_at hl 3 rfl) ?_
  refine lv_iload_n hx hb dL_law_1869 rfl (lv_at hl 0 rfl) ?_
  refine lv_iconst (v := 1) hx hb dL_law_1870 (by decide) ?_
  refine lv_iadd hx hb dL_law_1871 ?_
  refine va_sld hx hb hX hbl hbA hS h1 dL_law_1872 ?_
  obtain ⟨σ2, ra, f2, w2, qa, ec, em, hI2, hcmp⟩ := law_s_again (xs (Int32.toNatClampNeg (i + 1))) w hI
  refine gb_calli (va_runV (C := RX11) (As := [.int (xs (Int32.toNatClampNeg (i + 1)))]) (rest := []) ⟨hx, hb, hml, hown, hq⟩ (cc_Face_again l D cT tt z z (Nat.le_refl z) gb_N σ (xs (Int32.toNatClampNeg (i + 1))) σ2 ra ec) (cwV 1 hq (gb_gV w_585 w_586 w_587 w_1 w_588) rfl rfl rfl (by decide +kernel) ⟨Nat.le_of_ble_eq_true rfl, Nat.le_of_ble_eq_true rfl⟩) (gb_preV (r := (RX11, TX11, 10)) (ci := 9) (q0 := 0) hSt2.1 hPc rfl (gb_at z rfl) hS (fun q h => h) hPc) rfl rfl hl.1 rfl (lv_room (Nat.le_of_ble_eq_true rfl)) dL_law_1873 ⟨Nat.le_of_ble_eq_true rfl, Nat.le_of_ble_eq_true rfl⟩) hS (fun q h => h.1) (fun q h => h.1) (fun rc H2 locs2 hY hk hS => ?_)
  obtain ⟨hr_, hY⟩ := hY
  subst hr_
  have hPm := gb_kept hPm (fun q h1 h2 => hk q (Nat.lt_of_lt_of_le h2 ((hPm 21 _ (gb_at (z + 135) rfl)).lt)) (fun h3 => Nat.not_lt.mpr h1 h3.2))
  have hPc := hY
  clear hY
  refine lv_pop hx hb dL_law_1876 rfl ?_
  refine lv_aload_n hx hb dL_law_1877 rfl (lv_at hl 1 rfl) ?_
  refine lv_aload_n hx hb dL_law_1878 rfl (lv_at hl 3 rfl) ?_
  refine lv_iload_n hx hb dL_law_1879 rfl (lv_at hl 0 rfl) ?_
  refine lv_iconst (v := 1) hx hb dL_law_1880 (by decide) ?_
  refine lv_iadd hx hb dL_law_1881 ?_
  refine va_sld hx hb hX hbl hbA hS h1 dL_law_1882 ?_
  refine gb_calli (va_runV (C := RX12) (As := [.int (xs (Int32.toNatClampNeg (i + 1)))]) (rest := []) ⟨hx, hb, hml, hown, hq⟩ (mc_again l D cT tt z (z + 135) (Nat.le_add_right z 135) gb_N f w (xs (Int32.toNatClampNeg (i + 1))) f2 w2 qa em) (cwV 1 hq (gb_gV w_1721 w_1722 w_1723 w_14 w_1724) rfl rfl rfl (by decide +kernel) ⟨Nat.le_of_ble_eq_true rfl, Nat.le_of_ble_eq_true rfl⟩) (gb_preV (r := (RX12, TX12, 44)) (ci := 10) (q0 := 0) hSt2.1 hPm rfl (gb_at (z + 135) rfl) hS (fun q h => h) hPm) rfl rfl hl.1 rfl (lv_room (Nat.le_of_ble_eq_true rfl)) dL_law_1883 ⟨Nat.le_of_ble_eq_true rfl, Nat.le_of_ble_eq_true rfl⟩) hS (fun q h => Nat.le_trans (Nat.le_add_right z 135) h.1) (fun q h => Nat.le_trans (Nat.le_add_right z 135) h.1) (fun rm H2 locs2 hY hk hS => ?_)
  obtain ⟨hr_, hY⟩ := hY
  subst hr_
  have hPc := gb_kept hPc (fun q h1 h2 => hk q (Nat.lt_of_lt_of_le h2 (Nat.le_of_lt (Nat.lt_of_le_of_lt (Nat.le_add_right (z + 135) 21) ((hPm 21 _ (gb_at (z + 135) rfl)).lt)))) (fun h3 => Nat.not_lt.mpr h3.1 h2))
  have hPm := hY
  clear hY
  refine lv_pop hx hb dL_law_1886 rfl ?_
  refine lv_goto (tgt := 1890) hx hb dL_law_1887 (by decide) ?_
  exact hend _ _ _ _ _ _ hI2 hPc hPm hS hl
