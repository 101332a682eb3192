theorem dL_law_646 : decode cL_law 646 = .ok (.aload_n 1, 1) := dc_43 (dc_cut (j := 6) (n := 1) (l := [43]) dq_cL_law_640 (by decide +kernel) (by decide))
theorem dL_law_647 : decode cL_law 647 = .ok (.aload_n 0, 1) := dc_42 (dc_cut (j := 7) (n := 1) (l := [42]) dq_cL_law_640 (by decide +kernel) (by decide))
theorem dL_law_648 : decode cL_law 648 = .ok (.iload_n 3, 1) := dc_29 (dc_cut (j := 8) (n := 1) (l := [29]) dq_cL_law_640 (by decide +kernel) (by decide))
theorem dL_law_649 : decode cL_law 649 = .ok (.iconst 1, 1) := dc_4 (dc_cut (j := 9) (n := 1) (l := [4]) dq_cL_law_640 (by decide +kernel) (by decide))
theorem dL_law_650 : decode cL_law 650 = .ok (.iadd, 1) := dc_96 (dc_cut (j := 10) (n := 1) (l := [96]) dq_cL_law_640 (by decide +kernel) (by decide))
theorem dL_law_651 : decode cL_law 651 = .ok (.iaload, 1) := dc_46 (dc_cut (j := 11) (n := 1) (l := [46]) dq_cL_law_640 (by decide +kernel) (by decide))
theorem dL_law_652 : decode cL_law 652 = .ok (.aload_n 0, 1) := dc_42 (dc_cut (j := 12) (n := 1) (l := [42]) dq_cL_law_640 (by decide +kernel) (by decide))
theorem dL_law_653 : decode cL_law 653 = .ok (.iload_n 3, 1) := dc_29 (dc_cut (j := 13) (n := 1) (l := [29]) dq_cL_law_640 (by decide +kernel) (by decide))
theorem dL_law_654 : decode cL_law 654 = .ok (.iconst 2, 1) := dc_5 (dc_cut (j := 14) (n := 1) (l := [5]) dq_cL_law_640 (by decide +kernel) (by decide))
theorem dL_law_655 : decode cL_law 655 = .ok (.iadd, 1) := dc_96 (dc_cut (j := 15) (n := 1) (l := [96]) dq_cL_law_640 (by decide +kernel) (by decide))
theorem dL_law_656 : decode cL_law 656 = .ok (.iaload, 1) := dc_46 (dc_cut (j := 16) (n := 1) (l := [46]) dq_cL_law_640 (by decide +kernel) (by decide))
theorem dL_law_657 : decode cL_law 657 = .ok (.aload_n 0, 1) := dc_42 (dc_cut (j := 17) (n := 1) (l := [42]) dq_cL_law_640 (by decide +kernel) (by decide))
theorem dL_law_658 : decode cL_law 658 = .ok (.iload_n 3, 1) := dc_29 (dc_cut (j := 18) (n := 1) (l := [29]) dq_cL_law_640 (by decide +kernel) (by decide))
theorem dL_law_659 : decode cL_law 659 = .ok (.iconst 3, 1) := dc_6 (dc_cut (j := 19) (n := 1) (l := [6]) dq_cL_law_640 (by decide +kernel) (by decide))
theorem dL_law_660 : decode cL_law 660 = .ok (.iadd, 1) := dc_96 (dc_cut (j := 20) (n := 1) (l := [96]) dq_cL_law_640 (by decide +kernel) (by decide))
theorem dL_law_661 : decode cL_law 661 = .ok (.iaload, 1) := dc_46 (dc_cut (j := 21) (n := 1) (l := [46]) dq_cL_law_640 (by decide +kernel) (by decide))
theorem dL_law_662 : decode cL_law 662 = .ok (.aload_n 0, 1) := dc_42 (dc_cut (j := 22) (n := 1) (l := [42]) dq_cL_law_640 (by decide +kernel) (by decide))
theorem dL_law_663 : decode cL_law 663 = .ok (.iload_n 3, 1) := dc_29 (dc_cut (j := 23) (n := 1) (l := [29]) dq_cL_law_640 (by decide +kernel) (by decide))
theorem dL_law_664 : decode cL_law 664 = .ok (.iconst 4, 1) := dc_7 (dc_cut (j := 24) (n := 1) (l := [7]) dq_cL_law_640 (by decide +kernel) (by decide))
theorem dL_law_665 : decode cL_law 665 = .ok (.iadd, 1) := dc_96 (dc_cut (j := 25) (n := 1) (l := [96]) dq_cL_law_640 (by decide +kernel) (by decide))
theorem dL_law_666 : decode cL_law 666 = .ok (.iaload, 1) := dc_46 (dc_cut (j := 26) (n := 1) (l := [46]) dq_cL_law_640 (by decide +kernel) (by decide))
theorem dL_law_667 : decode cL_law 667 = .ok (.invokevirtual 58, 3) := dc_182 (dc_cut (j := 27) (n := 3) (l := [182, 0, 58]) dq_cL_law_640 (by decide +kernel) (by decide)) rfl
theorem w_792 : (Cond.methodLink "GooseBorderLaw" (58 : Nat) ({ cls := "GooseBorder", name := "state", desc := "(IIII)I" } : MethodName)) ∈ gb_wA := gb_t4 72 rfl rfl
theorem w_793 : (Cond.instanceMethod ({ cls := "GooseBorder", name := "state", desc := "(IIII)I" } : MethodName)) ∈ gb_wA := gb_t4 73 rfl rfl
theorem w_794 : (Cond.selects "GooseBorder" ({ cls := "GooseBorder", name := "state", desc := "(IIII)I" } : MethodName) ({ cls := "GooseBorder", name := "state", desc := "(IIII)I" } : MethodName)) ∈ gb_wA := gb_t4 74 rfl rfl
theorem w_795 : (Cond.code ({ cls := "GooseBorder", name := "state", desc := "(IIII)I" } : MethodName) prog_1_method_23_code (6 : Nat) (Option.some FieldType.int)) ∈ gb_wA := gb_t4 75 rfl rfl
theorem dL_law_670 : decode cL_law 670 = .ok (.pop, 1) := dc_87 (dc_cut (j := 30) (n := 1) (l := [87]) dq_cL_law_640 (by decide +kernel) (by decide))
theorem dL_law_671 : decode cL_law 671 = .ok (.aload_n 2, 1) := dc_44 (dc_cut (j := 31) (n := 1) (l := [44]) dq_cL_law_640 (by decide +kernel) (by decide))
theorem dL_law_672 : decode cL_law 672 = .ok (.aload_n 0, 1) := dc_42 (dc_cut (j := 32) (n := 1) (l := [42]) dq_cL_law_640 (by decide +kernel) (by decide))
theorem dL_law_673 : decode cL_law 673 = .ok (.iload_n 3, 1) := dc_29 (dc_cut (j := 33) (n := 1) (l := [29]) dq_cL_law_640 (by decide +kernel) (by decide))
theorem dL_law_674 : decode cL_law 674 = .ok (.iconst 1, 1) := dc_4 (dc_cut (j := 34) (n := 1) (l := [4]) dq_cL_law_640 (by decide +kernel) (by decide))
theorem dL_law_675 : decode cL_law 675 = .ok (.iadd, 1) := dc_96 (dc_cut (j := 35) (n := 1) (l := [96]) dq_cL_law_640 (by decide +kernel) (by decide))
theorem dL_law_676 : decode cL_law 676 = .ok (.iaload, 1) := dc_46 (dc_cut (j := 36) (n := 1) (l := [46]) dq_cL_law_640 (by decide +kernel) (by decide))
theorem dL_law_677 : decode cL_law 677 = .ok (.aload_n 0, 1) := dc_42 (dc_cut (j := 37) (n := 1) (l := [42]) dq_cL_law_640 (by decide +kernel) (by decide))
theorem dL_law_678 : decode cL_law 678 = .ok (.iload_n 3, 1) := dc_29 (dc_cut (j := 38) (n := 1) (l := [29]) dq_cL_law_640 (by decide +kernel) (by decide))
theorem dL_law_679 : decode cL_law 679 = .ok (.iconst 2, 1) := dc_5 (dc_cut (j := 39) (n := 1) (l := [5]) dq_cL_law_640 (by decide +kernel) (by decide))
theorem dL_law_680 : decode cL_law 680 = .ok (.iadd, 1) := dc_96 (dc_cut (j := 40) (n := 1) (l := [96]) dq_cL_law_640 (by decide +kernel) (by decide))
theorem dL_law_681 : decode cL_law 681 = .ok (.iaload, 1) := dc_46 (dc_cut (j := 41) (n := 1) (l := [46]) dq_cL_law_640 (by decide +kernel) (by decide))
theorem dL_law_682 : decode cL_law 682 = .ok (.aload_n 0, 1) := dc_42 (dc_cut (j := 42) (n := 1) (l := [42]) dq_cL_law_640 (by decide +kernel) (by decide))
theorem dL_law_683 : decode cL_law 683 = .ok (.iload_n 3, 1) := dc_29 (dc_cut (j := 43) (n := 1) (l := [29]) dq_cL_law_640 (by decide +kernel) (by decide))
theorem dL_law_684 : decode cL_law 684 = .ok (.iconst 3, 1) := dc_6 (dc_cut (j := 44) (n := 1) (l := [6]) dq_cL_law_640 (by decide +kernel) (by decide))
theorem dL_law_685 : decode cL_law 685 = .ok (.iadd, 1) := dc_96 (dc_cut (j := 45) (n := 1) (l := [96]) dq_cL_law_640 (by decide +kernel) (by decide))
theorem dL_law_686 : decode cL_law 686 = .ok (.iaload, 1) := dc_46 (dc_cut (j := 46) (n := 1) (l := [46]) dq_cL_law_640 (by decide +kernel) (by decide))
theorem dL_law_687 : decode cL_law 687 = .ok (.aload_n 0, 1) := dc_42 (dc_cut (j := 47) (n := 1) (l := [42]) dq_cL_law_640 (by decide +kernel) (by decide))
theorem dL_law_688 : decode cL_law 688 = .ok (.iload_n 3, 1) := dc_29 (dc_cut (j := 48) (n := 1) (l := [29]) dq_cL_law_640 (by decide +kernel) (by decide))
theorem dL_law_689 : decode cL_law 689 = .ok (.iconst 4, 1) := dc_7 (dc_cut (j := 49) (n := 1) (l := [7]) dq_cL_law_640 (by decide +kernel) (by decide))
theorem dL_law_690 : decode cL_law 690 = .ok (.iadd, 1) := dc_96 (dc_cut (j := 50) (n := 1) (l := [96]) dq_cL_law_640 (by decide +kernel) (by decide))
theorem dL_law_691 : decode cL_law 691 = .ok (.iaload, 1) := dc_46 (dc_cut (j := 51) (n := 1) (l := [46]) dq_cL_law_640 (by decide +kernel) (by decide))
theorem dL_law_692 : decode cL_law 692 = .ok (.invokevirtual 62, 3) := dc_182 (dc_cut (j := 52) (n := 3) (l := [182, 0, 62]) dq_cL_law_640 (by decide +kernel) (by decide)) rfl
theorem w_1488 : (Cond.methodLink "GooseBorderLaw" (62 : Nat) ({ cls := "GooseBorderModel", name := "state", desc := "(IIII)I" } : MethodName)) ∈ gb_wA := gb_t7 48 rfl rfl
theorem w_1489 : (Cond.instanceMethod ({ cls := "GooseBorderModel", name := "state", desc := "(IIII)I" } : MethodName)) ∈ gb_wA := gb_t7 49 rfl rfl
theorem w_1490 : (Cond.selects "GooseBorderModel" ({ cls := "GooseBorderModel", name := "state", desc := "(IIII)I" } : MethodName) ({ cls := "GooseBorderModel", name := "state", desc := "(IIII)I" } : MethodName)) ∈ gb_wA := gb_t7 50 rfl rfl
theorem w_1491 : (Cond.code ({ cls := "GooseBorderModel", name := "state", desc := "(IIII)I" } : MethodName) prog_14_method_64_code (8 : Nat) (Option.some FieldType.int)) ∈ gb_wA := gb_t7 51 rfl rfl
theorem dL_law_695 : decode cL_law 695 = .ok (.pop, 1) := dc_87 (dc_cut (j := 55) (n := 1) (l := [87]) dq_cL_law_640 (by decide +kernel) (by decide))
theorem dL_law_696 : decode cL_law 696 = .ok (.goto 1194, 3) := dc_167 (dc_cut (j := 56) (n := 3) (l := [167, 4, 170]) dq_cL_law_640 (by decide +kernel) (by decide)) rfl
set_option maxHeartbeats 4000000 in
set_option maxRecDepth 100000 in
theorem law_c10 {p : Program} {l : Launch} {e : Env} {s : State} {m : MethodId} {below : List Frame} {meth : Method} {c : Code} {b z L : Nat} {xs : Nat → Int32} (C0 : lw_At p s m meth c b L xs) (hzz : Array.size s.heap = z) {D : va_G} {cT : Nat → ClassId} {tt ak av : Nat → Nat} (hSt2 : gb_St2 D cT tt ak av z s) {i : Int32} (h1 : vp_in (i + 1) L) (h2 : vp_in (i + 2) L) (h3 : vp_in (i + 3) L) (h4 : vp_in (i + 4) L) (h5 : vp_in (i + 5) L) (hend : ∀ (σ : gb_S) (f : gb_F) (w : Int64) (H : Heap) (locs : List Loc) (ls : Array Slot), gb_Inv σ f → va_P D vwCl (gb_wl z (gb_CW cT z σ)) H → va_P D vwCl (gb_wl (z + 135) (gb_MW cT (z + 135) f w)) H → va_S (gb_ge z) s.heap H locs → lv_has ls 4 [(3, .int i), (2, .ref (z + 135 + 0)), (1, .ref (z + 0)), (0, .ref b)] → W p l e room_1 s m #[Value.ref b] below meth c H locs 157 10381 (lw_Z below #[Value.ref b] s) (F0 m 1890 ls [])) : ∀ (σ : gb_S) (f : gb_F) (w : Int64) (H : Heap) (locs : List Loc) (ls : Array Slot), gb_Inv σ f → va_P D vwCl (gb_wl z (gb_CW cT z σ)) H → va_P D vwCl (gb_wl (z + 135) (gb_MW cT (z + 135) f w)) H → va_S (gb_ge z) s.heap H locs → lv_has ls 4 [(3, .int i), (2, .ref (z + 135 + 0)), (1, .ref (z + 0)), (0, .ref b)] → W p l e room_1 s m #[Value.ref b] below meth c H locs 157 10381 (lw_Z below #[Value.ref b] s) (F0 m 646 ls []) := by
  obtain ⟨hx, hb, hr, hml, hown, hts, hX, hbl, hlocks, hgv⟩ := C0
  have hq : ∀ w ∈ gb_wA, w.before #[Value.ref b] s = true := fun w h => hts w (gb_wA_tbl w h)
  have hbA : ¬ gb_ge z b := Nat.not_le.mpr (by rw [← hzz]; exact hbl)
  intro σ f w H locs ls hI hPc hPm hS hl
  refine lv_aload_n hx hb dL_law_646 rfl (lv_at hl 2 rfl) ?_
  refine lv_aload_n hx hb dL_law_647 rfl (lv_at hl 3 rfl) ?_
  refine lv_iload_n hx hb dL_law_648 rfl (lv_at hl 0 rfl) ?_
  refine lv_iconst (v := 1) hx hb dL_law_649 (by decide) ?_
  refine lv_iadd hx hb dL_law_650 ?_
  refine va_sld hx hb hX hbl hbA hS h1 dL_law_651 ?_
  refine lv_aload_n hx hb dL_law_652 rfl (lv_at hl 3 rfl) ?_
  refine lv_iload_n hx hb dL_law_653 rfl (lv_at hl 0 rfl) ?_
  refine lv_iconst (v := 2) hx hb dL_law_654 (by decide) ?_
  refine lv_iadd hx hb dL_law_655 ?_
  refine va_sld hx hb hX hbl hbA hS h2 dL_law_656 ?_
  refine lv_aload_n hx hb dL_law_657 rfl (lv_at hl 3 rfl) ?_
  refine lv_iload_n hx hb dL_law_658 rfl (lv_at hl 0 rfl) ?_
  refine lv_iconst (v := 3) hx hb dL_law_659 (by decide) ?_
  refine lv_iadd hx hb dL_law_660 ?_
  refine va_sld hx hb hX hbl hbA hS h3 dL_law_661 ?_
  refine lv_aload_n hx hb dL_law_662 rfl (lv_at hl 3 rfl) ?_
  refine lv_iload_n hx hb dL_law_663 rfl (lv_at hl 0 rfl) ?_
  refine lv_iconst (v := 4) hx hb dL_law_664 (by decide) ?_
  refine lv_iadd hx hb dL_law_665 ?_
  refine va_sld hx hb hX hbl hbA hS h4 dL_law_666 ?_
  obtain ⟨σ2, ra, f2, w2, qa, ec, em, hI2, hcmp⟩ := law_s_state (xs (Int32.toNatClampNeg (i + 1))) (xs (Int32.toNatClampNeg (i + 2))) (xs (Int32.toNatClampNeg (i + 3))) (xs (Int32.toNatClampNeg (i + 4))) w hI
  refine gb_calli (va_runV (C := RX11) (As := [.int (xs (Int32.toNatClampNeg (i + 1))), .int (xs (Int32.toNatClampNeg (i + 2))), .int (xs (Int32.toNatClampNeg (i + 3))), .int (xs (Int32.toNatClampNeg (i + 4)))]) (rest := []) ⟨hx, hb, hml, hown, hq⟩ (cc_Face_state l D cT tt z z (Nat.le_refl z) gb_N σ (xs (Int32.toNatClampNeg (i + 1))) (xs (Int32.toNatClampNeg (i + 2))) (xs (Int32.toNatClampNeg (i + 3))) (xs (Int32.toNatClampNeg (i + 4))) σ2 ra ec) (cwV 4 hq (gb_gV w_792 w_793 w_794 w_1 w_795) rfl rfl rfl (by decide +kernel) ⟨Nat.le_of_ble_eq_true rfl, Nat.le_of_ble_eq_true rfl⟩) (gb_preV (r := (RX11, TX11, 10)) (ci := 9) (q0 := 0) hSt2.1 hPc rfl (gb_at z rfl) hS (fun q h => h) hPc) rfl rfl hl.1 rfl (lv_room (Nat.le_of_ble_eq_true rfl)) dL_law_667 ⟨Nat.le_of_ble_eq_true rfl, Nat.le_of_ble_eq_true rfl⟩) hS (fun q h => h.1) (fun q h => h.1) (fun rc H2 locs2 hY hk hS => ?_)
  obtain ⟨hr_, hY⟩ := hY
  subst hr_
  have hPm := gb_kept hPm (fun q h1 h2 => hk q (Nat.lt_of_lt_of_le h2 ((hPm 21 _ (gb_at (z + 135) rfl)).lt)) (fun h3 => Nat.not_lt.mpr h1 h3.2))
  have hPc := hY
  clear hY
  refine lv_pop hx hb dL_law_670 rfl ?_
  refine lv_aload_n hx hb dL_law_671 rfl (lv_at hl 1 rfl) ?_
  refine lv_aload_n hx hb dL_law_672 rfl (lv_at hl 3 rfl) ?_
  refine lv_iload_n hx hb dL_law_673 rfl (lv_at hl 0 rfl) ?_
  refine lv_iconst (v := 1) hx hb dL_law_674 (by decide) ?_
  refine lv_iadd hx hb dL_law_675 ?_
  refine va_sld hx hb hX hbl hbA hS h1 dL_law_676 ?_
  refine lv_aload_n hx hb dL_law_677 rfl (lv_at hl 3 rfl) ?_
  refine lv_iload_n hx hb dL_law_678 rfl (lv_at hl 0 rfl) ?_
  refine lv_iconst (v := 2) hx hb dL_law_679 (by decide) ?_
  refine lv_iadd hx hb dL_law_680 ?_
  refine va_sld hx hb hX hbl hbA hS h2 dL_law_681 ?_
  refine lv_aload_n hx hb dL_law_682 rfl (lv_at hl 3 rfl) ?_
  refine lv_iload_n hx hb dL_law_683 rfl (lv_at hl 0 rfl) ?_
  refine lv_iconst (v := 3) hx hb dL_law_684 (by decide) ?_
  refine lv_iadd hx hb dL_law_685 ?_
  refine va_sld hx hb hX hbl hbA hS h3 dL_law_686 ?_
  refine lv_aload_n hx hb dL_law_687 rfl (lv_at hl 3 rfl) ?_
  refine lv_iload_n hx hb dL_law_688 rfl (lv_at hl 0 rfl) ?_
  refine lv_iconst (v := 4) hx hb dL_law_689 (by decide) ?_
  refine lv_iadd hx hb dL_law_690 ?_
  refine va_sld hx hb hX hbl hbA hS h4 dL_law_691 ?_
  refine gb_calli (va_runV (C := RX12) (As := [.int (xs (Int32.toNatClampNeg (i + 1))), .int (xs (Int32.toNatClampNeg (i + 2))), .int (xs (Int32.toNatClampNeg (i + 3))), .int (xs (Int32.toNatClampNeg (i + 4)))]) (rest := []) ⟨hx, hb, hml, hown, hq⟩ (mc_state l D cT tt z (z + 135) (Nat.le_add_right z 135) gb_N f w (xs (Int32.toNatClampNeg (i + 1))) (xs (Int32.toNatClampNeg (i + 2))) (xs (Int32.toNatClampNeg (i + 3))) (xs (Int32.toNatClampNeg (i + 4))) f2 w2 qa em) (cwV 4 hq (gb_gV w_1488 w_1489 w_1490 w_14 w_1491) rfl rfl rfl (by decide +kernel) ⟨Nat.le_of_ble_eq_true rfl, Nat.le_of_ble_eq_true rfl⟩) (gb_preV (r := (RX12, TX12, 44)) (ci := 10) (q0 := 0) hSt2.1 hPm rfl (gb_at (z + 135) rfl) hS (fun q h => h) hPm) rfl rfl hl.1 rfl (lv_room (Nat.le_of_ble_eq_true rfl)) dL_law_692 ⟨Nat.le_of_ble_eq_true rfl, Nat.le_of_ble_eq_true rfl⟩) hS (fun q h => Nat.le_trans (Nat.le_add_right z 135) h.1) (fun q h => Nat.le_trans (Nat.le_add_right z 135) h.1) (fun rm H2 locs2 hY hk hS => ?_)
  obtain ⟨hr_, hY⟩ := hY
  subst hr_
  have hPc := gb_kept hPc (fun q h1 h2 => hk q (Nat.lt_of_lt_of_le h2 (Nat.le_of_lt (Nat.lt_of_le_of_lt (Nat.le_add_right (z + 135) 21) ((hPm 21 _ (gb_at (z + 135) rfl)).lt)))) (fun h3 => Nat.not_lt.mpr h3.1 h2))
  have hPm := hY
  clear hY
  refine lv_pop hx hb dL_law_695 rfl ?_
  refine lv_goto (tgt := 1890) hx hb dL_law_696 (by decide) ?_
  exact hend _ _ _ _ _ _ hI2 hPc hPm hS hl
theorem dL_law_699 : decode cL_law 699 = .ok (.aload_n 1, 1) := dc_43 (dc_cut (j := 59) (n := 1) (l := [43]) dq_cL_law_640 (by decide +kernel) (by decide))
theorem dL_law_700 : decode cL_law 700 = .ok (.aload_n 0, 1) := dc_42 (dc_cut (j := 60) (n := 1) (l := [42]) dq_cL_law_640 (by decide +kernel) (by decide))
theorem dL_law_701 : decode cL_law 701 = .ok (.iload_n 3, 1) := dc_29 (dc_cut (j := 61) (n := 1) (l := [29]) dq_cL_law_640 (by decide +kernel) (by decide))
theorem dL_law_702 : decode cL_law 702 = .ok (.iconst 1, 1) := dc_4 (dc_cut (j := 62) (n := 1) (l := [4]) dq_cL_law_640 (by decide +kernel) (by decide))
theorem dL_law_703 : decode cL_law 703 = .ok (.iadd, 1) := dc_96 (dc_cut (j := 63) (n := 1) (l := [96]) dq_cL_law_640 (by decide +kernel) (by decide))
theorem dq_cL_law_704 : ((cL_law.data.toList.drop 704).take 67).map UInt8.toNat = [46, 42, 29, 5, 96, 46, 42, 29, 6, 96, 46, 182, 0, 63, 87, 44, 42, 29, 4, 96, 46, 42, 29, 5, 96, 46, 42, 29, 6, 96, 46, 182, 0, 66, 87, 167, 4, 127, 43, 42, 29, 4, 96, 46, 42, 29, 5, 96, 46, 182, 0, 67, 87, 44, 42, 29, 4, 96, 46, 42, 29, 5, 96, 46, 182, 0, 70] := by decide +kernel
theorem dL_law_704 : decode cL_law 704 = .ok (.iaload, 1) := dc_46 (dc_cut (j := 0) (n := 1) (l := [46]) dq_cL_law_704 (by decide +kernel) (by decide))
theorem dL_law_705 : decode cL_law 705 = .ok (.aload_n 0, 1) := dc_42 (dc_cut (j := 1) (n := 1) (l := [42]) dq_cL_law_704 (by decide +kernel) (by decide))
theorem dL_law_706 : decode cL_law 706 = .ok (.iload_n 3, 1) := dc_29 (dc_cut (j := 2) (n := 1) (l := [29]) dq_cL_law_704 (by decide +kernel) (by decide))
theorem dL_law_707 : decode cL_law 707 = .ok (.iconst 2, 1) := dc_5 (dc_cut (j := 3) (n := 1) (l := [5]) dq_cL_law_704 (by decide +kernel) (by decide))
theorem dL_law_708 : decode cL_law 708 = .ok (.iadd, 1) := dc_96 (dc_cut (j := 4) (n := 1) (l := [96]) dq_cL_law_704 (by decide +kernel) (by decide))
theorem dL_law_709 : decode cL_law 709 = .ok (.iaload, 1) := dc_46 (dc_cut (j := 5) (n := 1) (l := [46]) dq_cL_law_704 (by decide +kernel) (by decide))
theorem dL_law_710 : decode cL_law 710 = .ok (.aload_n 0, 1) := dc_42 (dc_cut (j := 6) (n := 1) (l := [42]) dq_cL_law_704 (by decide +kernel) (by decide))
theorem dL_law_711 : decode cL_law 711 = .ok (.iload_n 3, 1) := dc_29 (dc_cut (j := 7) (n := 1) (l := [29]) dq_cL_law_704 (by decide +kernel) (by decide))
theorem dL_law_712 : decode cL_law 712 = .ok (.iconst 3, 1) := dc_6 (dc_cut (j := 8) (n := 1) (l := [6]) dq_cL_law_704 (by decide +kernel) (by decide))
theorem dL_law_713 : decode cL_law 713 = .ok (.iadd, 1) := dc_96 (dc_cut (j := 9) (n := 1) (l := [96]) dq_cL_law_704 (by decide +kernel) (by decide))
theorem dL_law_714 : decode cL_law 714 = .ok (.iaload, 1) := dc_46 (dc_cut (j := 10) (n := 1) (l := [46]) dq_cL_law_704 (by decide +kernel) (by decide))
theorem dL_law_715 : decode cL_law 715 = .ok (.invokevirtual 63, 3) := dc_182 (dc_cut (j := 11) (n := 3) (l := [182, 0, 63]) dq_cL_law_704 (by decide +kernel) (by decide)) rfl
theorem w_655 : (Cond.methodLink "GooseBorderLaw" (63 : Nat) ({ cls := "GooseBorder", name := "term", desc := "(III)I" } : MethodName)) ∈ gb_wA := gb_t3 175 rfl rfl
theorem w_656 : (Cond.instanceMethod ({ cls := "GooseBorder", name := "term", desc := "(III)I" } : MethodName)) ∈ gb_wA := gb_t3 176 rfl rfl
theorem w_657 : (Cond.selects "GooseBorder" ({ cls := "GooseBorder", name := "term", desc := "(III)I" } : MethodName) ({ cls := "GooseBorder", name := "term", desc := "(III)I" } : MethodName)) ∈ gb_wA := gb_t3 177 rfl rfl
theorem w_658 : (Cond.code ({ cls := "GooseBorder", name := "term", desc := "(III)I" } : MethodName) prog_1_method_12_code (5 : Nat) (Option.some FieldType.int)) ∈ gb_wA := gb_t3 178 rfl rfl
theorem dL_law_718 : decode cL_law 718 = .ok (.pop, 1) := dc_87 (dc_cut (j := 14) (n := 1) (l := [87]) dq_cL_law_704 (by decide +kernel) (by decide))
theorem dL_law_719 : decode cL_law 719 = .ok (.aload_n 2, 1) := dc_44 (dc_cut (j := 15) (n := 1) (l := [44]) dq_cL_law_704 (by decide +kernel) (by decide))
theorem dL_law_720 : decode cL_law 720 = .ok (.aload_n 0, 1) := dc_42 (dc_cut (j := 16) (n := 1) (l := [42]) dq_cL_law_704 (by decide +kernel) (by decide))
theorem dL_law_721 : decode cL_law 721 = .ok (.iload_n 3, 1) := dc_29 (dc_cut (j := 17) (n := 1) (l := [29]) dq_cL_law_704 (by decide +kernel) (by decide))
theorem dL_law_722 : decode cL_law 722 = .ok (.iconst 1, 1) := dc_4 (dc_cut (j := 18) (n := 1) (l := [4]) dq_cL_law_704 (by decide +kernel) (by decide))
theorem dL_law_723 : decode cL_law 723 = .ok (.iadd, 1) := dc_96 (dc_cut (j := 19) (n := 1) (l := [96]) dq_cL_law_704 (by decide +kernel) (by decide))
theorem dL_law_724 : decode cL_law 724 = .ok (.iaload, 1) := dc_46 (dc_cut (j := 20) (n := 1) (l := [46]) dq_cL_law_704 (by decide +kernel) (by decide))
theorem dL_law_725 : decode cL_law 725 = .ok (.aload_n 0, 1) := dc_42 (dc_cut (j := 21) (n := 1) (l := [42]) dq_cL_law_704 (by decide +kernel) (by decide))
theorem dL_law_726 : decode cL_law 726 = .ok (.iload_n 3, 1) := dc_29 (dc_cut (j := 22) (n := 1) (l := [29]) dq_cL_law_704 (by decide +kernel) (by decide))
theorem dL_law_727 : decode cL_law 727 = .ok (.iconst 2, 1) := dc_5 (dc_cut (j := 23) (n := 1) (l := [5]) dq_cL_law_704 (by decide +kernel) (by decide))
theorem dL_law_728 : decode cL_law 728 = .ok (.iadd, 1) := dc_96 (dc_cut (j := 24) (n := 1) (l := [96]) dq_cL_law_704 (by decide +kernel) (by decide))
theorem dL_law_729 : decode cL_law 729 = .ok (.iaload, 1) := dc_46 (dc_cut (j := 25) (n := 1) (l := [46]) dq_cL_law_704 (by decide +kernel) (by decide))
theorem dL_law_730 : decode cL_law 730 = .ok (.aload_n 0, 1) := dc_42 (dc_cut (j := 26) (n := 1) (l := [42]) dq_cL_law_704 (by decide +kernel) (by decide))
theorem dL_law_731 : decode cL_law 731 = .ok (.iload_n 3, 1) := dc_29 (dc_cut (j := 27) (n := 1) (l := [29]) dq_cL_law_704 (by decide +kernel) (by decide))
theorem dL_law_732 : decode cL_law 732 = .ok (.iconst 3, 1) := dc_6 (dc_cut (j := 28) (n := 1) (l := [6]) dq_cL_law_704 (by decide +kernel) (by decide))
theorem dL_law_733 : decode cL_law 733 = .ok (.iadd, 1) := dc_96 (dc_cut (j := 29) (n := 1) (l := [96]) dq_cL_law_704 (by decide +kernel) (by decide))
theorem dL_law_734 : decode cL_law 734 = .ok (.iaload, 1) := dc_46 (dc_cut (j := 30) (n := 1) (l := [46]) dq_cL_law_704 (by decide +kernel) (by decide))
theorem dL_law_735 : decode cL_law 735 = .ok (.invokevirtual 66, 3) := dc_182 (dc_cut (j := 31) (n := 3) (l := [182, 0, 66]) dq_cL_law_704 (by decide +kernel) (by decide)) rfl
theorem w_1500 : (Cond.methodLink "GooseBorderLaw" (66 : Nat) ({ cls := "GooseBorderModel", name := "term", desc := "(III)I" } : MethodName)) ∈ gb_wA := gb_t7 60 rfl rfl
theorem w_1501 : (Cond.instanceMethod ({ cls := "GooseBorderModel", name := "term", desc := "(III)I" } : MethodName)) ∈ gb_wA := gb_t7 61 rfl rfl
theorem w_1502 : (Cond.selects "GooseBorderModel" ({ cls := "GooseBorderModel", name := "term", desc := "(III)I" } : MethodName) ({ cls := "GooseBorderModel", name := "term", desc := "(III)I" } : MethodName)) ∈ gb_wA := gb_t7 62 rfl rfl
theorem w_1503 : (Cond.code ({ cls := "GooseBorderModel", name := "term", desc := "(III)I" } : MethodName) prog_14_method_66_code (4 : Nat) (Option.some FieldType.int)) ∈ gb_wA := gb_t7 63 rfl rfl
theorem dL_law_738 : decode cL_law 738 = .ok (.pop, 1) := dc_87 (dc_cut (j := 34) (n := 1) (l := [87]) dq_cL_law_704 (by decide +kernel) (by decide))
theorem dL_law_739 : decode cL_law 739 = .ok (.goto 1151, 3) := dc_167 (dc_cut (j := 35) (n := 3) (l := [167, 4, 127]) dq_cL_law_704 (by decide +kernel) (by decide)) rfl
set_option maxHeartbeats 4000000 in
set_option maxRecDepth 100000 in
theorem law_c11 {p : Program} {l : Launch} {e : Env} {s : State} {m : MethodId} {below : List Frame} {meth : Method} {c : Code} {b z L : Nat} {xs : Nat → Int32} (C0 : lw_At p s m meth c b L xs) (hzz : Array.size s.heap = z) {D : va_G} {cT : Nat → ClassId} {tt ak av : Nat → Nat} (hSt2 : gb_St2 D cT tt ak av z s) {i : Int32} (h1 : vp_in (i + 1) L) (h2 : vp_in (i + 2) L) (h3 : vp_in (i + 3) L) (h4 : vp_in (i + 4) L) (h5 : vp_in (i + 5) L) (hend : ∀ (σ : gb_S) (f : gb_F) (w : Int64) (H : Heap) (locs : List Loc) (ls : Array Slot), gb_Inv σ f → va_P D vwCl (gb_wl z (gb_CW cT z σ)) H → va_P D vwCl (gb_wl (z + 135) (gb_MW cT (z + 135) f w)) H → va_S (gb_ge z) s.heap H locs → lv_has ls 4 [(3, .int i), (2, .ref (z + 135 + 0)), (1, .ref (z + 0)), (0, .ref b)] → W p l e room_1 s m #[Value.ref b] below meth c H locs 157 10381 (lw_Z below #[Value.ref b] s) (F0 m 1890 ls [])) : ∀ (σ : gb_S) (f : gb_F) (w : Int64) (H : Heap) (locs : List Loc) (ls : Array Slot), gb_Inv σ f → va_P D vwCl (gb_wl z (gb_CW cT z σ)) H → va_P D vwCl (gb_wl (z + 135) (gb_MW cT (z + 135) f w)) H → va_S (gb_ge z) s.heap H locs → lv_has ls 4 [(3, .int i), (2, .ref (z + 135 + 0)), (1, .ref (z + 0)), (0, .ref b)] → W p l e room_1 s m #[Value.ref b] below meth c H locs 157 10381 (lw_Z below #[Value.ref b] s) (F0 m 699 ls []) := by
  obtain ⟨hx, hb, hr, hml, hown, hts, hX, hbl, hlocks, hgv⟩ := C0
  have hq : ∀ w ∈ gb_wA, w.before #[Value.ref b] s = true := fun w h => hts w (gb_wA_tbl w h)
  have hbA : ¬ gb_ge z b := Nat.not_le.mpr (by rw [← hzz]; exact hbl)
  intro σ f w H locs ls hI hPc hPm hS hl
  refine lv_aload_n hx hb dL_law_699 rfl (lv_at hl 2 rfl) ?_
  refine lv_aload_n hx hb dL_law_700 rfl (lv_at hl 3 rfl) ?_
  refine lv_iload_n hx hb dL_law_701 rfl (lv_at hl 0 rfl) ?_
  refine lv_iconst (v := 1) hx hb dL_law_702 (by decide) ?_
  refine lv_iadd hx hb dL_law_703 ?_
  refine va_sld hx hb hX hbl hbA hS h1 dL_law_704 ?_
  refine lv_aload_n hx hb dL_law_705 rfl (lv_at hl 3 rfl) ?_
  refine lv_iload_n hx hb dL_law_706 rfl (lv_at hl 0 rfl) ?_
  refine lv_iconst (v := 2) hx hb dL_law_707 (by decide) ?_
  refine lv_iadd hx hb dL_law_708 ?_
  refine va_sld hx hb hX hbl hbA hS h2 dL_law_709 ?_
  refine lv_aload_n hx hb dL_law_710 rfl (lv_at hl 3 rfl) ?_
  refine lv_iload_n hx hb dL_law_711 rfl (lv_at hl 0 rfl) ?_
  refine lv_iconst (v := 3) hx hb dL_law_712 (by decide) ?_
  refine lv_iadd hx hb dL_law_713 ?_
  refine va_sld hx hb hX hbl hbA hS h3 dL_law_714 ?_
  obtain ⟨σ2, ra, f2, w2, qa, ec, em, hI2, hcmp⟩ := law_s_term (xs (Int32.toNatClampNeg (i + 1))) (xs (Int32.toNatClampNeg (i + 2))) (xs (Int32.toNatClampNeg (i + 3))) w hI
  refine gb_calli (va_runV (C := RX11) (As := [.int (xs (Int32.toNatClampNeg (i + 1))), .int (xs (Int32.toNatClampNeg (i + 2))), .int (xs (Int32.toNatClampNeg (i + 3)))]) (rest := []) ⟨hx, hb, hml, hown, hq⟩ (cc_Face_term l D cT tt z z (Nat.le_refl z) gb_N σ (xs (Int32.toNatClampNeg (i + 1))) (xs (Int32.toNatClampNeg (i + 2))) (xs (Int32.toNatClampNeg (i + 3))) σ2 ra ec) (cwV 3 hq (gb_gV w_655 w_656 w_657 w_1 w_658) rfl rfl rfl (by decide +kernel) ⟨Nat.le_of_ble_eq_true rfl, Nat.le_of_ble_eq_true rfl⟩) (gb_preV (r := (RX11, TX11, 10)) (ci := 9) (q0 := 0) hSt2.1 hPc rfl (gb_at z rfl) hS (fun q h => h) hPc) rfl rfl hl.1 rfl (lv_room (Nat.le_of_ble_eq_true rfl)) dL_law_715 ⟨Nat.le_of_ble_eq_true rfl, Nat.le_of_ble_eq_true rfl⟩) hS (fun q h => h.1) (fun q h => h.1) (fun rc H2 locs2 hY hk hS => ?_)
  obtain ⟨hr_, hY⟩ := hY
  subst hr_
  have hPm := gb_kept hPm (fun q h1 h2 => hk q (Nat.lt_of_lt_of_le h2 ((hPm 21 _ (gb_at (z + 135) rfl)).lt)) (fun h3 => Nat.not_lt.mpr h1 h3.2))
  have hPc := hY
  clear hY
  refine lv_pop hx hb dL_law_718 rfl ?_
  refine lv_aload_n hx hb dL_law_719 rfl (lv_at hl 1 rfl) ?_
  refine lv_aload_n hx hb dL_law_720 rfl (lv_at hl 3 rfl) ?_
  refine lv_iload_n hx hb dL_law_721 rfl (lv_at hl 0 rfl) ?_
  refine lv_iconst (v := 1) hx hb dL_law_722 (by decide) ?_
  refine lv_iadd hx hb dL_law_723 ?_
  refine va_sld hx hb hX hbl hbA hS h1 dL_law_724 ?_
  refine lv_aload_n hx hb dL_law_725 rfl (lv_at hl 3 rfl) ?_
  refine lv_iload_n hx hb dL_law_726 rfl (lv_at hl 0 rfl) ?_
  refine lv_iconst (v := 2) hx hb dL_law_727 (by decide) ?_
  refine lv_iadd hx hb dL_law_728 ?_
  refine va_sld hx hb hX hbl hbA hS h2 dL_law_729 ?_
  refine lv_aload_n hx hb dL_law_730 rfl (lv_at hl 3 rfl) ?_
  refine lv_iload_n hx hb dL_law_731 rfl (lv_at hl 0 rfl) ?_
  refine lv_iconst (v := 3) hx hb dL_law_732 (by decide) ?_
  refine lv_iadd hx hb dL_law_733 ?_
  refine va_sld hx hb hX hbl hbA hS h3 dL_law_734 ?_
  refine gb_calli (va_runV (C := RX12) (As := [.int (xs (Int32.toNatClampNeg (i + 1))), .int (xs (Int32.toNatClampNeg (i + 2))), .int (xs (Int32.toNatClampNeg (i + 3)))]) (rest := []) ⟨hx, hb, hml, hown, hq⟩ (mc_term l D cT tt z (z + 135) (Nat.le_add_right z 135) gb_N f w (xs (Int32.toNatClampNeg (i + 1))) (xs (Int32.toNatClampNeg (i + 2))) (xs (Int32.toNatClampNeg (i + 3))) f2 w2 qa em) (cwV 3 hq (gb_gV w_1500 w_1501 w_1502 w_14 w_1503) rfl rfl rfl (by decide +kernel) ⟨Nat.le_of_ble_eq_true rfl, Nat.le_of_ble_eq_true rfl⟩) (gb_preV (r := (RX12, TX12, 44)) (ci := 10) (q0 := 0) hSt2.1 hPm rfl (gb_at (z + 135) rfl) hS (fun q h => h) hPm) rfl rfl hl.1 rfl (lv_room (Nat.le_of_ble_eq_true rfl)) dL_law_735 ⟨Nat.le_of_ble_eq_true rfl, Nat.le_of_ble_eq_true rfl⟩) hS (fun q h => Nat.le_trans (Nat.le_add_right z 135) h.1) (fun q h => Nat.le_trans (Nat.le_add_right z 135) h.1) (fun rm H2 locs2 hY hk hS => ?_)
  obtain ⟨hr_, hY⟩ := hY
  subst hr_
  have hPc := gb_kept hPc (fun q h1 h2 => hk q (Nat.lt_of_lt_of_le h2 (Nat.le_of_lt (Nat.lt_of_le_of_lt (Nat.le_add_right (z + 135) 21) ((hPm 21 _ (gb_at (z + 135) rfl)).lt)))) (fun h3 => Nat.not_lt.mpr h3.1 h2))
  have hPm := hY
  clear hY
  refine lv_pop hx hb dL_law_738 rfl ?_
  refine lv_goto (tgt := 1890) hx hb dL_law_739 (by decide) ?_
  exact hend _ _ _ _ _ _ hI2 hPc hPm hS hl
theorem dL_law_742 : decode cL_law 742 = .ok (.aload_n 1, 1) := dc_43 (dc_cut (j := 38) (n := 1) (l := [43]) dq_cL_law_704 (by decide +kernel) (by decide))
theorem dL_law_743 : decode cL_law 743 = .ok (.aload_n 0, 1) := dc_42 (dc_cut (j := 39) (n := 1) (l := [42]) dq_cL_law_704 (by decide +kernel) (by decide))
theorem dL_law_744 : decode cL_law 744 = .ok (.iload_n 3, 1) := dc_29 (dc_cut (j := 40) (n := 1) (l := [29]) dq_cL_law_704 (by decide +kernel) (by decide))
theorem dL_law_745 : decode cL_law 745 = .ok (.iconst 1, 1) := dc_4 (dc_cut (j := 41) (n := 1) (l := [4]) dq_cL_law_704 (by decide +kernel) (by decide))
theorem dL_law_746 : decode cL_law 746 = .ok (.iadd, 1) := dc_96 (dc_cut (j := 42) (n := 1) (l := [96]) dq_cL_law_704 (by decide +kernel) (by decide))
theorem dL_law_747 : decode cL_law 747 = .ok (.iaload, 1) := dc_46 (dc_cut (j := 43) (n := 1) (l := [46]) dq_cL_law_704 (by decide +kernel) (by decide))
theorem dL_law_748 : decode cL_law 748 = .ok (.aload_n 0, 1) := dc_42 (dc_cut (j := 44) (n := 1) (l := [42]) dq_cL_law_704 (by decide +kernel) (by decide))
theorem dL_law_749 : decode cL_law 749 = .ok (.iload_n 3, 1) := dc_29 (dc_cut (j := 45) (n := 1) (l := [29]) dq_cL_law_704 (by decide +kernel) (by decide))
theorem dL_law_750 : decode cL_law 750 = .ok (.iconst 2, 1) := dc_5 (dc_cut (j := 46) (n := 1) (l := [5]) dq_cL_law_704 (by decide +kernel) (by decide))
theorem dL_law_751 : decode cL_law 751 = .ok (.iadd, 1) := dc_96 (dc_cut (j := 47) (n := 1) (l := [96]) dq_cL_law_704 (by decide +kernel) (by decide))
theorem dL_law_752 : decode cL_law 752 = .ok (.iaload, 1) := dc_46 (dc_cut (j := 48) (n := 1) (l := [46]) dq_cL_law_704 (by decide +kernel) (by decide))
theorem dL_law_753 : decode cL_law 753 = .ok (.invokevirtual 67, 3) := dc_182 (dc_cut (j := 49) (n := 3) (l := [182, 0, 67]) dq_cL_law_704 (by decide +kernel) (by decide)) rfl
theorem w_671 : (Cond.methodLink "GooseBorderLaw" (67 : Nat) ({ cls := "GooseBorder", name := "pays", desc := "(II)I" } : MethodName)) ∈ gb_wA := gb_t3 191 rfl rfl
theorem w_672 : (Cond.instanceMethod ({ cls := "GooseBorder", name := "pays", desc := "(II)I" } : MethodName)) ∈ gb_wA := gb_t3 192 rfl rfl
theorem w_673 : (Cond.selects "GooseBorder" ({ cls := "GooseBorder", name := "pays", desc := "(II)I" } : MethodName) ({ cls := "GooseBorder", name := "pays", desc := "(II)I" } : MethodName)) ∈ gb_wA := gb_t3 193 rfl rfl
theorem w_674 : (Cond.code ({ cls := "GooseBorder", name := "pays", desc := "(II)I" } : MethodName) prog_1_method_14_code (4 : Nat) (Option.some FieldType.int)) ∈ gb_wA := gb_t3 194 rfl rfl
theorem dL_law_756 : decode cL_law 756 = .ok (.pop, 1) := dc_87 (dc_cut (j := 52) (n := 1) (l := [87]) dq_cL_law_704 (by decide +kernel) (by decide))
theorem dL_law_757 : decode cL_law 757 = .ok (.aload_n 2, 1) := dc_44 (dc_cut (j := 53) (n := 1) (l := [44]) dq_cL_law_704 (by decide +kernel) (by decide))
theorem dL_law_758 : decode cL_law 758 = .ok (.aload_n 0, 1) := dc_42 (dc_cut (j := 54) (n := 1) (l := [42]) dq_cL_law_704 (by decide +kernel) (by decide))
theorem dL_law_759 : decode cL_law 759 = .ok (.iload_n 3, 1) := dc_29 (dc_cut (j := 55) (n := 1) (l := [29]) dq_cL_law_704 (by decide +kernel) (by decide))
theorem dL_law_760 : decode cL_law 760 = .ok (.iconst 1, 1) := dc_4 (dc_cut (j := 56) (n := 1) (l := [4]) dq_cL_law_704 (by decide +kernel) (by decide))
theorem dL_law_761 : decode cL_law 761 = .ok (.iadd, 1) := dc_96 (dc_cut (j := 57) (n := 1) (l := [96]) dq_cL_law_704 (by decide +kernel) (by decide))
theorem dL_law_762 : decode cL_law 762 = .ok (.iaload, 1) := dc_46 (dc_cut (j := 58) (n := 1) (l := [46]) dq_cL_law_704 (by decide +kernel) (by decide))
theorem dL_law_763 : decode cL_law 763 = .ok (.aload_n 0, 1) := dc_42 (dc_cut (j := 59) (n := 1) (l := [42]) dq_cL_law_704 (by decide +kernel) (by decide))
theorem dL_law_764 : decode cL_law 764 = .ok (.iload_n 3, 1) := dc_29 (dc_cut (j := 60) (n := 1) (l := [29]) dq_cL_law_704 (by decide +kernel) (by decide))
theorem dL_law_765 : decode cL_law 765 = .ok (.iconst 2, 1) := dc_5 (dc_cut (j := 61) (n := 1) (l := [5]) dq_cL_law_704 (by decide +kernel) (by decide))
theorem dL_law_766 : decode cL_law 766 = .ok (.iadd, 1) := dc_96 (dc_cut (j := 62) (n := 1) (l := [96]) dq_cL_law_704 (by decide +kernel) (by decide))
theorem dL_law_767 : decode cL_law 767 = .ok (.iaload, 1) := dc_46 (dc_cut (j := 63) (n := 1) (l := [46]) dq_cL_law_704 (by decide +kernel) (by decide))
theorem dq_cL_law_768 : ((cL_law.data.toList.drop 768).take 67).map UInt8.toNat = [182, 0, 70, 87, 167, 4, 94, 43, 42, 29, 4, 96, 46, 42, 29, 5, 96, 46, 182, 0, 71, 87, 44, 42, 29, 4, 96, 46, 42, 29, 5, 96, 46, 182, 0, 74, 87, 167, 4, 61, 43, 42, 29, 4, 96, 46, 42, 29, 5, 96, 46, 42, 29, 6, 96, 46, 182, 0, 75, 87, 44, 42, 29, 4, 96, 46, 42] := by decide +kernel
theorem dL_law_768 : decode cL_law 768 = .ok (.invokevirtual 70, 3) := dc_182 (dc_cut (j := 0) (n := 3) (l := [182, 0, 70]) dq_cL_law_768 (by decide +kernel) (by decide)) rfl
theorem w_1508 : (Cond.methodLink "GooseBorderLaw" (70 : Nat) ({ cls := "GooseBorderModel", name := "pays", desc := "(II)I" } : MethodName)) ∈ gb_wA := gb_t7 68 rfl rfl
theorem w_1509 : (Cond.instanceMethod ({ cls := "GooseBorderModel", name := "pays", desc := "(II)I" } : MethodName)) ∈ gb_wA := gb_t7 69 rfl rfl
theorem w_1510 : (Cond.selects "GooseBorderModel" ({ cls := "GooseBorderModel", name := "pays", desc := "(II)I" } : MethodName) ({ cls := "GooseBorderModel", name := "pays", desc := "(II)I" } : MethodName)) ∈ gb_wA := gb_t7 70 rfl rfl
theorem w_1511 : (Cond.code ({ cls := "GooseBorderModel", name := "pays", desc := "(II)I" } : MethodName) prog_14_method_68_code (3 : Nat) (Option.some FieldType.int)) ∈ gb_wA := gb_t7 71 rfl rfl
theorem dL_law_771 : decode cL_law 771 = .ok (.pop, 1) := dc_87 (dc_cut (j := 3) (n := 1) (l := [87]) dq_cL_law_768 (by decide +kernel) (by decide))
theorem dL_law_772 : decode cL_law 772 = .ok (.goto 1118, 3) := dc_167 (dc_cut (j := 4) (n := 3) (l := [167, 4, 94]) dq_cL_law_768 (by decide +kernel) (by decide)) rfl
set_option maxHeartbeats 4000000 in
set_option maxRecDepth 100000 in
theorem law_c12 {p : Program} {l : Launch} {e : Env} {s : State} {m : MethodId} {below : List Frame} {meth : Method} {c : Code} {b z L : Nat} {xs : Nat → Int32} (C0 : lw_At p s m meth c b L xs) (hzz : Array.size s.heap = z) {D : va_G} {cT : Nat → ClassId} {tt ak av : Nat → Nat} (hSt2 : gb_St2 D cT tt ak av z s) {i : Int32} (h1 : vp_in (i + 1) L) (h2 : vp_in (i + 2) L) (h3 : vp_in (i + 3) L) (h4 : vp_in (i + 4) L) (h5 : vp_in (i + 5) L) (hend : ∀ (σ : gb_S) (f : gb_F) (w : Int64) (H : Heap) (locs : List Loc) (ls : Array Slot), gb_Inv σ f → va_P D vwCl (gb_wl z (gb_CW cT z σ)) H → va_P D vwCl (gb_wl (z + 135) (gb_MW cT (z + 135) f w)) H → va_S (gb_ge z) s.heap H locs → lv_has ls 4 [(3, .int i), (2, .ref (z + 135 + 0)), (1, .ref (z + 0)), (0, .ref b)] → W p l e room_1 s m #[Value.ref b] below meth c H locs 157 10381 (lw_Z below #[Value.ref b] s) (F0 m 1890 ls [])) : ∀ (σ : gb_S) (f : gb_F) (w : Int64) (H : Heap) (locs : List Loc) (ls : Array Slot), gb_Inv σ f → va_P D vwCl (gb_wl z (gb_CW cT z σ)) H → va_P D vwCl (gb_wl (z + 135) (gb_MW cT (z + 135) f w)) H → va_S (gb_ge z) s.heap H locs → lv_has ls 4 [(3, .int i), (2, .ref (z + 135 + 0)), (1, .ref (z + 0)), (0, .ref b)] → W p l e room_1 s m #[Value.ref b] below meth c H locs 157 10381 (lw_Z below #[Value.ref b] s) (F0 m 742 ls []) := by
  obtain ⟨hx, hb, hr, hml, hown, hts, hX, hbl, hlocks, hgv⟩ := C0
  have hq : ∀ w ∈ gb_wA, w.before #[Value.ref b] s = true := fun w h => hts w (gb_wA_tbl w h)
  have hbA : ¬ gb_ge z b := Nat.not_le.mpr (by rw [← hzz]; exact hbl)
  intro σ f w H locs ls hI hPc hPm hS hl
  refine lv_aload_n hx hb dL_law_742 rfl (lv_at hl 2 rfl) ?_
  refine lv_aload_n hx hb dL_law_743 rfl (lv_at hl 3 rfl) ?_
  refine lv_iload_n hx hb dL_law_744 rfl (lv_at hl 0 rfl) ?_
  refine lv_iconst (v := 1) hx hb dL_law_745 (by decide) ?_
  refine lv_iadd hx hb dL_law_746 ?_
  refine va_sld hx hb hX hbl hbA hS h1 dL_law_747 ?_
  refine lv_aload_n hx hb dL_law_748 rfl (lv_at hl 3 rfl) ?_
  refine lv_iload_n hx hb dL_law_749 rfl (lv_at hl 0 rfl) ?_
  refine lv_iconst (v := 2) hx hb dL_law_750 (by decide) ?_
  refine lv_iadd hx hb dL_law_751 ?_
  refine va_sld hx hb hX hbl hbA hS h2 dL_law_752 ?_
  obtain ⟨σ2, ra, f2, w2, qa, ec, em, hI2, hcmp⟩ := law_s_pays (xs (Int32.toNatClampNeg (i + 1))) (xs (Int32.toNatClampNeg (i + 2))) w hI
  refine gb_calli (va_runV (C := RX11) (As := [.int (xs (Int32.toNatClampNeg (i + 1))), .int (xs (Int32.toNatClampNeg (i + 2)))]) (rest := []) ⟨hx, hb, hml, hown, hq⟩ (cc_Face_pays l D cT tt z z (Nat.le_refl z) gb_N σ (xs (Int32.toNatClampNeg (i + 1))) (xs (Int32.toNatClampNeg (i + 2))) σ2 ra ec) (cwV 2 hq (gb_gV w_671 w_672 w_673 w_1 w_674) rfl rfl rfl (by decide +kernel) ⟨Nat.le_of_ble_eq_true rfl, Nat.le_of_ble_eq_true rfl⟩) (gb_preV (r := (RX11, TX11, 10)) (ci := 9) (q0 := 0) hSt2.1 hPc rfl (gb_at z rfl) hS (fun q h => h) hPc) rfl rfl hl.1 rfl (lv_room (Nat.le_of_ble_eq_true rfl)) dL_law_753 ⟨Nat.le_of_ble_eq_true rfl, Nat.le_of_ble_eq_true rfl⟩) hS (fun q h => h.1) (fun q h => h.1) (fun rc H2 locs2 hY hk hS => ?_)
  obtain ⟨hr_, hY⟩ := hY
  subst hr_
  have hPm := gb_kept hPm (fun q h1 h2 => hk q (Nat.lt_of_lt_of_le h2 ((hPm 21 _ (gb_at (z + 135) rfl)).lt)) (fun h3 => Nat.not_lt.mpr h1 h3.2))
  have hPc := hY
  clear hY
  refine lv_pop hx hb dL_law_756 rfl ?_
  refine lv_aload_n hx hb dL_law_757 rfl (lv_at hl 1 rfl) ?_
  refine lv_aload_n hx hb dL_law_758 rfl (lv_at hl 3 rfl) ?_
  refine lv_iload_n hx hb dL_law_759 rfl (lv_at hl 0 rfl) ?_
  refine lv_iconst (v := 1) hx hb dL_law_760 (by decide) ?_
  refine lv_iadd hx hb dL_law_761 ?_
  refine va_sld hx hb hX hbl hbA hS h1 dL_law_762 ?_
  refine lv_aload_n hx hb dL_law_763 rfl (lv_at hl 3 rfl) ?_
  refine lv_iload_n hx hb dL_law_764 rfl (lv_at hl 0 rfl) ?_
  refine lv_iconst (v := 2) hx hb dL_law_765 (by decide) ?_
  refine lv_iadd hx hb dL_law_766 ?_
  refine va_sld hx hb hX hbl hbA hS h2 dL_law_767 ?_
  refine gb_calli (va_runV (C := RX12) (As := [.int (xs (Int32.toNatClampNeg (i + 1))), .int (xs (Int32.toNatClampNeg (i + 2)))]) (rest := []) ⟨hx, hb, hml, hown, hq⟩ (mc_pays l D cT tt z (z + 135) (Nat.le_add_right z 135) gb_N f w (xs (Int32.toNatClampNeg (i + 1))) (xs (Int32.toNatClampNeg (i + 2))) f2 w2 qa em) (cwV 2 hq (gb_gV w_1508 w_1509 w_1510 w_14 w_1511) rfl rfl rfl (by decide +kernel) ⟨Nat.le_of_ble_eq_true rfl, Nat.le_of_ble_eq_true rfl⟩) (gb_preV (r := (RX12, TX12, 44)) (ci := 10) (q0 := 0) hSt2.1 hPm rfl (gb_at (z + 135) rfl) hS (fun q h => h) hPm) rfl rfl hl.1 rfl (lv_room (Nat.le_of_ble_eq_true rfl)) dL_law_768 ⟨Nat.le_of_ble_eq_true rfl, Nat.le_of_ble_eq_true rfl⟩) hS (fun q h => Nat.le_trans (Nat.le_add_right z 135) h.1) (fun q h => Nat.le_trans (Nat.le_add_right z 135) h.1) (fun rm H2 locs2 hY hk hS => ?_)
  obtain ⟨hr_, hY⟩ := hY
  subst hr_
  have hPc := gb_kept hPc (fun q h1 h2 => hk q (Nat.lt_of_lt_of_le h2 (Nat.le_of_lt (Nat.lt_of_le_of_lt (Nat.le_add_right (z + 135) 21) ((hPm 21 _ (gb_at (z + 135) rfl)).lt)))) (fun h3 => Nat.not_lt.mpr h3.1 h2))
  have hPm := hY
  clear hY
  refine lv_pop hx hb dL_law_771 rfl ?_
  refine lv_goto (tgt := 1890) hx hb dL_law_772 (by decide) ?_
  exact hend _ _ _ _ _ _ hI2 hPc hPm hS hl
theorem dL_law_775 : decode cL_law 775 = .ok (.aload_n 1, 1) := dc_43 (dc_cut (j := 7) (n := 1) (l := [43]) dq_cL_law_768 (by decide +kernel) (by decide))
theorem dL_law_776 : decode cL_law 776 = .ok (.aload_n 0, 1) := dc_42 (dc_cut (j := 8) (n := 1) (l := [42]) dq_cL_law_768 (by decide +kernel) (by decide))
theorem dL_law_777 : decode cL_law 777 = .ok (.iload_n 3, 1) := dc_29 (dc_cut (j := 9) (n := 1) (l := [29]) dq_cL_law_768 (by decide +kernel) (by decide))
theorem dL_law_778 : decode cL_law 778 = .ok (.iconst 1, 1) := dc_4 (dc_cut (j := 10) (n := 1) (l := [4]) dq_cL_law_768 (by decide +kernel) (by decide))
theorem dL_law_779 : decode cL_law 779 = .ok (.iadd, 1) := dc_96 (dc_cut (j := 11) (n := 1) (l := [96]) dq_cL_law_768 (by decide +kernel) (by decide))
theorem dL_law_780 : decode cL_law 780 = .ok (.iaload, 1) := dc_46 (dc_cut (j := 12) (n := 1) (l := [46]) dq_cL_law_768 (by decide +kernel) (by decide))
theorem dL_law_781 : decode cL_law 781 = .ok (.aload_n 0, 1) := dc_42 (dc_cut (j := 13) (n := 1) (l := [42]) dq_cL_law_768 (by decide +kernel) (by decide))
theorem dL_law_782 : decode cL_law 782 = .ok (.iload_n 3, 1) := dc_29 (dc_cut (j := 14) (n := 1) (l := [29]) dq_cL_law_768 (by decide +kernel) (by decide))
theorem dL_law_783 : decode cL_law 783 = .ok (.iconst 2, 1) := dc_5 (dc_cut (j := 15) (n := 1) (l := [5]) dq_cL_law_768 (by decide +kernel) (by decide))
theorem dL_law_784 : decode cL_law 784 = .ok (.iadd, 1) := dc_96 (dc_cut (j := 16) (n := 1) (l := [96]) dq_cL_law_768 (by decide +kernel) (by decide))
theorem dL_law_785 : decode cL_law 785 = .ok (.iaload, 1) := dc_46 (dc_cut (j := 17) (n := 1) (l := [46]) dq_cL_law_768 (by decide +kernel) (by decide))
theorem dL_law_786 : decode cL_law 786 = .ok (.invokevirtual 71, 3) := dc_182 (dc_cut (j := 18) (n := 3) (l := [182, 0, 71]) dq_cL_law_768 (by decide +kernel) (by decide)) rfl
theorem w_881 : (Cond.methodLink "GooseBorderLaw" (71 : Nat) ({ cls := "GooseBorder", name := "even", desc := "(II)I" } : MethodName)) ∈ gb_wA := gb_t4 161 rfl rfl
theorem w_882 : (Cond.instanceMethod ({ cls := "GooseBorder", name := "even", desc := "(II)I" } : MethodName)) ∈ gb_wA := gb_t4 162 rfl rfl
theorem w_883 : (Cond.selects "GooseBorder" ({ cls := "GooseBorder", name := "even", desc := "(II)I" } : MethodName) ({ cls := "GooseBorder", name := "even", desc := "(II)I" } : MethodName)) ∈ gb_wA := gb_t4 163 rfl rfl
theorem w_884 : (Cond.code ({ cls := "GooseBorder", name := "even", desc := "(II)I" } : MethodName) prog_1_method_32_code (4 : Nat) (Option.some FieldType.int)) ∈ gb_wA := gb_t4 164 rfl rfl
theorem dL_law_789 : decode cL_law 789 = .ok (.pop, 1) := dc_87 (dc_cut (j := 21) (n := 1) (l := [87]) dq_cL_law_768 (by decide +kernel) (by decide))
theorem dL_law_790 : decode cL_law 790 = .ok (.aload_n 2, 1) := dc_44 (dc_cut (j := 22) (n := 1) (l := [44]) dq_cL_law_768 (by decide +kernel) (by decide))
theorem dL_law_791 : decode cL_law 791 = .ok (.aload_n 0, 1) := dc_42 (dc_cut (j := 23) (n := 1) (l := [42]) dq_cL_law_768 (by decide +kernel) (by decide))
theorem dL_law_792 : decode cL_law 792 = .ok (.iload_n 3, 1) := dc_29 (dc_cut (j := 24) (n := 1) (l := [29]) dq_cL_law_768 (by decide +kernel) (by decide))
theorem dL_law_793 : decode cL_law 793 = .ok (.iconst 1, 1) := dc_4 (dc_cut (j := 25) (n := 1) (l := [4]) dq_cL_law_768 (by decide +kernel) (by decide))
theorem dL_law_794 : decode cL_law 794 = .ok (.iadd, 1) := dc_96 (dc_cut (j := 26) (n := 1) (l := [96]) dq_cL_law_768 (by decide +kernel) (by decide))
theorem dL_law_795 : decode cL_law 795 = .ok (.iaload, 1) := dc_46 (dc_cut (j := 27) (n := 1) (l := [46]) dq_cL_law_768 (by decide +kernel) (by decide))
theorem dL_law_796 : decode cL_law 796 = .ok (.aload_n 0, 1) := dc_42 (dc_cut (j := 28) (n := 1) (l := [42]) dq_cL_law_768 (by decide +kernel) (by decide))
theorem dL_law_797 : decode cL_law 797 = .ok (.iload_n 3, 1) := dc_29 (dc_cut (j := 29) (n := 1) (l := [29]) dq_cL_law_768 (by decide +kernel) (by decide))
theorem dL_law_798 : decode cL_law 798 = .ok (.iconst 2, 1) := dc_5 (dc_cut (j := 30) (n := 1) (l := [5]) dq_cL_law_768 (by decide +kernel) (by decide))
theorem dL_law_799 : decode cL_law 799 = .ok (.iadd, 1) := dc_96 (dc_cut (j := 31) (n := 1) (l := [96]) dq_cL_law_768 (by decide +kernel) (by decide))
theorem dL_law_800 : decode cL_law 800 = .ok (.iaload, 1) := dc_46 (dc_cut (j := 32) (n := 1) (l := [46]) dq_cL_law_768 (by decide +kernel) (by decide))
theorem dL_law_801 : decode cL_law 801 = .ok (.invokevirtual 74, 3) := dc_182 (dc_cut (j := 33) (n := 3) (l := [182, 0, 74]) dq_cL_law_768 (by decide +kernel) (by decide)) rfl
theorem w_1516 : (Cond.methodLink "GooseBorderLaw" (74 : Nat) ({ cls := "GooseBorderModel", name := "even", desc := "(II)I" } : MethodName)) ∈ gb_wA := gb_t7 76 rfl rfl
theorem w_1517 : (Cond.instanceMethod ({ cls := "GooseBorderModel", name := "even", desc := "(II)I" } : MethodName)) ∈ gb_wA := gb_t7 77 rfl rfl
theorem w_1518 : (Cond.selects "GooseBorderModel" ({ cls := "GooseBorderModel", name := "even", desc := "(II)I" } : MethodName) ({ cls := "GooseBorderModel", name := "even", desc := "(II)I" } : MethodName)) ∈ gb_wA := gb_t7 78 rfl rfl
theorem w_1519 : (Cond.code ({ cls := "GooseBorderModel", name := "even", desc := "(II)I" } : MethodName) prog_14_method_77_code (4 : Nat) (Option.some FieldType.int)) ∈ gb_wA := gb_t7 79 rfl rfl
theorem dL_law_804 : decode cL_law 804 = .ok (.pop, 1) := dc_87 (dc_cut (j := 36) (n := 1) (l := [87]) dq_cL_law_768 (by decide +kernel) (by decide))
theorem dL_law_805 : decode cL_law 805 = .ok (.goto 1085, 3) := dc_167 (dc_cut (j := 37) (n := 3) (l := [167, 4, 61]) dq_cL_law_768 (by decide +kernel) (by decide)) rfl
set_option maxHeartbeats 4000000 in
set_option maxRecDepth 100000 in
theorem law_c13 {p : Program} {l : Launch} {e : Env} {s : State} {m : MethodId} {below : List Frame} {meth : Method} {c : Code} {b z L : Nat} {xs : Nat → Int32} (C0 : lw_At p s m meth c b L xs) (hzz : Array.size s.heap = z) {D : va_G} {cT : Nat → ClassId} {tt ak av : Nat → Nat} (hSt2 : gb_St2 D cT tt ak av z s) {i : Int32} (h1 : vp_in (i + 1) L) (h2 : vp_in (i + 2) L) (h3 : vp_in (i + 3) L) (h4 : vp_in (i + 4) L) (h5 : vp_in (i + 5) L) (hend : ∀ (σ : gb_S) (f : gb_F) (w : Int64) (H : Heap) (locs : List Loc) (ls : Array Slot), gb_Inv σ f → va_P D vwCl (gb_wl z (gb_CW cT z σ)) H → va_P D vwCl (gb_wl (z + 135) (gb_MW cT (z + 135) f w)) H → va_S (gb_ge z) s.heap H locs → lv_has ls 4 [(3, .int i), (2, .ref (z + 135 + 0)), (1, .ref (z + 0)), (0, .ref b)] → W p l e room_1 s m #[Value.ref b] below meth c H locs 157 10381 (lw_Z below #[Value.ref b] s) (F0 m 1890 ls [])) : ∀ (σ : gb_S) (f : gb_F) (w : Int64) (H : Heap) (locs : List Loc) (ls : Array Slot), gb_Inv σ f → va_P D vwCl (gb_wl z (gb_CW cT z σ)) H → va_P D vwCl (gb_wl (z + 135) (gb_MW cT (z + 135) f w)) H → va_S (gb_ge z) s.heap H locs → lv_has ls 4 [(3, .int i), (2, .ref (z + 135 + 0)), (1, .ref (z + 0)), (0, .ref b)] → W p l e room_1 s m #[Value.ref b] below meth c H locs 157 10381 (lw_Z below #[Value.ref b] s) (F0 m 775 ls []) := by
  obtain ⟨hx, hb, hr, hml, hown, hts, hX, hbl, hlocks, hgv⟩ := C0
  have hq : ∀ w ∈ gb_wA, w.before #[Value.ref b] s = true := fun w h => hts w (gb_wA_tbl w h)
  have hbA : ¬ gb_ge z b := Nat.not_le.mpr (by rw [← hzz]; exact hbl)
  intro σ f w H locs ls hI hPc hPm hS hl
  refine lv_aload_n hx hb dL_law_775 rfl (lv_at hl 2 rfl) ?_
  refine lv_aload_n hx hb dL_law_776 rfl (lv_at hl 3 rfl) ?_
  refine lv_iload_n hx hb dL_law_777 rfl (lv_at hl 0 rfl) ?_
  refine lv_iconst (v := 1) hx hb dL_law_778 (by decide) ?_
  refine lv_iadd hx hb dL_law_779 ?_
  refine va_sld hx hb hX hbl hbA hS h1 dL_law_780 ?_
  refine lv_aload_n hx hb dL_law_781 rfl (lv_at hl 3 rfl) ?_
  refine lv_iload_n hx hb dL_law_782 rfl (lv_at hl 0 rfl) ?_
  refine lv_iconst (v := 2) hx hb dL_law_783 (by decide) ?_
  refine lv_iadd hx hb dL_law_784 ?_
  refine va_sld hx hb hX hbl hbA hS h2 dL_law_785 ?_
  obtain ⟨σ2, ra, f2, w2, qa, ec, em, hI2, hcmp⟩ := law_s_even (xs (Int32.toNatClampNeg (i + 1))) (xs (Int32.toNatClampNeg (i + 2))) w hI
  refine gb_calli (va_runV (C := RX11) (As := [.int (xs (Int32.toNatClampNeg (i + 1))), .int (xs (Int32.toNatClampNeg (i + 2)))]) (rest := []) ⟨hx, hb, hml, hown, hq⟩ (cc_Face_even l D cT tt z z (Nat.le_refl z) gb_N σ (xs (Int32.toNatClampNeg (i + 1))) (xs (Int32.toNatClampNeg (i + 2))) σ2 ra ec) (cwV 2 hq (gb_gV w_881 w_882 w_883 w_1 w_884) rfl rfl rfl (by decide +kernel) ⟨Nat.le_of_ble_eq_true rfl, Nat.le_of_ble_eq_true rfl⟩) (gb_preV (r := (RX11, TX11, 10)) (ci := 9) (q0 := 0) hSt2.1 hPc rfl (gb_at z rfl) hS (fun q h => h) hPc) rfl rfl hl.1 rfl (lv_room (Nat.le_of_ble_eq_true rfl)) dL_law_786 ⟨Nat.le_of_ble_eq_true rfl, Nat.le_of_ble_eq_true rfl⟩) hS (fun q h => h.1) (fun q h => h.1) (fun rc H2 locs2 hY hk hS => ?_)
  obtain ⟨hr_, hY⟩ := hY
  subst hr_
  have hPm := gb_kept hPm (fun q h1 h2 => hk q (Nat.lt_of_lt_of_le h2 ((hPm 21 _ (gb_at (z + 135) rfl)).lt)) (fun h3 => Nat.not_lt.mpr h1 h3.2))
  have hPc := hY
  clear hY
  refine lv_pop hx hb dL_law_789 rfl ?_
  refine lv_aload_n hx hb dL_law_790 rfl (lv_at hl 1 rfl) ?_
  refine lv_aload_n hx hb dL_law_791 rfl (lv_at hl 3 rfl) ?_
  refine lv_iload_n hx hb dL_law_792 rfl (lv_at hl 0 rfl) ?_
  refine lv_iconst (v := 1) hx hb dL_law_793 (by decide) ?_
  refine lv_iadd hx hb dL_law_794 ?_
  refine va_sld hx hb hX hbl hbA hS h1 dL_law_795 ?_
  refine lv_aload_n hx hb dL_law_796 rfl (lv_at hl 3 rfl) ?_
  refine lv_iload_n hx hb dL_law_797 rfl (lv_at hl 0 rfl) ?_
  refine lv_iconst (v := 2) hx hb dL_law_798 (by decide) ?_
  refine lv_iadd hx hb dL_law_799 ?_
  refine va_sld hx hb hX hbl hbA hS h2 dL_law_800 ?_
  refine gb_calli (va_runV (C := RX12) (As := [.int (xs (Int32.toNatClampNeg (i + 1))), .int (xs (Int32.toNatClampNeg (i + 2)))]) (rest := []) ⟨hx, hb, hml, hown, hq⟩ (mc_even l D cT tt z (z + 135) (Nat.le_add_right z 135) gb_N f w (xs (Int32.toNatClampNeg (i + 1))) (xs (Int32.toNatClampNeg (i + 2))) f2 w2 qa em) (cwV 2 hq (gb_gV w_1516 w_1517 w_1518 w_14 w_1519) rfl rfl rfl (by decide +kernel) ⟨Nat.le_of_ble_eq_true rfl, Nat.le_of_ble_eq_true rfl⟩) (gb_preV (r := (RX12, TX12, 44)) (ci := 10) (q0 := 0) hSt2.1 hPm rfl (gb_at (z + 135) rfl) hS (fun q h => h) hPm) rfl rfl hl.1 rfl (lv_room (Nat.le_of_ble_eq_true rfl)) dL_law_801 ⟨Nat.le_of_ble_eq_true rfl, Nat.le_of_ble_eq_true rfl⟩) hS (fun q h => Nat.le_trans (Nat.le_add_right z 135) h.1) (fun q h => Nat.le_trans (Nat.le_add_right z 135) h.1) (fun rm H2 locs2 hY hk hS => ?_)
  obtain ⟨hr_, hY⟩ := hY
  subst hr_
  have hPc := gb_kept hPc (fun q h1 h2 => hk q (Nat.lt_of_lt_of_le h2 (Nat.le_of_lt (Nat.lt_of_le_of_lt (Nat.le_add_right (z + 135) 21) ((hPm 21 _ (gb_at (z + 135) rfl)).lt)))) (fun h3 => Nat.not_lt.mpr h3.1 h2))
  have hPm := hY
  clear hY
  refine lv_pop hx hb dL_law_804 rfl ?_
  refine lv_goto (tgt := 1890) hx hb dL_law_805 (by decide) ?_
  exact hend _ _ _ _ _ _ hI2 hPc hPm hS hl
theorem dL_law_808 : decode cL_law 808 = .ok (.aload_n 1, 1) := dc_43 (dc_cut (j := 40) (n := 1) (l := [43]) dq_cL_law_768 (by decide +kernel) (by decide))
theorem dL_law_809 : decode cL_law 809 = .ok (.aload_n 0, 1) := dc_42 (dc_cut (j := 41) (n := 1) (l := [42]) dq_cL_law_768 (by decide +kernel) (by decide))
theorem dL_law_810 : decode cL_law 810 = .ok (.iload_n 3, 1) := dc_29 (dc_cut (j := 42) (n := 1) (l := [29]) dq_cL_law_768 (by decide +kernel) (by decide))
theorem dL_law_811 : decode cL_law 811 = .ok (.iconst 1, 1) := dc_4 (dc_cut (j := 43) (n := 1) (l := [4]) dq_cL_law_768 (by decide +kernel) (by decide))
theorem dL_law_812 : decode cL_law 812 = .ok (.iadd, 1) := dc_96 (dc_cut (j := 44) (n := 1) (l := [96]) dq_cL_law_768 (by decide +kernel) (by decide))
theorem dL_law_813 : decode cL_law 813 = .ok (.iaload, 1) := dc_46 (dc_cut (j := 45) (n := 1) (l := [46]) dq_cL_law_768 (by decide +kernel) (by decide))
theorem dL_law_814 : decode cL_law 814 = .ok (.aload_n 0, 1) := dc_42 (dc_cut (j := 46) (n := 1) (l := [42]) dq_cL_law_768 (by decide +kernel) (by decide))
theorem dL_law_815 : decode cL_law 815 = .ok (.iload_n 3, 1) := dc_29 (dc_cut (j := 47) (n := 1) (l := [29]) dq_cL_law_768 (by decide +kernel) (by decide))
theorem dL_law_816 : decode cL_law 816 = .ok (.iconst 2, 1) := dc_5 (dc_cut (j := 48) (n := 1) (l := [5]) dq_cL_law_768 (by decide +kernel) (by decide))
theorem dL_law_817 : decode cL_law 817 = .ok (.iadd, 1) := dc_96 (dc_cut (j := 49) (n := 1) (l := [96]) dq_cL_law_768 (by decide +kernel) (by decide))
theorem dL_law_818 : decode cL_law 818 = .ok (.iaload, 1) := dc_46 (dc_cut (j := 50) (n := 1) (l := [46]) dq_cL_law_768 (by decide +kernel) (by decide))
theorem dL_law_819 : decode cL_law 819 = .ok (.aload_n 0, 1) := dc_42 (dc_cut (j := 51) (n := 1) (l := [42]) dq_cL_law_768 (by decide +kernel) (by decide))
theorem dL_law_820 : decode cL_law 820 = .ok (.iload_n 3, 1) := dc_29 (dc_cut (j := 52) (n := 1) (l := [29]) dq_cL_law_768 (by decide +kernel) (by decide))
theorem dL_law_821 : decode cL_law 821 = .ok (.iconst 3, 1) := dc_6 (dc_cut (j := 53) (n := 1) (l := [6]) dq_cL_law_768 (by decide +kernel) (by decide))
theorem dL_law_822 : decode cL_law 822 = .ok (.iadd, 1) := dc_96 (dc_cut (j := 54) (n := 1) (l := [96]) dq_cL_law_768 (by decide +kernel) (by decide))
theorem dL_law_823 : decode cL_law 823 = .ok (.iaload, 1) := dc_46 (dc_cut (j := 55) (n := 1) (l := [46]) dq_cL_law_768 (by decide +kernel) (by decide))
theorem dL_law_824 : decode cL_law 824 = .ok (.invokevirtual 75, 3) := dc_182 (dc_cut (j := 56) (n := 3) (l := [182, 0, 75]) dq_cL_law_768 (by decide +kernel) (by decide)) rfl
theorem w_935 : (Cond.methodLink "GooseBorderLaw" (75 : Nat) ({ cls := "GooseBorder", name := "richest", desc := "(III)I" } : MethodName)) ∈ gb_wA := gb_t4 215 rfl rfl
theorem w_936 : (Cond.instanceMethod ({ cls := "GooseBorder", name := "richest", desc := "(III)I" } : MethodName)) ∈ gb_wA := gb_t4 216 rfl rfl
theorem w_937 : (Cond.selects "GooseBorder" ({ cls := "GooseBorder", name := "richest", desc := "(III)I" } : MethodName) ({ cls := "GooseBorder", name := "richest", desc := "(III)I" } : MethodName)) ∈ gb_wA := gb_t4 217 rfl rfl
theorem w_938 : (Cond.code ({ cls := "GooseBorder", name := "richest", desc := "(III)I" } : MethodName) prog_1_method_33_code (6 : Nat) (Option.some FieldType.int)) ∈ gb_wA := gb_t4 218 rfl rfl
theorem dL_law_827 : decode cL_law 827 = .ok (.pop, 1) := dc_87 (dc_cut (j := 59) (n := 1) (l := [87]) dq_cL_law_768 (by decide +kernel) (by decide))
theorem dL_law_828 : decode cL_law 828 = .ok (.aload_n 2, 1) := dc_44 (dc_cut (j := 60) (n := 1) (l := [44]) dq_cL_law_768 (by decide +kernel) (by decide))
theorem dL_law_829 : decode cL_law 829 = .ok (.aload_n 0, 1) := dc_42 (dc_cut (j := 61) (n := 1) (l := [42]) dq_cL_law_768 (by decide +kernel) (by decide))
theorem dL_law_830 : decode cL_law 830 = .ok (.iload_n 3, 1) := dc_29 (dc_cut (j := 62) (n := 1) (l := [29]) dq_cL_law_768 (by decide +kernel) (by decide))
theorem dL_law_831 : decode cL_law 831 = .ok (.iconst 1, 1) := dc_4 (dc_cut (j := 63) (n := 1) (l := [4]) dq_cL_law_768 (by decide +kernel) (by decide))
theorem dq_cL_law_832 : ((cL_law.data.toList.drop 832).take 67).map UInt8.toNat = [96, 46, 42, 29, 5, 96, 46, 42, 29, 6, 96, 46, 182, 0, 78, 87, 167, 4, 18, 43, 42, 29, 4, 96, 46, 42, 29, 5, 96, 46, 42, 29, 6, 96, 46, 182, 0, 79, 87, 44, 42, 29, 4, 96, 46, 42, 29, 5, 96, 46, 42, 29, 6, 96, 46, 182, 0, 82, 87, 167, 3, 231, 43, 42, 29, 4, 96] := by decide +kernel
theorem dL_law_832 : decode cL_law 832 = .ok (.iadd, 1) := dc_96 (dc_cut (j := 0) (n := 1) (l := [96]) dq_cL_law_832 (by decide +kernel) (by decide))
theorem dL_law_833 : decode cL_law 833 = .ok (.iaload, 1) := dc_46 (dc_cut (j := 1) (n := 1) (l := [46]) dq_cL_law_832 (by decide +kernel) (by decide))
theorem dL_law_834 : decode cL_law 834 = .ok (.aload_n 0, 1) := dc_42 (dc_cut (j := 2) (n := 1) (l := [42]) dq_cL_law_832 (by decide +kernel) (by decide))
theorem dL_law_835 : decode cL_law 835 = .ok (.iload_n 3, 1) := dc_29 (dc_cut (j := 3) (n := 1) (l := [29]) dq_cL_law_832 (by decide +kernel) (by decide))
theorem dL_law_836 : decode cL_law 836 = .ok (.iconst 2, 1) := dc_5 (dc_cut (j := 4) (n := 1) (l := [5]) dq_cL_law_832 (by decide +kernel) (by decide))
theorem dL_law_837 : decode cL_law 837 = .ok (.iadd, 1) := dc_96 (dc_cut (j := 5) (n := 1) (l := [96]) dq_cL_law_832 (by decide +kernel) (by decide))
theorem dL_law_838 : decode cL_law 838 = .ok (.iaload, 1) := dc_46 (dc_cut (j := 6) (n := 1) (l := [46]) dq_cL_law_832 (by decide +kernel) (by decide))
theorem dL_law_839 : decode cL_law 839 = .ok (.aload_n 0, 1) := dc_42 (dc_cut (j := 7) (n := 1) (l := [42]) dq_cL_law_832 (by decide +kernel) (by decide))
theorem dL_law_840 : decode cL_law 840 = .ok (.iload_n 3, 1) := dc_29 (dc_cut (j := 8) (n := 1) (l := [29]) dq_cL_law_832 (by decide +kernel) (by decide))
theorem dL_law_841 : decode cL_law 841 = .ok (.iconst 3, 1) := dc_6 (dc_cut (j := 9) (n := 1) (l := [6]) dq_cL_law_832 (by decide +kernel) (by decide))
theorem dL_law_842 : decode cL_law 842 = .ok (.iadd, 1) := dc_96 (dc_cut (j := 10) (n := 1) (l := [96]) dq_cL_law_832 (by decide +kernel) (by decide))
theorem dL_law_843 : decode cL_law 843 = .ok (.iaload, 1) := dc_46 (dc_cut (j := 11) (n := 1) (l := [46]) dq_cL_law_832 (by decide +kernel) (by decide))
theorem dL_law_844 : decode cL_law 844 = .ok (.invokevirtual 78, 3) := dc_182 (dc_cut (j := 12) (n := 3) (l := [182, 0, 78]) dq_cL_law_832 (by decide +kernel) (by decide)) rfl
theorem w_1556 : (Cond.methodLink "GooseBorderLaw" (78 : Nat) ({ cls := "GooseBorderModel", name := "richest", desc := "(III)I" } : MethodName)) ∈ gb_wA := gb_t7 116 rfl rfl
theorem w_1557 : (Cond.instanceMethod ({ cls := "GooseBorderModel", name := "richest", desc := "(III)I" } : MethodName)) ∈ gb_wA := gb_t7 117 rfl rfl
theorem w_1558 : (Cond.selects "GooseBorderModel" ({ cls := "GooseBorderModel", name := "richest", desc := "(III)I" } : MethodName) ({ cls := "GooseBorderModel", name := "richest", desc := "(III)I" } : MethodName)) ∈ gb_wA := gb_t7 118 rfl rfl
theorem w_1559 : (Cond.code ({ cls := "GooseBorderModel", name := "richest", desc := "(III)I" } : MethodName) prog_14_method_78_code (5 : Nat) (Option.some FieldType.int)) ∈ gb_wA := gb_t7 119 rfl rfl
theorem dL_law_847 : decode cL_law 847 = .ok (.pop, 1) := dc_87 (dc_cut (j := 15) (n := 1) (l := [87]) dq_cL_law_832 (by decide +kernel) (by decide))
theorem dL_law_848 : decode cL_law 848 = .ok (.goto 1042, 3) := dc_167 (dc_cut (j := 16) (n := 3) (l := [167, 4, 18]) dq_cL_law_832 (by decide +kernel) (by decide)) rfl
set_option maxHeartbeats 4000000 in
set_option maxRecDepth 100000 in
theorem law_c14 {p : Program} {l : Launch} {e : Env} {s : State} {m : MethodId} {below : List Frame} {meth : Method} {c : Code} {b z L : Nat} {xs : Nat → Int32} (C0 : lw_At p s m meth c b L xs) (hzz : Array.size s.heap = z) {D : va_G} {cT : Nat → ClassId} {tt ak av : Nat → Nat} (hSt2 : gb_St2 D cT tt ak av z s) {i : Int32} (h1 : vp_in (i + 1) L) (h2 : vp_in (i + 2) L) (h3 : vp_in (i + 3) L) (h4 : vp_in (i + 4) L) (h5 : vp_in (i + 5) L) (hend : ∀ (σ : gb_S) (f : gb_F) (w : Int64) (H : Heap) (locs : List Loc) (ls : Array Slot), gb_Inv σ f → va_P D vwCl (gb_wl z (gb_CW cT z σ)) H → va_P D vwCl (gb_wl (z + 135) (gb_MW cT (z + 135) f w)) H → va_S (gb_ge z) s.heap H locs → lv_has ls 4 [(3, .int i), (2, .ref (z + 135 + 0)), (1, .ref (z + 0)), (0, .ref b)] → W p l e room_1 s m #[Value.ref b] below meth c H locs 157 10381 (lw_Z below #[Value.ref b] s) (F0 m 1890 ls [])) : ∀ (σ : gb_S) (f : gb_F) (w : Int64) (H : Heap) (locs : List Loc) (ls : Array Slot), gb_Inv σ f → va_P D vwCl (gb_wl z (gb_CW cT z σ)) H → va_P D vwCl (gb_wl (z + 135) (gb_MW cT (z + 135) f w)) H → va_S (gb_ge z) s.heap H locs → lv_has ls 4 [(3, .int i), (2, .ref (z + 135 + 0)), (1, .ref (z + 0)), (0, .ref b)] → W p l e room_1 s m #[Value.ref b] below meth c H locs 157 10381 (lw_Z below #[Value.ref b] s) (F0 m 808 ls []) := by
  obtain ⟨hx, hb, hr, hml, hown, hts, hX, hbl, hlocks, hgv⟩ := C0
  have hq : ∀ w ∈ gb_wA, w.before #[Value.ref b] s = true := fun w h => hts w (gb_wA_tbl w h)
  have hbA : ¬ gb_ge z b := Nat.not_le.mpr (by rw [← hzz]; exact hbl)
  intro σ f w H locs ls hI hPc hPm hS hl
  refine lv_aload_n hx hb dL_law_808 rfl (lv_at hl 2 rfl) ?_
  refine lv_aload_n hx hb dL_law_809 rfl (lv_at hl 3 rfl) ?_
  refine lv_iload_n hx hb dL_law_810 rfl (lv_at hl 0 rfl) ?_
  refine lv_iconst (v := 1) hx hb dL_law_811 (by decide) ?_
  refine lv_iadd hx hb dL_law_812 ?_
  refine va_sld hx hb hX hbl hbA hS h1 dL_law_813 ?_
  refine lv_aload_n hx hb dL_law_814 rfl (lv_at hl 3 rfl) ?_
  refine lv_iload_n hx hb dL_law_815 rfl (lv_at hl 0 rfl) ?_
  refine lv_iconst (v := 2) hx hb dL_law_816 (by decide) ?_
  refine lv_iadd hx hb dL_law_817 ?_
  refine va_sld hx hb hX hbl hbA hS h2 dL_law_818 ?_
  refine lv_aload_n hx hb dL_law_819 rfl (lv_at hl 3 rfl) ?_
  refine lv_iload_n hx hb dL_law_820 rfl (lv_at hl 0 rfl) ?_
  refine lv_iconst (v := 3) hx hb dL_law_821 (by decide) ?_
  refine lv_iadd hx hb dL_law_822 ?_
  refine va_sld hx hb hX hbl hbA hS h3 dL_law_823 ?_
  obtain ⟨σ2, ra, f2, w2, qa, ec, em, hI2, hcmp⟩ := law_s_richest (xs (Int32.toNatClampNeg (i + 1))) (xs (Int32.toNatClampNeg (i + 2))) (xs (Int32.toNatClampNeg (i + 3))) w hI
  refine gb_calli (va_runV (C := RX11) (As := [.int (xs (Int32.toNatClampNeg (i + 1))), .int (xs (Int32.toNatClampNeg (i + 2))), .int (xs (Int32.toNatClampNeg (i + 3)))]) (rest := []) ⟨hx, hb, hml, hown, hq⟩ (cc_Face_richest l D cT tt z z (Nat.le_refl z) gb_N σ (xs (Int32.toNatClampNeg (i + 1))) (xs (Int32.toNatClampNeg (i + 2))) (xs (Int32.toNatClampNeg (i + 3))) σ2 ra ec) (cwV 3 hq (gb_gV w_935 w_936 w_937 w_1 w_938) rfl rfl rfl (by decide +kernel) ⟨Nat.le_of_ble_eq_true rfl, Nat.le_of_ble_eq_true rfl⟩) (gb_preV (r := (RX11, TX11, 10)) (ci := 9) (q0 := 0) hSt2.1 hPc rfl (gb_at z rfl) hS (fun q h => h) hPc) rfl rfl hl.1 rfl (lv_room (Nat.le_of_ble_eq_true rfl)) dL_law_824 ⟨Nat.le_of_ble_eq_true rfl, Nat.le_of_ble_eq_true rfl⟩) hS (fun q h => h.1) (fun q h => h.1) (fun rc H2 locs2 hY hk hS => ?_)
  obtain ⟨hr_, hY⟩ := hY
  subst hr_
  have hPm := gb_kept hPm (fun q h1 h2 => hk q (Nat.lt_of_lt_of_le h2 ((hPm 21 _ (gb_at (z + 135) rfl)).lt)) (fun h3 => Nat.not_lt.mpr h1 h3.2))
  have hPc := hY
  clear hY
  refine lv_pop hx hb dL_law_827 rfl ?_
  refine lv_aload_n hx hb dL_law_828 rfl (lv_at hl 1 rfl) ?_
  refine lv_aload_n hx hb dL_law_829 rfl (lv_at hl 3 rfl) ?_
  refine lv_iload_n hx hb dL_law_830 rfl (lv_at hl 0 rfl) ?_
  refine lv_iconst (v := 1) hx hb dL_law_831 (by decide) ?_
  refine lv_iadd hx hb dL_law_832 ?_
  refine va_sld hx hb hX hbl hbA hS h1 dL_law_833 ?_
  refine lv_aload_n hx hb dL_law_834 rfl (lv_at hl 3 rfl) ?_
  refine lv_iload_n hx hb dL_law_835 rfl (lv_at hl 0 rfl) ?_
  refine lv_iconst (v := 2) hx hb dL_law_836 (by decide) ?_
  refine lv_iadd hx hb dL_law_837 ?_
  refine va_sld hx hb hX hbl hbA hS h2 dL_law_838 ?_
  refine lv_aload_n hx hb dL_law_839 rfl (lv_at hl 3 rfl) ?_
  refine lv_iload_n hx hb dL_law_840 rfl (lv_at hl 0 rfl) ?_
  refine lv_iconst (v := 3) hx hb dL_law_841 (by decide) ?_
  refine lv_iadd hx hb dL_law_842 ?_
  refine va_sld hx hb hX hbl hbA hS h3 dL_law_843 ?_
  refine gb_calli (va_runV (C := RX12) (As := [.int (xs (Int32.toNatClampNeg (i + 1))), .int (xs (Int32.toNatClampNeg (i + 2))), .int (xs (Int32.toNatClampNeg (i + 3)))]) (rest := []) ⟨hx, hb, hml, hown, hq⟩ (mc_richest l D cT tt z (z + 135) (Nat.le_add_right z 135) gb_N f w (xs (Int32.toNatClampNeg (i + 1))) (xs (Int32.toNatClampNeg (i + 2))) (xs (Int32.toNatClampNeg (i + 3))) f2 w2 qa em) (cwV 3 hq (gb_gV w_1556 w_1557 w_1558 w_14 w_1559) rfl rfl rfl (by decide +kernel) ⟨Nat.le_of_ble_eq_true rfl, Nat.le_of_ble_eq_true rfl⟩) (gb_preV (r := (RX12, TX12, 44)) (ci := 10) (q0 := 0) hSt2.1 hPm rfl (gb_at (z + 135) rfl) hS (fun q h => h) hPm) rfl rfl hl.1 rfl (lv_room (Nat.le_of_ble_eq_true rfl)) dL_law_844 ⟨Nat.le_of_ble_eq_true rfl, Nat.le_of_ble_eq_true rfl⟩) hS (fun q h => Nat.le_trans (Nat.le_add_right z 135) h.1) (fun q h => Nat.le_trans (Nat.le_add_right z 135) h.1) (fun rm H2 locs2 hY hk hS => ?_)
  obtain ⟨hr_, hY⟩ := hY
  subst hr_
  have hPc := gb_kept hPc (fun q h1 h2 => hk q (Nat.lt_of_lt_of_le h2 (Nat.le_of_lt (Nat.lt_of_le_of_lt (Nat.le_add_right (z + 135) 21) ((hPm 21 _ (gb_at (z + 135) rfl)).lt)))) (fun h3 => Nat.not_lt.mpr h3.1 h2))
  have hPm := hY
  clear hY
  refine lv_pop hx hb dL_law_847 rfl ?_
  refine lv_goto (tgt := 1890) hx hb dL_law_848 (by decide) ?_
  exact hend _ _ _ _ _ _ hI2 hPc hPm hS hl
theorem dL_law_851 : decode cL_law 851 = .ok (.aload_n 1, 1) := dc_43 (dc_cut (j := 19) (n := 1) (l := [43]) dq_cL_law_832 (by decide +kernel) (by decide))
theorem dL_law_852 : decode cL_law 852 = .ok (.aload_n 0, 1) := dc_42 (dc_cut (j := 20) (n := 1) (l := [42]) dq_cL_law_832 (by decide +kernel) (by decide))
theorem dL_law_853 : decode cL_law 853 = .ok (.iload_n 3, 1) := dc_29 (dc_cut (j := 21) (n := 1) (l := [29]) dq_cL_law_832 (by decide +kernel) (by decide))
theorem dL_law_854 : decode cL_law 854 = .ok (.iconst 1, 1) := dc_4 (dc_cut (j := 22) (n := 1) (l := [4]) dq_cL_law_832 (by decide +kernel) (by decide))
theorem dL_law_855 : decode cL_law 855 = .ok (.iadd, 1) := dc_96 (dc_cut (j := 23) (n := 1) (l := [96]) dq_cL_law_832 (by decide +kernel) (by decide))
theorem dL_law_856 : decode cL_law 856 = .ok (.iaload, 1) := dc_46 (dc_cut (j := 24) (n := 1) (l := [46]) dq_cL_law_832 (by decide +kernel) (by decide))
theorem dL_law_857 : decode cL_law 857 = .ok (.aload_n 0, 1) := dc_42 (dc_cut (j := 25) (n := 1) (l := [42]) dq_cL_law_832 (by decide +kernel) (by decide))
theorem dL_law_858 : decode cL_law 858 = .ok (.iload_n 3, 1) := dc_29 (dc_cut (j := 26) (n := 1) (l := [29]) dq_cL_law_832 (by decide +kernel) (by decide))
theorem dL_law_859 : decode cL_law 859 = .ok (.iconst 2, 1) := dc_5 (dc_cut (j := 27) (n := 1) (l := [5]) dq_cL_law_832 (by decide +kernel) (by decide))
theorem dL_law_860 : decode cL_law 860 = .ok (.iadd, 1) := dc_96 (dc_cut (j := 28) (n := 1) (l := [96]) dq_cL_law_832 (by decide +kernel) (by decide))
theorem dL_law_861 : decode cL_law 861 = .ok (.iaload, 1) := dc_46 (dc_cut (j := 29) (n := 1) (l := [46]) dq_cL_law_832 (by decide +kernel) (by decide))
theorem dL_law_862 : decode cL_law 862 = .ok (.aload_n 0, 1) := dc_42 (dc_cut (j := 30) (n := 1) (l := [42]) dq_cL_law_832 (by decide +kernel) (by decide))
theorem dL_law_863 : decode cL_law 863 = .ok (.iload_n 3, 1) := dc_29 (dc_cut (j := 31) (n := 1) (l := [29]) dq_cL_law_832 (by decide +kernel) (by decide))
theorem dL_law_864 : decode cL_law 864 = .ok (.iconst 3, 1) := dc_6 (dc_cut (j := 32) (n := 1) (l := [6]) dq_cL_law_832 (by decide +kernel) (by decide))
theorem dL_law_865 : decode cL_law 865 = .ok (.iadd, 1) := dc_96 (dc_cut (j := 33) (n := 1) (l := [96]) dq_cL_law_832 (by decide +kernel) (by decide))
theorem dL_law_866 : decode cL_law 866 = .ok (.iaload, 1) := dc_46 (dc_cut (j := 34) (n := 1) (l := [46]) dq_cL_law_832 (by decide +kernel) (by decide))
theorem dL_law_867 : decode cL_law 867 = .ok (.invokevirtual 79, 3) := dc_182 (dc_cut (j := 35) (n := 3) (l := [182, 0, 79]) dq_cL_law_832 (by decide +kernel) (by decide)) rfl
theorem w_943 : (Cond.methodLink "GooseBorderLaw" (79 : Nat) ({ cls := "GooseBorder", name := "tar", desc := "(III)I" } : MethodName)) ∈ gb_wA := gb_t4 223 rfl rfl
theorem w_944 : (Cond.instanceMethod ({ cls := "GooseBorder", name := "tar", desc := "(III)I" } : MethodName)) ∈ gb_wA := gb_t4 224 rfl rfl
theorem w_945 : (Cond.selects "GooseBorder" ({ cls := "GooseBorder", name := "tar", desc := "(III)I" } : MethodName) ({ cls := "GooseBorder", name := "tar", desc := "(III)I" } : MethodName)) ∈ gb_wA := gb_t4 225 rfl rfl
theorem w_946 : (Cond.code ({ cls := "GooseBorder", name := "tar", desc := "(III)I" } : MethodName) prog_1_method_35_code (9 : Nat) (Option.some FieldType.int)) ∈ gb_wA := gb_t4 226 rfl rfl
theorem dL_law_870 : decode cL_law 870 = .ok (.pop, 1) := dc_87 (dc_cut (j := 38) (n := 1) (l := [87]) dq_cL_law_832 (by decide +kernel) (by decide))
theorem dL_law_871 : decode cL_law 871 = .ok (.aload_n 2, 1) := dc_44 (dc_cut (j := 39) (n := 1) (l := [44]) dq_cL_law_832 (by decide +kernel) (by decide))
theorem dL_law_872 : decode cL_law 872 = .ok (.aload_n 0, 1) := dc_42 (dc_cut (j := 40) (n := 1) (l := [42]) dq_cL_law_832 (by decide +kernel) (by decide))
theorem dL_law_873 : decode cL_law 873 = .ok (.iload_n 3, 1) := dc_29 (dc_cut (j := 41) (n := 1) (l := [29]) dq_cL_law_832 (by decide +kernel) (by decide))
theorem dL_law_874 : decode cL_law 874 = .ok (.iconst 1, 1) := dc_4 (dc_cut (j := 42) (n := 1) (l := [4]) dq_cL_law_832 (by decide +kernel) (by decide))
theorem dL_law_875 : decode cL_law 875 = .ok (.iadd, 1) := dc_96 (dc_cut (j := 43) (n := 1) (l := [96]) dq_cL_law_832 (by decide +kernel) (by decide))
theorem dL_law_876 : decode cL_law 876 = .ok (.iaload, 1) := dc_46 (dc_cut (j := 44) (n := 1) (l := [46]) dq_cL_law_832 (by decide +kernel) (by decide))
theorem dL_law_877 : decode cL_law 877 = .ok (.aload_n 0, 1) := dc_42 (dc_cut (j := 45) (n := 1) (l := [42]) dq_cL_law_832 (by decide +kernel) (by decide))
theorem dL_law_878 : decode cL_law 878 = .ok (.iload_n 3, 1) := dc_29 (dc_cut (j := 46) (n := 1) (l := [29]) dq_cL_law_832 (by decide +kernel) (by decide))
theorem dL_law_879 : decode cL_law 879 = .ok (.iconst 2, 1) := dc_5 (dc_cut (j := 47) (n := 1) (l := [5]) dq_cL_law_832 (by decide +kernel) (by decide))
theorem dL_law_880 : decode cL_law 880 = .ok (.iadd, 1) := dc_96 (dc_cut (j := 48) (n := 1) (l := [96]) dq_cL_law_832 (by decide +kernel) (by decide))
theorem dL_law_881 : decode cL_law 881 = .ok (.iaload, 1) := dc_46 (dc_cut (j := 49) (n := 1) (l := [46]) dq_cL_law_832 (by decide +kernel) (by decide))
theorem dL_law_882 : decode cL_law 882 = .ok (.aload_n 0, 1) := dc_42 (dc_cut (j := 50) (n := 1) (l := [42]) dq_cL_law_832 (by decide +kernel) (by decide))
theorem dL_law_883 : decode cL_law 883 = .ok (.iload_n 3, 1) := dc_29 (dc_cut (j := 51) (n := 1) (l := [29]) dq_cL_law_832 (by decide +kernel) (by decide))
theorem dL_law_884 : decode cL_law 884 = .ok (.iconst 3, 1) := dc_6 (dc_cut (j := 52) (n := 1) (l := [6]) dq_cL_law_832 (by decide +kernel) (by decide))
theorem dL_law_885 : decode cL_law 885 = .ok (.iadd, 1) := dc_96 (dc_cut (j := 53) (n := 1) (l := [96]) dq_cL_law_832 (by decide +kernel) (by decide))
theorem dL_law_886 : decode cL_law 886 = .ok (.iaload, 1) := dc_46 (dc_cut (j := 54) (n := 1) (l := [46]) dq_cL_law_832 (by decide +kernel) (by decide))
theorem dL_law_887 : decode cL_law 887 = .ok (.invokevirtual 82, 3) := dc_182 (dc_cut (j := 55) (n := 3) (l := [182, 0, 82]) dq_cL_law_832 (by decide +kernel) (by decide)) rfl
theorem w_1560 : (Cond.methodLink "GooseBorderLaw" (82 : Nat) ({ cls := "GooseBorderModel", name := "tar", desc := "(III)I" } : MethodName)) ∈ gb_wA := gb_t7 120 rfl rfl
theorem w_1561 : (Cond.instanceMethod ({ cls := "GooseBorderModel", name := "tar", desc := "(III)I" } : MethodName)) ∈ gb_wA := gb_t7 121 rfl rfl
theorem w_1562 : (Cond.selects "GooseBorderModel" ({ cls := "GooseBorderModel", name := "tar", desc := "(III)I" } : MethodName) ({ cls := "GooseBorderModel", name := "tar", desc := "(III)I" } : MethodName)) ∈ gb_wA := gb_t7 122 rfl rfl
theorem w_1563 : (Cond.code ({ cls := "GooseBorderModel", name := "tar", desc := "(III)I" } : MethodName) prog_14_method_79_code (11 : Nat) (Option.some FieldType.int)) ∈ gb_wA := gb_t7 123 rfl rfl
theorem dL_law_890 : decode cL_law 890 = .ok (.pop, 1) := dc_87 (dc_cut (j := 58) (n := 1) (l := [87]) dq_cL_law_832 (by decide +kernel) (by decide))
theorem dL_law_891 : decode cL_law 891 = .ok (.goto 999, 3) := dc_167 (dc_cut (j := 59) (n := 3) (l := [167, 3, 231]) dq_cL_law_832 (by decide +kernel) (by decide)) rfl
set_option maxHeartbeats 4000000 in
set_option maxRecDepth 100000 in
theorem law_c15 {p : Program} {l : Launch} {e : Env} {s : State} {m : MethodId} {below : List Frame} {meth : Method} {c : Code} {b z L : Nat} {xs : Nat → Int32} (C0 : lw_At p s m meth c b L xs) (hzz : Array.size s.heap = z) {D : va_G} {cT : Nat → ClassId} {tt ak av : Nat → Nat} (hSt2 : gb_St2 D cT tt ak av z s) {i : Int32} (h1 : vp_in (i + 1) L) (h2 : vp_in (i + 2) L) (h3 : vp_in (i + 3) L) (h4 : vp_in (i + 4) L) (h5 : vp_in (i + 5) L) (hend : ∀ (σ : gb_S) (f : gb_F) (w : Int64) (H : Heap) (locs : List Loc) (ls : Array Slot), gb_Inv σ f → va_P D vwCl (gb_wl z (gb_CW cT z σ)) H → va_P D vwCl (gb_wl (z + 135) (gb_MW cT (z + 135) f w)) H → va_S (gb_ge z) s.heap H locs → lv_has ls 4 [(3, .int i), (2, .ref (z + 135 + 0)), (1, .ref (z + 0)), (0, .ref b)] → W p l e room_1 s m #[Value.ref b] below meth c H locs 157 10381 (lw_Z below #[Value.ref b] s) (F0 m 1890 ls [])) : ∀ (σ : gb_S) (f : gb_F) (w : Int64) (H : Heap) (locs : List Loc) (ls : Array Slot), gb_Inv σ f → va_P D vwCl (gb_wl z (gb_CW cT z σ)) H → va_P D vwCl (gb_wl (z + 135) (gb_MW cT (z + 135) f w)) H → va_S (gb_ge z) s.heap H locs → lv_has ls 4 [(3, .int i), (2, .ref (z + 135 + 0)), (1, .ref (z + 0)), (0, .ref b)] → W p l e room_1 s m #[Value.ref b] below meth c H locs 157 10381 (lw_Z below #[Value.ref b] s) (F0 m 851 ls []) := by
  obtain ⟨hx, hb, hr, hml, hown, hts, hX, hbl, hlocks, hgv⟩ := C0
  have hq : ∀ w ∈ gb_wA, w.before #[Value.ref b] s = true := fun w h => hts w (gb_wA_tbl w h)
  have hbA : ¬ gb_ge z b := Nat.not_le.mpr (by rw [← hzz]; exact hbl)
  intro σ f w H locs ls hI hPc hPm hS hl
  refine lv_aload_n hx hb dL_law_851 rfl (lv_at hl 2 rfl) ?_
  refine lv_aload_n hx hb dL_law_852 rfl (lv_at hl 3 rfl) ?_
  refine lv_iload_n hx hb dL_law_853 rfl (lv_at hl 0 rfl) ?_
  refine lv_iconst (v := 1) hx hb dL_law_854 (by decide) ?_
  refine lv_iadd hx hb dL_law_855 ?_
  refine va_sld hx hb hX hbl hbA hS h1 dL_law_856 ?_
  refine lv_aload_n hx hb dL_law_857 rfl (lv_at hl 3 rfl) ?_
  refine lv_iload_n hx hb dL_law_858 rfl (lv_at hl 0 rfl) ?_
  refine lv_iconst (v := 2) hx hb dL_law_859 (by decide) ?_
  refine lv_iadd hx hb dL_law_860 ?_
  refine va_sld hx hb hX hbl hbA hS h2 dL_law_861 ?_
  refine lv_aload_n hx hb dL_law_862 rfl (lv_at hl 3 rfl) ?_
  refine lv_iload_n hx hb dL_law_863 rfl (lv_at hl 0 rfl) ?_
  refine lv_iconst (v := 3) hx hb dL_law_864 (by decide) ?_
  refine lv_iadd hx hb dL_law_865 ?_
  refine va_sld hx hb hX hbl hbA hS h3 dL_law_866 ?_
  obtain ⟨σ2, ra, f2, w2, qa, ec, em, hI2, hcmp⟩ := law_s_tar (xs (Int32.toNatClampNeg (i + 1))) (xs (Int32.toNatClampNeg (i + 2))) (xs (Int32.toNatClampNeg (i + 3))) w hI
  refine gb_calli (va_runV (C := RX11) (As := [.int (xs (Int32.toNatClampNeg (i + 1))), .int (xs (Int32.toNatClampNeg (i + 2))), .int (xs (Int32.toNatClampNeg (i + 3)))]) (rest := []) ⟨hx, hb, hml, hown, hq⟩ (cc_Face_tar l D cT tt z z (Nat.le_refl z) gb_N σ (xs (Int32.toNatClampNeg (i + 1))) (xs (Int32.toNatClampNeg (i + 2))) (xs (Int32.toNatClampNeg (i + 3))) σ2 ra ec) (cwV 3 hq (gb_gV w_943 w_944 w_945 w_1 w_946) rfl rfl rfl (by decide +kernel) ⟨Nat.le_of_ble_eq_true rfl, Nat.le_of_ble_eq_true rfl⟩) (gb_preV (r := (RX11, TX11, 10)) (ci := 9) (q0 := 0) hSt2.1 hPc rfl (gb_at z rfl) hS (fun q h => h) hPc) rfl rfl hl.1 rfl (lv_room (Nat.le_of_ble_eq_true rfl)) dL_law_867 ⟨Nat.le_of_ble_eq_true rfl, Nat.le_of_ble_eq_true rfl⟩) hS (fun q h => h.1) (fun q h => h.1) (fun rc H2 locs2 hY hk hS => ?_)
  obtain ⟨hr_, hY⟩ := hY
  subst hr_
  have hPm := gb_kept hPm (fun q h1 h2 => hk q (Nat.lt_of_lt_of_le h2 ((hPm 21 _ (gb_at (z + 135) rfl)).lt)) (fun h3 => Nat.not_lt.mpr h1 h3.2))
  have hPc := hY
  clear hY
  refine lv_pop hx hb dL_law_870 rfl ?_
  refine lv_aload_n hx hb dL_law_871 rfl (lv_at hl 1 rfl) ?_
  refine lv_aload_n hx hb dL_law_872 rfl (lv_at hl 3 rfl) ?_
  refine lv_iload_n hx hb dL_law_873 rfl (lv_at hl 0 rfl) ?_
  refine lv_iconst (v := 1) hx hb dL_law_874 (by decide) ?_
  refine lv_iadd hx hb dL_law_875 ?_
  refine va_sld hx hb hX hbl hbA hS h1 dL_law_876 ?_
  refine lv_aload_n hx hb dL_law_877 rfl (lv_at hl 3 rfl) ?_
  refine lv_iload_n hx hb dL_law_878 rfl (lv_at hl 0 rfl) ?_
  refine lv_iconst (v := 2) hx hb dL_law_879 (by decide) ?_
  refine lv_iadd hx hb dL_law_880 ?_
  refine va_sld hx hb hX hbl hbA hS h2 dL_law_881 ?_
  refine lv_aload_n hx hb dL_law_882 rfl (lv_at hl 3 rfl) ?_
  refine lv_iload_n hx hb dL_law_883 rfl (lv_at hl 0 rfl) ?_
  refine lv_iconst (v := 3) hx hb dL_law_884 (by decide) ?_
  refine lv_iadd hx hb dL_law_885 ?_
  refine va_sld hx hb hX hbl hbA hS h3 dL_law_886 ?_
  refine gb_calli (va_runV (C := RX12) (As := [.int (xs (Int32.toNatClampNeg (i + 1))), .int (xs (Int32.toNatClampNeg (i + 2))), .int (xs (Int32.toNatClampNeg (i + 3)))]) (rest := []) ⟨hx, hb, hml, hown, hq⟩ (mc_tar l D cT tt z (z + 135) (Nat.le_add_right z 135) gb_N f w (xs (Int32.toNatClampNeg (i + 1))) (xs (Int32.toNatClampNeg (i + 2))) (xs (Int32.toNatClampNeg (i + 3))) f2 w2 qa em) (cwV 3 hq (gb_gV w_1560 w_1561 w_1562 w_14 w_1563) rfl rfl rfl (by decide +kernel) ⟨Nat.le_of_ble_eq_true rfl, Nat.le_of_ble_eq_true rfl⟩) (gb_preV (r := (RX12, TX12, 44)) (ci := 10) (q0 := 0) hSt2.1 hPm rfl (gb_at (z + 135) rfl) hS (fun q h => h) hPm) rfl rfl hl.1 rfl (lv_room (Nat.le_of_ble_eq_true rfl)) dL_law_887 ⟨Nat.le_of_ble_eq_true rfl, Nat.le_of_ble_eq_true rfl⟩) hS (fun q h => Nat.le_trans (Nat.le_add_right z 135) h.1) (fun q h => Nat.le_trans (Nat.le_add_right z 135) h.1) (fun rm H2 locs2 hY hk hS => ?_)
  obtain ⟨hr_, hY⟩ := hY
  subst hr_
  have hPc := gb_kept hPc (fun q h1 h2 => hk q (Nat.lt_of_lt_of_le h2 (Nat.le_of_lt (Nat.lt_of_le_of_lt (Nat.le_add_right (z + 135) 21) ((hPm 21 _ (gb_at (z + 135) rfl)).lt)))) (fun h3 => Nat.not_lt.mpr h3.1 h2))
  have hPm := hY
  clear hY
  refine lv_pop hx hb dL_law_890 rfl ?_
  refine lv_goto (tgt := 1890) hx hb dL_law_891 (by decide) ?_
  exact hend _ _ _ _ _ _ hI2 hPc hPm hS hl
theorem dL_law_894 : decode cL_law 894 = .ok (.aload_n 1, 1) := dc_43 (dc_cut (j := 62) (n := 1) (l := [43]) dq_cL_law_832 (by decide +kernel) (by decide))
theorem dL_law_895 : decode cL_law 895 = .ok (.aload_n 0, 1) := dc_42 (dc_cut (j := 63) (n := 1) (l := [42]) dq_cL_law_832 (by decide +kernel) (by decide))
theorem dq_cL_law_896 : ((cL_law.data.toList.drop 896).take 67).map UInt8.toNat = [29, 4, 96, 46, 42, 29, 5, 96, 46, 42, 29, 6, 96, 46, 182, 0, 83, 87, 44, 42, 29, 4, 96, 46, 42, 29, 5, 96, 46, 42, 29, 6, 96, 46, 182, 0, 86, 87, 167, 3, 188, 43, 42, 29, 4, 96, 46, 42, 29, 5, 96, 46, 42, 29, 6, 96, 46, 182, 0, 87, 87, 44, 42, 29, 4, 96, 46] := by decide +kernel
theorem dL_law_896 : decode cL_law 896 = .ok (.iload_n 3, 1) := dc_29 (dc_cut (j := 0) (n := 1) (l := [29]) dq_cL_law_896 (by decide +kernel) (by decide))
theorem dL_law_897 : decode cL_law 897 = .ok (.iconst 1, 1) := dc_4 (dc_cut (j := 1) (n := 1) (l := [4]) dq_cL_law_896 (by decide +kernel) (by decide))
theorem dL_law_898 : decode cL_law 898 = .ok (.iadd, 1) := dc_96 (dc_cut (j := 2) (n := 1) (l := [96]) dq_cL_law_896 (by decide +kernel) (by decide))
theorem dL_law_899 : decode cL_law 899 = .ok (.iaload, 1) := dc_46 (dc_cut (j := 3) (n := 1) (l := [46]) dq_cL_law_896 (by decide +kernel) (by decide))
theorem dL_law_900 : decode cL_law 900 = .ok (.aload_n 0, 1) := dc_42 (dc_cut (j := 4) (n := 1) (l := [42]) dq_cL_law_896 (by decide +kernel) (by decide))
theorem dL_law_901 : decode cL_law 901 = .ok (.iload_n 3, 1) := dc_29 (dc_cut (j := 5) (n := 1) (l := [29]) dq_cL_law_896 (by decide +kernel) (by decide))
theorem dL_law_902 : decode cL_law 902 = .ok (.iconst 2, 1) := dc_5 (dc_cut (j := 6) (n := 1) (l := [5]) dq_cL_law_896 (by decide +kernel) (by decide))
theorem dL_law_903 : decode cL_law 903 = .ok (.iadd, 1) := dc_96 (dc_cut (j := 7) (n := 1) (l := [96]) dq_cL_law_896 (by decide +kernel) (by decide))
theorem dL_law_904 : decode cL_law 904 = .ok (.iaload, 1) := dc_46 (dc_cut (j := 8) (n := 1) (l := [46]) dq_cL_law_896 (by decide +kernel) (by decide))
theorem dL_law_905 : decode cL_law 905 = .ok (.aload_n 0, 1) := dc_42 (dc_cut (j := 9) (n := 1) (l := [42]) dq_cL_law_896 (by decide +kernel) (by decide))
theorem dL_law_906 : decode cL_law 906 = .ok (.iload_n 3, 1) := dc_29 (dc_cut (j := 10) (n := 1) (l := [29]) dq_cL_law_896 (by decide +kernel) (by decide))
theorem dL_law_907 : decode cL_law 907 = .ok (.iconst 3, 1) := dc_6 (dc_cut (j := 11) (n := 1) (l := [6]) dq_cL_law_896 (by decide +kernel) (by decide))
theorem dL_law_908 : decode cL_law 908 = .ok (.iadd, 1) := dc_96 (dc_cut (j := 12) (n := 1) (l := [96]) dq_cL_law_896 (by decide +kernel) (by decide))
theorem dL_law_909 : decode cL_law 909 = .ok (.iaload, 1) := dc_46 (dc_cut (j := 13) (n := 1) (l := [46]) dq_cL_law_896 (by decide +kernel) (by decide))
theorem dL_law_910 : decode cL_law 910 = .ok (.invokevirtual 83, 3) := dc_182 (dc_cut (j := 14) (n := 3) (l := [182, 0, 83]) dq_cL_law_896 (by decide +kernel) (by decide)) rfl
theorem w_956 : (Cond.methodLink "GooseBorderLaw" (83 : Nat) ({ cls := "GooseBorder", name := "lame", desc := "(III)I" } : MethodName)) ∈ gb_wA := gb_t4 236 rfl rfl
theorem w_957 : (Cond.instanceMethod ({ cls := "GooseBorder", name := "lame", desc := "(III)I" } : MethodName)) ∈ gb_wA := gb_t4 237 rfl rfl
theorem w_958 : (Cond.selects "GooseBorder" ({ cls := "GooseBorder", name := "lame", desc := "(III)I" } : MethodName) ({ cls := "GooseBorder", name := "lame", desc := "(III)I" } : MethodName)) ∈ gb_wA := gb_t4 238 rfl rfl
theorem w_959 : (Cond.code ({ cls := "GooseBorder", name := "lame", desc := "(III)I" } : MethodName) prog_1_method_36_code (9 : Nat) (Option.some FieldType.int)) ∈ gb_wA := gb_t4 239 rfl rfl
theorem dL_law_913 : decode cL_law 913 = .ok (.pop, 1) := dc_87 (dc_cut (j := 17) (n := 1) (l := [87]) dq_cL_law_896 (by decide +kernel) (by decide))
theorem dL_law_914 : decode cL_law 914 = .ok (.aload_n 2, 1) := dc_44 (dc_cut (j := 18) (n := 1) (l := [44]) dq_cL_law_896 (by decide +kernel) (by decide))
theorem dL_law_915 : decode cL_law 915 = .ok (.aload_n 0, 1) := dc_42 (dc_cut (j := 19) (n := 1) (l := [42]) dq_cL_law_896 (by decide +kernel) (by decide))
theorem dL_law_916 : decode cL_law 916 = .ok (.iload_n 3, 1) := dc_29 (dc_cut (j := 20) (n := 1) (l := [29]) dq_cL_law_896 (by decide +kernel) (by decide))
theorem dL_law_917 : decode cL_law 917 = .ok (.iconst 1, 1) := dc_4 (dc_cut (j := 21) (n := 1) (l := [4]) dq_cL_law_896 (by decide +kernel) (by decide))
theorem dL_law_918 : decode cL_law 918 = .ok (.iadd, 1) := dc_96 (dc_cut (j := 22) (n := 1) (l := [96]) dq_cL_law_896 (by decide +kernel) (by decide))
theorem dL_law_919 : decode cL_law 919 = .ok (.iaload, 1) := dc_46 (dc_cut (j := 23) (n := 1) (l := [46]) dq_cL_law_896 (by decide +kernel) (by decide))
theorem dL_law_920 : decode cL_law 920 = .ok (.aload_n 0, 1) := dc_42 (dc_cut (j := 24) (n := 1) (l := [42]) dq_cL_law_896 (by decide +kernel) (by decide))
theorem dL_law_921 : decode cL_law 921 = .ok (.iload_n 3, 1) := dc_29 (dc_cut (j := 25) (n := 1) (l := [29]) dq_cL_law_896 (by decide +kernel) (by decide))
theorem dL_law_922 : decode cL_law 922 = .ok (.iconst 2, 1) := dc_5 (dc_cut (j := 26) (n := 1) (l := [5]) dq_cL_law_896 (by decide +kernel) (by decide))
theorem dL_law_923 : decode cL_law 923 = .ok (.iadd, 1) := dc_96 (dc_cut (j := 27) (n := 1) (l := [96]) dq_cL_law_896 (by decide +kernel) (by decide))
theorem dL_law_924 : decode cL_law 924 = .ok (.iaload, 1) := dc_46 (dc_cut (j := 28) (n := 1) (l := [46]) dq_cL_law_896 (by decide +kernel) (by decide))
theorem dL_law_925 : decode cL_law 925 = .ok (.aload_n 0, 1) := dc_42 (dc_cut (j := 29) (n := 1) (l := [42]) dq_cL_law_896 (by decide +kernel) (by decide))
theorem dL_law_926 : decode cL_law 926 = .ok (.iload_n 3, 1) := dc_29 (dc_cut (j := 30) (n := 1) (l := [29]) dq_cL_law_896 (by decide +kernel) (by decide))
theorem dL_law_927 : decode cL_law 927 = .ok (.iconst 3, 1) := dc_6 (dc_cut (j := 31) (n := 1) (l := [6]) dq_cL_law_896 (by decide +kernel) (by decide))
theorem dL_law_928 : decode cL_law 928 = .ok (.iadd, 1) := dc_96 (dc_cut (j := 32) (n := 1) (l := [96]) dq_cL_law_896 (by decide +kernel) (by decide))
theorem dL_law_929 : decode cL_law 929 = .ok (.iaload, 1) := dc_46 (dc_cut (j := 33) (n := 1) (l := [46]) dq_cL_law_896 (by decide +kernel) (by decide))
theorem dL_law_930 : decode cL_law 930 = .ok (.invokevirtual 86, 3) := dc_182 (dc_cut (j := 34) (n := 3) (l := [182, 0, 86]) dq_cL_law_896 (by decide +kernel) (by decide)) rfl
theorem w_1564 : (Cond.methodLink "GooseBorderLaw" (86 : Nat) ({ cls := "GooseBorderModel", name := "lame", desc := "(III)I" } : MethodName)) ∈ gb_wA := gb_t7 124 rfl rfl
theorem w_1565 : (Cond.instanceMethod ({ cls := "GooseBorderModel", name := "lame", desc := "(III)I" } : MethodName)) ∈ gb_wA := gb_t7 125 rfl rfl
theorem w_1566 : (Cond.selects "GooseBorderModel" ({ cls := "GooseBorderModel", name := "lame", desc := "(III)I" } : MethodName) ({ cls := "GooseBorderModel", name := "lame", desc := "(III)I" } : MethodName)) ∈ gb_wA := gb_t7 126 rfl rfl
theorem w_1567 : (Cond.code ({ cls := "GooseBorderModel", name := "lame", desc := "(III)I" } : MethodName) prog_14_method_82_code (4 : Nat) (Option.some FieldType.int)) ∈ gb_wA := gb_t7 127 rfl rfl
theorem dL_law_933 : decode cL_law 933 = .ok (.pop, 1) := dc_87 (dc_cut (j := 37) (n := 1) (l := [87]) dq_cL_law_896 (by decide +kernel) (by decide))
theorem dL_law_934 : decode cL_law 934 = .ok (.goto 956, 3) := dc_167 (dc_cut (j := 38) (n := 3) (l := [167, 3, 188]) dq_cL_law_896 (by decide +kernel) (by decide)) rfl
set_option maxHeartbeats 4000000 in
set_option maxRecDepth 100000 in
theorem law_c16 {p : Program} {l : Launch} {e : Env} {s : State} {m : MethodId} {below : List Frame} {meth : Method} {c : Code} {b z L : Nat} {xs : Nat → Int32} (C0 : lw_At p s m meth c b L xs) (hzz : Array.size s.heap = z) {D : va_G} {cT : Nat → ClassId} {tt ak av : Nat → Nat} (hSt2 : gb_St2 D cT tt ak av z s) {i : Int32} (h1 : vp_in (i + 1) L) (h2 : vp_in (i + 2) L) (h3 : vp_in (i + 3) L) (h4 : vp_in (i + 4) L) (h5 : vp_in (i + 5) L) (hend : ∀ (σ : gb_S) (f : gb_F) (w : Int64) (H : Heap) (locs : List Loc) (ls : Array Slot), gb_Inv σ f → va_P D vwCl (gb_wl z (gb_CW cT z σ)) H → va_P D vwCl (gb_wl (z + 135) (gb_MW cT (z + 135) f w)) H → va_S (gb_ge z) s.heap H locs → lv_has ls 4 [(3, .int i), (2, .ref (z + 135 + 0)), (1, .ref (z + 0)), (0, .ref b)] → W p l e room_1 s m #[Value.ref b] below meth c H locs 157 10381 (lw_Z below #[Value.ref b] s) (F0 m 1890 ls [])) : ∀ (σ : gb_S) (f : gb_F) (w : Int64) (H : Heap) (locs : List Loc) (ls : Array Slot), gb_Inv σ f → va_P D vwCl (gb_wl z (gb_CW cT z σ)) H → va_P D vwCl (gb_wl (z + 135) (gb_MW cT (z + 135) f w)) H → va_S (gb_ge z) s.heap H locs → lv_has ls 4 [(3, .int i), (2, .ref (z + 135 + 0)), (1, .ref (z + 0)), (0, .ref b)] → W p l e room_1 s m #[Value.ref b] below meth c H locs 157 10381 (lw_Z below #[Value.ref b] s) (F0 m 894 ls []) := by
  obtain ⟨hx, hb, hr, hml, hown, hts, hX, hbl, hlocks, hgv⟩ := C0
  have hq : ∀ w ∈ gb_wA, w.before #[Value.ref b] s = true := fun w h => hts w (gb_wA_tbl w h)
  have hbA : ¬ gb_ge z b := Nat.not_le.mpr (by rw [← hzz]; exact hbl)
  intro σ f w H locs ls hI hPc hPm hS hl
  refine lv_aload_n hx hb dL_law_894 rfl (lv_at hl 2 rfl) ?_
  refine lv_aload_n hx hb dL_law_895 rfl (lv_at hl 3 rfl) ?_
  refine lv_iload_n hx hb dL_law_896 rfl (lv_at hl 0 rfl) ?_
  refine lv_iconst (v := 1) hx hb dL_law_897 (by decide) ?_
  refine lv_iadd hx hb dL_law_898 ?_
  refine va_sld hx hb hX hbl hbA hS h1 dL_law_899 ?_
  refine lv_aload_n hx hb dL_law_900 rfl (lv_at hl 3 rfl) ?_
  refine lv_iload_n hx hb dL_law_901 rfl (lv_at hl 0 rfl) ?_
  refine lv_iconst (v := 2) hx hb dL_law_902 (by decide) ?_
  refine lv_iadd hx hb dL_law_903 ?_
  refine va_sld hx hb hX hbl hbA hS h2 dL_law_904 ?_
  refine lv_aload_n hx hb dL_law_905 rfl (lv_at hl 3 rfl) ?_
  refine lv_iload_n hx hb dL_law_906 rfl (lv_at hl 0 rfl) ?_
  refine lv_iconst (v := 3) hx hb dL_law_907 (by decide) ?_
  refine lv_iadd hx hb dL_law_908 ?_
  refine va_sld hx hb hX hbl hbA hS h3 dL_law_909 ?_
  obtain ⟨σ2, ra, f2, w2, qa, ec, em, hI2, hcmp⟩ := law_s_lame (xs (Int32.toNatClampNeg (i + 1))) (xs (Int32.toNatClampNeg (i + 2))) (xs (Int32.toNatClampNeg (i + 3))) w hI
  refine gb_calli (va_runV (C := RX11) (As := [.int (xs (Int32.toNatClampNeg (i + 1))), .int (xs (Int32.toNatClampNeg (i + 2))), .int (xs (Int32.toNatClampNeg (i + 3)))]) (rest := []) ⟨hx, hb, hml, hown, hq⟩ (cc_Face_lame l D cT tt z z (Nat.le_refl z) gb_N σ (xs (Int32.toNatClampNeg (i + 1))) (xs (Int32.toNatClampNeg (i + 2))) (xs (Int32.toNatClampNeg (i + 3))) σ2 ra ec) (cwV 3 hq (gb_gV w_956 w_957 w_958 w_1 w_959) rfl rfl rfl (by decide +kernel) ⟨Nat.le_of_ble_eq_true rfl, Nat.le_of_ble_eq_true rfl⟩) (gb_preV (r := (RX11, TX11, 10)) (ci := 9) (q0 := 0) hSt2.1 hPc rfl (gb_at z rfl) hS (fun q h => h) hPc) rfl rfl hl.1 rfl (lv_room (Nat.le_of_ble_eq_true rfl)) dL_law_910 ⟨Nat.le_of_ble_eq_true rfl, Nat.le_of_ble_eq_true rfl⟩) hS (fun q h => h.1) (fun q h => h.1) (fun rc H2 locs2 hY hk hS => ?_)
  obtain ⟨hr_, hY⟩ := hY
  subst hr_
  have hPm := gb_kept hPm (fun q h1 h2 => hk q (Nat.lt_of_lt_of_le h2 ((hPm 21 _ (gb_at (z + 135) rfl)).lt)) (fun h3 => Nat.not_lt.mpr h1 h3.2))
  have hPc := hY
  clear hY
  refine lv_pop hx hb dL_law_913 rfl ?_
  refine lv_aload_n hx hb dL_law_914 rfl (lv_at hl 1 rfl) ?_
  refine lv_aload_n hx hb dL_law_915 rfl (lv_at hl 3 rfl) ?_
  refine lv_iload_n hx hb dL_law_916 rfl (lv_at hl 0 rfl) ?_
  refine lv_iconst (v := 1) hx hb dL_law_917 (by decide) ?_
  refine lv_iadd hx hb dL_law_918 ?_
  refine va_sld hx hb hX hbl hbA hS h1 dL_law_919 ?_
  refine lv_aload_n hx hb dL_law_920 rfl (lv_at hl 3 rfl) ?_
  refine lv_iload_n hx hb dL_law_921 rfl (lv_at hl 0 rfl) ?_
  refine lv_iconst (v := 2) hx hb dL_law_922 (by decide) ?_
  refine lv_iadd hx hb dL_law_923 ?_
  refine va_sld hx hb hX hbl hbA hS h2 dL_law_924 ?_
  refine lv_aload_n hx hb dL_law_925 rfl (lv_at hl 3 rfl) ?_
  refine lv_iload_n hx hb dL_law_926 rfl (lv_at hl 0 rfl) ?_
  refine lv_iconst (v := 3) hx hb dL_law_927 (by decide) ?_
  refine lv_iadd hx hb dL_law_928 ?_
  refine va_sld hx hb hX hbl hbA hS h3 dL_law_929 ?_
  refine gb_calli (va_runV (C := RX12) (As := [.int (xs (Int32.toNatClampNeg (i + 1))), .int (xs (Int32.toNatClampNeg (i + 2))), .int (xs (Int32.toNatClampNeg (i + 3)))]) (rest := []) ⟨hx, hb, hml, hown, hq⟩ (mc_lame l D cT tt z (z + 135) (Nat.le_add_right z 135) gb_N f w (xs (Int32.toNatClampNeg (i + 1))) (xs (Int32.toNatClampNeg (i + 2))) (xs (Int32.toNatClampNeg (i + 3))) f2 w2 qa em) (cwV 3 hq (gb_gV w_1564 w_1565 w_1566 w_14 w_1567) rfl rfl rfl (by decide +kernel) ⟨Nat.le_of_ble_eq_true rfl, Nat.le_of_ble_eq_true rfl⟩) (gb_preV (r := (RX12, TX12, 44)) (ci := 10) (q0 := 0) hSt2.1 hPm rfl (gb_at (z + 135) rfl) hS (fun q h => h) hPm) rfl rfl hl.1 rfl (lv_room (Nat.le_of_ble_eq_true rfl)) dL_law_930 ⟨Nat.le_of_ble_eq_true rfl, Nat.le_of_ble_eq_true rfl⟩) hS (fun q h => Nat.le_trans (Nat.le_add_right z 135) h.1) (fun q h => Nat.le_trans (Nat.le_add_right z 135) h.1) (fun rm H2 locs2 hY hk hS => ?_)
  obtain ⟨hr_, hY⟩ := hY
  subst hr_
  have hPc := gb_kept hPc (fun q h1 h2 => hk q (Nat.lt_of_lt_of_le h2 (Nat.le_of_lt (Nat.lt_of_le_of_lt (Nat.le_add_right (z + 135) 21) ((hPm 21 _ (gb_at (z + 135) rfl)).lt)))) (fun h3 => Nat.not_lt.mpr h3.1 h2))
  have hPm := hY
  clear hY
  refine lv_pop hx hb dL_law_933 rfl ?_
  refine lv_goto (tgt := 1890) hx hb dL_law_934 (by decide) ?_
  exact hend _ _ _ _ _ _ hI2 hPc hPm hS hl
theorem dL_law_937 : decode cL_law 937 = .ok (.aload_n 1, 1) := dc_43 (dc_cut (j := 41) (n := 1) (l := [43]) dq_cL_law_896 (by decide +kernel) (by decide))
theorem dL_law_938 : decode cL_law 938 = .ok (.aload_n 0, 1) := dc_42 (dc_cut (j := 42) (n := 1) (l := [42]) dq_cL_law_896 (by decide +kernel) (by decide))
theorem dL_law_939 : decode cL_law 939 = .ok (.iload_n 3, 1) := dc_29 (dc_cut (j := 43) (n := 1) (l := [29]) dq_cL_law_896 (by decide +kernel) (by decide))
theorem dL_law_940 : decode cL_law 940 = .ok (.iconst 1, 1) := dc_4 (dc_cut (j := 44) (n := 1) (l := [4]) dq_cL_law_896 (by decide +kernel) (by decide))
theorem dL_law_941 : decode cL_law 941 = .ok (.iadd, 1) := dc_96 (dc_cut (j := 45) (n := 1) (l := [96]) dq_cL_law_896 (by decide +kernel) (by decide))
theorem dL_law_942 : decode cL_law 942 = .ok (.iaload, 1) := dc_46 (dc_cut (j := 46) (n := 1) (l := [46]) dq_cL_law_896 (by decide +kernel) (by decide))
theorem dL_law_943 : decode cL_law 943 = .ok (.aload_n 0, 1) := dc_42 (dc_cut (j := 47) (n := 1) (l := [42]) dq_cL_law_896 (by decide +kernel) (by decide))
theorem dL_law_944 : decode cL_law 944 = .ok (.iload_n 3, 1) := dc_29 (dc_cut (j := 48) (n := 1) (l := [29]) dq_cL_law_896 (by decide +kernel) (by decide))
theorem dL_law_945 : decode cL_law 945 = .ok (.iconst 2, 1) := dc_5 (dc_cut (j := 49) (n := 1) (l := [5]) dq_cL_law_896 (by decide +kernel) (by decide))
theorem dL_law_946 : decode cL_law 946 = .ok (.iadd, 1) := dc_96 (dc_cut (j := 50) (n := 1) (l := [96]) dq_cL_law_896 (by decide +kernel) (by decide))
theorem dL_law_947 : decode cL_law 947 = .ok (.iaload, 1) := dc_46 (dc_cut (j := 51) (n := 1) (l := [46]) dq_cL_law_896 (by decide +kernel) (by decide))
theorem dL_law_948 : decode cL_law 948 = .ok (.aload_n 0, 1) := dc_42 (dc_cut (j := 52) (n := 1) (l := [42]) dq_cL_law_896 (by decide +kernel) (by decide))
theorem dL_law_949 : decode cL_law 949 = .ok (.iload_n 3, 1) := dc_29 (dc_cut (j := 53) (n := 1) (l := [29]) dq_cL_law_896 (by decide +kernel) (by decide))
theorem dL_law_950 : decode cL_law 950 = .ok (.iconst 3, 1) := dc_6 (dc_cut (j := 54) (n := 1) (l := [6]) dq_cL_law_896 (by decide +kernel) (by decide))
theorem dL_law_951 : decode cL_law 951 = .ok (.iadd, 1) := dc_96 (dc_cut (j := 55) (n := 1) (l := [96]) dq_cL_law_896 (by decide +kernel) (by decide))
theorem dL_law_952 : decode cL_law 952 = .ok (.iaload, 1) := dc_46 (dc_cut (j := 56) (n := 1) (l := [46]) dq_cL_law_896 (by decide +kernel) (by decide))
theorem dL_law_953 : decode cL_law 953 = .ok (.invokevirtual 87, 3) := dc_182 (dc_cut (j := 57) (n := 3) (l := [182, 0, 87]) dq_cL_law_896 (by decide +kernel) (by decide)) rfl
theorem w_827 : (Cond.methodLink "GooseBorderLaw" (87 : Nat) ({ cls := "GooseBorder", name := "rest", desc := "(III)I" } : MethodName)) ∈ gb_wA := gb_t4 107 rfl rfl
theorem w_828 : (Cond.instanceMethod ({ cls := "GooseBorder", name := "rest", desc := "(III)I" } : MethodName)) ∈ gb_wA := gb_t4 108 rfl rfl
theorem w_829 : (Cond.selects "GooseBorder" ({ cls := "GooseBorder", name := "rest", desc := "(III)I" } : MethodName) ({ cls := "GooseBorder", name := "rest", desc := "(III)I" } : MethodName)) ∈ gb_wA := gb_t4 109 rfl rfl
theorem w_830 : (Cond.code ({ cls := "GooseBorder", name := "rest", desc := "(III)I" } : MethodName) prog_1_method_26_code (8 : Nat) (Option.some FieldType.int)) ∈ gb_wA := gb_t4 110 rfl rfl
theorem dL_law_956 : decode cL_law 956 = .ok (.pop, 1) := dc_87 (dc_cut (j := 60) (n := 1) (l := [87]) dq_cL_law_896 (by decide +kernel) (by decide))
theorem dL_law_957 : decode cL_law 957 = .ok (.aload_n 2, 1) := dc_44 (dc_cut (j := 61) (n := 1) (l := [44]) dq_cL_law_896 (by decide +kernel) (by decide))
theorem dL_law_958 : decode cL_law 958 = .ok (.aload_n 0, 1) := dc_42 (dc_cut (j := 62) (n := 1) (l := [42]) dq_cL_law_896 (by decide +kernel) (by decide))
theorem dL_law_959 : decode cL_law 959 = .ok (.iload_n 3, 1) := dc_29 (dc_cut (j := 63) (n := 1) (l := [29]) dq_cL_law_896 (by decide +kernel) (by decide))
theorem dq_cL_law_960 : ((cL_law.data.toList.drop 960).take 67).map UInt8.toNat = [4, 96, 46, 42, 29, 5, 96, 46, 42, 29, 6, 96, 46, 182, 0, 90, 87, 167, 3, 145, 43, 42, 29, 4, 96, 46, 42, 29, 5, 96, 46, 42, 29, 6, 96, 46, 42, 29, 7, 96, 46, 182, 0, 91, 87, 44, 42, 29, 4, 96, 46, 42, 29, 5, 96, 46, 42, 29, 6, 96, 46, 42, 29, 7, 96, 46, 182] := by decide +kernel
theorem dL_law_960 : decode cL_law 960 = .ok (.iconst 1, 1) := dc_4 (dc_cut (j := 0) (n := 1) (l := [4]) dq_cL_law_960 (by decide +kernel) (by decide))
theorem dL_law_961 : decode cL_law 961 = .ok (.iadd, 1) := dc_96 (dc_cut (j := 1) (n := 1) (l := [96]) dq_cL_law_960 (by decide +kernel) (by decide))
theorem dL_law_962 : decode cL_law 962 = .ok (.iaload, 1) := dc_46 (dc_cut (j := 2) (n := 1) (l := [46]) dq_cL_law_960 (by decide +kernel) (by decide))
theorem dL_law_963 : decode cL_law 963 = .ok (.aload_n 0, 1) := dc_42 (dc_cut (j := 3) (n := 1) (l := [42]) dq_cL_law_960 (by decide +kernel) (by decide))
theorem dL_law_964 : decode cL_law 964 = .ok (.iload_n 3, 1) := dc_29 (dc_cut (j := 4) (n := 1) (l := [29]) dq_cL_law_960 (by decide +kernel) (by decide))
theorem dL_law_965 : decode cL_law 965 = .ok (.iconst 2, 1) := dc_5 (dc_cut (j := 5) (n := 1) (l := [5]) dq_cL_law_960 (by decide +kernel) (by decide))
theorem dL_law_966 : decode cL_law 966 = .ok (.iadd, 1) := dc_96 (dc_cut (j := 6) (n := 1) (l := [96]) dq_cL_law_960 (by decide +kernel) (by decide))
theorem dL_law_967 : decode cL_law 967 = .ok (.iaload, 1) := dc_46 (dc_cut (j := 7) (n := 1) (l := [46]) dq_cL_law_960 (by decide +kernel) (by decide))
theorem dL_law_968 : decode cL_law 968 = .ok (.aload_n 0, 1) := dc_42 (dc_cut (j := 8) (n := 1) (l := [42]) dq_cL_law_960 (by decide +kernel) (by decide))
theorem dL_law_969 : decode cL_law 969 = .ok (.iload_n 3, 1) := dc_29 (dc_cut (j := 9) (n := 1) (l := [29]) dq_cL_law_960 (by decide +kernel) (by decide))
theorem dL_law_970 : decode cL_law 970 = .ok (.iconst 3, 1) := dc_6 (dc_cut (j := 10) (n := 1) (l := [6]) dq_cL_law_960 (by decide +kernel) (by decide))
theorem dL_law_971 : decode cL_law 971 = .ok (.iadd, 1) := dc_96 (dc_cut (j := 11) (n := 1) (l := [96]) dq_cL_law_960 (by decide +kernel) (by decide))
theorem dL_law_972 : decode cL_law 972 = .ok (.iaload, 1) := dc_46 (dc_cut (j := 12) (n := 1) (l := [46]) dq_cL_law_960 (by decide +kernel) (by decide))
theorem dL_law_973 : decode cL_law 973 = .ok (.invokevirtual 90, 3) := dc_182 (dc_cut (j := 13) (n := 3) (l := [182, 0, 90]) dq_cL_law_960 (by decide +kernel) (by decide)) rfl
theorem w_1576 : (Cond.methodLink "GooseBorderLaw" (90 : Nat) ({ cls := "GooseBorderModel", name := "rest", desc := "(III)I" } : MethodName)) ∈ gb_wA := gb_t7 136 rfl rfl
theorem w_1577 : (Cond.instanceMethod ({ cls := "GooseBorderModel", name := "rest", desc := "(III)I" } : MethodName)) ∈ gb_wA := gb_t7 137 rfl rfl
theorem w_1578 : (Cond.selects "GooseBorderModel" ({ cls := "GooseBorderModel", name := "rest", desc := "(III)I" } : MethodName) ({ cls := "GooseBorderModel", name := "rest", desc := "(III)I" } : MethodName)) ∈ gb_wA := gb_t7 138 rfl rfl
theorem w_1579 : (Cond.code ({ cls := "GooseBorderModel", name := "rest", desc := "(III)I" } : MethodName) prog_14_method_85_code (6 : Nat) (Option.some FieldType.int)) ∈ gb_wA := gb_t7 139 rfl rfl
theorem dL_law_976 : decode cL_law 976 = .ok (.pop, 1) := dc_87 (dc_cut (j := 16) (n := 1) (l := [87]) dq_cL_law_960 (by decide +kernel) (by decide))
theorem dL_law_977 : decode cL_law 977 = .ok (.goto 913, 3) := dc_167 (dc_cut (j := 17) (n := 3) (l := [167, 3, 145]) dq_cL_law_960 (by decide +kernel) (by decide)) rfl
set_option maxHeartbeats 4000000 in
set_option maxRecDepth 100000 in
theorem law_c17 {p : Program} {l : Launch} {e : Env} {s : State} {m : MethodId} {below : List Frame} {meth : Method} {c : Code} {b z L : Nat} {xs : Nat → Int32} (C0 : lw_At p s m meth c b L xs) (hzz : Array.size s.heap = z) {D : va_G} {cT : Nat → ClassId} {tt ak av : Nat → Nat} (hSt2 : gb_St2 D cT tt ak av z s) {i : Int32} (h1 : vp_in (i + 1) L) (h2 : vp_in (i + 2) L) (h3 : vp_in (i + 3) L) (h4 : vp_in (i + 4) L) (h5 : vp_in (i + 5) L) (hend : ∀ (σ : gb_S) (f : gb_F) (w : Int64) (H : Heap) (locs : List Loc) (ls : Array Slot), gb_Inv σ f → va_P D vwCl (gb_wl z (gb_CW cT z σ)) H → va_P D vwCl (gb_wl (z + 135) (gb_MW cT (z + 135) f w)) H → va_S (gb_ge z) s.heap H locs → lv_has ls 4 [(3, .int i), (2, .ref (z + 135 + 0)), (1, .ref (z + 0)), (0, .ref b)] → W p l e room_1 s m #[Value.ref b] below meth c H locs 157 10381 (lw_Z below #[Value.ref b] s) (F0 m 1890 ls [])) : ∀ (σ : gb_S) (f : gb_F) (w : Int64) (H : Heap) (locs : List Loc) (ls : Array Slot), gb_Inv σ f → va_P D vwCl (gb_wl z (gb_CW cT z σ)) H → va_P D vwCl (gb_wl (z + 135) (gb_MW cT (z + 135) f w)) H → va_S (gb_ge z) s.heap H locs → lv_has ls 4 [(3, .int i), (2, .ref (z + 135 + 0)), (1, .ref (z + 0)), (0, .ref b)] → W p l e room_1 s m #[Value.ref b] below meth c H locs 157 10381 (lw_Z below #[Value.ref b] s) (F0 m 937 ls []) := by
  obtain ⟨hx, hb, hr, hml, hown, hts, hX, hbl, hlocks, hgv⟩ := C0
  have hq : ∀ w ∈ gb_wA, w.before #[Value.ref b] s = true := fun w h => hts w (gb_wA_tbl w h)
  have hbA : ¬ gb_ge z b := Nat.not_le.mpr (by rw [← hzz]; exact hbl)
  intro σ f w H locs ls hI hPc hPm hS hl
  refine lv_aload_n hx hb dL_law_937 rfl (lv_at hl 2 rfl) ?_
  refine lv_aload_n hx hb dL_law_938 rfl (lv_at hl 3 rfl) ?_
  refine lv_iload_n hx hb dL_law_939 rfl (lv_at hl 0 rfl) ?_
  refine lv_iconst (v := 1) hx hb dL_law_940 (by decide) ?_
  refine lv_iadd hx hb dL_law_941 ?_
  refine va_sld hx hb hX hbl hbA hS h1 dL_law_942 ?_
  refine lv_aload_n hx hb dL_law_943 rfl (lv_at hl 3 rfl) ?_
  refine lv_iload_n hx hb dL_law_944 rfl (lv_at hl 0 rfl) ?_
  refine lv_iconst (v := 2) hx hb dL_law_945 (by decide) ?_
  refine lv_iadd hx hb dL_law_946 ?_
  refine va_sld hx hb hX hbl hbA hS h2 dL_law_947 ?_
  refine lv_aload_n hx hb dL_law_948 rfl (lv_at hl 3 rfl) ?_
  refine lv_iload_n hx hb dL_law_949 rfl (lv_at hl 0 rfl) ?_
  refine lv_iconst (v := 3) hx hb dL_law_950 (by decide) ?_
  refine lv_iadd hx hb dL_law_951 ?_
  refine va_sld hx hb hX hbl hbA hS h3 dL_law_952 ?_
  obtain ⟨σ2, ra, f2, w2, qa, ec, em, hI2, hcmp⟩ := law_s_rest (xs (Int32.toNatClampNeg (i + 1))) (xs (Int32.toNatClampNeg (i + 2))) (xs (Int32.toNatClampNeg (i + 3))) w hI
  refine gb_calli (va_runV (C := RX11) (As := [.int (xs (Int32.toNatClampNeg (i + 1))), .int (xs (Int32.toNatClampNeg (i + 2))), .int (xs (Int32.toNatClampNeg (i + 3)))]) (rest := []) ⟨hx, hb, hml, hown, hq⟩ (cc_Face_rest l D cT tt z z (Nat.le_refl z) gb_N σ (xs (Int32.toNatClampNeg (i + 1))) (xs (Int32.toNatClampNeg (i + 2))) (xs (Int32.toNatClampNeg (i + 3))) σ2 ra ec) (cwV 3 hq (gb_gV w_827 w_828 w_829 w_1 w_830) rfl rfl rfl (by decide +kernel) ⟨Nat.le_of_ble_eq_true rfl, Nat.le_of_ble_eq_true rfl⟩) (gb_preV (r := (RX11, TX11, 10)) (ci := 9) (q0 := 0) hSt2.1 hPc rfl (gb_at z rfl) hS (fun q h => h) hPc) rfl rfl hl.1 rfl (lv_room (Nat.le_of_ble_eq_true rfl)) dL_law_953 ⟨Nat.le_of_ble_eq_true rfl, Nat.le_of_ble_eq_true rfl⟩) hS (fun q h => h.1) (fun q h => h.1) (fun rc H2 locs2 hY hk hS => ?_)
  obtain ⟨hr_, hY⟩ := hY
  subst hr_
  have hPm := gb_kept hPm (fun q h1 h2 => hk q (Nat.lt_of_lt_of_le h2 ((hPm 21 _ (gb_at (z + 135) rfl)).lt)) (fun h3 => Nat.not_lt.mpr h1 h3.2))
  have hPc := hY
  clear hY
  refine lv_pop hx hb dL_law_956 rfl ?_
  refine lv_aload_n hx hb dL_law_957 rfl (lv_at hl 1 rfl) ?_
  refine lv_aload_n hx hb dL_law_958 rfl (lv_at hl 3 rfl) ?_
  refine lv_iload_n hx hb dL_law_959 rfl (lv_at hl 0 rfl) ?_
  refine lv_iconst (v := 1) hx hb dL_law_960 (by decide) ?_
  refine lv_iadd hx hb dL_law_961 ?_
  refine va_sld hx hb hX hbl hbA hS h1 dL_law_962 ?_
  refine lv_aload_n hx hb dL_law_963 rfl (lv_at hl 3 rfl) ?_
  refine lv_iload_n hx hb dL_law_964 rfl (lv_at hl 0 rfl) ?_
  refine lv_iconst (v := 2) hx hb dL_law_965 (by decide) ?_
  refine lv_iadd hx hb dL_law_966 ?_
  refine va_sld hx hb hX hbl hbA hS h2 dL_law_967 ?_
  refine lv_aload_n hx hb dL_law_968 rfl (lv_at hl 3 rfl) ?_
  refine lv_iload_n hx hb dL_law_969 rfl (lv_at hl 0 rfl) ?_
  refine lv_iconst (v := 3) hx hb dL_law_970 (by decide) ?_
  refine lv_iadd hx hb dL_law_971 ?_
  refine va_sld hx hb hX hbl hbA hS h3 dL_law_972 ?_
  refine gb_calli (va_runV (C := RX12) (As := [.int (xs (Int32.toNatClampNeg (i + 1))), .int (xs (Int32.toNatClampNeg (i + 2))), .int (xs (Int32.toNatClampNeg (i + 3)))]) (rest := []) ⟨hx, hb, hml, hown, hq⟩ (mc_rest l D cT tt z (z + 135) (Nat.le_add_right z 135) gb_N f w (xs (Int32.toNatClampNeg (i + 1))) (xs (Int32.toNatClampNeg (i + 2))) (xs (Int32.toNatClampNeg (i + 3))) f2 w2 qa em) (cwV 3 hq (gb_gV w_1576 w_1577 w_1578 w_14 w_1579) rfl rfl rfl (by decide +kernel) ⟨Nat.le_of_ble_eq_true rfl, Nat.le_of_ble_eq_true rfl⟩) (gb_preV (r := (RX12, TX12, 44)) (ci := 10) (q0 := 0) hSt2.1 hPm rfl (gb_at (z + 135) rfl) hS (fun q h => h) hPm) rfl rfl hl.1 rfl (lv_room (Nat.le_of_ble_eq_true rfl)) dL_law_973 ⟨Nat.le_of_ble_eq_true rfl, Nat.le_of_ble_eq_true rfl⟩) hS (fun q h => Nat.le_trans (Nat.le_add_right z 135) h.1) (fun q h => Nat.le_trans (Nat.le_add_right z 135) h.1) (fun rm H2 locs2 hY hk hS => ?_)
  obtain ⟨hr_, hY⟩ := hY
  subst hr_
  have hPc := gb_kept hPc (fun q h1 h2 => hk q (Nat.lt_of_lt_of_le h2 (Nat.le_of_lt (Nat.lt_of_le_of_lt (Nat.le_add_right (z + 135) 21) ((hPm 21 _ (gb_at (z + 135) rfl)).lt)))) (fun h3 => Nat.not_lt.mpr h3.1 h2))
  have hPm := hY
  clear hY
  refine lv_pop hx hb dL_law_976 rfl ?_
  refine lv_goto (tgt := 1890) hx hb dL_law_977 (by decide) ?_
  exact hend _ _ _ _ _ _ hI2 hPc hPm hS hl
theorem dL_law_980 : decode cL_law 980 = .ok (.aload_n 1, 1) := dc_43 (dc_cut (j := 20) (n := 1) (l := [43]) dq_cL_law_960 (by decide +kernel) (by decide))
theorem dL_law_981 : decode cL_law 981 = .ok (.aload_n 0, 1) := dc_42 (dc_cut (j := 21) (n := 1) (l := [42]) dq_cL_law_960 (by decide +kernel) (by decide))
theorem dL_law_982 : decode cL_law 982 = .ok (.iload_n 3, 1) := dc_29 (dc_cut (j := 22) (n := 1) (l := [29]) dq_cL_law_960 (by decide +kernel) (by decide))
theorem dL_law_983 : decode cL_law 983 = .ok (.iconst 1, 1) := dc_4 (dc_cut (j := 23) (n := 1) (l := [4]) dq_cL_law_960 (by decide +kernel) (by decide))
theorem dL_law_984 : decode cL_law 984 = .ok (.iadd, 1) := dc_96 (dc_cut (j := 24) (n := 1) (l := [96]) dq_cL_law_960 (by decide +kernel) (by decide))
theorem dL_law_985 : decode cL_law 985 = .ok (.iaload, 1) := dc_46 (dc_cut (j := 25) (n := 1) (l := [46]) dq_cL_law_960 (by decide +kernel) (by decide))
theorem dL_law_986 : decode cL_law 986 = .ok (.aload_n 0, 1) := dc_42 (dc_cut (j := 26) (n := 1) (l := [42]) dq_cL_law_960 (by decide +kernel) (by decide))
theorem dL_law_987 : decode cL_law 987 = .ok (.iload_n 3, 1) := dc_29 (dc_cut (j := 27) (n := 1) (l := [29]) dq_cL_law_960 (by decide +kernel) (by decide))
theorem dL_law_988 : decode cL_law 988 = .ok (.iconst 2, 1) := dc_5 (dc_cut (j := 28) (n := 1) (l := [5]) dq_cL_law_960 (by decide +kernel) (by decide))
theorem dL_law_989 : decode cL_law 989 = .ok (.iadd, 1) := dc_96 (dc_cut (j := 29) (n := 1) (l := [96]) dq_cL_law_960 (by decide +kernel) (by decide))
theorem dL_law_990 : decode cL_law 990 = .ok (.iaload, 1) := dc_46 (dc_cut (j := 30) (n := 1) (l := [46]) dq_cL_law_960 (by decide +kernel) (by decide))
theorem dL_law_991 : decode cL_law 991 = .ok (.aload_n 0, 1) := dc_42 (dc_cut (j := 31) (n := 1) (l := [42]) dq_cL_law_960 (by decide +kernel) (by decide))
theorem dL_law_992 : decode cL_law 992 = .ok (.iload_n 3, 1) := dc_29 (dc_cut (j := 32) (n := 1) (l := [29]) dq_cL_law_960 (by decide +kernel) (by decide))
theorem dL_law_993 : decode cL_law 993 = .ok (.iconst 3, 1) := dc_6 (dc_cut (j := 33) (n := 1) (l := [6]) dq_cL_law_960 (by decide +kernel) (by decide))
theorem dL_law_994 : decode cL_law 994 = .ok (.iadd, 1) := dc_96 (dc_cut (j := 34) (n := 1) (l := [96]) dq_cL_law_960 (by decide +kernel) (by decide))
theorem dL_law_995 : decode cL_law 995 = .ok (.iaload, 1) := dc_46 (dc_cut (j := 35) (n := 1) (l := [46]) dq_cL_law_960 (by decide +kernel) (by decide))
theorem dL_law_996 : decode cL_law 996 = .ok (.aload_n 0, 1) := dc_42 (dc_cut (j := 36) (n := 1) (l := [42]) dq_cL_law_960 (by decide +kernel) (by decide))
theorem dL_law_997 : decode cL_law 997 = .ok (.iload_n 3, 1) := dc_29 (dc_cut (j := 37) (n := 1) (l := [29]) dq_cL_law_960 (by decide +kernel) (by decide))
theorem dL_law_998 : decode cL_law 998 = .ok (.iconst 4, 1) := dc_7 (dc_cut (j := 38) (n := 1) (l := [7]) dq_cL_law_960 (by decide +kernel) (by decide))
theorem dL_law_999 : decode cL_law 999 = .ok (.iadd, 1) := dc_96 (dc_cut (j := 39) (n := 1) (l := [96]) dq_cL_law_960 (by decide +kernel) (by decide))
theorem dL_law_1000 : decode cL_law 1000 = .ok (.iaload, 1) := dc_46 (dc_cut (j := 40) (n := 1) (l := [46]) dq_cL_law_960 (by decide +kernel) (by decide))
theorem dL_law_1001 : decode cL_law 1001 = .ok (.invokevirtual 91, 3) := dc_182 (dc_cut (j := 41) (n := 3) (l := [182, 0, 91]) dq_cL_law_960 (by decide +kernel) (by decide)) rfl
theorem w_840 : (Cond.methodLink "GooseBorderLaw" (91 : Nat) ({ cls := "GooseBorder", name := "take", desc := "(IIII)I" } : MethodName)) ∈ gb_wA := gb_t4 120 rfl rfl
theorem w_841 : (Cond.instanceMethod ({ cls := "GooseBorder", name := "take", desc := "(IIII)I" } : MethodName)) ∈ gb_wA := gb_t4 121 rfl rfl
theorem w_842 : (Cond.selects "GooseBorder" ({ cls := "GooseBorder", name := "take", desc := "(IIII)I" } : MethodName) ({ cls := "GooseBorder", name := "take", desc := "(IIII)I" } : MethodName)) ∈ gb_wA := gb_t4 122 rfl rfl
theorem w_843 : (Cond.code ({ cls := "GooseBorder", name := "take", desc := "(IIII)I" } : MethodName) prog_1_method_27_code (6 : Nat) (Option.some FieldType.int)) ∈ gb_wA := gb_t4 123 rfl rfl
theorem dL_law_1004 : decode cL_law 1004 = .ok (.pop, 1) := dc_87 (dc_cut (j := 44) (n := 1) (l := [87]) dq_cL_law_960 (by decide +kernel) (by decide))
theorem dL_law_1005 : decode cL_law 1005 = .ok (.aload_n 2, 1) := dc_44 (dc_cut (j := 45) (n := 1) (l := [44]) dq_cL_law_960 (by decide +kernel) (by decide))
theorem dL_law_1006 : decode cL_law 1006 = .ok (.aload_n 0, 1) := dc_42 (dc_cut (j := 46) (n := 1) (l := [42]) dq_cL_law_960 (by decide +kernel) (by decide))
theorem dL_law_1007 : decode cL_law 1007 = .ok (.iload_n 3, 1) := dc_29 (dc_cut (j := 47) (n := 1) (l := [29]) dq_cL_law_960 (by decide +kernel) (by decide))
theorem dL_law_1008 : decode cL_law 1008 = .ok (.iconst 1, 1) := dc_4 (dc_cut (j := 48) (n := 1) (l := [4]) dq_cL_law_960 (by decide +kernel) (by decide))
theorem dL_law_1009 : decode cL_law 1009 = .ok (.iadd, 1) := dc_96 (dc_cut (j := 49) (n := 1) (l := [96]) dq_cL_law_960 (by decide +kernel) (by decide))
theorem dL_law_1010 : decode cL_law 1010 = .ok (.iaload, 1) := dc_46 (dc_cut (j := 50) (n := 1) (l := [46]) dq_cL_law_960 (by decide +kernel) (by decide))
theorem dL_law_1011 : decode cL_law 1011 = .ok (.aload_n 0, 1) := dc_42 (dc_cut (j := 51) (n := 1) (l := [42]) dq_cL_law_960 (by decide +kernel) (by decide))
theorem dL_law_1012 : decode cL_law 1012 = .ok (.iload_n 3, 1) := dc_29 (dc_cut (j := 52) (n := 1) (l := [29]) dq_cL_law_960 (by decide +kernel) (by decide))
theorem dL_law_1013 : decode cL_law 1013 = .ok (.iconst 2, 1) := dc_5 (dc_cut (j := 53) (n := 1) (l := [5]) dq_cL_law_960 (by decide +kernel) (by decide))
theorem dL_law_1014 : decode cL_law 1014 = .ok (.iadd, 1) := dc_96 (dc_cut (j := 54) (n := 1) (l := [96]) dq_cL_law_960 (by decide +kernel) (by decide))
theorem dL_law_1015 : decode cL_law 1015 = .ok (.iaload, 1) := dc_46 (dc_cut (j := 55) (n := 1) (l := [46]) dq_cL_law_960 (by decide +kernel) (by decide))
theorem dL_law_1016 : decode cL_law 1016 = .ok (.aload_n 0, 1) := dc_42 (dc_cut (j := 56) (n := 1) (l := [42]) dq_cL_law_960 (by decide +kernel) (by decide))
theorem dL_law_1017 : decode cL_law 1017 = .ok (.iload_n 3, 1) := dc_29 (dc_cut (j := 57) (n := 1) (l := [29]) dq_cL_law_960 (by decide +kernel) (by decide))
theorem dL_law_1018 : decode cL_law 1018 = .ok (.iconst 3, 1) := dc_6 (dc_cut (j := 58) (n := 1) (l := [6]) dq_cL_law_960 (by decide +kernel) (by decide))
theorem dL_law_1019 : decode cL_law 1019 = .ok (.iadd, 1) := dc_96 (dc_cut (j := 59) (n := 1) (l := [96]) dq_cL_law_960 (by decide +kernel) (by decide))
theorem dL_law_1020 : decode cL_law 1020 = .ok (.iaload, 1) := dc_46 (dc_cut (j := 60) (n := 1) (l := [46]) dq_cL_law_960 (by decide +kernel) (by decide))
theorem dL_law_1021 : decode cL_law 1021 = .ok (.aload_n 0, 1) := dc_42 (dc_cut (j := 61) (n := 1) (l := [42]) dq_cL_law_960 (by decide +kernel) (by decide))
theorem dL_law_1022 : decode cL_law 1022 = .ok (.iload_n 3, 1) := dc_29 (dc_cut (j := 62) (n := 1) (l := [29]) dq_cL_law_960 (by decide +kernel) (by decide))
theorem dL_law_1023 : decode cL_law 1023 = .ok (.iconst 4, 1) := dc_7 (dc_cut (j := 63) (n := 1) (l := [7]) dq_cL_law_960 (by decide +kernel) (by decide))
theorem dq_cL_law_1024 : ((cL_law.data.toList.drop 1024).take 67).map UInt8.toNat = [96, 46, 182, 0, 94, 87, 167, 3, 92, 43, 42, 29, 4, 96, 46, 42, 29, 5, 96, 46, 42, 29, 6, 96, 46, 182, 0, 95, 87, 44, 42, 29, 4, 96, 46, 42, 29, 5, 96, 46, 42, 29, 6, 96, 46, 182, 0, 98, 87, 167, 3, 49, 43, 42, 29, 4, 96, 46, 42, 29, 5, 96, 46, 182, 0, 99, 88] := by decide +kernel
theorem dL_law_1024 : decode cL_law 1024 = .ok (.iadd, 1) := dc_96 (dc_cut (j := 0) (n := 1) (l := [96]) dq_cL_law_1024 (by decide +kernel) (by decide))
theorem dL_law_1025 : decode cL_law 1025 = .ok (.iaload, 1) := dc_46 (dc_cut (j := 1) (n := 1) (l := [46]) dq_cL_law_1024 (by decide +kernel) (by decide))
theorem dL_law_1026 : decode cL_law 1026 = .ok (.invokevirtual 94, 3) := dc_182 (dc_cut (j := 2) (n := 3) (l := [182, 0, 94]) dq_cL_law_1024 (by decide +kernel) (by decide)) rfl
theorem w_1588 : (Cond.methodLink "GooseBorderLaw" (94 : Nat) ({ cls := "GooseBorderModel", name := "take", desc := "(IIII)I" } : MethodName)) ∈ gb_wA := gb_t7 148 rfl rfl
theorem w_1589 : (Cond.instanceMethod ({ cls := "GooseBorderModel", name := "take", desc := "(IIII)I" } : MethodName)) ∈ gb_wA := gb_t7 149 rfl rfl
theorem w_1590 : (Cond.selects "GooseBorderModel" ({ cls := "GooseBorderModel", name := "take", desc := "(IIII)I" } : MethodName) ({ cls := "GooseBorderModel", name := "take", desc := "(IIII)I" } : MethodName)) ∈ gb_wA := gb_t7 150 rfl rfl
theorem w_1591 : (Cond.code ({ cls := "GooseBorderModel", name := "take", desc := "(IIII)I" } : MethodName) prog_14_method_86_code (5 : Nat) (Option.some FieldType.int)) ∈ gb_wA := gb_t7 151 rfl rfl
theorem dL_law_1029 : decode cL_law 1029 = .ok (.pop, 1) := dc_87 (dc_cut (j := 5) (n := 1) (l := [87]) dq_cL_law_1024 (by decide +kernel) (by decide))
theorem dL_law_1030 : decode cL_law 1030 = .ok (.goto 860, 3) := dc_167 (dc_cut (j := 6) (n := 3) (l := [167, 3, 92]) dq_cL_law_1024 (by decide +kernel) (by decide)) rfl
set_option maxHeartbeats 4000000 in
set_option maxRecDepth 100000 in
theorem law_c18 {p : Program} {l : Launch} {e : Env} {s : State} {m : MethodId} {below : List Frame} {meth : Method} {c : Code} {b z L : Nat} {xs : Nat → Int32} (C0 : lw_At p s m meth c b L xs) (hzz : Array.size s.heap = z) {D : va_G} {cT : Nat → ClassId} {tt ak av : Nat → Nat} (hSt2 : gb_St2 D cT tt ak av z s) {i : Int32} (h1 : vp_in (i + 1) L) (h2 : vp_in (i + 2) L) (h3 : vp_in (i + 3) L) (h4 : vp_in (i + 4) L) (h5 : vp_in (i + 5) L) (hend : ∀ (σ : gb_S) (f : gb_F) (w : Int64) (H : Heap) (locs : List Loc) (ls : Array Slot), gb_Inv σ f → va_P D vwCl (gb_wl z (gb_CW cT z σ)) H → va_P D vwCl (gb_wl (z + 135) (gb_MW cT (z + 135) f w)) H → va_S (gb_ge z) s.heap H locs → lv_has ls 4 [(3, .int i), (2, .ref (z + 135 + 0)), (1, .ref (z + 0)), (0, .ref b)] → W p l e room_1 s m #[Value.ref b] below meth c H locs 157 10381 (lw_Z below #[Value.ref b] s) (F0 m 1890 ls [])) : ∀ (σ : gb_S) (f : gb_F) (w : Int64) (H : Heap) (locs : List Loc) (ls : Array Slot), gb_Inv σ f → va_P D vwCl (gb_wl z (gb_CW cT z σ)) H → va_P D vwCl (gb_wl (z + 135) (gb_MW cT (z + 135) f w)) H → va_S (gb_ge z) s.heap H locs → lv_has ls 4 [(3, .int i), (2, .ref (z + 135 + 0)), (1, .ref (z + 0)), (0, .ref b)] → W p l e room_1 s m #[Value.ref b] below meth c H locs 157 10381 (lw_Z below #[Value.ref b] s) (F0 m 980 ls []) := by
  obtain ⟨hx, hb, hr, hml, hown, hts, hX, hbl, hlocks, hgv⟩ := C0
  have hq : ∀ w ∈ gb_wA, w.before #[Value.ref b] s = true := fun w h => hts w (gb_wA_tbl w h)
  have hbA : ¬ gb_ge z b := Nat.not_le.mpr (by rw [← hzz]; exact hbl)
  intro σ f w H locs ls hI hPc hPm hS hl
  refine lv_aload_n hx hb dL_law_980 rfl (lv_at hl 2 rfl) ?_
  refine lv_aload_n hx hb dL_law_981 rfl (lv_at hl 3 rfl) ?_
  refine lv_iload_n hx hb dL_law_982 rfl (lv_at hl 0 rfl) ?_
  refine lv_iconst (v := 1) hx hb dL_law_983 (by decide) ?_
  refine lv_iadd hx hb dL_law_984 ?_
  refine va_sld hx hb hX hbl hbA hS h1 dL_law_985 ?_
  refine lv_aload_n hx hb dL_law_986 rfl (lv_at hl 3 rfl) ?_
  refine lv_iload_n hx hb dL_law_987 rfl (lv_at hl 0 rfl) ?_
  refine lv_iconst (v := 2) hx hb dL_law_988 (by decide) ?_
  refine lv_iadd hx hb dL_law_989 ?_
  refine va_sld hx hb hX hbl hbA hS h2 dL_law_990 ?_
  refine lv_aload_n hx hb dL_law_991 rfl (lv_at hl 3 rfl) ?_
  refine lv_iload_n hx hb dL_law_992 rfl (lv_at hl 0 rfl) ?_
  refine lv_iconst (v := 3) hx hb dL_law_993 (by decide) ?_
  refine lv_iadd hx hb dL_law_994 ?_
  refine va_sld hx hb hX hbl hbA hS h3 dL_law_995 ?_
  refine lv_aload_n hx hb dL_law_996 rfl (lv_at hl 3 rfl) ?_
  refine lv_iload_n hx hb dL_law_997 rfl (lv_at hl 0 rfl) ?_
  refine lv_iconst (v := 4) hx hb dL_law_998 (by decide) ?_
  refine lv_iadd hx hb dL_law_999 ?_
  refine va_sld hx hb hX hbl hbA hS h4 dL_law_1000 ?_
  obtain ⟨σ2, ra, f2, w2, qa, ec, em, hI2, hcmp⟩ := law_s_take (xs (Int32.toNatClampNeg (i + 1))) (xs (Int32.toNatClampNeg (i + 2))) (xs (Int32.toNatClampNeg (i + 3))) (xs (Int32.toNatClampNeg (i + 4))) w hI
  refine gb_calli (va_runV (C := RX11) (As := [.int (xs (Int32.toNatClampNeg (i + 1))), .int (xs (Int32.toNatClampNeg (i + 2))), .int (xs (Int32.toNatClampNeg (i + 3))), .int (xs (Int32.toNatClampNeg (i + 4)))]) (rest := []) ⟨hx, hb, hml, hown, hq⟩ (cc_Face_take l D cT tt z z (Nat.le_refl z) gb_N σ (xs (Int32.toNatClampNeg (i + 1))) (xs (Int32.toNatClampNeg (i + 2))) (xs (Int32.toNatClampNeg (i + 3))) (xs (Int32.toNatClampNeg (i + 4))) σ2 ra ec) (cwV 4 hq (gb_gV w_840 w_841 w_842 w_1 w_843) rfl rfl rfl (by decide +kernel) ⟨Nat.le_of_ble_eq_true rfl, Nat.le_of_ble_eq_true rfl⟩) (gb_preV (r := (RX11, TX11, 10)) (ci := 9) (q0 := 0) hSt2.1 hPc rfl (gb_at z rfl) hS (fun q h => h) hPc) rfl rfl hl.1 rfl (lv_room (Nat.le_of_ble_eq_true rfl)) dL_law_1001 ⟨Nat.le_of_ble_eq_true rfl, Nat.le_of_ble_eq_true rfl⟩) hS (fun q h => h.1) (fun q h => h.1) (fun rc H2 locs2 hY hk hS => ?_)
  obtain ⟨hr_, hY⟩ := hY
  subst hr_
  have hPm := gb_kept hPm (fun q h1 h2 => hk q (Nat.lt_of_lt_of_le h2 ((hPm 21 _ (gb_at (z + 135) rfl)).lt)) (fun h3 => Nat.not_lt.mpr h1 h3.2))
  have hPc := hY
  clear hY
  refine lv_pop hx hb dL_law_1004 rfl ?_
  refine lv_aload_n hx hb dL_law_1005 rfl (lv_at hl 1 rfl) ?_
  refine lv_aload_n hx hb dL_law_1006 rfl (lv_at hl 3 rfl) ?_
  refine lv_iload_n hx hb dL_law_1007 rfl (lv_at hl 0 rfl) ?_
  refine lv_iconst (v := 1) hx hb dL_law_1008 (by decide) ?_
  refine lv_iadd hx hb dL_law_1009 ?_
  refine va_sld hx hb hX hbl hbA hS h1 dL_law_1010 ?_
  refine lv_aload_n hx hb dL_law_1011 rfl (lv_at hl 3 rfl) ?_
  refine lv_iload_n hx hb dL_law_1012 rfl (lv_at hl 0 rfl) ?_
  refine lv_iconst (v := 2) hx hb dL_law_1013 (by decide) ?_
  refine lv_iadd hx hb dL_law_1014 ?_
  refine va_sld hx hb hX hbl hbA hS h2 dL_law_1015 ?_
  refine lv_aload_n hx hb dL_law_1016 rfl (lv_at hl 3 rfl) ?_
  refine lv_iload_n hx hb dL_law_1017 rfl (lv_at hl 0 rfl) ?_
  refine lv_iconst (v := 3) hx hb dL_law_1018 (by decide) ?_
  refine lv_iadd hx hb dL_law_1019 ?_
  refine va_sld hx hb hX hbl hbA hS h3 dL_law_1020 ?_
  refine lv_aload_n hx hb dL_law_1021 rfl (lv_at hl 3 rfl) ?_
  refine lv_iload_n hx hb dL_law_1022 rfl (lv_at hl 0 rfl) ?_
  refine lv_iconst (v := 4) hx hb dL_law_1023 (by decide) ?_
  refine lv_iadd hx hb dL_law_1024 ?_
  refine va_sld hx hb hX hbl hbA hS h4 dL_law_1025 ?_
  refine gb_calli (va_runV (C := RX12) (As := [.int (xs (Int32.toNatClampNeg (i + 1))), .int (xs (Int32.toNatClampNeg (i + 2))), .int (xs (Int32.toNatClampNeg (i + 3))), .int (xs (Int32.toNatClampNeg (i + 4)))]) (rest := []) ⟨hx, hb, hml, hown, hq⟩ (mc_take l D cT tt z (z + 135) (Nat.le_add_right z 135) gb_N f w (xs (Int32.toNatClampNeg (i + 1))) (xs (Int32.toNatClampNeg (i + 2))) (xs (Int32.toNatClampNeg (i + 3))) (xs (Int32.toNatClampNeg (i + 4))) f2 w2 qa em) (cwV 4 hq (gb_gV w_1588 w_1589 w_1590 w_14 w_1591) rfl rfl rfl (by decide +kernel) ⟨Nat.le_of_ble_eq_true rfl, Nat.le_of_ble_eq_true rfl⟩) (gb_preV (r := (RX12, TX12, 44)) (ci := 10) (q0 := 0) hSt2.1 hPm rfl (gb_at (z + 135) rfl) hS (fun q h => h) hPm) rfl rfl hl.1 rfl (lv_room (Nat.le_of_ble_eq_true rfl)) dL_law_1026 ⟨Nat.le_of_ble_eq_true rfl, Nat.le_of_ble_eq_true rfl⟩) hS (fun q h => Nat.le_trans (Nat.le_add_right z 135) h.1) (fun q h => Nat.le_trans (Nat.le_add_right z 135) h.1) (fun rm H2 locs2 hY hk hS => ?_)
  obtain ⟨hr_, hY⟩ := hY
  subst hr_
  have hPc := gb_kept hPc (fun q h1 h2 => hk q (Nat.lt_of_lt_of_le h2 (Nat.le_of_lt (Nat.lt_of_le_of_lt (Nat.le_add_right (z + 135) 21) ((hPm 21 _ (gb_at (z + 135) rfl)).lt)))) (fun h3 => Nat.not_lt.mpr h3.1 h2))
  have hPm := hY
  clear hY
  refine lv_pop hx hb dL_law_1029 rfl ?_
  refine lv_goto (tgt := 1890) hx hb dL_law_1030 (by decide) ?_
  exact hend _ _ _ _ _ _ hI2 hPc hPm hS hl
theorem dL_law_1033 : decode cL_law 1033 = .ok (.aload_n 1, 1) := dc_43 (dc_cut (j := 9) (n := 1) (l := [43]) dq_cL_law_1024 (by decide +kernel) (by decide))
theorem dL_law_1034 : decode cL_law 1034 = .ok (.aload_n 0, 1) := dc_42 (dc_cut (j := 10) (n := 1) (l := [42]) dq_cL_law_1024 (by decide +kernel) (by decide))
theorem dL_law_1035 : decode cL_law 1035 = .ok (.iload_n 3, 1) := dc_29 (dc_cut (j := 11) (n := 1) (l := [29]) dq_cL_law_1024 (by decide +kernel) (by decide))
theorem dL_law_1036 : decode cL_law 1036 = .ok (.iconst 1, 1) := dc_4 (dc_cut (j := 12) (n := 1) (l := [4]) dq_cL_law_1024 (by decide +kernel) (by decide))
theorem dL_law_1037 : decode cL_law 1037 = .ok (.iadd, 1) := dc_96 (dc_cut (j := 13) (n := 1) (l := [96]) dq_cL_law_1024 (by decide +kernel) (by decide))
theorem dL_law_1038 : decode cL_law 1038 = .ok (.iaload, 1) := dc_46 (dc_cut (j := 14) (n := 1) (l := [46]) dq_cL_law_1024 (by decide +kernel) (by decide))
theorem dL_law_1039 : decode cL_law 1039 = .ok (.aload_n 0, 1) := dc_42 (dc_cut (j := 15) (n := 1) (l := [42]) dq_cL_law_1024 (by decide +kernel) (by decide))
theorem dL_law_1040 : decode cL_law 1040 = .ok (.iload_n 3, 1) := dc_29 (dc_cut (j := 16) (n := 1) (l := [29]) dq_cL_law_1024 (by decide +kernel) (by decide))
theorem dL_law_1041 : decode cL_law 1041 = .ok (.iconst 2, 1) := dc_5 (dc_cut (j := 17) (n := 1) (l := [5]) dq_cL_law_1024 (by decide +kernel) (by decide))
theorem dL_law_1042 : decode cL_law 1042 = .ok (.iadd, 1) := dc_96 (dc_cut (j := 18) (n := 1) (l := [96]) dq_cL_law_1024 (by decide +kernel) (by decide))
theorem dL_law_1043 : decode cL_law 1043 = .ok (.iaload, 1) := dc_46 (dc_cut (j := 19) (n := 1) (l := [46]) dq_cL_law_1024 (by decide +kernel) (by decide))
theorem dL_law_1044 : decode cL_law 1044 = .ok (.aload_n 0, 1) := dc_42 (dc_cut (j := 20) (n := 1) (l := [42]) dq_cL_law_1024 (by decide +kernel) (by decide))
theorem dL_law_1045 : decode cL_law 1045 = .ok (.iload_n 3, 1) := dc_29 (dc_cut (j := 21) (n := 1) (l := [29]) dq_cL_law_1024 (by decide +kernel) (by decide))
theorem dL_law_1046 : decode cL_law 1046 = .ok (.iconst 3, 1) := dc_6 (dc_cut (j := 22) (n := 1) (l := [6]) dq_cL_law_1024 (by decide +kernel) (by decide))
theorem dL_law_1047 : decode cL_law 1047 = .ok (.iadd, 1) := dc_96 (dc_cut (j := 23) (n := 1) (l := [96]) dq_cL_law_1024 (by decide +kernel) (by decide))
theorem dL_law_1048 : decode cL_law 1048 = .ok (.iaload, 1) := dc_46 (dc_cut (j := 24) (n := 1) (l := [46]) dq_cL_law_1024 (by decide +kernel) (by decide))
theorem dL_law_1049 : decode cL_law 1049 = .ok (.invokevirtual 95, 3) := dc_182 (dc_cut (j := 25) (n := 3) (l := [182, 0, 95]) dq_cL_law_1024 (by decide +kernel) (by decide)) rfl
theorem w_663 : (Cond.methodLink "GooseBorderLaw" (95 : Nat) ({ cls := "GooseBorder", name := "seen", desc := "(III)I" } : MethodName)) ∈ gb_wA := gb_t3 183 rfl rfl
theorem w_664 : (Cond.instanceMethod ({ cls := "GooseBorder", name := "seen", desc := "(III)I" } : MethodName)) ∈ gb_wA := gb_t3 184 rfl rfl
theorem w_665 : (Cond.selects "GooseBorder" ({ cls := "GooseBorder", name := "seen", desc := "(III)I" } : MethodName) ({ cls := "GooseBorder", name := "seen", desc := "(III)I" } : MethodName)) ∈ gb_wA := gb_t3 185 rfl rfl
theorem w_666 : (Cond.code ({ cls := "GooseBorder", name := "seen", desc := "(III)I" } : MethodName) prog_1_method_13_code (5 : Nat) (Option.some FieldType.int)) ∈ gb_wA := gb_t3 186 rfl rfl
theorem dL_law_1052 : decode cL_law 1052 = .ok (.pop, 1) := dc_87 (dc_cut (j := 28) (n := 1) (l := [87]) dq_cL_law_1024 (by decide +kernel) (by decide))
theorem dL_law_1053 : decode cL_law 1053 = .ok (.aload_n 2, 1) := dc_44 (dc_cut (j := 29) (n := 1) (l := [44]) dq_cL_law_1024 (by decide +kernel) (by decide))
theorem dL_law_1054 : decode cL_law 1054 = .ok (.aload_n 0, 1) := dc_42 (dc_cut (j := 30) (n := 1) (l := [42]) dq_cL_law_1024 (by decide +kernel) (by decide))
theorem dL_law_1055 : decode cL_law 1055 = .ok (.iload_n 3, 1) := dc_29 (dc_cut (j := 31) (n := 1) (l := [29]) dq_cL_law_1024 (by decide +kernel) (by decide))
theorem dL_law_1056 : decode cL_law 1056 = .ok (.iconst 1, 1) := dc_4 (dc_cut (j := 32) (n := 1) (l := [4]) dq_cL_law_1024 (by decide +kernel) (by decide))
theorem dL_law_1057 : decode cL_law 1057 = .ok (.iadd, 1) := dc_96 (dc_cut (j := 33) (n := 1) (l := [96]) dq_cL_law_1024 (by decide +kernel) (by decide))
theorem dL_law_1058 : decode cL_law 1058 = .ok (.iaload, 1) := dc_46 (dc_cut (j := 34) (n := 1) (l := [46]) dq_cL_law_1024 (by decide +kernel) (by decide))
theorem dL_law_1059 : decode cL_law 1059 = .ok (.aload_n 0, 1) := dc_42 (dc_cut (j := 35) (n := 1) (l := [42]) dq_cL_law_1024 (by decide +kernel) (by decide))
theorem dL_law_1060 : decode cL_law 1060 = .ok (.iload_n 3, 1) := dc_29 (dc_cut (j := 36) (n := 1) (l := [29]) dq_cL_law_1024 (by decide +kernel) (by decide))
theorem dL_law_1061 : decode cL_law 1061 = .ok (.iconst 2, 1) := dc_5 (dc_cut (j := 37) (n := 1) (l := [5]) dq_cL_law_1024 (by decide +kernel) (by decide))
theorem dL_law_1062 : decode cL_law 1062 = .ok (.iadd, 1) := dc_96 (dc_cut (j := 38) (n := 1) (l := [96]) dq_cL_law_1024 (by decide +kernel) (by decide))
theorem dL_law_1063 : decode cL_law 1063 = .ok (.iaload, 1) := dc_46 (dc_cut (j := 39) (n := 1) (l := [46]) dq_cL_law_1024 (by decide +kernel) (by decide))
theorem dL_law_1064 : decode cL_law 1064 = .ok (.aload_n 0, 1) := dc_42 (dc_cut (j := 40) (n := 1) (l := [42]) dq_cL_law_1024 (by decide +kernel) (by decide))
theorem dL_law_1065 : decode cL_law 1065 = .ok (.iload_n 3, 1) := dc_29 (dc_cut (j := 41) (n := 1) (l := [29]) dq_cL_law_1024 (by decide +kernel) (by decide))
theorem dL_law_1066 : decode cL_law 1066 = .ok (.iconst 3, 1) := dc_6 (dc_cut (j := 42) (n := 1) (l := [6]) dq_cL_law_1024 (by decide +kernel) (by decide))
theorem dL_law_1067 : decode cL_law 1067 = .ok (.iadd, 1) := dc_96 (dc_cut (j := 43) (n := 1) (l := [96]) dq_cL_law_1024 (by decide +kernel) (by decide))
theorem dL_law_1068 : decode cL_law 1068 = .ok (.iaload, 1) := dc_46 (dc_cut (j := 44) (n := 1) (l := [46]) dq_cL_law_1024 (by decide +kernel) (by decide))
theorem dL_law_1069 : decode cL_law 1069 = .ok (.invokevirtual 98, 3) := dc_182 (dc_cut (j := 45) (n := 3) (l := [182, 0, 98]) dq_cL_law_1024 (by decide +kernel) (by decide)) rfl
theorem w_1596 : (Cond.methodLink "GooseBorderLaw" (98 : Nat) ({ cls := "GooseBorderModel", name := "seen", desc := "(III)I" } : MethodName)) ∈ gb_wA := gb_t7 156 rfl rfl
theorem w_1597 : (Cond.instanceMethod ({ cls := "GooseBorderModel", name := "seen", desc := "(III)I" } : MethodName)) ∈ gb_wA := gb_t7 157 rfl rfl
theorem w_1598 : (Cond.selects "GooseBorderModel" ({ cls := "GooseBorderModel", name := "seen", desc := "(III)I" } : MethodName) ({ cls := "GooseBorderModel", name := "seen", desc := "(III)I" } : MethodName)) ∈ gb_wA := gb_t7 158 rfl rfl
theorem w_1599 : (Cond.code ({ cls := "GooseBorderModel", name := "seen", desc := "(III)I" } : MethodName) prog_14_method_89_code (4 : Nat) (Option.some FieldType.int)) ∈ gb_wA := gb_t7 159 rfl rfl
theorem dL_law_1072 : decode cL_law 1072 = .ok (.pop, 1) := dc_87 (dc_cut (j := 48) (n := 1) (l := [87]) dq_cL_law_1024 (by decide +kernel) (by decide))
theorem dL_law_1073 : decode cL_law 1073 = .ok (.goto 817, 3) := dc_167 (dc_cut (j := 49) (n := 3) (l := [167, 3, 49]) dq_cL_law_1024 (by decide +kernel) (by decide)) rfl
set_option maxHeartbeats 4000000 in
set_option maxRecDepth 100000 in
theorem law_c19 {p : Program} {l : Launch} {e : Env} {s : State} {m : MethodId} {below : List Frame} {meth : Method} {c : Code} {b z L : Nat} {xs : Nat → Int32} (C0 : lw_At p s m meth c b L xs) (hzz : Array.size s.heap = z) {D : va_G} {cT : Nat → ClassId} {tt ak av : Nat → Nat} (hSt2 : gb_St2 D cT tt ak av z s) {i : Int32} (h1 : vp_in (i + 1) L) (h2 : vp_in (i + 2) L) (h3 : vp_in (i + 3) L) (h4 : vp_in (i + 4) L) (h5 : vp_in (i + 5) L) (hend : ∀ (σ : gb_S) (f : gb_F) (w : Int64) (H : Heap) (locs : List Loc) (ls : Array Slot), gb_Inv σ f → va_P D vwCl (gb_wl z (gb_CW cT z σ)) H → va_P D vwCl (gb_wl (z + 135) (gb_MW cT (z + 135) f w)) H → va_S (gb_ge z) s.heap H locs → lv_has ls 4 [(3, .int i), (2, .ref (z + 135 + 0)), (1, .ref (z + 0)), (0, .ref b)] → W p l e room_1 s m #[Value.ref b] below meth c H locs 157 10381 (lw_Z below #[Value.ref b] s) (F0 m 1890 ls [])) : ∀ (σ : gb_S) (f : gb_F) (w : Int64) (H : Heap) (locs : List Loc) (ls : Array Slot), gb_Inv σ f → va_P D vwCl (gb_wl z (gb_CW cT z σ)) H → va_P D vwCl (gb_wl (z + 135) (gb_MW cT (z + 135) f w)) H → va_S (gb_ge z) s.heap H locs → lv_has ls 4 [(3, .int i), (2, .ref (z + 135 + 0)), (1, .ref (z + 0)), (0, .ref b)] → W p l e room_1 s m #[Value.ref b] below meth c H locs 157 10381 (lw_Z below #[Value.ref b] s) (F0 m 1033 ls []) := by
  obtain ⟨hx, hb, hr, hml, hown, hts, hX, hbl, hlocks, hgv⟩ := C0
  have hq : ∀ w ∈ gb_wA, w.before #[Value.ref b] s = true := fun w h => hts w (gb_wA_tbl w h)
  have hbA : ¬ gb_ge z b := Nat.not_le.mpr (by rw [← hzz]; exact hbl)
  intro σ f w H locs ls hI hPc hPm hS hl
  refine lv_aload_n hx hb dL_law_1033 rfl (lv_at hl 2 rfl) ?_
  refine lv_aload_n hx hb dL_law_1034 rfl (lv_at hl 3 rfl) ?_
  refine lv_iload_n hx hb dL_law_1035 rfl (lv_at hl 0 rfl) ?_
  refine lv_iconst (v := 1) hx hb dL_law_1036 (by decide) ?_
  refine lv_iadd hx hb dL_law_1037 ?_
  refine va_sld hx hb hX hbl hbA hS h1 dL_law_1038 ?_
  refine lv_aload_n hx hb dL_law_1039 rfl (lv_at hl 3 rfl) ?_
  refine lv_iload_n hx hb dL_law_1040 rfl (lv_at hl 0 rfl) ?_
  refine lv_iconst (v := 2) hx hb dL_law_1041 (by decide) ?_
  refine lv_iadd hx hb dL_law_1042 ?_
  refine va_sld hx hb hX hbl hbA hS h2 dL_law_1043 ?_
  refine lv_aload_n hx hb dL_law_1044 rfl (lv_at hl 3 rfl) ?_
  refine lv_iload_n hx hb dL_law_1045 rfl (lv_at hl 0 rfl) ?_
  refine lv_iconst (v := 3) hx hb dL_law_1046 (by decide) ?_
  refine lv_iadd hx hb dL_law_1047 ?_
  refine va_sld hx hb hX hbl hbA hS h3 dL_law_1048 ?_
  obtain ⟨σ2, ra, f2, w2, qa, ec, em, hI2, hcmp⟩ := law_s_seen (xs (Int32.toNatClampNeg (i + 1))) (xs (Int32.toNatClampNeg (i + 2))) (xs (Int32.toNatClampNeg (i + 3))) w hI
  refine gb_calli (va_runV (C := RX11) (As := [.int (xs (Int32.toNatClampNeg (i + 1))), .int (xs (Int32.toNatClampNeg (i + 2))), .int (xs (Int32.toNatClampNeg (i + 3)))]) (rest := []) ⟨hx, hb, hml, hown, hq⟩ (cc_Face_seen l D cT tt z z (Nat.le_refl z) gb_N σ (xs (Int32.toNatClampNeg (i + 1))) (xs (Int32.toNatClampNeg (i + 2))) (xs (Int32.toNatClampNeg (i + 3))) σ2 ra ec) (cwV 3 hq (gb_gV w_663 w_664 w_665 w_1 w_666) rfl rfl rfl (by decide +kernel) ⟨Nat.le_of_ble_eq_true rfl, Nat.le_of_ble_eq_true rfl⟩) (gb_preV (r := (RX11, TX11, 10)) (ci := 9) (q0 := 0) hSt2.1 hPc rfl (gb_at z rfl) hS (fun q h => h) hPc) rfl rfl hl.1 rfl (lv_room (Nat.le_of_ble_eq_true rfl)) dL_law_1049 ⟨Nat.le_of_ble_eq_true rfl, Nat.le_of_ble_eq_true rfl⟩) hS (fun q h => h.1) (fun q h => h.1) (fun rc H2 locs2 hY hk hS => ?_)
  obtain ⟨hr_, hY⟩ := hY
  subst hr_
  have hPm := gb_kept hPm (fun q h1 h2 => hk q (Nat.lt_of_lt_of_le h2 ((hPm 21 _ (gb_at (z + 135) rfl)).lt)) (fun h3 => Nat.not_lt.mpr h1 h3.2))
  have hPc := hY
  clear hY
  refine lv_pop hx hb dL_law_1052 rfl ?_
  refine lv_aload_n hx hb dL_law_1053 rfl (lv_at hl 1 rfl) ?_
  refine lv_aload_n hx hb dL_law_1054 rfl (lv_at hl 3 rfl) ?_
  refine lv_iload_n hx hb dL_law_1055 rfl (lv_at hl 0 rfl) ?_
  refine lv_iconst (v := 1) hx hb dL_law_1056 (by decide) ?_
  refine lv_iadd hx hb dL_law_1057 ?_
  refine va_sld hx hb hX hbl hbA hS h1 dL_law_1058 ?_
  refine lv_aload_n hx hb dL_law_1059 rfl (lv_at hl 3 rfl) ?_
  refine lv_iload_n hx hb dL_law_1060 rfl (lv_at hl 0 rfl) ?_
  refine lv_iconst (v := 2) hx hb dL_law_1061 (by decide) ?_
  refine lv_iadd hx hb dL_law_1062 ?_
  refine va_sld hx hb hX hbl hbA hS h2 dL_law_1063 ?_
  refine lv_aload_n hx hb dL_law_1064 rfl (lv_at hl 3 rfl) ?_
  refine lv_iload_n hx hb dL_law_1065 rfl (lv_at hl 0 rfl) ?_
  refine lv_iconst (v := 3) hx hb dL_law_1066 (by decide) ?_
  refine lv_iadd hx hb dL_law_1067 ?_
  refine va_sld hx hb hX hbl hbA hS h3 dL_law_1068 ?_
  refine gb_calli (va_runV (C := RX12) (As := [.int (xs (Int32.toNatClampNeg (i + 1))), .int (xs (Int32.toNatClampNeg (i + 2))), .int (xs (Int32.toNatClampNeg (i + 3)))]) (rest := []) ⟨hx, hb, hml, hown, hq⟩ (mc_seen l D cT tt z (z + 135) (Nat.le_add_right z 135) gb_N f w (xs (Int32.toNatClampNeg (i + 1))) (xs (Int32.toNatClampNeg (i + 2))) (xs (Int32.toNatClampNeg (i + 3))) f2 w2 qa em) (cwV 3 hq (gb_gV w_1596 w_1597 w_1598 w_14 w_1599) rfl rfl rfl (by decide +kernel) ⟨Nat.le_of_ble_eq_true rfl, Nat.le_of_ble_eq_true rfl⟩) (gb_preV (r := (RX12, TX12, 44)) (ci := 10) (q0 := 0) hSt2.1 hPm rfl (gb_at (z + 135) rfl) hS (fun q h => h) hPm) rfl rfl hl.1 rfl (lv_room (Nat.le_of_ble_eq_true rfl)) dL_law_1069 ⟨Nat.le_of_ble_eq_true rfl, Nat.le_of_ble_eq_true rfl⟩) hS (fun q h => Nat.le_trans (Nat.le_add_right z 135) h.1) (fun q h => Nat.le_trans (Nat.le_add_right z 135) h.1) (fun rm H2 locs2 hY hk hS => ?_)
  obtain ⟨hr_, hY⟩ := hY
  subst hr_
  have hPc := gb_kept hPc (fun q h1 h2 => hk q (Nat.lt_of_lt_of_le h2 (Nat.le_of_lt (Nat.lt_of_le_of_lt (Nat.le_add_right (z + 135) 21) ((hPm 21 _ (gb_at (z + 135) rfl)).lt)))) (fun h3 => Nat.not_lt.mpr h3.1 h2))
  have hPm := hY
  clear hY
  refine lv_pop hx hb dL_law_1072 rfl ?_
  refine lv_goto (tgt := 1890) hx hb dL_law_1073 (by decide) ?_
  exact hend _ _ _ _ _ _ hI2 hPc hPm hS hl
