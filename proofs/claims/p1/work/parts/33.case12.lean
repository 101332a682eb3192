theorem dL_law_742 : decode cL_law 742 = .ok (.aload_n 1, 1) := by decide +kernel
theorem dL_law_743 : decode cL_law 743 = .ok (.aload_n 0, 1) := by decide +kernel
theorem dL_law_744 : decode cL_law 744 = .ok (.iload_n 3, 1) := by decide +kernel
theorem dL_law_745 : decode cL_law 745 = .ok (.iconst 1, 1) := by decide +kernel
theorem dL_law_746 : decode cL_law 746 = .ok (.iadd, 1) := by decide +kernel
theorem dL_law_747 : decode cL_law 747 = .ok (.iaload, 1) := by decide +kernel
theorem dL_law_748 : decode cL_law 748 = .ok (.aload_n 0, 1) := by decide +kernel
theorem dL_law_749 : decode cL_law 749 = .ok (.iload_n 3, 1) := by decide +kernel
theorem dL_law_750 : decode cL_law 750 = .ok (.iconst 2, 1) := by decide +kernel
theorem dL_law_751 : decode cL_law 751 = .ok (.iadd, 1) := by decide +kernel
theorem dL_law_752 : decode cL_law 752 = .ok (.iaload, 1) := by decide +kernel
theorem dL_law_753 : decode cL_law 753 = .ok (.invokevirtual 67, 3) := by decide +kernel
theorem w_671 : (Cond.methodLink "GooseBorderLaw" (67 : Nat) ({ cls := "GooseBorder", name := "pays", desc := "(II)I" } : MethodName)) ∈ gb_wA := gb_t3 191 rfl rfl
theorem w_672 : (Cond.instanceMethod ({ cls := "GooseBorder", name := "pays", desc := "(II)I" } : MethodName)) ∈ gb_wA := gb_t3 192 rfl rfl
theorem w_673 : (Cond.selects "GooseBorder" ({ cls := "GooseBorder", name := "pays", desc := "(II)I" } : MethodName) ({ cls := "GooseBorder", name := "pays", desc := "(II)I" } : MethodName)) ∈ gb_wA := gb_t3 193 rfl rfl
theorem w_674 : (Cond.code ({ cls := "GooseBorder", name := "pays", desc := "(II)I" } : MethodName) prog_1_method_14_code (4 : Nat) (Option.some FieldType.int)) ∈ gb_wA := gb_t3 194 rfl rfl
theorem dL_law_756 : decode cL_law 756 = .ok (.aload_n 2, 1) := by decide +kernel
theorem dL_law_757 : decode cL_law 757 = .ok (.aload_n 0, 1) := by decide +kernel
theorem dL_law_758 : decode cL_law 758 = .ok (.iload_n 3, 1) := by decide +kernel
theorem dL_law_759 : decode cL_law 759 = .ok (.iconst 1, 1) := by decide +kernel
theorem dL_law_760 : decode cL_law 760 = .ok (.iadd, 1) := by decide +kernel
theorem dL_law_761 : decode cL_law 761 = .ok (.iaload, 1) := by decide +kernel
theorem dL_law_762 : decode cL_law 762 = .ok (.aload_n 0, 1) := by decide +kernel
theorem dL_law_763 : decode cL_law 763 = .ok (.iload_n 3, 1) := by decide +kernel
theorem dL_law_764 : decode cL_law 764 = .ok (.iconst 2, 1) := by decide +kernel
theorem dL_law_765 : decode cL_law 765 = .ok (.iadd, 1) := by decide +kernel
theorem dL_law_766 : decode cL_law 766 = .ok (.iaload, 1) := by decide +kernel
theorem dL_law_767 : decode cL_law 767 = .ok (.invokevirtual 70, 3) := by decide +kernel
theorem w_1508 : (Cond.methodLink "GooseBorderLaw" (70 : Nat) ({ cls := "GooseBorderModel", name := "pays", desc := "(II)I" } : MethodName)) ∈ gb_wA := gb_t7 68 rfl rfl
theorem w_1509 : (Cond.instanceMethod ({ cls := "GooseBorderModel", name := "pays", desc := "(II)I" } : MethodName)) ∈ gb_wA := gb_t7 69 rfl rfl
theorem w_1510 : (Cond.selects "GooseBorderModel" ({ cls := "GooseBorderModel", name := "pays", desc := "(II)I" } : MethodName) ({ cls := "GooseBorderModel", name := "pays", desc := "(II)I" } : MethodName)) ∈ gb_wA := gb_t7 70 rfl rfl
theorem w_1511 : (Cond.code ({ cls := "GooseBorderModel", name := "pays", desc := "(II)I" } : MethodName) prog_14_method_68_code (3 : Nat) (Option.some FieldType.int)) ∈ gb_wA := gb_t7 71 rfl rfl
theorem dL_law_770 : decode cL_law 770 = .ok (.if_icmp .eq 1121, 3) := by decide +kernel
set_option maxHeartbeats 4000000 in
set_option maxRecDepth 100000 in
theorem law_c12 {p : Program} {l : Launch} {e : Env} {s : State} {m : MethodId} {below : List Frame} {meth : Method} {c : Code} {b z : Nat} {xs : Nat → Int32} (C0 : lw_At p s m meth c b 6 xs) (hzz : Array.size s.heap = z) {D : va_G} {cT : Nat → ClassId} {tt : Nat → Nat} (hSt : gb_St D cT tt z s) {H : Heap} {locs : List Loc} {ls : Array Slot} (hPc : va_P D vwCl (gb_wl z (gb_C cT z)) H) (hPm : va_P D vwCl (gb_wl (z + 135) (gb_M cT (z + 135))) H) (hS : va_S (gb_ge z) s.heap H locs) (hl : lv_has ls 4 [(3, .int 0), (2, .ref (z + 135 + 0)), (1, .ref (z + 0)), (0, .ref b)]) : W p l e room_1 s m #[Value.ref b] below meth c H locs 157 10381 (lw_Z below #[Value.ref b] s) (F0 m 742 ls []) := by
  have C1 := C0
  obtain ⟨hx, hb, hr, hml, hown, hts, hX, hbl, hlocks, hgv⟩ := C0
  have hq : ∀ w ∈ gb_wA, w.before #[Value.ref b] s = true := fun w h => hts w (gb_wA_tbl w h)
  have hbA : ¬ gb_ge z b := Nat.not_le.mpr (by rw [← hzz]; exact hbl)
  refine lv_aload_n hx hb dL_law_742 rfl (lv_at hl 2 rfl) ?_
  refine lv_aload_n hx hb dL_law_743 rfl (lv_at hl 3 rfl) ?_
  refine lv_iload_n hx hb dL_law_744 rfl (lv_at hl 0 rfl) ?_
  refine lv_iconst (v := 1) hx hb dL_law_745 (by decide) ?_
  refine lv_iadd hx hb dL_law_746 ?_
  refine W.eq (g2 := F0 m 747 ls [.int 1, .ref b, .ref (z + 0)]) (congrArg (fun v => F0 m 747 ls (Value.int v :: [.ref b, .ref (z + 0)])) (show (0 : Int32) + 1 = 1 by decide)) ?_
  refine va_sld hx hb hX hbl hbA hS (gb_in rfl) dL_law_747 ?_
  refine lv_aload_n hx hb dL_law_748 rfl (lv_at hl 3 rfl) ?_
  refine lv_iload_n hx hb dL_law_749 rfl (lv_at hl 0 rfl) ?_
  refine lv_iconst (v := 2) hx hb dL_law_750 (by decide) ?_
  refine lv_iadd hx hb dL_law_751 ?_
  refine W.eq (g2 := F0 m 752 ls [.int 2, .ref b, .int (xs (Int32.toNatClampNeg 1)), .ref (z + 0)]) (congrArg (fun v => F0 m 752 ls (Value.int v :: [.ref b, .int (xs (Int32.toNatClampNeg 1)), .ref (z + 0)])) (show (0 : Int32) + 2 = 2 by decide)) ?_
  refine va_sld hx hb hX hbl hbA hS (gb_in rfl) dL_law_752 ?_
  refine gb_calli (va_runV (C := RX11) (As := [.int (xs (Int32.toNatClampNeg 1)), .int (xs (Int32.toNatClampNeg 2))]) (rest := []) ⟨hx, hb, hml, hown, hq⟩ (a_X11_pays l D cT tt z z (Nat.le_refl z) (xs (Int32.toNatClampNeg 1)) (xs (Int32.toNatClampNeg 2))) (cwV 2 hq (gb_gV w_671 w_672 w_673 w_1 w_674) rfl rfl rfl (by decide +kernel) ⟨Nat.le_of_ble_eq_true rfl, Nat.le_of_ble_eq_true rfl⟩) (gb_preV (r := (RX11, TX11, 10)) (ci := 9) (q0 := 0) hSt hPc rfl (gb_at z rfl) hS (fun q h => h) hPc) rfl rfl hl.1 rfl (lv_room (Nat.le_of_ble_eq_true rfl)) dL_law_753 ⟨Nat.le_of_ble_eq_true rfl, Nat.le_of_ble_eq_true rfl⟩) hS (fun q h => h.1) (fun q h => h.1) (fun r H locs hY hk hS => ?_)
  subst hY
  have hPm := gb_kept hPm (fun q h1 h2 => hk q (Nat.lt_of_lt_of_le h2 ((hPm 21 _ (gb_at (z + 135) rfl)).lt)) (fun h3 => Nat.not_lt.mpr h1 h3.2))
  refine lv_aload_n hx hb dL_law_756 rfl (lv_at hl 1 rfl) ?_
  refine lv_aload_n hx hb dL_law_757 rfl (lv_at hl 3 rfl) ?_
  refine lv_iload_n hx hb dL_law_758 rfl (lv_at hl 0 rfl) ?_
  refine lv_iconst (v := 1) hx hb dL_law_759 (by decide) ?_
  refine lv_iadd hx hb dL_law_760 ?_
  refine W.eq (g2 := F0 m 761 ls [.int 1, .ref b, .ref (z + 135 + 0), .int (-1)]) (congrArg (fun v => F0 m 761 ls (Value.int v :: [.ref b, .ref (z + 135 + 0), .int (-1)])) (show (0 : Int32) + 1 = 1 by decide)) ?_
  refine va_sld hx hb hX hbl hbA hS (gb_in rfl) dL_law_761 ?_
  refine lv_aload_n hx hb dL_law_762 rfl (lv_at hl 3 rfl) ?_
  refine lv_iload_n hx hb dL_law_763 rfl (lv_at hl 0 rfl) ?_
  refine lv_iconst (v := 2) hx hb dL_law_764 (by decide) ?_
  refine lv_iadd hx hb dL_law_765 ?_
  refine W.eq (g2 := F0 m 766 ls [.int 2, .ref b, .int (xs (Int32.toNatClampNeg 1)), .ref (z + 135 + 0), .int (-1)]) (congrArg (fun v => F0 m 766 ls (Value.int v :: [.ref b, .int (xs (Int32.toNatClampNeg 1)), .ref (z + 135 + 0), .int (-1)])) (show (0 : Int32) + 2 = 2 by decide)) ?_
  refine va_sld hx hb hX hbl hbA hS (gb_in rfl) dL_law_766 ?_
  refine gb_calli (va_runV (C := RX12) (As := [.int (xs (Int32.toNatClampNeg 1)), .int (xs (Int32.toNatClampNeg 2))]) (rest := [.int (-1)]) ⟨hx, hb, hml, hown, hq⟩ (a_X12_pays l D cT tt z (z + 135) (Nat.le_add_right z 135) (xs (Int32.toNatClampNeg 1)) (xs (Int32.toNatClampNeg 2))) (cwV 2 hq (gb_gV w_1508 w_1509 w_1510 w_14 w_1511) rfl rfl rfl (by decide +kernel) ⟨Nat.le_of_ble_eq_true rfl, Nat.le_of_ble_eq_true rfl⟩) (gb_preV (r := (RX12, TX12, 44)) (ci := 10) (q0 := 0) hSt hPm rfl (gb_at (z + 135) rfl) hS (fun q h => h) hPm) rfl rfl hl.1 rfl (lv_room (Nat.le_of_ble_eq_true rfl)) dL_law_767 ⟨Nat.le_of_ble_eq_true rfl, Nat.le_of_ble_eq_true rfl⟩) hS (fun q h => Nat.le_trans (Nat.le_add_right z 135) h.1) (fun q h => Nat.le_trans (Nat.le_add_right z 135) h.1) (fun r H locs hY hk hS => ?_)
  subst hY
  refine lv_icmp_eq (tgt := 1891) hx hb dL_law_770 (by decide) (fun _ => ?_) (fun hc => absurd rfl hc)
  exact law_end C1 hzz hS (lv_sub hl [0, 3] rfl)
theorem dL_law_775 : decode cL_law 775 = .ok (.aload_n 1, 1) := by decide +kernel
theorem dL_law_776 : decode cL_law 776 = .ok (.aload_n 0, 1) := by decide +kernel
theorem dL_law_777 : decode cL_law 777 = .ok (.iload_n 3, 1) := by decide +kernel
theorem dL_law_778 : decode cL_law 778 = .ok (.iconst 1, 1) := by decide +kernel
theorem dL_law_779 : decode cL_law 779 = .ok (.iadd, 1) := by decide +kernel
theorem dL_law_780 : decode cL_law 780 = .ok (.iaload, 1) := by decide +kernel
theorem dL_law_781 : decode cL_law 781 = .ok (.aload_n 0, 1) := by decide +kernel
theorem dL_law_782 : decode cL_law 782 = .ok (.iload_n 3, 1) := by decide +kernel
theorem dL_law_783 : decode cL_law 783 = .ok (.iconst 2, 1) := by decide +kernel
theorem dL_law_784 : decode cL_law 784 = .ok (.iadd, 1) := by decide +kernel
theorem dL_law_785 : decode cL_law 785 = .ok (.iaload, 1) := by decide +kernel
theorem dL_law_786 : decode cL_law 786 = .ok (.invokevirtual 71, 3) := by decide +kernel
theorem w_881 : (Cond.methodLink "GooseBorderLaw" (71 : Nat) ({ cls := "GooseBorder", name := "even", desc := "(II)I" } : MethodName)) ∈ gb_wA := gb_t4 161 rfl rfl
theorem w_882 : (Cond.instanceMethod ({ cls := "GooseBorder", name := "even", desc := "(II)I" } : MethodName)) ∈ gb_wA := gb_t4 162 rfl rfl
theorem w_883 : (Cond.selects "GooseBorder" ({ cls := "GooseBorder", name := "even", desc := "(II)I" } : MethodName) ({ cls := "GooseBorder", name := "even", desc := "(II)I" } : MethodName)) ∈ gb_wA := gb_t4 163 rfl rfl
theorem w_884 : (Cond.code ({ cls := "GooseBorder", name := "even", desc := "(II)I" } : MethodName) prog_1_method_32_code (4 : Nat) (Option.some FieldType.int)) ∈ gb_wA := gb_t4 164 rfl rfl
theorem dL_law_789 : decode cL_law 789 = .ok (.aload_n 2, 1) := by decide +kernel
theorem dL_law_790 : decode cL_law 790 = .ok (.aload_n 0, 1) := by decide +kernel
theorem dL_law_791 : decode cL_law 791 = .ok (.iload_n 3, 1) := by decide +kernel
theorem dL_law_792 : decode cL_law 792 = .ok (.iconst 1, 1) := by decide +kernel
theorem dL_law_793 : decode cL_law 793 = .ok (.iadd, 1) := by decide +kernel
theorem dL_law_794 : decode cL_law 794 = .ok (.iaload, 1) := by decide +kernel
theorem dL_law_795 : decode cL_law 795 = .ok (.aload_n 0, 1) := by decide +kernel
theorem dL_law_796 : decode cL_law 796 = .ok (.iload_n 3, 1) := by decide +kernel
theorem dL_law_797 : decode cL_law 797 = .ok (.iconst 2, 1) := by decide +kernel
theorem dL_law_798 : decode cL_law 798 = .ok (.iadd, 1) := by decide +kernel
theorem dL_law_799 : decode cL_law 799 = .ok (.iaload, 1) := by decide +kernel
theorem dL_law_800 : decode cL_law 800 = .ok (.invokevirtual 74, 3) := by decide +kernel
theorem w_1516 : (Cond.methodLink "GooseBorderLaw" (74 : Nat) ({ cls := "GooseBorderModel", name := "even", desc := "(II)I" } : MethodName)) ∈ gb_wA := gb_t7 76 rfl rfl
theorem w_1517 : (Cond.instanceMethod ({ cls := "GooseBorderModel", name := "even", desc := "(II)I" } : MethodName)) ∈ gb_wA := gb_t7 77 rfl rfl
theorem w_1518 : (Cond.selects "GooseBorderModel" ({ cls := "GooseBorderModel", name := "even", desc := "(II)I" } : MethodName) ({ cls := "GooseBorderModel", name := "even", desc := "(II)I" } : MethodName)) ∈ gb_wA := gb_t7 78 rfl rfl
theorem w_1519 : (Cond.code ({ cls := "GooseBorderModel", name := "even", desc := "(II)I" } : MethodName) prog_14_method_77_code (4 : Nat) (Option.some FieldType.int)) ∈ gb_wA := gb_t7 79 rfl rfl
theorem dL_law_803 : decode cL_law 803 = .ok (.if_icmp .eq 1088, 3) := by decide +kernel
set_option maxHeartbeats 4000000 in
set_option maxRecDepth 100000 in
theorem law_c13 {p : Program} {l : Launch} {e : Env} {s : State} {m : MethodId} {below : List Frame} {meth : Method} {c : Code} {b z : Nat} {xs : Nat → Int32} (C0 : lw_At p s m meth c b 6 xs) (hzz : Array.size s.heap = z) {D : va_G} {cT : Nat → ClassId} {tt : Nat → Nat} (hSt : gb_St D cT tt z s) {H : Heap} {locs : List Loc} {ls : Array Slot} (hPc : va_P D vwCl (gb_wl z (gb_C cT z)) H) (hPm : va_P D vwCl (gb_wl (z + 135) (gb_M cT (z + 135))) H) (hS : va_S (gb_ge z) s.heap H locs) (hl : lv_has ls 4 [(3, .int 0), (2, .ref (z + 135 + 0)), (1, .ref (z + 0)), (0, .ref b)]) : W p l e room_1 s m #[Value.ref b] below meth c H locs 157 10381 (lw_Z below #[Value.ref b] s) (F0 m 775 ls []) := by
  have C1 := C0
  obtain ⟨hx, hb, hr, hml, hown, hts, hX, hbl, hlocks, hgv⟩ := C0
  have hq : ∀ w ∈ gb_wA, w.before #[Value.ref b] s = true := fun w h => hts w (gb_wA_tbl w h)
  have hbA : ¬ gb_ge z b := Nat.not_le.mpr (by rw [← hzz]; exact hbl)
  refine lv_aload_n hx hb dL_law_775 rfl (lv_at hl 2 rfl) ?_
  refine lv_aload_n hx hb dL_law_776 rfl (lv_at hl 3 rfl) ?_
  refine lv_iload_n hx hb dL_law_777 rfl (lv_at hl 0 rfl) ?_
  refine lv_iconst (v := 1) hx hb dL_law_778 (by decide) ?_
  refine lv_iadd hx hb dL_law_779 ?_
  refine W.eq (g2 := F0 m 780 ls [.int 1, .ref b, .ref (z + 0)]) (congrArg (fun v => F0 m 780 ls (Value.int v :: [.ref b, .ref (z + 0)])) (show (0 : Int32) + 1 = 1 by decide)) ?_
  refine va_sld hx hb hX hbl hbA hS (gb_in rfl) dL_law_780 ?_
  refine lv_aload_n hx hb dL_law_781 rfl (lv_at hl 3 rfl) ?_
  refine lv_iload_n hx hb dL_law_782 rfl (lv_at hl 0 rfl) ?_
  refine lv_iconst (v := 2) hx hb dL_law_783 (by decide) ?_
  refine lv_iadd hx hb dL_law_784 ?_
  refine W.eq (g2 := F0 m 785 ls [.int 2, .ref b, .int (xs (Int32.toNatClampNeg 1)), .ref (z + 0)]) (congrArg (fun v => F0 m 785 ls (Value.int v :: [.ref b, .int (xs (Int32.toNatClampNeg 1)), .ref (z + 0)])) (show (0 : Int32) + 2 = 2 by decide)) ?_
  refine va_sld hx hb hX hbl hbA hS (gb_in rfl) dL_law_785 ?_
  refine gb_calli (va_runV (C := RX11) (As := [.int (xs (Int32.toNatClampNeg 1)), .int (xs (Int32.toNatClampNeg 2))]) (rest := []) ⟨hx, hb, hml, hown, hq⟩ (a_X11_even l D cT tt z z (Nat.le_refl z) (xs (Int32.toNatClampNeg 1)) (xs (Int32.toNatClampNeg 2))) (cwV 2 hq (gb_gV w_881 w_882 w_883 w_1 w_884) rfl rfl rfl (by decide +kernel) ⟨Nat.le_of_ble_eq_true rfl, Nat.le_of_ble_eq_true rfl⟩) (gb_preV (r := (RX11, TX11, 10)) (ci := 9) (q0 := 0) hSt hPc rfl (gb_at z rfl) hS (fun q h => h) hPc) rfl rfl hl.1 rfl (lv_room (Nat.le_of_ble_eq_true rfl)) dL_law_786 ⟨Nat.le_of_ble_eq_true rfl, Nat.le_of_ble_eq_true rfl⟩) hS (fun q h => h.1) (fun q h => h.1) (fun r H locs hY hk hS => ?_)
  subst hY
  have hPm := gb_kept hPm (fun q h1 h2 => hk q (Nat.lt_of_lt_of_le h2 ((hPm 21 _ (gb_at (z + 135) rfl)).lt)) (fun h3 => Nat.not_lt.mpr h1 h3.2))
  refine lv_aload_n hx hb dL_law_789 rfl (lv_at hl 1 rfl) ?_
  refine lv_aload_n hx hb dL_law_790 rfl (lv_at hl 3 rfl) ?_
  refine lv_iload_n hx hb dL_law_791 rfl (lv_at hl 0 rfl) ?_
  refine lv_iconst (v := 1) hx hb dL_law_792 (by decide) ?_
  refine lv_iadd hx hb dL_law_793 ?_
  refine W.eq (g2 := F0 m 794 ls [.int 1, .ref b, .ref (z + 135 + 0), .int (-1)]) (congrArg (fun v => F0 m 794 ls (Value.int v :: [.ref b, .ref (z + 135 + 0), .int (-1)])) (show (0 : Int32) + 1 = 1 by decide)) ?_
  refine va_sld hx hb hX hbl hbA hS (gb_in rfl) dL_law_794 ?_
  refine lv_aload_n hx hb dL_law_795 rfl (lv_at hl 3 rfl) ?_
  refine lv_iload_n hx hb dL_law_796 rfl (lv_at hl 0 rfl) ?_
  refine lv_iconst (v := 2) hx hb dL_law_797 (by decide) ?_
  refine lv_iadd hx hb dL_law_798 ?_
  refine W.eq (g2 := F0 m 799 ls [.int 2, .ref b, .int (xs (Int32.toNatClampNeg 1)), .ref (z + 135 + 0), .int (-1)]) (congrArg (fun v => F0 m 799 ls (Value.int v :: [.ref b, .int (xs (Int32.toNatClampNeg 1)), .ref (z + 135 + 0), .int (-1)])) (show (0 : Int32) + 2 = 2 by decide)) ?_
  refine va_sld hx hb hX hbl hbA hS (gb_in rfl) dL_law_799 ?_
  refine gb_calli (va_runV (C := RX12) (As := [.int (xs (Int32.toNatClampNeg 1)), .int (xs (Int32.toNatClampNeg 2))]) (rest := [.int (-1)]) ⟨hx, hb, hml, hown, hq⟩ (a_X12_even l D cT tt z (z + 135) (Nat.le_add_right z 135) (xs (Int32.toNatClampNeg 1)) (xs (Int32.toNatClampNeg 2))) (cwV 2 hq (gb_gV w_1516 w_1517 w_1518 w_14 w_1519) rfl rfl rfl (by decide +kernel) ⟨Nat.le_of_ble_eq_true rfl, Nat.le_of_ble_eq_true rfl⟩) (gb_preV (r := (RX12, TX12, 44)) (ci := 10) (q0 := 0) hSt hPm rfl (gb_at (z + 135) rfl) hS (fun q h => h) hPm) rfl rfl hl.1 rfl (lv_room (Nat.le_of_ble_eq_true rfl)) dL_law_800 ⟨Nat.le_of_ble_eq_true rfl, Nat.le_of_ble_eq_true rfl⟩) hS (fun q h => Nat.le_trans (Nat.le_add_right z 135) h.1) (fun q h => Nat.le_trans (Nat.le_add_right z 135) h.1) (fun r H locs hY hk hS => ?_)
  subst hY
  refine lv_icmp_eq (tgt := 1891) hx hb dL_law_803 (by decide) (fun _ => ?_) (fun hc => absurd rfl hc)
  exact law_end C1 hzz hS (lv_sub hl [0, 3] rfl)
theorem dL_law_808 : decode cL_law 808 = .ok (.aload_n 1, 1) := by decide +kernel
theorem dL_law_809 : decode cL_law 809 = .ok (.aload_n 0, 1) := by decide +kernel
theorem dL_law_810 : decode cL_law 810 = .ok (.iload_n 3, 1) := by decide +kernel
theorem dL_law_811 : decode cL_law 811 = .ok (.iconst 1, 1) := by decide +kernel
theorem dL_law_812 : decode cL_law 812 = .ok (.iadd, 1) := by decide +kernel
theorem dL_law_813 : decode cL_law 813 = .ok (.iaload, 1) := by decide +kernel
theorem dL_law_814 : decode cL_law 814 = .ok (.aload_n 0, 1) := by decide +kernel
theorem dL_law_815 : decode cL_law 815 = .ok (.iload_n 3, 1) := by decide +kernel
theorem dL_law_816 : decode cL_law 816 = .ok (.iconst 2, 1) := by decide +kernel
theorem dL_law_817 : decode cL_law 817 = .ok (.iadd, 1) := by decide +kernel
theorem dL_law_818 : decode cL_law 818 = .ok (.iaload, 1) := by decide +kernel
theorem dL_law_819 : decode cL_law 819 = .ok (.aload_n 0, 1) := by decide +kernel
theorem dL_law_820 : decode cL_law 820 = .ok (.iload_n 3, 1) := by decide +kernel
theorem dL_law_821 : decode cL_law 821 = .ok (.iconst 3, 1) := by decide +kernel
theorem dL_law_822 : decode cL_law 822 = .ok (.iadd, 1) := by decide +kernel
theorem dL_law_823 : decode cL_law 823 = .ok (.iaload, 1) := by decide +kernel
theorem dL_law_824 : decode cL_law 824 = .ok (.invokevirtual 75, 3) := by decide +kernel
theorem w_935 : (Cond.methodLink "GooseBorderLaw" (75 : Nat) ({ cls := "GooseBorder", name := "richest", desc := "(III)I" } : MethodName)) ∈ gb_wA := gb_t4 215 rfl rfl
theorem w_936 : (Cond.instanceMethod ({ cls := "GooseBorder", name := "richest", desc := "(III)I" } : MethodName)) ∈ gb_wA := gb_t4 216 rfl rfl
theorem w_937 : (Cond.selects "GooseBorder" ({ cls := "GooseBorder", name := "richest", desc := "(III)I" } : MethodName) ({ cls := "GooseBorder", name := "richest", desc := "(III)I" } : MethodName)) ∈ gb_wA := gb_t4 217 rfl rfl
theorem w_938 : (Cond.code ({ cls := "GooseBorder", name := "richest", desc := "(III)I" } : MethodName) prog_1_method_33_code (6 : Nat) (Option.some FieldType.int)) ∈ gb_wA := gb_t4 218 rfl rfl
theorem dL_law_827 : decode cL_law 827 = .ok (.aload_n 2, 1) := by decide +kernel
theorem dL_law_828 : decode cL_law 828 = .ok (.aload_n 0, 1) := by decide +kernel
theorem dL_law_829 : decode cL_law 829 = .ok (.iload_n 3, 1) := by decide +kernel
theorem dL_law_830 : decode cL_law 830 = .ok (.iconst 1, 1) := by decide +kernel
theorem dL_law_831 : decode cL_law 831 = .ok (.iadd, 1) := by decide +kernel
theorem dL_law_832 : decode cL_law 832 = .ok (.iaload, 1) := by decide +kernel
theorem dL_law_833 : decode cL_law 833 = .ok (.aload_n 0, 1) := by decide +kernel
theorem dL_law_834 : decode cL_law 834 = .ok (.iload_n 3, 1) := by decide +kernel
theorem dL_law_835 : decode cL_law 835 = .ok (.iconst 2, 1) := by decide +kernel
theorem dL_law_836 : decode cL_law 836 = .ok (.iadd, 1) := by decide +kernel
theorem dL_law_837 : decode cL_law 837 = .ok (.iaload, 1) := by decide +kernel
theorem dL_law_838 : decode cL_law 838 = .ok (.aload_n 0, 1) := by decide +kernel
theorem dL_law_839 : decode cL_law 839 = .ok (.iload_n 3, 1) := by decide +kernel
theorem dL_law_840 : decode cL_law 840 = .ok (.iconst 3, 1) := by decide +kernel
theorem dL_law_841 : decode cL_law 841 = .ok (.iadd, 1) := by decide +kernel
theorem dL_law_842 : decode cL_law 842 = .ok (.iaload, 1) := by decide +kernel
theorem dL_law_843 : decode cL_law 843 = .ok (.invokevirtual 78, 3) := by decide +kernel
theorem w_1556 : (Cond.methodLink "GooseBorderLaw" (78 : Nat) ({ cls := "GooseBorderModel", name := "richest", desc := "(III)I" } : MethodName)) ∈ gb_wA := gb_t7 116 rfl rfl
theorem w_1557 : (Cond.instanceMethod ({ cls := "GooseBorderModel", name := "richest", desc := "(III)I" } : MethodName)) ∈ gb_wA := gb_t7 117 rfl rfl
theorem w_1558 : (Cond.selects "GooseBorderModel" ({ cls := "GooseBorderModel", name := "richest", desc := "(III)I" } : MethodName) ({ cls := "GooseBorderModel", name := "richest", desc := "(III)I" } : MethodName)) ∈ gb_wA := gb_t7 118 rfl rfl
theorem w_1559 : (Cond.code ({ cls := "GooseBorderModel", name := "richest", desc := "(III)I" } : MethodName) prog_14_method_78_code (5 : Nat) (Option.some FieldType.int)) ∈ gb_wA := gb_t7 119 rfl rfl
theorem dL_law_846 : decode cL_law 846 = .ok (.if_icmp .eq 1045, 3) := by decide +kernel
set_option maxHeartbeats 4000000 in
set_option maxRecDepth 100000 in
theorem law_c14 {p : Program} {l : Launch} {e : Env} {s : State} {m : MethodId} {below : List Frame} {meth : Method} {c : Code} {b z : Nat} {xs : Nat → Int32} (C0 : lw_At p s m meth c b 6 xs) (hzz : Array.size s.heap = z) {D : va_G} {cT : Nat → ClassId} {tt : Nat → Nat} (hSt : gb_St D cT tt z s) {H : Heap} {locs : List Loc} {ls : Array Slot} (hPc : va_P D vwCl (gb_wl z (gb_C cT z)) H) (hPm : va_P D vwCl (gb_wl (z + 135) (gb_M cT (z + 135))) H) (hS : va_S (gb_ge z) s.heap H locs) (hl : lv_has ls 4 [(3, .int 0), (2, .ref (z + 135 + 0)), (1, .ref (z + 0)), (0, .ref b)]) : W p l e room_1 s m #[Value.ref b] below meth c H locs 157 10381 (lw_Z below #[Value.ref b] s) (F0 m 808 ls []) := by
  have C1 := C0
  obtain ⟨hx, hb, hr, hml, hown, hts, hX, hbl, hlocks, hgv⟩ := C0
  have hq : ∀ w ∈ gb_wA, w.before #[Value.ref b] s = true := fun w h => hts w (gb_wA_tbl w h)
  have hbA : ¬ gb_ge z b := Nat.not_le.mpr (by rw [← hzz]; exact hbl)
  refine lv_aload_n hx hb dL_law_808 rfl (lv_at hl 2 rfl) ?_
  refine lv_aload_n hx hb dL_law_809 rfl (lv_at hl 3 rfl) ?_
  refine lv_iload_n hx hb dL_law_810 rfl (lv_at hl 0 rfl) ?_
  refine lv_iconst (v := 1) hx hb dL_law_811 (by decide) ?_
  refine lv_iadd hx hb dL_law_812 ?_
  refine W.eq (g2 := F0 m 813 ls [.int 1, .ref b, .ref (z + 0)]) (congrArg (fun v => F0 m 813 ls (Value.int v :: [.ref b, .ref (z + 0)])) (show (0 : Int32) + 1 = 1 by decide)) ?_
  refine va_sld hx hb hX hbl hbA hS (gb_in rfl) dL_law_813 ?_
  refine lv_aload_n hx hb dL_law_814 rfl (lv_at hl 3 rfl) ?_
  refine lv_iload_n hx hb dL_law_815 rfl (lv_at hl 0 rfl) ?_
  refine lv_iconst (v := 2) hx hb dL_law_816 (by decide) ?_
  refine lv_iadd hx hb dL_law_817 ?_
  refine W.eq (g2 := F0 m 818 ls [.int 2, .ref b, .int (xs (Int32.toNatClampNeg 1)), .ref (z + 0)]) (congrArg (fun v => F0 m 818 ls (Value.int v :: [.ref b, .int (xs (Int32.toNatClampNeg 1)), .ref (z + 0)])) (show (0 : Int32) + 2 = 2 by decide)) ?_
  refine va_sld hx hb hX hbl hbA hS (gb_in rfl) dL_law_818 ?_
  refine lv_aload_n hx hb dL_law_819 rfl (lv_at hl 3 rfl) ?_
  refine lv_iload_n hx hb dL_law_820 rfl (lv_at hl 0 rfl) ?_
  refine lv_iconst (v := 3) hx hb dL_law_821 (by decide) ?_
  refine lv_iadd hx hb dL_law_822 ?_
  refine W.eq (g2 := F0 m 823 ls [.int 3, .ref b, .int (xs (Int32.toNatClampNeg 2)), .int (xs (Int32.toNatClampNeg 1)), .ref (z + 0)]) (congrArg (fun v => F0 m 823 ls (Value.int v :: [.ref b, .int (xs (Int32.toNatClampNeg 2)), .int (xs (Int32.toNatClampNeg 1)), .ref (z + 0)])) (show (0 : Int32) + 3 = 3 by decide)) ?_
  refine va_sld hx hb hX hbl hbA hS (gb_in rfl) dL_law_823 ?_
  refine gb_calli (va_runV (C := RX11) (As := [.int (xs (Int32.toNatClampNeg 1)), .int (xs (Int32.toNatClampNeg 2)), .int (xs (Int32.toNatClampNeg 3))]) (rest := []) ⟨hx, hb, hml, hown, hq⟩ (a_X11_richest l D cT tt z z (Nat.le_refl z) (xs (Int32.toNatClampNeg 1)) (xs (Int32.toNatClampNeg 2)) (xs (Int32.toNatClampNeg 3))) (cwV 3 hq (gb_gV w_935 w_936 w_937 w_1 w_938) rfl rfl rfl (by decide +kernel) ⟨Nat.le_of_ble_eq_true rfl, Nat.le_of_ble_eq_true rfl⟩) (gb_preV (r := (RX11, TX11, 10)) (ci := 9) (q0 := 0) hSt hPc rfl (gb_at z rfl) hS (fun q h => h) hPc) rfl rfl hl.1 rfl (lv_room (Nat.le_of_ble_eq_true rfl)) dL_law_824 ⟨Nat.le_of_ble_eq_true rfl, Nat.le_of_ble_eq_true rfl⟩) hS (fun q h => h.1) (fun q h => h.1) (fun r H locs hY hk hS => ?_)
  subst hY
  have hPm := gb_kept hPm (fun q h1 h2 => hk q (Nat.lt_of_lt_of_le h2 ((hPm 21 _ (gb_at (z + 135) rfl)).lt)) (fun h3 => Nat.not_lt.mpr h1 h3.2))
  refine lv_aload_n hx hb dL_law_827 rfl (lv_at hl 1 rfl) ?_
  refine lv_aload_n hx hb dL_law_828 rfl (lv_at hl 3 rfl) ?_
  refine lv_iload_n hx hb dL_law_829 rfl (lv_at hl 0 rfl) ?_
  refine lv_iconst (v := 1) hx hb dL_law_830 (by decide) ?_
  refine lv_iadd hx hb dL_law_831 ?_
  refine W.eq (g2 := F0 m 832 ls [.int 1, .ref b, .ref (z + 135 + 0), .int (-1)]) (congrArg (fun v => F0 m 832 ls (Value.int v :: [.ref b, .ref (z + 135 + 0), .int (-1)])) (show (0 : Int32) + 1 = 1 by decide)) ?_
  refine va_sld hx hb hX hbl hbA hS (gb_in rfl) dL_law_832 ?_
  refine lv_aload_n hx hb dL_law_833 rfl (lv_at hl 3 rfl) ?_
  refine lv_iload_n hx hb dL_law_834 rfl (lv_at hl 0 rfl) ?_
  refine lv_iconst (v := 2) hx hb dL_law_835 (by decide) ?_
  refine lv_iadd hx hb dL_law_836 ?_
  refine W.eq (g2 := F0 m 837 ls [.int 2, .ref b, .int (xs (Int32.toNatClampNeg 1)), .ref (z + 135 + 0), .int (-1)]) (congrArg (fun v => F0 m 837 ls (Value.int v :: [.ref b, .int (xs (Int32.toNatClampNeg 1)), .ref (z + 135 + 0), .int (-1)])) (show (0 : Int32) + 2 = 2 by decide)) ?_
  refine va_sld hx hb hX hbl hbA hS (gb_in rfl) dL_law_837 ?_
  refine lv_aload_n hx hb dL_law_838 rfl (lv_at hl 3 rfl) ?_
  refine lv_iload_n hx hb dL_law_839 rfl (lv_at hl 0 rfl) ?_
  refine lv_iconst (v := 3) hx hb dL_law_840 (by decide) ?_
  refine lv_iadd hx hb dL_law_841 ?_
  refine W.eq (g2 := F0 m 842 ls [.int 3, .ref b, .int (xs (Int32.toNatClampNeg 2)), .int (xs (Int32.toNatClampNeg 1)), .ref (z + 135 + 0), .int (-1)]) (congrArg (fun v => F0 m 842 ls (Value.int v :: [.ref b, .int (xs (Int32.toNatClampNeg 2)), .int (xs (Int32.toNatClampNeg 1)), .ref (z + 135 + 0), .int (-1)])) (show (0 : Int32) + 3 = 3 by decide)) ?_
  refine va_sld hx hb hX hbl hbA hS (gb_in rfl) dL_law_842 ?_
  refine gb_calli (va_runV (C := RX12) (As := [.int (xs (Int32.toNatClampNeg 1)), .int (xs (Int32.toNatClampNeg 2)), .int (xs (Int32.toNatClampNeg 3))]) (rest := [.int (-1)]) ⟨hx, hb, hml, hown, hq⟩ (a_X12_richest l D cT tt z (z + 135) (Nat.le_add_right z 135) (xs (Int32.toNatClampNeg 1)) (xs (Int32.toNatClampNeg 2)) (xs (Int32.toNatClampNeg 3))) (cwV 3 hq (gb_gV w_1556 w_1557 w_1558 w_14 w_1559) rfl rfl rfl (by decide +kernel) ⟨Nat.le_of_ble_eq_true rfl, Nat.le_of_ble_eq_true rfl⟩) (gb_preV (r := (RX12, TX12, 44)) (ci := 10) (q0 := 0) hSt hPm rfl (gb_at (z + 135) rfl) hS (fun q h => h) hPm) rfl rfl hl.1 rfl (lv_room (Nat.le_of_ble_eq_true rfl)) dL_law_843 ⟨Nat.le_of_ble_eq_true rfl, Nat.le_of_ble_eq_true rfl⟩) hS (fun q h => Nat.le_trans (Nat.le_add_right z 135) h.1) (fun q h => Nat.le_trans (Nat.le_add_right z 135) h.1) (fun r H locs hY hk hS => ?_)
  subst hY
  refine lv_icmp_eq (tgt := 1891) hx hb dL_law_846 (by decide) (fun _ => ?_) (fun hc => absurd rfl hc)
  exact law_end C1 hzz hS (lv_sub hl [0, 3] rfl)
theorem dL_law_851 : decode cL_law 851 = .ok (.aload_n 1, 1) := by decide +kernel
theorem dL_law_852 : decode cL_law 852 = .ok (.aload_n 0, 1) := by decide +kernel
theorem dL_law_853 : decode cL_law 853 = .ok (.iload_n 3, 1) := by decide +kernel
theorem dL_law_854 : decode cL_law 854 = .ok (.iconst 1, 1) := by decide +kernel
theorem dL_law_855 : decode cL_law 855 = .ok (.iadd, 1) := by decide +kernel
theorem dL_law_856 : decode cL_law 856 = .ok (.iaload, 1) := by decide +kernel
theorem dL_law_857 : decode cL_law 857 = .ok (.aload_n 0, 1) := by decide +kernel
theorem dL_law_858 : decode cL_law 858 = .ok (.iload_n 3, 1) := by decide +kernel
theorem dL_law_859 : decode cL_law 859 = .ok (.iconst 2, 1) := by decide +kernel
theorem dL_law_860 : decode cL_law 860 = .ok (.iadd, 1) := by decide +kernel
theorem dL_law_861 : decode cL_law 861 = .ok (.iaload, 1) := by decide +kernel
theorem dL_law_862 : decode cL_law 862 = .ok (.aload_n 0, 1) := by decide +kernel
theorem dL_law_863 : decode cL_law 863 = .ok (.iload_n 3, 1) := by decide +kernel
theorem dL_law_864 : decode cL_law 864 = .ok (.iconst 3, 1) := by decide +kernel
theorem dL_law_865 : decode cL_law 865 = .ok (.iadd, 1) := by decide +kernel
theorem dL_law_866 : decode cL_law 866 = .ok (.iaload, 1) := by decide +kernel
theorem dL_law_867 : decode cL_law 867 = .ok (.invokevirtual 79, 3) := by decide +kernel
theorem w_943 : (Cond.methodLink "GooseBorderLaw" (79 : Nat) ({ cls := "GooseBorder", name := "tar", desc := "(III)I" } : MethodName)) ∈ gb_wA := gb_t4 223 rfl rfl
theorem w_944 : (Cond.instanceMethod ({ cls := "GooseBorder", name := "tar", desc := "(III)I" } : MethodName)) ∈ gb_wA := gb_t4 224 rfl rfl
theorem w_945 : (Cond.selects "GooseBorder" ({ cls := "GooseBorder", name := "tar", desc := "(III)I" } : MethodName) ({ cls := "GooseBorder", name := "tar", desc := "(III)I" } : MethodName)) ∈ gb_wA := gb_t4 225 rfl rfl
theorem w_946 : (Cond.code ({ cls := "GooseBorder", name := "tar", desc := "(III)I" } : MethodName) prog_1_method_35_code (9 : Nat) (Option.some FieldType.int)) ∈ gb_wA := gb_t4 226 rfl rfl
theorem dL_law_870 : decode cL_law 870 = .ok (.aload_n 2, 1) := by decide +kernel
theorem dL_law_871 : decode cL_law 871 = .ok (.aload_n 0, 1) := by decide +kernel
theorem dL_law_872 : decode cL_law 872 = .ok (.iload_n 3, 1) := by decide +kernel
theorem dL_law_873 : decode cL_law 873 = .ok (.iconst 1, 1) := by decide +kernel
theorem dL_law_874 : decode cL_law 874 = .ok (.iadd, 1) := by decide +kernel
theorem dL_law_875 : decode cL_law 875 = .ok (.iaload, 1) := by decide +kernel
theorem dL_law_876 : decode cL_law 876 = .ok (.aload_n 0, 1) := by decide +kernel
theorem dL_law_877 : decode cL_law 877 = .ok (.iload_n 3, 1) := by decide +kernel
theorem dL_law_878 : decode cL_law 878 = .ok (.iconst 2, 1) := by decide +kernel
theorem dL_law_879 : decode cL_law 879 = .ok (.iadd, 1) := by decide +kernel
theorem dL_law_880 : decode cL_law 880 = .ok (.iaload, 1) := by decide +kernel
theorem dL_law_881 : decode cL_law 881 = .ok (.aload_n 0, 1) := by decide +kernel
theorem dL_law_882 : decode cL_law 882 = .ok (.iload_n 3, 1) := by decide +kernel
theorem dL_law_883 : decode cL_law 883 = .ok (.iconst 3, 1) := by decide +kernel
theorem dL_law_884 : decode cL_law 884 = .ok (.iadd, 1) := by decide +kernel
theorem dL_law_885 : decode cL_law 885 = .ok (.iaload, 1) := by decide +kernel
theorem dL_law_886 : decode cL_law 886 = .ok (.invokevirtual 82, 3) := by decide +kernel
theorem w_1560 : (Cond.methodLink "GooseBorderLaw" (82 : Nat) ({ cls := "GooseBorderModel", name := "tar", desc := "(III)I" } : MethodName)) ∈ gb_wA := gb_t7 120 rfl rfl
theorem w_1561 : (Cond.instanceMethod ({ cls := "GooseBorderModel", name := "tar", desc := "(III)I" } : MethodName)) ∈ gb_wA := gb_t7 121 rfl rfl
theorem w_1562 : (Cond.selects "GooseBorderModel" ({ cls := "GooseBorderModel", name := "tar", desc := "(III)I" } : MethodName) ({ cls := "GooseBorderModel", name := "tar", desc := "(III)I" } : MethodName)) ∈ gb_wA := gb_t7 122 rfl rfl
theorem w_1563 : (Cond.code ({ cls := "GooseBorderModel", name := "tar", desc := "(III)I" } : MethodName) prog_14_method_79_code (11 : Nat) (Option.some FieldType.int)) ∈ gb_wA := gb_t7 123 rfl rfl
theorem dL_law_889 : decode cL_law 889 = .ok (.if_icmp .eq 1002, 3) := by decide +kernel
set_option maxHeartbeats 4000000 in
set_option maxRecDepth 100000 in
theorem law_c15 {p : Program} {l : Launch} {e : Env} {s : State} {m : MethodId} {below : List Frame} {meth : Method} {c : Code} {b z : Nat} {xs : Nat → Int32} (C0 : lw_At p s m meth c b 6 xs) (hzz : Array.size s.heap = z) {D : va_G} {cT : Nat → ClassId} {tt : Nat → Nat} (hSt : gb_St D cT tt z s) {H : Heap} {locs : List Loc} {ls : Array Slot} (hPc : va_P D vwCl (gb_wl z (gb_C cT z)) H) (hPm : va_P D vwCl (gb_wl (z + 135) (gb_M cT (z + 135))) H) (hS : va_S (gb_ge z) s.heap H locs) (hl : lv_has ls 4 [(3, .int 0), (2, .ref (z + 135 + 0)), (1, .ref (z + 0)), (0, .ref b)]) : W p l e room_1 s m #[Value.ref b] below meth c H locs 157 10381 (lw_Z below #[Value.ref b] s) (F0 m 851 ls []) := by
  have C1 := C0
  obtain ⟨hx, hb, hr, hml, hown, hts, hX, hbl, hlocks, hgv⟩ := C0
  have hq : ∀ w ∈ gb_wA, w.before #[Value.ref b] s = true := fun w h => hts w (gb_wA_tbl w h)
  have hbA : ¬ gb_ge z b := Nat.not_le.mpr (by rw [← hzz]; exact hbl)
  refine lv_aload_n hx hb dL_law_851 rfl (lv_at hl 2 rfl) ?_
  refine lv_aload_n hx hb dL_law_852 rfl (lv_at hl 3 rfl) ?_
  refine lv_iload_n hx hb dL_law_853 rfl (lv_at hl 0 rfl) ?_
  refine lv_iconst (v := 1) hx hb dL_law_854 (by decide) ?_
  refine lv_iadd hx hb dL_law_855 ?_
  refine W.eq (g2 := F0 m 856 ls [.int 1, .ref b, .ref (z + 0)]) (congrArg (fun v => F0 m 856 ls (Value.int v :: [.ref b, .ref (z + 0)])) (show (0 : Int32) + 1 = 1 by decide)) ?_
  refine va_sld hx hb hX hbl hbA hS (gb_in rfl) dL_law_856 ?_
  refine lv_aload_n hx hb dL_law_857 rfl (lv_at hl 3 rfl) ?_
  refine lv_iload_n hx hb dL_law_858 rfl (lv_at hl 0 rfl) ?_
  refine lv_iconst (v := 2) hx hb dL_law_859 (by decide) ?_
  refine lv_iadd hx hb dL_law_860 ?_
  refine W.eq (g2 := F0 m 861 ls [.int 2, .ref b, .int (xs (Int32.toNatClampNeg 1)), .ref (z + 0)]) (congrArg (fun v => F0 m 861 ls (Value.int v :: [.ref b, .int (xs (Int32.toNatClampNeg 1)), .ref (z + 0)])) (show (0 : Int32) + 2 = 2 by decide)) ?_
  refine va_sld hx hb hX hbl hbA hS (gb_in rfl) dL_law_861 ?_
  refine lv_aload_n hx hb dL_law_862 rfl (lv_at hl 3 rfl) ?_
  refine lv_iload_n hx hb dL_law_863 rfl (lv_at hl 0 rfl) ?_
  refine lv_iconst (v := 3) hx hb dL_law_864 (by decide) ?_
  refine lv_iadd hx hb dL_law_865 ?_
  refine W.eq (g2 := F0 m 866 ls [.int 3, .ref b, .int (xs (Int32.toNatClampNeg 2)), .int (xs (Int32.toNatClampNeg 1)), .ref (z + 0)]) (congrArg (fun v => F0 m 866 ls (Value.int v :: [.ref b, .int (xs (Int32.toNatClampNeg 2)), .int (xs (Int32.toNatClampNeg 1)), .ref (z + 0)])) (show (0 : Int32) + 3 = 3 by decide)) ?_
  refine va_sld hx hb hX hbl hbA hS (gb_in rfl) dL_law_866 ?_
  refine gb_calli (va_runV (C := RX11) (As := [.int (xs (Int32.toNatClampNeg 1)), .int (xs (Int32.toNatClampNeg 2)), .int (xs (Int32.toNatClampNeg 3))]) (rest := []) ⟨hx, hb, hml, hown, hq⟩ (a_X11_tar l D cT tt z z (Nat.le_refl z) (xs (Int32.toNatClampNeg 1)) (xs (Int32.toNatClampNeg 2)) (xs (Int32.toNatClampNeg 3))) (cwV 3 hq (gb_gV w_943 w_944 w_945 w_1 w_946) rfl rfl rfl (by decide +kernel) ⟨Nat.le_of_ble_eq_true rfl, Nat.le_of_ble_eq_true rfl⟩) (gb_preV (r := (RX11, TX11, 10)) (ci := 9) (q0 := 0) hSt hPc rfl (gb_at z rfl) hS (fun q h => h) hPc) rfl rfl hl.1 rfl (lv_room (Nat.le_of_ble_eq_true rfl)) dL_law_867 ⟨Nat.le_of_ble_eq_true rfl, Nat.le_of_ble_eq_true rfl⟩) hS (fun q h => h.1) (fun q h => h.1) (fun r H locs hY hk hS => ?_)
  subst hY
  have hPm := gb_kept hPm (fun q h1 h2 => hk q (Nat.lt_of_lt_of_le h2 ((hPm 21 _ (gb_at (z + 135) rfl)).lt)) (fun h3 => Nat.not_lt.mpr h1 h3.2))
  refine lv_aload_n hx hb dL_law_870 rfl (lv_at hl 1 rfl) ?_
  refine lv_aload_n hx hb dL_law_871 rfl (lv_at hl 3 rfl) ?_
  refine lv_iload_n hx hb dL_law_872 rfl (lv_at hl 0 rfl) ?_
  refine lv_iconst (v := 1) hx hb dL_law_873 (by decide) ?_
  refine lv_iadd hx hb dL_law_874 ?_
  refine W.eq (g2 := F0 m 875 ls [.int 1, .ref b, .ref (z + 135 + 0), .int (-1)]) (congrArg (fun v => F0 m 875 ls (Value.int v :: [.ref b, .ref (z + 135 + 0), .int (-1)])) (show (0 : Int32) + 1 = 1 by decide)) ?_
  refine va_sld hx hb hX hbl hbA hS (gb_in rfl) dL_law_875 ?_
  refine lv_aload_n hx hb dL_law_876 rfl (lv_at hl 3 rfl) ?_
  refine lv_iload_n hx hb dL_law_877 rfl (lv_at hl 0 rfl) ?_
  refine lv_iconst (v := 2) hx hb dL_law_878 (by decide) ?_
  refine lv_iadd hx hb dL_law_879 ?_
  refine W.eq (g2 := F0 m 880 ls [.int 2, .ref b, .int (xs (Int32.toNatClampNeg 1)), .ref (z + 135 + 0), .int (-1)]) (congrArg (fun v => F0 m 880 ls (Value.int v :: [.ref b, .int (xs (Int32.toNatClampNeg 1)), .ref (z + 135 + 0), .int (-1)])) (show (0 : Int32) + 2 = 2 by decide)) ?_
  refine va_sld hx hb hX hbl hbA hS (gb_in rfl) dL_law_880 ?_
  refine lv_aload_n hx hb dL_law_881 rfl (lv_at hl 3 rfl) ?_
  refine lv_iload_n hx hb dL_law_882 rfl (lv_at hl 0 rfl) ?_
  refine lv_iconst (v := 3) hx hb dL_law_883 (by decide) ?_
  refine lv_iadd hx hb dL_law_884 ?_
  refine W.eq (g2 := F0 m 885 ls [.int 3, .ref b, .int (xs (Int32.toNatClampNeg 2)), .int (xs (Int32.toNatClampNeg 1)), .ref (z + 135 + 0), .int (-1)]) (congrArg (fun v => F0 m 885 ls (Value.int v :: [.ref b, .int (xs (Int32.toNatClampNeg 2)), .int (xs (Int32.toNatClampNeg 1)), .ref (z + 135 + 0), .int (-1)])) (show (0 : Int32) + 3 = 3 by decide)) ?_
  refine va_sld hx hb hX hbl hbA hS (gb_in rfl) dL_law_885 ?_
  refine gb_calli (va_runV (C := RX12) (As := [.int (xs (Int32.toNatClampNeg 1)), .int (xs (Int32.toNatClampNeg 2)), .int (xs (Int32.toNatClampNeg 3))]) (rest := [.int (-1)]) ⟨hx, hb, hml, hown, hq⟩ (a_X12_tar l D cT tt z (z + 135) (Nat.le_add_right z 135) (xs (Int32.toNatClampNeg 1)) (xs (Int32.toNatClampNeg 2)) (xs (Int32.toNatClampNeg 3))) (cwV 3 hq (gb_gV w_1560 w_1561 w_1562 w_14 w_1563) rfl rfl rfl (by decide +kernel) ⟨Nat.le_of_ble_eq_true rfl, Nat.le_of_ble_eq_true rfl⟩) (gb_preV (r := (RX12, TX12, 44)) (ci := 10) (q0 := 0) hSt hPm rfl (gb_at (z + 135) rfl) hS (fun q h => h) hPm) rfl rfl hl.1 rfl (lv_room (Nat.le_of_ble_eq_true rfl)) dL_law_886 ⟨Nat.le_of_ble_eq_true rfl, Nat.le_of_ble_eq_true rfl⟩) hS (fun q h => Nat.le_trans (Nat.le_add_right z 135) h.1) (fun q h => Nat.le_trans (Nat.le_add_right z 135) h.1) (fun r H locs hY hk hS => ?_)
  subst hY
  refine lv_icmp_eq (tgt := 1891) hx hb dL_law_889 (by decide) (fun _ => ?_) (fun hc => absurd rfl hc)
  exact law_end C1 hzz hS (lv_sub hl [0, 3] rfl)
theorem dL_law_894 : decode cL_law 894 = .ok (.aload_n 1, 1) := by decide +kernel
theorem dL_law_895 : decode cL_law 895 = .ok (.aload_n 0, 1) := by decide +kernel
theorem dL_law_896 : decode cL_law 896 = .ok (.iload_n 3, 1) := by decide +kernel
theorem dL_law_897 : decode cL_law 897 = .ok (.iconst 1, 1) := by decide +kernel
theorem dL_law_898 : decode cL_law 898 = .ok (.iadd, 1) := by decide +kernel
theorem dL_law_899 : decode cL_law 899 = .ok (.iaload, 1) := by decide +kernel
theorem dL_law_900 : decode cL_law 900 = .ok (.aload_n 0, 1) := by decide +kernel
theorem dL_law_901 : decode cL_law 901 = .ok (.iload_n 3, 1) := by decide +kernel
theorem dL_law_902 : decode cL_law 902 = .ok (.iconst 2, 1) := by decide +kernel
theorem dL_law_903 : decode cL_law 903 = .ok (.iadd, 1) := by decide +kernel
theorem dL_law_904 : decode cL_law 904 = .ok (.iaload, 1) := by decide +kernel
theorem dL_law_905 : decode cL_law 905 = .ok (.aload_n 0, 1) := by decide +kernel
theorem dL_law_906 : decode cL_law 906 = .ok (.iload_n 3, 1) := by decide +kernel
theorem dL_law_907 : decode cL_law 907 = .ok (.iconst 3, 1) := by decide +kernel
theorem dL_law_908 : decode cL_law 908 = .ok (.iadd, 1) := by decide +kernel
theorem dL_law_909 : decode cL_law 909 = .ok (.iaload, 1) := by decide +kernel
theorem dL_law_910 : decode cL_law 910 = .ok (.invokevirtual 83, 3) := by decide +kernel
theorem w_956 : (Cond.methodLink "GooseBorderLaw" (83 : Nat) ({ cls := "GooseBorder", name := "lame", desc := "(III)I" } : MethodName)) ∈ gb_wA := gb_t4 236 rfl rfl
theorem w_957 : (Cond.instanceMethod ({ cls := "GooseBorder", name := "lame", desc := "(III)I" } : MethodName)) ∈ gb_wA := gb_t4 237 rfl rfl
theorem w_958 : (Cond.selects "GooseBorder" ({ cls := "GooseBorder", name := "lame", desc := "(III)I" } : MethodName) ({ cls := "GooseBorder", name := "lame", desc := "(III)I" } : MethodName)) ∈ gb_wA := gb_t4 238 rfl rfl
theorem w_959 : (Cond.code ({ cls := "GooseBorder", name := "lame", desc := "(III)I" } : MethodName) prog_1_method_36_code (9 : Nat) (Option.some FieldType.int)) ∈ gb_wA := gb_t4 239 rfl rfl
theorem dL_law_913 : decode cL_law 913 = .ok (.aload_n 2, 1) := by decide +kernel
theorem dL_law_914 : decode cL_law 914 = .ok (.aload_n 0, 1) := by decide +kernel
theorem dL_law_915 : decode cL_law 915 = .ok (.iload_n 3, 1) := by decide +kernel
theorem dL_law_916 : decode cL_law 916 = .ok (.iconst 1, 1) := by decide +kernel
theorem dL_law_917 : decode cL_law 917 = .ok (.iadd, 1) := by decide +kernel
theorem dL_law_918 : decode cL_law 918 = .ok (.iaload, 1) := by decide +kernel
theorem dL_law_919 : decode cL_law 919 = .ok (.aload_n 0, 1) := by decide +kernel
theorem dL_law_920 : decode cL_law 920 = .ok (.iload_n 3, 1) := by decide +kernel
theorem dL_law_921 : decode cL_law 921 = .ok (.iconst 2, 1) := by decide +kernel
theorem dL_law_922 : decode cL_law 922 = .ok (.iadd, 1) := by decide +kernel
theorem dL_law_923 : decode cL_law 923 = .ok (.iaload, 1) := by decide +kernel
theorem dL_law_924 : decode cL_law 924 = .ok (.aload_n 0, 1) := by decide +kernel
theorem dL_law_925 : decode cL_law 925 = .ok (.iload_n 3, 1) := by decide +kernel
theorem dL_law_926 : decode cL_law 926 = .ok (.iconst 3, 1) := by decide +kernel
theorem dL_law_927 : decode cL_law 927 = .ok (.iadd, 1) := by decide +kernel
theorem dL_law_928 : decode cL_law 928 = .ok (.iaload, 1) := by decide +kernel
theorem dL_law_929 : decode cL_law 929 = .ok (.invokevirtual 86, 3) := by decide +kernel
theorem w_1564 : (Cond.methodLink "GooseBorderLaw" (86 : Nat) ({ cls := "GooseBorderModel", name := "lame", desc := "(III)I" } : MethodName)) ∈ gb_wA := gb_t7 124 rfl rfl
theorem w_1565 : (Cond.instanceMethod ({ cls := "GooseBorderModel", name := "lame", desc := "(III)I" } : MethodName)) ∈ gb_wA := gb_t7 125 rfl rfl
theorem w_1566 : (Cond.selects "GooseBorderModel" ({ cls := "GooseBorderModel", name := "lame", desc := "(III)I" } : MethodName) ({ cls := "GooseBorderModel", name := "lame", desc := "(III)I" } : MethodName)) ∈ gb_wA := gb_t7 126 rfl rfl
theorem w_1567 : (Cond.code ({ cls := "GooseBorderModel", name := "lame", desc := "(III)I" } : MethodName) prog_14_method_82_code (4 : Nat) (Option.some FieldType.int)) ∈ gb_wA := gb_t7 127 rfl rfl
theorem dL_law_932 : decode cL_law 932 = .ok (.if_icmp .eq 959, 3) := by decide +kernel
set_option maxHeartbeats 4000000 in
set_option maxRecDepth 100000 in
theorem law_c16 {p : Program} {l : Launch} {e : Env} {s : State} {m : MethodId} {below : List Frame} {meth : Method} {c : Code} {b z : Nat} {xs : Nat → Int32} (C0 : lw_At p s m meth c b 6 xs) (hzz : Array.size s.heap = z) {D : va_G} {cT : Nat → ClassId} {tt : Nat → Nat} (hSt : gb_St D cT tt z s) {H : Heap} {locs : List Loc} {ls : Array Slot} (hPc : va_P D vwCl (gb_wl z (gb_C cT z)) H) (hPm : va_P D vwCl (gb_wl (z + 135) (gb_M cT (z + 135))) H) (hS : va_S (gb_ge z) s.heap H locs) (hl : lv_has ls 4 [(3, .int 0), (2, .ref (z + 135 + 0)), (1, .ref (z + 0)), (0, .ref b)]) : W p l e room_1 s m #[Value.ref b] below meth c H locs 157 10381 (lw_Z below #[Value.ref b] s) (F0 m 894 ls []) := by
  have C1 := C0
  obtain ⟨hx, hb, hr, hml, hown, hts, hX, hbl, hlocks, hgv⟩ := C0
  have hq : ∀ w ∈ gb_wA, w.before #[Value.ref b] s = true := fun w h => hts w (gb_wA_tbl w h)
  have hbA : ¬ gb_ge z b := Nat.not_le.mpr (by rw [← hzz]; exact hbl)
  refine lv_aload_n hx hb dL_law_894 rfl (lv_at hl 2 rfl) ?_
  refine lv_aload_n hx hb dL_law_895 rfl (lv_at hl 3 rfl) ?_
  refine lv_iload_n hx hb dL_law_896 rfl (lv_at hl 0 rfl) ?_
  refine lv_iconst (v := 1) hx hb dL_law_897 (by decide) ?_
  refine lv_iadd hx hb dL_law_898 ?_
  refine W.eq (g2 := F0 m 899 ls [.int 1, .ref b, .ref (z + 0)]) (congrArg (fun v => F0 m 899 ls (Value.int v :: [.ref b, .ref (z + 0)])) (show (0 : Int32) + 1 = 1 by decide)) ?_
  refine va_sld hx hb hX hbl hbA hS (gb_in rfl) dL_law_899 ?_
  refine lv_aload_n hx hb dL_law_900 rfl (lv_at hl 3 rfl) ?_
  refine lv_iload_n hx hb dL_law_901 rfl (lv_at hl 0 rfl) ?_
  refine lv_iconst (v := 2) hx hb dL_law_902 (by decide) ?_
  refine lv_iadd hx hb dL_law_903 ?_
  refine W.eq (g2 := F0 m 904 ls [.int 2, .ref b, .int (xs (Int32.toNatClampNeg 1)), .ref (z + 0)]) (congrArg (fun v => F0 m 904 ls (Value.int v :: [.ref b, .int (xs (Int32.toNatClampNeg 1)), .ref (z + 0)])) (show (0 : Int32) + 2 = 2 by decide)) ?_
  refine va_sld hx hb hX hbl hbA hS (gb_in rfl) dL_law_904 ?_
  refine lv_aload_n hx hb dL_law_905 rfl (lv_at hl 3 rfl) ?_
  refine lv_iload_n hx hb dL_law_906 rfl (lv_at hl 0 rfl) ?_
  refine lv_iconst (v := 3) hx hb dL_law_907 (by decide) ?_
  refine lv_iadd hx hb dL_law_908 ?_
  refine W.eq (g2 := F0 m 909 ls [.int 3, .ref b, .int (xs (Int32.toNatClampNeg 2)), .int (xs (Int32.toNatClampNeg 1)), .ref (z + 0)]) (congrArg (fun v => F0 m 909 ls (Value.int v :: [.ref b, .int (xs (Int32.toNatClampNeg 2)), .int (xs (Int32.toNatClampNeg 1)), .ref (z + 0)])) (show (0 : Int32) + 3 = 3 by decide)) ?_
  refine va_sld hx hb hX hbl hbA hS (gb_in rfl) dL_law_909 ?_
  refine gb_calli (va_runV (C := RX11) (As := [.int (xs (Int32.toNatClampNeg 1)), .int (xs (Int32.toNatClampNeg 2)), .int (xs (Int32.toNatClampNeg 3))]) (rest := []) ⟨hx, hb, hml, hown, hq⟩ (a_X11_lame l D cT tt z z (Nat.le_refl z) (xs (Int32.toNatClampNeg 1)) (xs (Int32.toNatClampNeg 2)) (xs (Int32.toNatClampNeg 3))) (cwV 3 hq (gb_gV w_956 w_957 w_958 w_1 w_959) rfl rfl rfl (by decide +kernel) ⟨Nat.le_of_ble_eq_true rfl, Nat.le_of_ble_eq_true rfl⟩) (gb_preV (r := (RX11, TX11, 10)) (ci := 9) (q0 := 0) hSt hPc rfl (gb_at z rfl) hS (fun q h => h) hPc) rfl rfl hl.1 rfl (lv_room (Nat.le_of_ble_eq_true rfl)) dL_law_910 ⟨Nat.le_of_ble_eq_true rfl, Nat.le_of_ble_eq_true rfl⟩) hS (fun q h => h.1) (fun q h => h.1) (fun r H locs hY hk hS => ?_)
  subst hY
  have hPm := gb_kept hPm (fun q h1 h2 => hk q (Nat.lt_of_lt_of_le h2 ((hPm 21 _ (gb_at (z + 135) rfl)).lt)) (fun h3 => Nat.not_lt.mpr h1 h3.2))
  refine lv_aload_n hx hb dL_law_913 rfl (lv_at hl 1 rfl) ?_
  refine lv_aload_n hx hb dL_law_914 rfl (lv_at hl 3 rfl) ?_
  refine lv_iload_n hx hb dL_law_915 rfl (lv_at hl 0 rfl) ?_
  refine lv_iconst (v := 1) hx hb dL_law_916 (by decide) ?_
  refine lv_iadd hx hb dL_law_917 ?_
  refine W.eq (g2 := F0 m 918 ls [.int 1, .ref b, .ref (z + 135 + 0), .int (-1)]) (congrArg (fun v => F0 m 918 ls (Value.int v :: [.ref b, .ref (z + 135 + 0), .int (-1)])) (show (0 : Int32) + 1 = 1 by decide)) ?_
  refine va_sld hx hb hX hbl hbA hS (gb_in rfl) dL_law_918 ?_
  refine lv_aload_n hx hb dL_law_919 rfl (lv_at hl 3 rfl) ?_
  refine lv_iload_n hx hb dL_law_920 rfl (lv_at hl 0 rfl) ?_
  refine lv_iconst (v := 2) hx hb dL_law_921 (by decide) ?_
  refine lv_iadd hx hb dL_law_922 ?_
  refine W.eq (g2 := F0 m 923 ls [.int 2, .ref b, .int (xs (Int32.toNatClampNeg 1)), .ref (z + 135 + 0), .int (-1)]) (congrArg (fun v => F0 m 923 ls (Value.int v :: [.ref b, .int (xs (Int32.toNatClampNeg 1)), .ref (z + 135 + 0), .int (-1)])) (show (0 : Int32) + 2 = 2 by decide)) ?_
  refine va_sld hx hb hX hbl hbA hS (gb_in rfl) dL_law_923 ?_
  refine lv_aload_n hx hb dL_law_924 rfl (lv_at hl 3 rfl) ?_
  refine lv_iload_n hx hb dL_law_925 rfl (lv_at hl 0 rfl) ?_
  refine lv_iconst (v := 3) hx hb dL_law_926 (by decide) ?_
  refine lv_iadd hx hb dL_law_927 ?_
  refine W.eq (g2 := F0 m 928 ls [.int 3, .ref b, .int (xs (Int32.toNatClampNeg 2)), .int (xs (Int32.toNatClampNeg 1)), .ref (z + 135 + 0), .int (-1)]) (congrArg (fun v => F0 m 928 ls (Value.int v :: [.ref b, .int (xs (Int32.toNatClampNeg 2)), .int (xs (Int32.toNatClampNeg 1)), .ref (z + 135 + 0), .int (-1)])) (show (0 : Int32) + 3 = 3 by decide)) ?_
  refine va_sld hx hb hX hbl hbA hS (gb_in rfl) dL_law_928 ?_
  refine gb_calli (va_runV (C := RX12) (As := [.int (xs (Int32.toNatClampNeg 1)), .int (xs (Int32.toNatClampNeg 2)), .int (xs (Int32.toNatClampNeg 3))]) (rest := [.int (-1)]) ⟨hx, hb, hml, hown, hq⟩ (a_X12_lame l D cT tt z (z + 135) (Nat.le_add_right z 135) (xs (Int32.toNatClampNeg 1)) (xs (Int32.toNatClampNeg 2)) (xs (Int32.toNatClampNeg 3))) (cwV 3 hq (gb_gV w_1564 w_1565 w_1566 w_14 w_1567) rfl rfl rfl (by decide +kernel) ⟨Nat.le_of_ble_eq_true rfl, Nat.le_of_ble_eq_true rfl⟩) (gb_preV (r := (RX12, TX12, 44)) (ci := 10) (q0 := 0) hSt hPm rfl (gb_at (z + 135) rfl) hS (fun q h => h) hPm) rfl rfl hl.1 rfl (lv_room (Nat.le_of_ble_eq_true rfl)) dL_law_929 ⟨Nat.le_of_ble_eq_true rfl, Nat.le_of_ble_eq_true rfl⟩) hS (fun q h => Nat.le_trans (Nat.le_add_right z 135) h.1) (fun q h => Nat.le_trans (Nat.le_add_right z 135) h.1) (fun r H locs hY hk hS => ?_)
  subst hY
  refine lv_icmp_eq (tgt := 1891) hx hb dL_law_932 (by decide) (fun _ => ?_) (fun hc => absurd rfl hc)
  exact law_end C1 hzz hS (lv_sub hl [0, 3] rfl)
theorem dL_law_937 : decode cL_law 937 = .ok (.aload_n 1, 1) := by decide +kernel
theorem dL_law_938 : decode cL_law 938 = .ok (.aload_n 0, 1) := by decide +kernel
theorem dL_law_939 : decode cL_law 939 = .ok (.iload_n 3, 1) := by decide +kernel
theorem dL_law_940 : decode cL_law 940 = .ok (.iconst 1, 1) := by decide +kernel
theorem dL_law_941 : decode cL_law 941 = .ok (.iadd, 1) := by decide +kernel
theorem dL_law_942 : decode cL_law 942 = .ok (.iaload, 1) := by decide +kernel
theorem dL_law_943 : decode cL_law 943 = .ok (.aload_n 0, 1) := by decide +kernel
theorem dL_law_944 : decode cL_law 944 = .ok (.iload_n 3, 1) := by decide +kernel
theorem dL_law_945 : decode cL_law 945 = .ok (.iconst 2, 1) := by decide +kernel
theorem dL_law_946 : decode cL_law 946 = .ok (.iadd, 1) := by decide +kernel
theorem dL_law_947 : decode cL_law 947 = .ok (.iaload, 1) := by decide +kernel
theorem dL_law_948 : decode cL_law 948 = .ok (.aload_n 0, 1) := by decide +kernel
theorem dL_law_949 : decode cL_law 949 = .ok (.iload_n 3, 1) := by decide +kernel
theorem dL_law_950 : decode cL_law 950 = .ok (.iconst 3, 1) := by decide +kernel
theorem dL_law_951 : decode cL_law 951 = .ok (.iadd, 1) := by decide +kernel
theorem dL_law_952 : decode cL_law 952 = .ok (.iaload, 1) := by decide +kernel
theorem dL_law_953 : decode cL_law 953 = .ok (.invokevirtual 87, 3) := by decide +kernel
theorem w_827 : (Cond.methodLink "GooseBorderLaw" (87 : Nat) ({ cls := "GooseBorder", name := "rest", desc := "(III)I" } : MethodName)) ∈ gb_wA := gb_t4 107 rfl rfl
theorem w_828 : (Cond.instanceMethod ({ cls := "GooseBorder", name := "rest", desc := "(III)I" } : MethodName)) ∈ gb_wA := gb_t4 108 rfl rfl
theorem w_829 : (Cond.selects "GooseBorder" ({ cls := "GooseBorder", name := "rest", desc := "(III)I" } : MethodName) ({ cls := "GooseBorder", name := "rest", desc := "(III)I" } : MethodName)) ∈ gb_wA := gb_t4 109 rfl rfl
theorem w_830 : (Cond.code ({ cls := "GooseBorder", name := "rest", desc := "(III)I" } : MethodName) prog_1_method_26_code (8 : Nat) (Option.some FieldType.int)) ∈ gb_wA := gb_t4 110 rfl rfl
theorem dL_law_956 : decode cL_law 956 = .ok (.aload_n 2, 1) := by decide +kernel
theorem dL_law_957 : decode cL_law 957 = .ok (.aload_n 0, 1) := by decide +kernel
theorem dL_law_958 : decode cL_law 958 = .ok (.iload_n 3, 1) := by decide +kernel
theorem dL_law_959 : decode cL_law 959 = .ok (.iconst 1, 1) := by decide +kernel
theorem dL_law_960 : decode cL_law 960 = .ok (.iadd, 1) := by decide +kernel
theorem dL_law_961 : decode cL_law 961 = .ok (.iaload, 1) := by decide +kernel
theorem dL_law_962 : decode cL_law 962 = .ok (.aload_n 0, 1) := by decide +kernel
theorem dL_law_963 : decode cL_law 963 = .ok (.iload_n 3, 1) := by decide +kernel
theorem dL_law_964 : decode cL_law 964 = .ok (.iconst 2, 1) := by decide +kernel
theorem dL_law_965 : decode cL_law 965 = .ok (.iadd, 1) := by decide +kernel
theorem dL_law_966 : decode cL_law 966 = .ok (.iaload, 1) := by decide +kernel
theorem dL_law_967 : decode cL_law 967 = .ok (.aload_n 0, 1) := by decide +kernel
theorem dL_law_968 : decode cL_law 968 = .ok (.iload_n 3, 1) := by decide +kernel
theorem dL_law_969 : decode cL_law 969 = .ok (.iconst 3, 1) := by decide +kernel
theorem dL_law_970 : decode cL_law 970 = .ok (.iadd, 1) := by decide +kernel
theorem dL_law_971 : decode cL_law 971 = .ok (.iaload, 1) := by decide +kernel
theorem dL_law_972 : decode cL_law 972 = .ok (.invokevirtual 90, 3) := by decide +kernel
theorem w_1576 : (Cond.methodLink "GooseBorderLaw" (90 : Nat) ({ cls := "GooseBorderModel", name := "rest", desc := "(III)I" } : MethodName)) ∈ gb_wA := gb_t7 136 rfl rfl
theorem w_1577 : (Cond.instanceMethod ({ cls := "GooseBorderModel", name := "rest", desc := "(III)I" } : MethodName)) ∈ gb_wA := gb_t7 137 rfl rfl
theorem w_1578 : (Cond.selects "GooseBorderModel" ({ cls := "GooseBorderModel", name := "rest", desc := "(III)I" } : MethodName) ({ cls := "GooseBorderModel", name := "rest", desc := "(III)I" } : MethodName)) ∈ gb_wA := gb_t7 138 rfl rfl
theorem w_1579 : (Cond.code ({ cls := "GooseBorderModel", name := "rest", desc := "(III)I" } : MethodName) prog_14_method_85_code (6 : Nat) (Option.some FieldType.int)) ∈ gb_wA := gb_t7 139 rfl rfl
theorem dL_law_975 : decode cL_law 975 = .ok (.if_icmp .eq 916, 3) := by decide +kernel
set_option maxHeartbeats 4000000 in
set_option maxRecDepth 100000 in
theorem law_c17 {p : Program} {l : Launch} {e : Env} {s : State} {m : MethodId} {below : List Frame} {meth : Method} {c : Code} {b z : Nat} {xs : Nat → Int32} (C0 : lw_At p s m meth c b 6 xs) (hzz : Array.size s.heap = z) {D : va_G} {cT : Nat → ClassId} {tt : Nat → Nat} (hSt : gb_St D cT tt z s) {H : Heap} {locs : List Loc} {ls : Array Slot} (hPc : va_P D vwCl (gb_wl z (gb_C cT z)) H) (hPm : va_P D vwCl (gb_wl (z + 135) (gb_M cT (z + 135))) H) (hS : va_S (gb_ge z) s.heap H locs) (hl : lv_has ls 4 [(3, .int 0), (2, .ref (z + 135 + 0)), (1, .ref (z + 0)), (0, .ref b)]) : W p l e room_1 s m #[Value.ref b] below meth c H locs 157 10381 (lw_Z below #[Value.ref b] s) (F0 m 937 ls []) := by
  have C1 := C0
  obtain ⟨hx, hb, hr, hml, hown, hts, hX, hbl, hlocks, hgv⟩ := C0
  have hq : ∀ w ∈ gb_wA, w.before #[Value.ref b] s = true := fun w h => hts w (gb_wA_tbl w h)
  have hbA : ¬ gb_ge z b := Nat.not_le.mpr (by rw [← hzz]; exact hbl)
  refine lv_aload_n hx hb dL_law_937 rfl (lv_at hl 2 rfl) ?_
  refine lv_aload_n hx hb dL_law_938 rfl (lv_at hl 3 rfl) ?_
  refine lv_iload_n hx hb dL_law_939 rfl (lv_at hl 0 rfl) ?_
  refine lv_iconst (v := 1) hx hb dL_law_940 (by decide) ?_
  refine lv_iadd hx hb dL_law_941 ?_
  refine W.eq (g2 := F0 m 942 ls [.int 1, .ref b, .ref (z + 0)]) (congrArg (fun v => F0 m 942 ls (Value.int v :: [.ref b, .ref (z + 0)])) (show (0 : Int32) + 1 = 1 by decide)) ?_
  refine va_sld hx hb hX hbl hbA hS (gb_in rfl) dL_law_942 ?_
  refine lv_aload_n hx hb dL_law_943 rfl (lv_at hl 3 rfl) ?_
  refine lv_iload_n hx hb dL_law_944 rfl (lv_at hl 0 rfl) ?_
  refine lv_iconst (v := 2) hx hb dL_law_945 (by decide) ?_
  refine lv_iadd hx hb dL_law_946 ?_
  refine W.eq (g2 := F0 m 947 ls [.int 2, .ref b, .int (xs (Int32.toNatClampNeg 1)), .ref (z + 0)]) (congrArg (fun v => F0 m 947 ls (Value.int v :: [.ref b, .int (xs (Int32.toNatClampNeg 1)), .ref (z + 0)])) (show (0 : Int32) + 2 = 2 by decide)) ?_
  refine va_sld hx hb hX hbl hbA hS (gb_in rfl) dL_law_947 ?_
  refine lv_aload_n hx hb dL_law_948 rfl (lv_at hl 3 rfl) ?_
  refine lv_iload_n hx hb dL_law_949 rfl (lv_at hl 0 rfl) ?_
  refine lv_iconst (v := 3) hx hb dL_law_950 (by decide) ?_
  refine lv_iadd hx hb dL_law_951 ?_
  refine W.eq (g2 := F0 m 952 ls [.int 3, .ref b, .int (xs (Int32.toNatClampNeg 2)), .int (xs (Int32.toNatClampNeg 1)), .ref (z + 0)]) (congrArg (fun v => F0 m 952 ls (Value.int v :: [.ref b, .int (xs (Int32.toNatClampNeg 2)), .int (xs (Int32.toNatClampNeg 1)), .ref (z + 0)])) (show (0 : Int32) + 3 = 3 by decide)) ?_
  refine va_sld hx hb hX hbl hbA hS (gb_in rfl) dL_law_952 ?_
  refine gb_calli (va_runV (C := RX11) (As := [.int (xs (Int32.toNatClampNeg 1)), .int (xs (Int32.toNatClampNeg 2)), .int (xs (Int32.toNatClampNeg 3))]) (rest := []) ⟨hx, hb, hml, hown, hq⟩ (a_X11_rest l D cT tt z z (Nat.le_refl z) (xs (Int32.toNatClampNeg 1)) (xs (Int32.toNatClampNeg 2)) (xs (Int32.toNatClampNeg 3))) (cwV 3 hq (gb_gV w_827 w_828 w_829 w_1 w_830) rfl rfl rfl (by decide +kernel) ⟨Nat.le_of_ble_eq_true rfl, Nat.le_of_ble_eq_true rfl⟩) (gb_preV (r := (RX11, TX11, 10)) (ci := 9) (q0 := 0) hSt hPc rfl (gb_at z rfl) hS (fun q h => h) hPc) rfl rfl hl.1 rfl (lv_room (Nat.le_of_ble_eq_true rfl)) dL_law_953 ⟨Nat.le_of_ble_eq_true rfl, Nat.le_of_ble_eq_true rfl⟩) hS (fun q h => h.1) (fun q h => h.1) (fun r H locs hY hk hS => ?_)
  subst hY
  have hPm := gb_kept hPm (fun q h1 h2 => hk q (Nat.lt_of_lt_of_le h2 ((hPm 21 _ (gb_at (z + 135) rfl)).lt)) (fun h3 => Nat.not_lt.mpr h1 h3.2))
  refine lv_aload_n hx hb dL_law_956 rfl (lv_at hl 1 rfl) ?_
  refine lv_aload_n hx hb dL_law_957 rfl (lv_at hl 3 rfl) ?_
  refine lv_iload_n hx hb dL_law_958 rfl (lv_at hl 0 rfl) ?_
  refine lv_iconst (v := 1) hx hb dL_law_959 (by decide) ?_
  refine lv_iadd hx hb dL_law_960 ?_
  refine W.eq (g2 := F0 m 961 ls [.int 1, .ref b, .ref (z + 135 + 0), .int (-2)]) (congrArg (fun v => F0 m 961 ls (Value.int v :: [.ref b, .ref (z + 135 + 0), .int (-2)])) (show (0 : Int32) + 1 = 1 by decide)) ?_
  refine va_sld hx hb hX hbl hbA hS (gb_in rfl) dL_law_961 ?_
  refine lv_aload_n hx hb dL_law_962 rfl (lv_at hl 3 rfl) ?_
  refine lv_iload_n hx hb dL_law_963 rfl (lv_at hl 0 rfl) ?_
  refine lv_iconst (v := 2) hx hb dL_law_964 (by decide) ?_
  refine lv_iadd hx hb dL_law_965 ?_
  refine W.eq (g2 := F0 m 966 ls [.int 2, .ref b, .int (xs (Int32.toNatClampNeg 1)), .ref (z + 135 + 0), .int (-2)]) (congrArg (fun v => F0 m 966 ls (Value.int v :: [.ref b, .int (xs (Int32.toNatClampNeg 1)), .ref (z + 135 + 0), .int (-2)])) (show (0 : Int32) + 2 = 2 by decide)) ?_
  refine va_sld hx hb hX hbl hbA hS (gb_in rfl) dL_law_966 ?_
  refine lv_aload_n hx hb dL_law_967 rfl (lv_at hl 3 rfl) ?_
  refine lv_iload_n hx hb dL_law_968 rfl (lv_at hl 0 rfl) ?_
  refine lv_iconst (v := 3) hx hb dL_law_969 (by decide) ?_
  refine lv_iadd hx hb dL_law_970 ?_
  refine W.eq (g2 := F0 m 971 ls [.int 3, .ref b, .int (xs (Int32.toNatClampNeg 2)), .int (xs (Int32.toNatClampNeg 1)), .ref (z + 135 + 0), .int (-2)]) (congrArg (fun v => F0 m 971 ls (Value.int v :: [.ref b, .int (xs (Int32.toNatClampNeg 2)), .int (xs (Int32.toNatClampNeg 1)), .ref (z + 135 + 0), .int (-2)])) (show (0 : Int32) + 3 = 3 by decide)) ?_
  refine va_sld hx hb hX hbl hbA hS (gb_in rfl) dL_law_971 ?_
  refine gb_calli (va_runV (C := RX12) (As := [.int (xs (Int32.toNatClampNeg 1)), .int (xs (Int32.toNatClampNeg 2)), .int (xs (Int32.toNatClampNeg 3))]) (rest := [.int (-2)]) ⟨hx, hb, hml, hown, hq⟩ (a_X12_rest l D cT tt z (z + 135) (Nat.le_add_right z 135) (xs (Int32.toNatClampNeg 1)) (xs (Int32.toNatClampNeg 2)) (xs (Int32.toNatClampNeg 3))) (cwV 3 hq (gb_gV w_1576 w_1577 w_1578 w_14 w_1579) rfl rfl rfl (by decide +kernel) ⟨Nat.le_of_ble_eq_true rfl, Nat.le_of_ble_eq_true rfl⟩) (gb_preV (r := (RX12, TX12, 44)) (ci := 10) (q0 := 0) hSt hPm rfl (gb_at (z + 135) rfl) hS (fun q h => h) hPm) rfl rfl hl.1 rfl (lv_room (Nat.le_of_ble_eq_true rfl)) dL_law_972 ⟨Nat.le_of_ble_eq_true rfl, Nat.le_of_ble_eq_true rfl⟩) hS (fun q h => Nat.le_trans (Nat.le_add_right z 135) h.1) (fun q h => Nat.le_trans (Nat.le_add_right z 135) h.1) (fun r H locs hY hk hS => ?_)
  subst hY
  refine lv_icmp_eq (tgt := 1891) hx hb dL_law_975 (by decide) (fun _ => ?_) (fun hc => absurd rfl hc)
  exact law_end C1 hzz hS (lv_sub hl [0, 3] rfl)
