theorem dL_law_1845 : decode cL_law 1845 = .ok (.aload_n 1, 1) := by decide +kernel
theorem dL_law_1846 : decode cL_law 1846 = .ok (.aload_n 0, 1) := by decide +kernel
theorem dL_law_1847 : decode cL_law 1847 = .ok (.iload_n 3, 1) := by decide +kernel
theorem dL_law_1848 : decode cL_law 1848 = .ok (.iconst 1, 1) := by decide +kernel
theorem dL_law_1849 : decode cL_law 1849 = .ok (.iadd, 1) := by decide +kernel
theorem dL_law_1850 : decode cL_law 1850 = .ok (.iaload, 1) := by decide +kernel
theorem dL_law_1851 : decode cL_law 1851 = .ok (.invokevirtual 166, 3) := by decide +kernel
theorem w_574 : (Cond.methodLink "GooseBorderLaw" (166 : Nat) ({ cls := "GooseBorder", name := "image", desc := "(I)Z" } : MethodName)) ∈ gb_wA := gb_t3 94 rfl rfl
theorem w_575 : (Cond.instanceMethod ({ cls := "GooseBorder", name := "image", desc := "(I)Z" } : MethodName)) ∈ gb_wA := gb_t3 95 rfl rfl
theorem w_576 : (Cond.selects "GooseBorder" ({ cls := "GooseBorder", name := "image", desc := "(I)Z" } : MethodName) ({ cls := "GooseBorder", name := "image", desc := "(I)Z" } : MethodName)) ∈ gb_wA := gb_t3 96 rfl rfl
theorem w_577 : (Cond.code ({ cls := "GooseBorder", name := "image", desc := "(I)Z" } : MethodName) prog_1_method_7_code (2 : Nat) (Option.some FieldType.boolean)) ∈ gb_wA := gb_t3 97 rfl rfl
theorem dL_law_1854 : decode cL_law 1854 = .ok (.aload_n 2, 1) := by decide +kernel
theorem dL_law_1855 : decode cL_law 1855 = .ok (.aload_n 0, 1) := by decide +kernel
theorem dL_law_1856 : decode cL_law 1856 = .ok (.iload_n 3, 1) := by decide +kernel
theorem dL_law_1857 : decode cL_law 1857 = .ok (.iconst 1, 1) := by decide +kernel
theorem dL_law_1858 : decode cL_law 1858 = .ok (.iadd, 1) := by decide +kernel
theorem dL_law_1859 : decode cL_law 1859 = .ok (.iaload, 1) := by decide +kernel
theorem dL_law_1860 : decode cL_law 1860 = .ok (.invokevirtual 170, 3) := by decide +kernel
theorem w_1717 : (Cond.methodLink "GooseBorderLaw" (170 : Nat) ({ cls := "GooseBorderModel", name := "image", desc := "(I)Z" } : MethodName)) ∈ gb_wA := gb_t8 37 rfl rfl
theorem w_1718 : (Cond.instanceMethod ({ cls := "GooseBorderModel", name := "image", desc := "(I)Z" } : MethodName)) ∈ gb_wA := gb_t8 38 rfl rfl
theorem w_1719 : (Cond.selects "GooseBorderModel" ({ cls := "GooseBorderModel", name := "image", desc := "(I)Z" } : MethodName) ({ cls := "GooseBorderModel", name := "image", desc := "(I)Z" } : MethodName)) ∈ gb_wA := gb_t8 39 rfl rfl
theorem w_1720 : (Cond.code ({ cls := "GooseBorderModel", name := "image", desc := "(I)Z" } : MethodName) prog_14_method_118_code (3 : Nat) (Option.some FieldType.boolean)) ∈ gb_wA := gb_t8 40 rfl rfl
theorem dL_law_1863 : decode cL_law 1863 = .ok (.if_icmp .eq 28, 3) := by decide +kernel
set_option maxHeartbeats 4000000 in
set_option maxRecDepth 100000 in
theorem law_c36 {p : Program} {l : Launch} {e : Env} {s : State} {m : MethodId} {below : List Frame} {meth : Method} {c : Code} {b z : Nat} {xs : Nat → Int32} (C0 : lw_At p s m meth c b 6 xs) (hzz : Array.size s.heap = z) {D : va_G} {cT : Nat → ClassId} {tt : Nat → Nat} (hSt : gb_St D cT tt z s) {H : Heap} {locs : List Loc} {ls : Array Slot} (hPc : va_P D vwCl (gb_wl z (gb_C cT z)) H) (hPm : va_P D vwCl (gb_wl (z + 135) (gb_M cT (z + 135))) H) (hS : va_S (gb_ge z) s.heap H locs) (hl : lv_has ls 4 [(3, .int 0), (2, .ref (z + 135 + 0)), (1, .ref (z + 0)), (0, .ref b)]) : W p l e room_1 s m #[Value.ref b] below meth c H locs 157 10381 (lw_Z below #[Value.ref b] s) (F0 m 1845 ls []) := by
  have C1 := C0
  obtain ⟨hx, hb, hr, hml, hown, hts, hX, hbl, hlocks, hgv⟩ := C0
  have hq : ∀ w ∈ gb_wA, w.before #[Value.ref b] s = true := fun w h => hts w (gb_wA_tbl w h)
  have hbA : ¬ gb_ge z b := Nat.not_le.mpr (by rw [← hzz]; exact hbl)
  refine lv_aload_n hx hb dL_law_1845 rfl (lv_at hl 2 rfl) ?_
  refine lv_aload_n hx hb dL_law_1846 rfl (lv_at hl 3 rfl) ?_
  refine lv_iload_n hx hb dL_law_1847 rfl (lv_at hl 0 rfl) ?_
  refine lv_iconst (v := 1) hx hb dL_law_1848 (by decide) ?_
  refine lv_iadd hx hb dL_law_1849 ?_
  refine W.eq (g2 := F0 m 1850 ls [.int 1, .ref b, .ref (z + 0)]) (congrArg (fun v => F0 m 1850 ls (Value.int v :: [.ref b, .ref (z + 0)])) (show (0 : Int32) + 1 = 1 by decide)) ?_
  refine va_sld hx hb hX hbl hbA hS (gb_in rfl) dL_law_1850 ?_
  refine gb_calli (va_runV (C := RX11) (As := [.int (xs (Int32.toNatClampNeg 1))]) (rest := []) ⟨hx, hb, hml, hown, hq⟩ (a_X11_image l D cT tt z z (Nat.le_refl z) (xs (Int32.toNatClampNeg 1))) (cwV 1 hq (gb_gV w_574 w_575 w_576 w_1 w_577) rfl rfl rfl (by decide +kernel) ⟨Nat.le_of_ble_eq_true rfl, Nat.le_of_ble_eq_true rfl⟩) (gb_preV (r := (RX11, TX11, 10)) (ci := 9) (q0 := 0) hSt hPc rfl (gb_at z rfl) hS (fun q h => h) hPc) rfl rfl hl.1 rfl (lv_room (Nat.le_of_ble_eq_true rfl)) dL_law_1851 ⟨Nat.le_of_ble_eq_true rfl, Nat.le_of_ble_eq_true rfl⟩) hS (fun q h => h.1) (fun q h => h.1) (fun r H locs hY hk hS => ?_)
  subst hY
  have hPm := gb_kept hPm (fun q h1 h2 => hk q (Nat.lt_of_lt_of_le h2 ((hPm 21 _ (gb_at (z + 135) rfl)).lt)) (fun h3 => Nat.not_lt.mpr h1 h3.2))
  refine lv_aload_n hx hb dL_law_1854 rfl (lv_at hl 1 rfl) ?_
  refine lv_aload_n hx hb dL_law_1855 rfl (lv_at hl 3 rfl) ?_
  refine lv_iload_n hx hb dL_law_1856 rfl (lv_at hl 0 rfl) ?_
  refine lv_iconst (v := 1) hx hb dL_law_1857 (by decide) ?_
  refine lv_iadd hx hb dL_law_1858 ?_
  refine W.eq (g2 := F0 m 1859 ls [.int 1, .ref b, .ref (z + 135 + 0), .int (if (xs (Int32.toNatClampNeg 1)) < 0 then 0 else if (xs (Int32.toNatClampNeg 1)) < 3 then 1 else 0)]) (congrArg (fun v => F0 m 1859 ls (Value.int v :: [.ref b, .ref (z + 135 + 0), .int (if (xs (Int32.toNatClampNeg 1)) < 0 then 0 else if (xs (Int32.toNatClampNeg 1)) < 3 then 1 else 0)])) (show (0 : Int32) + 1 = 1 by decide)) ?_
  refine va_sld hx hb hX hbl hbA hS (gb_in rfl) dL_law_1859 ?_
  refine gb_calli (va_runV (C := RX12) (As := [.int (xs (Int32.toNatClampNeg 1))]) (rest := [.int (if (xs (Int32.toNatClampNeg 1)) < 0 then 0 else if (xs (Int32.toNatClampNeg 1)) < 3 then 1 else 0)]) ⟨hx, hb, hml, hown, hq⟩ (a_X12_image l D cT tt z (z + 135) (Nat.le_add_right z 135) (xs (Int32.toNatClampNeg 1))) (cwV 1 hq (gb_gV w_1717 w_1718 w_1719 w_14 w_1720) rfl rfl rfl (by decide +kernel) ⟨Nat.le_of_ble_eq_true rfl, Nat.le_of_ble_eq_true rfl⟩) (gb_preV (r := (RX12, TX12, 44)) (ci := 10) (q0 := 0) hSt hPm rfl (gb_at (z + 135) rfl) hS (fun q h => h) hPm) rfl rfl hl.1 rfl (lv_room (Nat.le_of_ble_eq_true rfl)) dL_law_1860 ⟨Nat.le_of_ble_eq_true rfl, Nat.le_of_ble_eq_true rfl⟩) hS (fun q h => Nat.le_trans (Nat.le_add_right z 135) h.1) (fun q h => Nat.le_trans (Nat.le_add_right z 135) h.1) (fun r H locs hY hk hS => ?_)
  subst hY
  refine lv_icmp_eq (tgt := 1891) hx hb dL_law_1863 (by decide) (fun _ => ?_) (fun hc => absurd rfl hc)
  exact law_end C1 hzz hS (lv_sub hl [0, 3] rfl)
theorem dL_law_1868 : decode cL_law 1868 = .ok (.aload_n 1, 1) := by decide +kernel
theorem dL_law_1869 : decode cL_law 1869 = .ok (.aload_n 0, 1) := by decide +kernel
theorem dL_law_1870 : decode cL_law 1870 = .ok (.iload_n 3, 1) := by decide +kernel
theorem dL_law_1871 : decode cL_law 1871 = .ok (.iconst 1, 1) := by decide +kernel
theorem dL_law_1872 : decode cL_law 1872 = .ok (.iadd, 1) := by decide +kernel
theorem dL_law_1873 : decode cL_law 1873 = .ok (.iaload, 1) := by decide +kernel
theorem dL_law_1874 : decode cL_law 1874 = .ok (.invokevirtual 171, 3) := by decide +kernel
theorem w_585 : (Cond.methodLink "GooseBorderLaw" (171 : Nat) ({ cls := "GooseBorder", name := "again", desc := "(I)Z" } : MethodName)) ∈ gb_wA := gb_t3 105 rfl rfl
theorem w_586 : (Cond.instanceMethod ({ cls := "GooseBorder", name := "again", desc := "(I)Z" } : MethodName)) ∈ gb_wA := gb_t3 106 rfl rfl
theorem w_587 : (Cond.selects "GooseBorder" ({ cls := "GooseBorder", name := "again", desc := "(I)Z" } : MethodName) ({ cls := "GooseBorder", name := "again", desc := "(I)Z" } : MethodName)) ∈ gb_wA := gb_t3 107 rfl rfl
theorem w_588 : (Cond.code ({ cls := "GooseBorder", name := "again", desc := "(I)Z" } : MethodName) prog_1_method_8_code (2 : Nat) (Option.some FieldType.boolean)) ∈ gb_wA := gb_t3 108 rfl rfl
theorem dL_law_1877 : decode cL_law 1877 = .ok (.aload_n 2, 1) := by decide +kernel
theorem dL_law_1878 : decode cL_law 1878 = .ok (.aload_n 0, 1) := by decide +kernel
theorem dL_law_1879 : decode cL_law 1879 = .ok (.iload_n 3, 1) := by decide +kernel
theorem dL_law_1880 : decode cL_law 1880 = .ok (.iconst 1, 1) := by decide +kernel
theorem dL_law_1881 : decode cL_law 1881 = .ok (.iadd, 1) := by decide +kernel
theorem dL_law_1882 : decode cL_law 1882 = .ok (.iaload, 1) := by decide +kernel
theorem dL_law_1883 : decode cL_law 1883 = .ok (.invokevirtual 174, 3) := by decide +kernel
theorem w_1721 : (Cond.methodLink "GooseBorderLaw" (174 : Nat) ({ cls := "GooseBorderModel", name := "again", desc := "(I)Z" } : MethodName)) ∈ gb_wA := gb_t8 41 rfl rfl
theorem w_1722 : (Cond.instanceMethod ({ cls := "GooseBorderModel", name := "again", desc := "(I)Z" } : MethodName)) ∈ gb_wA := gb_t8 42 rfl rfl
theorem w_1723 : (Cond.selects "GooseBorderModel" ({ cls := "GooseBorderModel", name := "again", desc := "(I)Z" } : MethodName) ({ cls := "GooseBorderModel", name := "again", desc := "(I)Z" } : MethodName)) ∈ gb_wA := gb_t8 43 rfl rfl
theorem w_1724 : (Cond.code ({ cls := "GooseBorderModel", name := "again", desc := "(I)Z" } : MethodName) prog_14_method_119_code (3 : Nat) (Option.some FieldType.boolean)) ∈ gb_wA := gb_t8 44 rfl rfl
theorem dL_law_1886 : decode cL_law 1886 = .ok (.if_icmp .eq 5, 3) := by decide +kernel
set_option maxHeartbeats 4000000 in
set_option maxRecDepth 100000 in
theorem law_c37 {p : Program} {l : Launch} {e : Env} {s : State} {m : MethodId} {below : List Frame} {meth : Method} {c : Code} {b z : Nat} {xs : Nat → Int32} (C0 : lw_At p s m meth c b 6 xs) (hzz : Array.size s.heap = z) {D : va_G} {cT : Nat → ClassId} {tt : Nat → Nat} (hSt : gb_St D cT tt z s) {H : Heap} {locs : List Loc} {ls : Array Slot} (hPc : va_P D vwCl (gb_wl z (gb_C cT z)) H) (hPm : va_P D vwCl (gb_wl (z + 135) (gb_M cT (z + 135))) H) (hS : va_S (gb_ge z) s.heap H locs) (hl : lv_has ls 4 [(3, .int 0), (2, .ref (z + 135 + 0)), (1, .ref (z + 0)), (0, .ref b)]) : W p l e room_1 s m #[Value.ref b] below meth c H locs 157 10381 (lw_Z below #[Value.ref b] s) (F0 m 1868 ls []) := by
  have C1 := C0
  obtain ⟨hx, hb, hr, hml, hown, hts, hX, hbl, hlocks, hgv⟩ := C0
  have hq : ∀ w ∈ gb_wA, w.before #[Value.ref b] s = true := fun w h => hts w (gb_wA_tbl w h)
  have hbA : ¬ gb_ge z b := Nat.not_le.mpr (by rw [← hzz]; exact hbl)
  refine lv_aload_n hx hb dL_law_1868 rfl (lv_at hl 2 rfl) ?_
  refine lv_aload_n hx hb dL_law_1869 rfl (lv_at hl 3 rfl) ?_
  refine lv_iload_n hx hb dL_law_1870 rfl (lv_at hl 0 rfl) ?_
  refine lv_iconst (v := 1) hx hb dL_law_1871 (by decide) ?_
  refine lv_iadd hx hb dL_law_1872 ?_
  refine W.eq (g2 := F0 m 1873 ls [.int 1, .ref b, .ref (z + 0)]) (congrArg (fun v => F0 m 1873 ls (Value.int v :: [.ref b, .ref (z + 0)])) (show (0 : Int32) + 1 = 1 by decide)) ?_
  refine va_sld hx hb hX hbl hbA hS (gb_in rfl) dL_law_1873 ?_
  refine gb_calli (va_runV (C := RX11) (As := [.int (xs (Int32.toNatClampNeg 1))]) (rest := []) ⟨hx, hb, hml, hown, hq⟩ (a_X11_again l D cT tt z z (Nat.le_refl z) (xs (Int32.toNatClampNeg 1))) (cwV 1 hq (gb_gV w_585 w_586 w_587 w_1 w_588) rfl rfl rfl (by decide +kernel) ⟨Nat.le_of_ble_eq_true rfl, Nat.le_of_ble_eq_true rfl⟩) (gb_preV (r := (RX11, TX11, 10)) (ci := 9) (q0 := 0) hSt hPc rfl (gb_at z rfl) hS (fun q h => h) hPc) rfl rfl hl.1 rfl (lv_room (Nat.le_of_ble_eq_true rfl)) dL_law_1874 ⟨Nat.le_of_ble_eq_true rfl, Nat.le_of_ble_eq_true rfl⟩) hS (fun q h => h.1) (fun q h => h.1) (fun r H locs hY hk hS => ?_)
  subst hY
  have hPm := gb_kept hPm (fun q h1 h2 => hk q (Nat.lt_of_lt_of_le h2 ((hPm 21 _ (gb_at (z + 135) rfl)).lt)) (fun h3 => Nat.not_lt.mpr h1 h3.2))
  refine lv_aload_n hx hb dL_law_1877 rfl (lv_at hl 1 rfl) ?_
  refine lv_aload_n hx hb dL_law_1878 rfl (lv_at hl 3 rfl) ?_
  refine lv_iload_n hx hb dL_law_1879 rfl (lv_at hl 0 rfl) ?_
  refine lv_iconst (v := 1) hx hb dL_law_1880 (by decide) ?_
  refine lv_iadd hx hb dL_law_1881 ?_
  refine W.eq (g2 := F0 m 1882 ls [.int 1, .ref b, .ref (z + 135 + 0), .int 0]) (congrArg (fun v => F0 m 1882 ls (Value.int v :: [.ref b, .ref (z + 135 + 0), .int 0])) (show (0 : Int32) + 1 = 1 by decide)) ?_
  refine va_sld hx hb hX hbl hbA hS (gb_in rfl) dL_law_1882 ?_
  refine gb_calli (va_runV (C := RX12) (As := [.int (xs (Int32.toNatClampNeg 1))]) (rest := [.int 0]) ⟨hx, hb, hml, hown, hq⟩ (a_X12_again l D cT tt z (z + 135) (Nat.le_add_right z 135) (xs (Int32.toNatClampNeg 1))) (cwV 1 hq (gb_gV w_1721 w_1722 w_1723 w_14 w_1724) rfl rfl rfl (by decide +kernel) ⟨Nat.le_of_ble_eq_true rfl, Nat.le_of_ble_eq_true rfl⟩) (gb_preV (r := (RX12, TX12, 44)) (ci := 10) (q0 := 0) hSt hPm rfl (gb_at (z + 135) rfl) hS (fun q h => h) hPm) rfl rfl hl.1 rfl (lv_room (Nat.le_of_ble_eq_true rfl)) dL_law_1883 ⟨Nat.le_of_ble_eq_true rfl, Nat.le_of_ble_eq_true rfl⟩) hS (fun q h => Nat.le_trans (Nat.le_add_right z 135) h.1) (fun q h => Nat.le_trans (Nat.le_add_right z 135) h.1) (fun r H locs hY hk hS => ?_)
  subst hY
  refine lv_icmp_eq (tgt := 1891) hx hb dL_law_1886 (by decide) (fun _ => ?_) (fun hc => absurd rfl hc)
  exact law_end C1 hzz hS (lv_sub hl [0, 3] rfl)
