theorem law_take {D : va_G} {cl : List vw_C} {b : Nat} {cs ds : List va_E} {H : Heap} (h : va_P D cl (gb_wl b (cs ++ ds)) H) : va_P D cl (gb_wl b cs) H := by
  intro k q hk
  refine h k q ?_
  rw [gb_app]
  exact (List.getElem?_append_left (List.getElem?_eq_some_iff.mp hk).1).trans hk
theorem law_ov {x : Nat} (h : 38 ≤ x) (h2 : x < 64) : (37 : Int) < (nI x).toInt := by
  rw [nI_toInt (by omega)]
  omega
theorem law_lt {L : Nat} (h : L < 6) : nI L - 6 < (0 : Int32) := pk_sneg (b := 6) (by decide) h
theorem w_22 : (Cond.classLink "GooseBorderLaw" (7 : Nat) "GooseBorder") ∈ gb_wA := gb_t1 22 rfl rfl
theorem dL_law_0 : decode cL_law 0 = .ok (.new 7, 3) := by decide +kernel
theorem dL_law_3 : decode cL_law 3 = .ok (.dup, 1) := by decide +kernel
theorem w_26 : (Cond.code ({ cls := "GooseBorder", name := "<init>", desc := "()V" } : MethodName) prog_1_method_1_code (1 : Nat) (Option.none : Option FieldType)) ∈ gb_wA := gb_t1 26 rfl rfl
theorem w_24 : (Cond.methodLink "GooseBorderLaw" (9 : Nat) ({ cls := "GooseBorder", name := "<init>", desc := "()V" } : MethodName)) ∈ gb_wA := gb_t1 24 rfl rfl
theorem w_25 : (Cond.instanceMethod ({ cls := "GooseBorder", name := "<init>", desc := "()V" } : MethodName)) ∈ gb_wA := gb_t1 25 rfl rfl
theorem dL_law_4 : decode cL_law 4 = .ok (.invokespecial 9, 3) := by decide +kernel
theorem dL_law_7 : decode cL_law 7 = .ok (.astore_n 1, 1) := by decide +kernel
theorem w_1118 : (Cond.classLink "GooseBorderLaw" (10 : Nat) "GooseBorderModel") ∈ gb_wA := gb_t5 158 rfl rfl
theorem dL_law_8 : decode cL_law 8 = .ok (.new 10, 3) := by decide +kernel
theorem dL_law_11 : decode cL_law 11 = .ok (.dup, 1) := by decide +kernel
theorem w_1122 : (Cond.code ({ cls := "GooseBorderModel", name := "<init>", desc := "()V" } : MethodName) prog_14_method_1_code (1 : Nat) (Option.none : Option FieldType)) ∈ gb_wA := gb_t5 162 rfl rfl
theorem w_1120 : (Cond.methodLink "GooseBorderLaw" (12 : Nat) ({ cls := "GooseBorderModel", name := "<init>", desc := "()V" } : MethodName)) ∈ gb_wA := gb_t5 160 rfl rfl
theorem w_1121 : (Cond.instanceMethod ({ cls := "GooseBorderModel", name := "<init>", desc := "()V" } : MethodName)) ∈ gb_wA := gb_t5 161 rfl rfl
theorem dL_law_12 : decode cL_law 12 = .ok (.invokespecial 12, 3) := by decide +kernel
theorem dL_law_15 : decode cL_law 15 = .ok (.astore_n 2, 1) := by decide +kernel
theorem dL_law_16 : decode cL_law 16 = .ok (.iconst 0, 1) := by decide +kernel
theorem dL_law_17 : decode cL_law 17 = .ok (.istore_n 3, 1) := by decide +kernel
theorem dL_law_27 : decode cL_law 27 = .ok (.aload_n 0, 1) := by decide +kernel
theorem dL_law_28 : decode cL_law 28 = .ok (.iload_n 3, 1) := by decide +kernel
theorem dL_law_29 : decode cL_law 29 = .ok (.iaload, 1) := by decide +kernel
theorem dL_law_30 : decode cL_law 30 = .ok (.bipush 63, 2) := by decide +kernel
theorem dL_law_32 : decode cL_law 32 = .ok (.iand, 1) := by decide +kernel
theorem dL_law_33 : decode cL_law 33 = .ok (.tableswitch 1858 0 37 #[167, 230, 253, 286, 309, 342, 411, 454, 487, 550, 613, 666, 709, 742, 775, 818, 861, 904, 947, 1000, 1043, 1077, 1120, 1163, 1216, 1269, 1312, 1381, 1424, 1493, 1546, 1615, 1664, 1707, 1766, 1789, 1812, 1835], 167) := by decide +kernel
set_option maxHeartbeats 4000000 in
set_option maxRecDepth 100000 in
theorem whole_start {p : Program} {e : Env} {s : State} {m : MethodId} {below : List Frame} {meth : Method} {c : Code} (l : Launch) (hflags : l.flags = flags0) {b L : Nat} {xs : Nat → Int32} (hL : L ≤ 6) (C0 : lw_At p s m meth c b L xs) : W p l e room_1 s m #[Value.ref b] below meth c s.heap [] 0 0 (lw_Z below #[Value.ref b] s) (entryFrame m ([Value.ref b] : List Value).toArray 4) := by
  have C1 := C0
  obtain ⟨hx, hb, hr, hml, hown, hts, hX, hbl, hlocks, hgv⟩ := C0
  have hq : ∀ w ∈ gb_wA, w.before #[Value.ref b] s = true := fun w h => hts w (gb_wA_tbl w h)
  obtain ⟨D, cT, tt, hSt⟩ := law_St C1
  obtain ⟨z, hzz⟩ : ∃ z, Array.size s.heap = z := ⟨_, rfl⟩
  rw [hzz] at hSt
  have hbA : ¬ gb_ge z b := Nat.not_le.mpr (by rw [← hzz]; exact hbl)
  have hK := hSt.1
  have hS : va_S (gb_ge z) s.heap s.heap [] := va_S.rf
  have hP : va_P D vwCl (gb_wl z []) s.heap := fun k q h => by simp [gb_wl] at h
  have hz : Array.size s.heap = z + 0 := hzz
  have hl := lv_entry ([.ref b]) (n := 4) (Nat.le_of_ble_eq_true rfl)
  rw [lg_entry_eq]
  generalize (lg_sl ([.ref b]) ++ List.replicate (4 - (lg_sl ([.ref b])).length) Slot.unset).toArray = ls at hl ⊢
  have hl : lv_has ls 4 [(0, .ref b)] := hl
  refine gb_new (ci := 9) (fs := [.null, .null, .null, .null, .null, .null, .null, .null, .null, .int 0]) (C := RX11) (T := TX11) (N := 10) hx hb hq i_X11 tyX11 tyX11_ok hown (hq _ w_22) (hq _ w_23) (hq _ w_1) hK hP hS 0 hz rfl rfl (fun j hj => by rcases (show j = 0 ∨ j = 1 ∨ j = 2 ∨ j = 3 ∨ j = 4 ∨ j = 5 ∨ j = 6 ∨ j = 7 ∨ j = 8 ∨ j = 9 by omega) with rfl | rfl | rfl | rfl | rfl | rfl | rfl | rfl | rfl | rfl <;> rfl) (Nat.le_of_ble_eq_true rfl) (Nat.le_of_ble_eq_true rfl) dL_law_0 (fun H hP hz hS => ?_)
  refine W.widen (k := 1) (n := 10) (Nat.le_of_ble_eq_true rfl) (Nat.le_of_ble_eq_true rfl) ?_
  refine lv_dup hx hb dL_law_3 rfl ?_
  have hPs : va_P D vwCl (gb_wl (z + 0) [.inr (9, [.null, .null, .null, .null, .null, .null, .null, .null, .null, .int 0])]) H := hP
  refine gb_callv (va_runI (As := []) (rest := [.ref (z + 0)]) ⟨hx, hb, hml, hown, hq⟩ (k_X11_init l D cT tt z (z + 0) (Nat.le_add_right z 0)) (cwI 0 hq (gb_gI w_26) rfl rfl rfl (hq _ w_1) (hq _ w_24) (hq _ w_25) rfl (by decide +kernel) ⟨Nat.le_of_ble_eq_true rfl, Nat.le_of_ble_eq_true rfl⟩) (gb_preS hSt hS (fun q h => h) ⟨hPs, hz⟩) rfl rfl hl.1 rfl (lv_room (Nat.le_of_ble_eq_true rfl)) dL_law_4 ⟨Nat.le_of_ble_eq_true rfl, Nat.le_of_ble_eq_true rfl⟩) hS (fun q h => Nat.le_trans (Nat.le_add_right z 0) h) (fun q h => Nat.le_trans (Nat.le_add_right z 0) h) (fun H locs hY hk hS => ?_)
  have hP : va_P D vwCl (gb_wl z (gb_C cT z)) H := hY.1
  have hz : Array.size H = z + 135 := hY.2
  refine W.widen (k := 135) (n := 5831) (Nat.le_of_ble_eq_true rfl) (Nat.le_of_ble_eq_true rfl) ?_
  refine lv_astore_n (lv' := [(1, .ref (z + 0)), (0, .ref b)]) hx hb dL_law_7 rfl hl (by decide) rfl (fun ls hl => ?_)
  refine gb_new (ci := 10) (fs := [.null, .null, .int 0, .int 0, .int 0, .int 0, .int 0, .int 0, .int 0, .int 0, .null, .int 0, .int 0, .null, .null, .null, .null, .null, .null, .null, .null, .null, .int 0, .int 0, .int 0, .int 0, .null, .null, .int 0, .int 0, .null, .null, .null, .long 0, .int 0, .int 0, .int 0, .null, .int 0, .null, .null, .int 0, .int 0, .null]) (C := RX12) (T := TX12) (N := 44) hx hb hq i_X12 tyX12 tyX12_ok hown (hq _ w_1118) (hq _ w_1119) (hq _ w_14) hK hP hS 135 hz rfl rfl (fun j hj => by rcases (show j = 0 ∨ j = 1 ∨ j = 2 ∨ j = 3 ∨ j = 4 ∨ j = 5 ∨ j = 6 ∨ j = 7 ∨ j = 8 ∨ j = 9 ∨ j = 10 ∨ j = 11 ∨ j = 12 ∨ j = 13 ∨ j = 14 ∨ j = 15 ∨ j = 16 ∨ j = 17 ∨ j = 18 ∨ j = 19 ∨ j = 20 ∨ j = 21 ∨ j = 22 ∨ j = 23 ∨ j = 24 ∨ j = 25 ∨ j = 26 ∨ j = 27 ∨ j = 28 ∨ j = 29 ∨ j = 30 ∨ j = 31 ∨ j = 32 ∨ j = 33 ∨ j = 34 ∨ j = 35 ∨ j = 36 ∨ j = 37 ∨ j = 38 ∨ j = 39 ∨ j = 40 ∨ j = 41 ∨ j = 42 ∨ j = 43 by omega) with rfl | rfl | rfl | rfl | rfl | rfl | rfl | rfl | rfl | rfl | rfl | rfl | rfl | rfl | rfl | rfl | rfl | rfl | rfl | rfl | rfl | rfl | rfl | rfl | rfl | rfl | rfl | rfl | rfl | rfl | rfl | rfl | rfl | rfl | rfl | rfl | rfl | rfl | rfl | rfl | rfl | rfl | rfl | rfl <;> rfl) (Nat.le_of_ble_eq_true rfl) (Nat.le_of_ble_eq_true rfl) dL_law_8 (fun H hP hz hS => ?_)
  refine W.widen (k := 136) (n := 5875) (Nat.le_of_ble_eq_true rfl) (Nat.le_of_ble_eq_true rfl) ?_
  refine lv_dup hx hb dL_law_11 rfl ?_
  have hPs : va_P D vwCl (gb_wl (z + 135) [.inr (10, [.null, .null, .int 0, .int 0, .int 0, .int 0, .int 0, .int 0, .int 0, .int 0, .null, .int 0, .int 0, .null, .null, .null, .null, .null, .null, .null, .null, .null, .int 0, .int 0, .int 0, .int 0, .null, .null, .int 0, .int 0, .null, .null, .null, .long 0, .int 0, .int 0, .int 0, .null, .int 0, .null, .null, .int 0, .int 0, .null])]) H := gb_drop hP 135 rfl rfl
  have hPc : va_P D vwCl (gb_wl z (gb_C cT z)) H := law_take hP
  refine gb_callv (va_runI (As := []) (rest := [.ref (z + 135)]) ⟨hx, hb, hml, hown, hq⟩ (k_X12_init l D cT tt z (z + 135) (Nat.le_add_right z 135)) (cwI 0 hq (gb_gI w_1122) rfl rfl rfl (hq _ w_14) (hq _ w_1120) (hq _ w_1121) rfl (by decide +kernel) ⟨Nat.le_of_ble_eq_true rfl, Nat.le_of_ble_eq_true rfl⟩) (gb_preS hSt hS (fun q h => h) ⟨hPs, hz⟩) rfl rfl hl.1 rfl (lv_room (Nat.le_of_ble_eq_true rfl)) dL_law_12 ⟨Nat.le_of_ble_eq_true rfl, Nat.le_of_ble_eq_true rfl⟩) hS (fun q h => Nat.le_trans (Nat.le_add_right z 135) h) (fun q h => Nat.le_trans (Nat.le_add_right z 135) h) (fun H locs hY hk hS => ?_)
  have hPm : va_P D vwCl (gb_wl (z + 135) (gb_M cT (z + 135))) H := hY.1
  have hPc := gb_kept hPc (fun q h1 h2 => hk q (by rw [hz]; exact Nat.lt_of_lt_of_le h2 (Nat.le_succ _)) (fun h3 => Nat.not_lt.mpr h3 h2))
  refine W.widen (k := 157) (n := 10381) (Nat.le_of_ble_eq_true rfl) (Nat.le_of_ble_eq_true rfl) ?_
  refine lv_astore_n (lv' := [(2, .ref (z + 135)), (1, .ref (z + 0)), (0, .ref b)]) hx hb dL_law_15 rfl hl (by decide) rfl (fun ls hl => ?_)
  refine lv_iconst (v := 0) hx hb dL_law_16 (by decide) ?_
  refine lv_istore_n (lv' := [(3, .int 0), (2, .ref (z + 135)), (1, .ref (z + 0)), (0, .ref b)]) hx hb dL_law_17 rfl hl (by decide) rfl (fun ls hl => ?_)
  refine lv_iload_n hx hb dL_law_18 rfl (lv_at hl 0 rfl) ?_
  refine lv_aload_n hx hb dL_law_19 rfl (lv_at hl 3 rfl) ?_
  refine va_slen hx hb hX hbl hbA hS dL_law_20 ?_
  refine lv_bipush (v := 6) hx hb dL_law_21 (by decide) ?_
  refine lv_isub hx hb dL_law_23 ?_
  by_cases hL6 : L < 6
  · refine lv_icmp_gt (tgt := 1897) hx hb dL_law_24 (by decide) (fun _ => ?_) (fun hc => absurd (law_lt hL6) hc)
    refine lv_iconst (v := 1) hx hb dL_law_1897 (by decide) ?_
    refine va_forget (fun q hq => by rw [hzz]; exact hS.2.2 q hq) ?_
    refine W.widen (k := 600000) (n := 7302250) (Nat.le_of_ble_eq_true rfl) (Nat.le_of_ble_eq_true rfl) ?_
    exact lw_ret hx hb hr hlocks dL_law_1898
  have hLe : L = 6 := by omega
  subst hLe
  refine lv_icmp_gt (tgt := 1897) hx hb dL_law_24 (by decide) (fun hc => absurd hc (by decide)) (fun _ => ?_)
  refine lv_aload_n hx hb dL_law_27 rfl (lv_at hl 3 rfl) ?_
  refine lv_iload_n hx hb dL_law_28 rfl (lv_at hl 0 rfl) ?_
  refine va_sld hx hb hX hbl hbA hS (gb_in rfl) dL_law_29 ?_
  refine lv_bipush (v := 63) hx hb dL_law_30 (by decide) ?_
  refine lv_iand hx hb dL_law_32 ?_
  obtain ⟨j, hj, hje⟩ := pk_andE (xs (Int32.toNatClampNeg 0)) (m := 63) 6 (by decide)
  rw [hje]
  by_cases h38 : 38 ≤ j
  · refine lv_tableOut (tgt := 1891) hx hb dL_law_33 (Or.inr (law_ov h38 hj)) (by decide) ?_
    exact law_end C1 hzz hS (lv_sub hl [0, 3] rfl)
  have hl : lv_has ls 4 [(3, .int 0), (2, .ref (z + 135 + 0)), (1, .ref (z + 0)), (0, .ref b)] := hl
  rcases (show j = 0 ∨ j = 1 ∨ j = 2 ∨ j = 3 ∨ j = 4 ∨ j = 5 ∨ j = 6 ∨ j = 7 ∨ j = 8 ∨ j = 9 ∨ j = 10 ∨ j = 11 ∨ j = 12 ∨ j = 13 ∨ j = 14 ∨ j = 15 ∨ j = 16 ∨ j = 17 ∨ j = 18 ∨ j = 19 ∨ j = 20 ∨ j = 21 ∨ j = 22 ∨ j = 23 ∨ j = 24 ∨ j = 25 ∨ j = 26 ∨ j = 27 ∨ j = 28 ∨ j = 29 ∨ j = 30 ∨ j = 31 ∨ j = 32 ∨ j = 33 ∨ j = 34 ∨ j = 35 ∨ j = 36 ∨ j = 37 by omega) with rfl | rfl | rfl | rfl | rfl | rfl | rfl | rfl | rfl | rfl | rfl | rfl | rfl | rfl | rfl | rfl | rfl | rfl | rfl | rfl | rfl | rfl | rfl | rfl | rfl | rfl | rfl | rfl | rfl | rfl | rfl | rfl | rfl | rfl | rfl | rfl | rfl | rfl
  · exact lv_tableIn (off := 167) (tgt := 200) hx hb dL_law_33 (by decide) (by decide) (by decide) (by decide) (law_c0 C1 hzz hSt hPc hPm hS hl)
  · exact lv_tableIn (off := 230) (tgt := 263) hx hb dL_law_33 (by decide) (by decide) (by decide) (by decide) (law_c1 C1 hzz hSt hPc hPm hS hl)
  · exact lv_tableIn (off := 253) (tgt := 286) hx hb dL_law_33 (by decide) (by decide) (by decide) (by decide) (law_c2 C1 hzz hSt hPc hPm hS hl)
  · exact lv_tableIn (off := 286) (tgt := 319) hx hb dL_law_33 (by decide) (by decide) (by decide) (by decide) (law_c3 C1 hzz hSt hPc hPm hS hl)
  · exact lv_tableIn (off := 309) (tgt := 342) hx hb dL_law_33 (by decide) (by decide) (by decide) (by decide) (law_c4 C1 hzz hSt hPc hPm hS hl)
  · exact lv_tableIn (off := 342) (tgt := 375) hx hb dL_law_33 (by decide) (by decide) (by decide) (by decide) (law_c5 C1 hzz hSt hPc hPm hS hl)
  · exact lv_tableIn (off := 411) (tgt := 444) hx hb dL_law_33 (by decide) (by decide) (by decide) (by decide) (law_c6 C1 hzz hSt hPc hPm hS hl)
  · exact lv_tableIn (off := 454) (tgt := 487) hx hb dL_law_33 (by decide) (by decide) (by decide) (by decide) (law_c7 C1 hzz hSt hPc hPm hS hl)
  · exact lv_tableIn (off := 487) (tgt := 520) hx hb dL_law_33 (by decide) (by decide) (by decide) (by decide) (law_c8 C1 hzz hSt hPc hPm hS hl)
  · exact lv_tableIn (off := 550) (tgt := 583) hx hb dL_law_33 (by decide) (by decide) (by decide) (by decide) (law_c9 C1 hzz hSt hPc hPm hS hl)
  · exact lv_tableIn (off := 613) (tgt := 646) hx hb dL_law_33 (by decide) (by decide) (by decide) (by decide) (law_c10 C1 hzz hSt hPc hPm hS hl)
  · exact lv_tableIn (off := 666) (tgt := 699) hx hb dL_law_33 (by decide) (by decide) (by decide) (by decide) (law_c11 C1 hzz hSt hPc hPm hS hl)
  · exact lv_tableIn (off := 709) (tgt := 742) hx hb dL_law_33 (by decide) (by decide) (by decide) (by decide) (law_c12 C1 hzz hSt hPc hPm hS hl)
  · exact lv_tableIn (off := 742) (tgt := 775) hx hb dL_law_33 (by decide) (by decide) (by decide) (by decide) (law_c13 C1 hzz hSt hPc hPm hS hl)
  · exact lv_tableIn (off := 775) (tgt := 808) hx hb dL_law_33 (by decide) (by decide) (by decide) (by decide) (law_c14 C1 hzz hSt hPc hPm hS hl)
  · exact lv_tableIn (off := 818) (tgt := 851) hx hb dL_law_33 (by decide) (by decide) (by decide) (by decide) (law_c15 C1 hzz hSt hPc hPm hS hl)
  · exact lv_tableIn (off := 861) (tgt := 894) hx hb dL_law_33 (by decide) (by decide) (by decide) (by decide) (law_c16 C1 hzz hSt hPc hPm hS hl)
  · exact lv_tableIn (off := 904) (tgt := 937) hx hb dL_law_33 (by decide) (by decide) (by decide) (by decide) (law_c17 C1 hzz hSt hPc hPm hS hl)
  · exact lv_tableIn (off := 947) (tgt := 980) hx hb dL_law_33 (by decide) (by decide) (by decide) (by decide) (law_c18 C1 hzz hSt hPc hPm hS hl)
  · exact lv_tableIn (off := 1000) (tgt := 1033) hx hb dL_law_33 (by decide) (by decide) (by decide) (by decide) (law_c19 C1 hzz hSt hPc hPm hS hl)
  · exact lv_tableIn (off := 1043) (tgt := 1076) hx hb dL_law_33 (by decide) (by decide) (by decide) (by decide) (law_c20 C1 hzz hSt hPc hPm hS hl)
  · exact lv_tableIn (off := 1077) (tgt := 1110) hx hb dL_law_33 (by decide) (by decide) (by decide) (by decide) (law_c21 C1 hzz hSt hPc hPm hS hl)
  · exact lv_tableIn (off := 1120) (tgt := 1153) hx hb dL_law_33 (by decide) (by decide) (by decide) (by decide) (law_c22 C1 hzz hSt hPc hPm hS hl)
  · exact lv_tableIn (off := 1163) (tgt := 1196) hx hb dL_law_33 (by decide) (by decide) (by decide) (by decide) (law_c23 C1 hzz hSt hPc hPm hS hl)
  · exact lv_tableIn (off := 1216) (tgt := 1249) hx hb dL_law_33 (by decide) (by decide) (by decide) (by decide) (law_c24 C1 hzz hSt hPc hPm hS hl)
  · exact lv_tableIn (off := 1269) (tgt := 1302) hx hb dL_law_33 (by decide) (by decide) (by decide) (by decide) (law_c25 C1 hzz hSt hPc hPm hS hl)
  · exact lv_tableIn (off := 1312) (tgt := 1345) hx hb dL_law_33 (by decide) (by decide) (by decide) (by decide) (law_c26 C1 hzz hSt hPc hPm hS hl)
  · exact lv_tableIn (off := 1381) (tgt := 1414) hx hb dL_law_33 (by decide) (by decide) (by decide) (by decide) (law_c27 C1 hzz hSt hPc hPm hS hl)
  · exact lv_tableIn (off := 1424) (tgt := 1457) hx hb dL_law_33 (by decide) (by decide) (by decide) (by decide) (law_c28 C1 hzz hSt hPc hPm hS hl)
  · exact lv_tableIn (off := 1493) (tgt := 1526) hx hb dL_law_33 (by decide) (by decide) (by decide) (by decide) (law_c29 C1 hzz hSt hPc hPm hS hl)
  · exact lv_tableIn (off := 1546) (tgt := 1579) hx hb dL_law_33 (by decide) (by decide) (by decide) (by decide) (law_c30 C1 hzz hSt hPc hPm hS hl)
  · exact lv_tableIn (off := 1615) (tgt := 1648) hx hb dL_law_33 (by decide) (by decide) (by decide) (by decide) (law_c31 C1 hzz hSt hPc hPm hS hl)
  · exact lv_tableIn (off := 1664) (tgt := 1697) hx hb dL_law_33 (by decide) (by decide) (by decide) (by decide) (law_c32 C1 hzz hSt hPc hPm hS hl)
  · exact lv_tableIn (off := 1707) (tgt := 1740) hx hb dL_law_33 (by decide) (by decide) (by decide) (by decide) (law_c33 C1 hzz hSt hPc hPm hS hl)
  · exact lv_tableIn (off := 1766) (tgt := 1799) hx hb dL_law_33 (by decide) (by decide) (by decide) (by decide) (law_c34 C1 hzz hSt hPc hPm hS hl)
  · exact lv_tableIn (off := 1789) (tgt := 1822) hx hb dL_law_33 (by decide) (by decide) (by decide) (by decide) (law_c35 C1 hzz hSt hPc hPm hS hl)
  · exact lv_tableIn (off := 1812) (tgt := 1845) hx hb dL_law_33 (by decide) (by decide) (by decide) (by decide) (law_c36 C1 hzz hSt hPc hPm hS hl)
  · exact lv_tableIn (off := 1835) (tgt := 1868) hx hb dL_law_33 (by decide) (by decide) (by decide) (by decide) (law_c37 C1 hzz hSt hPc hPm hS hl)
