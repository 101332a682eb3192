theorem law_ov {x : Nat} (h : 38 ≤ x) (h2 : x < 64) : (37 : Int) < (nI x).toInt := by
  rw [nI_toInt (by omega)]
  omega
theorem law_in {i : Int32} {j L : Nat} (hi : i.toInt = j) (hL : L ≤ 100000) (h : j + 6 ≤ L) : vp_in i L ∧ vp_in (i + 1) L ∧ vp_in (i + 2) L ∧ vp_in (i + 3) L ∧ vp_in (i + 4) L ∧ vp_in (i + 5) L := by
  have k : ∀ (c : Int32) (a : Nat), c.toInt = a → a ≤ 5 → vp_in (i + c) L := fun c a hc ha => by
    refine vp_in_iff.mpr ?_
    rw [gb_tadd (by omega) (by omega), hi, hc]
    constructor <;> omega
  exact ⟨vp_in_iff.mpr (by rw [hi]; constructor <;> omega), k 1 1 (by decide) (by decide), k 2 2 (by decide) (by decide), k 3 3 (by decide) (by decide), k 4 4 (by decide) (by decide), k 5 5 (by decide) (by decide)⟩
theorem dL_law_1896 : decode cL_law 1896 = .ok (.iconst 1, 1) := dc_4 (dc_cut (j := 40) (n := 1) (l := [4]) dq_cL_law_1856 (by decide +kernel) (by decide))
theorem dL_law_1890 : decode cL_law 1890 = .ok (.iinc 3 6, 3) := dc_132 (dc_cut (j := 34) (n := 3) (l := [132, 3, 6]) dq_cL_law_1856 (by decide +kernel) (by decide)) rfl
theorem dL_law_1893 : decode cL_law 1893 = .ok (.goto (-1875), 3) := dc_167 (dc_cut (j := 37) (n := 3) (l := [167, 248, 173]) dq_cL_law_1856 (by decide +kernel) (by decide)) rfl
theorem dL_law_27 : decode cL_law 27 = .ok (.aload_n 0, 1) := dc_42 (dc_cut (j := 27) (n := 1) (l := [42]) dq_cL_law_0 (by decide +kernel) (by decide))
theorem dL_law_28 : decode cL_law 28 = .ok (.iload_n 3, 1) := dc_29 (dc_cut (j := 28) (n := 1) (l := [29]) dq_cL_law_0 (by decide +kernel) (by decide))
theorem dL_law_29 : decode cL_law 29 = .ok (.iaload, 1) := dc_46 (dc_cut (j := 29) (n := 1) (l := [46]) dq_cL_law_0 (by decide +kernel) (by decide))
theorem dL_law_30 : decode cL_law 30 = .ok (.bipush 63, 2) := dc_16 (dc_cut (j := 30) (n := 2) (l := [16, 63]) dq_cL_law_0 (by decide +kernel) (by decide)) rfl
theorem dL_law_32 : decode cL_law 32 = .ok (.iand, 1) := dc_126 (dc_cut (j := 32) (n := 1) (l := [126]) dq_cL_law_0 (by decide +kernel) (by decide))
theorem dL_law_33 : decode cL_law 33 = .ok (.tableswitch 1857 0 37 #[167, 230, 253, 286, 309, 342, 411, 454, 487, 550, 613, 666, 709, 742, 775, 818, 861, 904, 947, 1000, 1043, 1076, 1119, 1162, 1215, 1268, 1311, 1380, 1423, 1492, 1545, 1614, 1663, 1706, 1765, 1788, 1811, 1834], 167) := by decide +kernel
set_option maxHeartbeats 4000000 in
set_option maxRecDepth 100000 in
theorem law_loop {p : Program} {l : Launch} {e : Env} {s : State} {m : MethodId} {below : List Frame} {meth : Method} {c : Code} {b z L : Nat} {xs : Nat → Int32} (C0 : lw_At p s m meth c b L xs) (hzz : Array.size s.heap = z) {D : va_G} {cT : Nat → ClassId} {tt ak av : Nat → Nat} (hSt2 : gb_St2 D cT tt ak av z s) (hL : L ≤ 3072) : ∀ (mm j : Nat) (i : Int32) (σ : gb_S) (f : gb_F) (w : Int64) (H : Heap) (locs : List Loc) (ls : Array Slot), i.toInt = j → j ≤ L + 6 → L + 6 - j < mm → gb_Inv σ f → va_P D vwCl (gb_wl z (gb_CW cT z σ)) H → va_P D vwCl (gb_wl (z + 135) (gb_MW cT (z + 135) f w)) H → va_S (gb_ge z) s.heap H locs → lv_has ls 4 [(3, .int i), (2, .ref (z + 135 + 0)), (1, .ref (z + 0)), (0, .ref b)] → W p l e room_1 s m #[Value.ref b] below meth c H locs 157 10381 (lw_Z below #[Value.ref b] s) (F0 m 18 ls []) := by
  have C1 := C0
  obtain ⟨hx, hb, hr, hml, hown, hts, hX, hbl, hlocks, hgv⟩ := C0
  have hq : ∀ w ∈ gb_wA, w.before #[Value.ref b] s = true := fun w h => hts w (gb_wA_tbl w h)
  have hbA : ¬ gb_ge z b := Nat.not_le.mpr (by rw [← hzz]; exact hbl)
  have c6 : (6 : Int32).toInt = 6 := by decide
  have eL : (nI L).toInt = L := nI_toInt (by omega)
  have e6 : (nI L - 6).toInt = (L : Int) - 6 := by
    rw [gb_tsub (by rw [eL, c6]; omega) (by rw [eL, c6]; omega), eL, c6]
  intro mm
  induction mm with
  | zero =>
    intro j i σ f w H locs ls hj hjL hm
    exact absurd hm (Nat.not_lt_zero _)
  | succ mm ih =>
    intro j i σ f w H locs ls hj hjL hm hI hPc hPm hS hl
    refine lv_iload_n hx hb dL_law_18 rfl (lv_at hl 0 rfl) ?_
    refine lv_aload_n hx hb dL_law_19 rfl (lv_at hl 3 rfl) ?_
    refine va_slen hx hb hX hbl hbA hS dL_law_20 ?_
    refine lv_bipush (v := 6) hx hb dL_law_21 (by decide) ?_
    refine lv_isub hx hb dL_law_23 ?_
    refine lv_icmp_gt (tgt := 1896) hx hb dL_law_24 (by decide) (fun _ => ?_) (fun hc => ?_)
    · refine lv_iconst (v := 1) hx hb dL_law_1896 (by decide) ?_
      refine va_forget (fun q hq => by rw [hzz]; exact hS.2.2 q hq) ?_
      refine W.widen (k := 600000) (n := 7302250) (Nat.le_of_ble_eq_true rfl) (Nat.le_of_ble_eq_true rfl) ?_
      exact lw_ret hx hb hr hlocks dL_law_1897
    have hlt : i.toInt + 0 ≤ (nI L - 6).toInt := gb_dnlt hc
    have hj6 : j + 6 ≤ L := by
      rw [e6, hj] at hlt
      omega
    obtain ⟨h0, h1, h2, h3, h4, h5⟩ := law_in hj (by omega) hj6
    have hend : ∀ (σ : gb_S) (f : gb_F) (w : Int64) (H : Heap) (locs : List Loc) (ls : Array Slot), gb_Inv σ f → va_P D vwCl (gb_wl z (gb_CW cT z σ)) H → va_P D vwCl (gb_wl (z + 135) (gb_MW cT (z + 135) f w)) H → va_S (gb_ge z) s.heap H locs → lv_has ls 4 [(3, .int i), (2, .ref (z + 135 + 0)), (1, .ref (z + 0)), (0, .ref b)] → W p l e room_1 s m #[Value.ref b] below meth c H locs 157 10381 (lw_Z below #[Value.ref b] s) (F0 m 1890 ls []) := by
      intro σ f w H locs ls hI hPc hPm hS hl
      have e1 : (i + 6).toInt = ((j + 6 : Nat) : Int) := by
        rw [gb_tadd (by rw [hj, c6]; omega) (by rw [hj, c6]; omega), hj, c6]
        omega
      refine lv_iinc (v := i + 6) (lv' := [(3, .int (i + 6)), (2, .ref (z + 135 + 0)), (1, .ref (z + 0)), (0, .ref b)]) hx hb dL_law_1890 hl (k := 0) rfl rfl (by decide) rfl (fun ls hl => ?_)
      refine lv_goto (tgt := 18) hx hb dL_law_1893 (by decide) ?_
      exact ih (j + 6) (i + 6) σ f w H locs ls e1 (by omega) (by omega) hI hPc hPm hS hl
    refine lv_aload_n hx hb dL_law_27 rfl (lv_at hl 3 rfl) ?_
    refine lv_iload_n hx hb dL_law_28 rfl (lv_at hl 0 rfl) ?_
    refine va_sld hx hb hX hbl hbA hS h0 dL_law_29 ?_
    refine lv_bipush (v := 63) hx hb dL_law_30 (by decide) ?_
    refine lv_iand hx hb dL_law_32 ?_
    obtain ⟨q, hq6, hqe⟩ := pk_andE (xs (Int32.toNatClampNeg i)) (m := 63) 6 (by decide)
    rw [hqe]
    by_cases h38 : 38 ≤ q
    · refine lv_tableOut (tgt := 1890) hx hb dL_law_33 (Or.inr (law_ov h38 hq6)) (by decide) ?_
      exact hend _ _ _ _ _ _ hI hPc hPm hS hl
    rcases (show q = 0 ∨ q = 1 ∨ q = 2 ∨ q = 3 ∨ q = 4 ∨ q = 5 ∨ q = 6 ∨ q = 7 ∨ q = 8 ∨ q = 9 ∨ q = 10 ∨ q = 11 ∨ q = 12 ∨ q = 13 ∨ q = 14 ∨ q = 15 ∨ q = 16 ∨ q = 17 ∨ q = 18 ∨ q = 19 ∨ q = 20 ∨ q = 21 ∨ q = 22 ∨ q = 23 ∨ q = 24 ∨ q = 25 ∨ q = 26 ∨ q = 27 ∨ q = 28 ∨ q = 29 ∨ q = 30 ∨ q = 31 ∨ q = 32 ∨ q = 33 ∨ q = 34 ∨ q = 35 ∨ q = 36 ∨ q = 37 by omega) with rfl | rfl | rfl | rfl | rfl | rfl | rfl | rfl | rfl | rfl | rfl | rfl | rfl | rfl | rfl | rfl | rfl | rfl | rfl | rfl | rfl | rfl | rfl | rfl | rfl | rfl | rfl | rfl | rfl | rfl | rfl | rfl | rfl | rfl | rfl | rfl | rfl | rfl
    · exact lv_tableIn (off := 167) (tgt := 200) hx hb dL_law_33 (by decide) (by decide) (by decide) (by decide) (law_c0 C1 hzz hSt2 h1 h2 h3 h4 h5 hend _ _ _ _ _ _ hI hPc hPm hS hl)
    · exact lv_tableIn (off := 230) (tgt := 263) hx hb dL_law_33 (by decide) (by decide) (by decide) (by decide) (law_c1 C1 hzz hSt2 h1 h2 h3 h4 h5 hend _ _ _ _ _ _ hI hPc hPm hS hl)
    · exact lv_tableIn (off := 253) (tgt := 286) hx hb dL_law_33 (by decide) (by decide) (by decide) (by decide) (law_c2 C1 hzz hSt2 h1 h2 h3 h4 h5 hend _ _ _ _ _ _ hI hPc hPm hS hl)
    · exact lv_tableIn (off := 286) (tgt := 319) hx hb dL_law_33 (by decide) (by decide) (by decide) (by decide) (law_c3 C1 hzz hSt2 h1 h2 h3 h4 h5 hend _ _ _ _ _ _ hI hPc hPm hS hl)
    · exact lv_tableIn (off := 309) (tgt := 342) hx hb dL_law_33 (by decide) (by decide) (by decide) (by decide) (law_c4 C1 hzz hSt2 h1 h2 h3 h4 h5 hend _ _ _ _ _ _ hI hPc hPm hS hl)
    · exact lv_tableIn (off := 342) (tgt := 375) hx hb dL_law_33 (by decide) (by decide) (by decide) (by decide) (law_c5 C1 hzz hSt2 h1 h2 h3 h4 h5 hend _ _ _ _ _ _ hI hPc hPm hS hl)
    · exact lv_tableIn (off := 411) (tgt := 444) hx hb dL_law_33 (by decide) (by decide) (by decide) (by decide) (law_c6 C1 hzz hSt2 h1 h2 h3 h4 h5 hend _ _ _ _ _ _ hI hPc hPm hS hl)
    · exact lv_tableIn (off := 454) (tgt := 487) hx hb dL_law_33 (by decide) (by decide) (by decide) (by decide) (law_c7 C1 hzz hSt2 h1 h2 h3 h4 h5 hend _ _ _ _ _ _ hI hPc hPm hS hl)
    · exact lv_tableIn (off := 487) (tgt := 520) hx hb dL_law_33 (by decide) (by decide) (by decide) (by decide) (law_c8 C1 hzz hSt2 h1 h2 h3 h4 h5 hend _ _ _ _ _ _ hI hPc hPm hS hl)
    · exact lv_tableIn (off := 550) (tgt := 583) hx hb dL_law_33 (by decide) (by decide) (by decide) (by decide) (law_c9 C1 hzz hSt2 h1 h2 h3 h4 h5 hend _ _ _ _ _ _ hI hPc hPm hS hl)
    · exact lv_tableIn (off := 613) (tgt := 646) hx hb dL_law_33 (by decide) (by decide) (by decide) (by decide) (law_c10 C1 hzz hSt2 h1 h2 h3 h4 h5 hend _ _ _ _ _ _ hI hPc hPm hS hl)
    · exact lv_tableIn (off := 666) (tgt := 699) hx hb dL_law_33 (by decide) (by decide) (by decide) (by decide) (law_c11 C1 hzz hSt2 h1 h2 h3 h4 h5 hend _ _ _ _ _ _ hI hPc hPm hS hl)
    · exact lv_tableIn (off := 709) (tgt := 742) hx hb dL_law_33 (by decide) (by decide) (by decide) (by decide) (law_c12 C1 hzz hSt2 h1 h2 h3 h4 h5 hend _ _ _ _ _ _ hI hPc hPm hS hl)
    · exact lv_tableIn (off := 742) (tgt := 775) hx hb dL_law_33 (by decide) (by decide) (by decide) (by decide) (law_c13 C1 hzz hSt2 h1 h2 h3 h4 h5 hend _ _ _ _ _ _ hI hPc hPm hS hl)
    · exact lv_tableIn (off := 775) (tgt := 808) hx hb dL_law_33 (by decide) (by decide) (by decide) (by decide) (law_c14 C1 hzz hSt2 h1 h2 h3 h4 h5 hend _ _ _ _ _ _ hI hPc hPm hS hl)
    · exact lv_tableIn (off := 818) (tgt := 851) hx hb dL_law_33 (by decide) (by decide) (by decide) (by decide) (law_c15 C1 hzz hSt2 h1 h2 h3 h4 h5 hend _ _ _ _ _ _ hI hPc hPm hS hl)
    · exact lv_tableIn (off := 861) (tgt := 894) hx hb dL_law_33 (by decide) (by decide) (by decide) (by decide) (law_c16 C1 hzz hSt2 h1 h2 h3 h4 h5 hend _ _ _ _ _ _ hI hPc hPm hS hl)
    · exact lv_tableIn (off := 904) (tgt := 937) hx hb dL_law_33 (by decide) (by decide) (by decide) (by decide) (law_c17 C1 hzz hSt2 h1 h2 h3 h4 h5 hend _ _ _ _ _ _ hI hPc hPm hS hl)
    · exact lv_tableIn (off := 947) (tgt := 980) hx hb dL_law_33 (by decide) (by decide) (by decide) (by decide) (law_c18 C1 hzz hSt2 h1 h2 h3 h4 h5 hend _ _ _ _ _ _ hI hPc hPm hS hl)
    · exact lv_tableIn (off := 1000) (tgt := 1033) hx hb dL_law_33 (by decide) (by decide) (by decide) (by decide) (law_c19 C1 hzz hSt2 h1 h2 h3 h4 h5 hend _ _ _ _ _ _ hI hPc hPm hS hl)
    · exact lv_tableIn (off := 1043) (tgt := 1076) hx hb dL_law_33 (by decide) (by decide) (by decide) (by decide) (law_c20 C1 hzz hSt2 h1 h2 h3 h4 h5 hend _ _ _ _ _ _ hI hPc hPm hS hl)
    · exact lv_tableIn (off := 1076) (tgt := 1109) hx hb dL_law_33 (by decide) (by decide) (by decide) (by decide) (law_c21 C1 hzz hSt2 h1 h2 h3 h4 h5 hend _ _ _ _ _ _ hI hPc hPm hS hl)
    · exact lv_tableIn (off := 1119) (tgt := 1152) hx hb dL_law_33 (by decide) (by decide) (by decide) (by decide) (law_c22 C1 hzz hSt2 h1 h2 h3 h4 h5 hend _ _ _ _ _ _ hI hPc hPm hS hl)
    · exact lv_tableIn (off := 1162) (tgt := 1195) hx hb dL_law_33 (by decide) (by decide) (by decide) (by decide) (law_c23 C1 hzz hSt2 h1 h2 h3 h4 h5 hend _ _ _ _ _ _ hI hPc hPm hS hl)
    · exact lv_tableIn (off := 1215) (tgt := 1248) hx hb dL_law_33 (by decide) (by decide) (by decide) (by decide) (law_c24 C1 hzz hSt2 h1 h2 h3 h4 h5 hend _ _ _ _ _ _ hI hPc hPm hS hl)
    · exact lv_tableIn (off := 1268) (tgt := 1301) hx hb dL_law_33 (by decide) (by decide) (by decide) (by decide) (law_c25 C1 hzz hSt2 h1 h2 h3 h4 h5 hend _ _ _ _ _ _ hI hPc hPm hS hl)
    · exact lv_tableIn (off := 1311) (tgt := 1344) hx hb dL_law_33 (by decide) (by decide) (by decide) (by decide) (law_c26 C1 hzz hSt2 h1 h2 h3 h4 h5 hend _ _ _ _ _ _ hI hPc hPm hS hl)
    · exact lv_tableIn (off := 1380) (tgt := 1413) hx hb dL_law_33 (by decide) (by decide) (by decide) (by decide) (law_c27 C1 hzz hSt2 h1 h2 h3 h4 h5 hend _ _ _ _ _ _ hI hPc hPm hS hl)
    · exact lv_tableIn (off := 1423) (tgt := 1456) hx hb dL_law_33 (by decide) (by decide) (by decide) (by decide) (law_c28 C1 hzz hSt2 h1 h2 h3 h4 h5 hend _ _ _ _ _ _ hI hPc hPm hS hl)
    · exact lv_tableIn (off := 1492) (tgt := 1525) hx hb dL_law_33 (by decide) (by decide) (by decide) (by decide) (law_c29 C1 hzz hSt2 h1 h2 h3 h4 h5 hend _ _ _ _ _ _ hI hPc hPm hS hl)
    · exact lv_tableIn (off := 1545) (tgt := 1578) hx hb dL_law_33 (by decide) (by decide) (by decide) (by decide) (law_c30 C1 hzz hSt2 h1 h2 h3 h4 h5 hend _ _ _ _ _ _ hI hPc hPm hS hl)
    · exact lv_tableIn (off := 1614) (tgt := 1647) hx hb dL_law_33 (by decide) (by decide) (by decide) (by decide) (law_c31 C1 hzz hSt2 h1 h2 h3 h4 h5 hend _ _ _ _ _ _ hI hPc hPm hS hl)
    · exact lv_tableIn (off := 1663) (tgt := 1696) hx hb dL_law_33 (by decide) (by decide) (by decide) (by decide) (law_c32 C1 hzz hSt2 h1 h2 h3 h4 h5 hend _ _ _ _ _ _ hI hPc hPm hS hl)
    · exact lv_tableIn (off := 1706) (tgt := 1739) hx hb dL_law_33 (by decide) (by decide) (by decide) (by decide) (law_c33 C1 hzz hSt2 h1 h2 h3 h4 h5 hend _ _ _ _ _ _ hI hPc hPm hS hl)
    · exact lv_tableIn (off := 1765) (tgt := 1798) hx hb dL_law_33 (by decide) (by decide) (by decide) (by decide) (law_c34 C1 hzz hSt2 h1 h2 h3 h4 h5 hend _ _ _ _ _ _ hI hPc hPm hS hl)
    · exact lv_tableIn (off := 1788) (tgt := 1821) hx hb dL_law_33 (by decide) (by decide) (by decide) (by decide) (law_c35 C1 hzz hSt2 h1 h2 h3 h4 h5 hend _ _ _ _ _ _ hI hPc hPm hS hl)
    · exact lv_tableIn (off := 1811) (tgt := 1844) hx hb dL_law_33 (by decide) (by decide) (by decide) (by decide) (law_c36 C1 hzz hSt2 h1 h2 h3 h4 h5 hend _ _ _ _ _ _ hI hPc hPm hS hl)
    · exact lv_tableIn (off := 1834) (tgt := 1867) hx hb dL_law_33 (by decide) (by decide) (by decide) (by decide) (law_c37 C1 hzz hSt2 h1 h2 h3 h4 h5 hend _ _ _ _ _ _ hI hPc hPm hS hl)
