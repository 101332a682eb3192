theorem dX12_isIn_0 : decode cX12_isIn 0 = .ok (.iload_n 0, 1) := dc_26 (show ((cX12_isIn.data.toList.drop 0).take 1).map UInt8.toNat = [26] by decide +kernel)
theorem dX12_isIn_1 : decode cX12_isIn 1 = .ok (.iload_n 1, 1) := dc_27 (show ((cX12_isIn.data.toList.drop 1).take 1).map UInt8.toNat = [27] by decide +kernel)
theorem dX12_isIn_2 : decode cX12_isIn 2 = .ok (.if_icmp .lt 12, 3) := dc_161 (show ((cX12_isIn.data.toList.drop 2).take 3).map UInt8.toNat = [161, 0, 12] by decide +kernel) rfl
theorem dX12_isIn_14 : decode cX12_isIn 14 = .ok (.iconst 0, 1) := dc_3 (show ((cX12_isIn.data.toList.drop 14).take 1).map UInt8.toNat = [3] by decide +kernel)
theorem dX12_isIn_15 : decode cX12_isIn 15 = .ok (.ireturn, 1) := dc_172 (show ((cX12_isIn.data.toList.drop 15).take 1).map UInt8.toNat = [172] by decide +kernel)
theorem dX12_isIn_5 : decode cX12_isIn 5 = .ok (.iload_n 0, 1) := dc_26 (show ((cX12_isIn.data.toList.drop 5).take 1).map UInt8.toNat = [26] by decide +kernel)
theorem dX12_isIn_6 : decode cX12_isIn 6 = .ok (.iload_n 2, 1) := dc_28 (show ((cX12_isIn.data.toList.drop 6).take 1).map UInt8.toNat = [28] by decide +kernel)
theorem dX12_isIn_7 : decode cX12_isIn 7 = .ok (.if_icmp .gt 7, 3) := dc_163 (show ((cX12_isIn.data.toList.drop 7).take 3).map UInt8.toNat = [163, 0, 7] by decide +kernel) rfl
theorem dX12_isIn_10 : decode cX12_isIn 10 = .ok (.iconst 1, 1) := dc_4 (show ((cX12_isIn.data.toList.drop 10).take 1).map UInt8.toNat = [4] by decide +kernel)
theorem dX12_isIn_11 : decode cX12_isIn 11 = .ok (.goto 4, 3) := dc_167 (show ((cX12_isIn.data.toList.drop 11).take 3).map UInt8.toNat = [167, 0, 4] by decide +kernel) rfl
def ms_isIn (n : Nat) (f : gb_F) (w : Int64) (p1 : Int32) (p2 : Int32) (p3 : Int32) : gb_MR Int32 := (if p1 < p2 then some (f, w, 0) else (if p3 < p1 then some (f, w, 0) else some (f, w, 1)))
set_option maxHeartbeats 8000000 in
set_option maxRecDepth 100000 in
theorem mc_isIn (l : Launch) (D : va_G) (cT : Nat → ClassId) (tt : Nat → Nat) (b1 b : Nat) (hb1 : b1 ≤ b) (n : Nat) (f : gb_F) (w : Int64) (p1 : Int32) (p2 : Int32) (p3 : Int32) (fE : gb_F) (wE : Int64) (rE : Int32) (h : ms_isIn n f w p1 p2 p3 = some (fE, wE, rE)) : Met l yX12_isIn (.code yX12_isIn cX12_isIn 3 (some FieldType.boolean) :: gb_wA) ({ frames := 0, cells := 0, slots := 0, locals := 0 }) (gb_Pc D cT tt b1 [.int p1, .int p2, .int p3] (fun h => va_P D vwCl (gb_wl b (gb_MW cT b f w)) h)) (gb_Qi (fun r h => r = rE ∧ va_P D vwCl (gb_wl b (gb_MW cT b fE wE)) h) (gb_fr b 22)) 0 0 (gb_fr b 22) := by
  refine Met.ofW (cc := cX12_isIn) (maxL := 3) (ret := (some FieldType.boolean)) (by decide) rfl ?_
  intro p e s m args below meth c s₁ B hml hv
  obtain ⟨rfl, hSt, hP⟩ := hv
  have hx := B.exec
  have hb := B.bytes
  have hr := B.returns
  have hts := atoms_spec (ws := .code yX12_isIn cX12_isIn 3 (some FieldType.boolean) :: gb_wA) B.pre
  have hq : ∀ w ∈ gb_wA, w.before _ s = true := fun w h => hts w (List.mem_cons_of_mem _ h)
  have hown : s.vm.findClass RX12 = some m.cls := findClass_of_methodNamed B.named
  have hlocks := B.notSynchronized
  clear B hts
  have hK := hSt.1
  have hS : va_S (gb_fr b 22) s.heap s.heap [] := va_S.rf
  have hl := lv_entry ([.int p1, .int p2, .int p3]) (n := 3) (Nat.le_of_ble_eq_true rfl)
  rw [lg_entry_eq]
  generalize (lg_sl ([.int p1, .int p2, .int p3]) ++ List.replicate (3 - (lg_sl ([.int p1, .int p2, .int p3])).length) Slot.unset).toArray = ls at hl ⊢
  replace hl : lv_has ls 3 [(0, .int p1), (1, .int p2), (2, .int p3)] := hl
  unfold ms_isIn at h
  refine lv_iload_n hx hb dX12_isIn_0 rfl (lv_at hl 0 rfl) ?_
  refine lv_iload_n hx hb dX12_isIn_1 rfl (lv_at hl 1 rfl) ?_
  refine lv_icmp_lt (tgt := 14) hx hb dX12_isIn_2 (by decide) (fun c_1 => ?_) (fun c_1 => ?_)
  · rw [if_pos c_1] at h
    refine lv_iconst (v := 0) hx hb dX12_isIn_14 (by decide) ?_
    obtain ⟨e1, e2, e3⟩ := gb_eq3 h
    exact W.zret (v := 0) hx hb hr (by decide) (fun t ht hW => gb_ri ht ⟨e3, by rw [← e1, ← e2]; exact hP⟩ hS) hS.2.2 dX12_isIn_15
  · rw [if_neg c_1] at h
    refine lv_iload_n hx hb dX12_isIn_5 rfl (lv_at hl 0 rfl) ?_
    refine lv_iload_n hx hb dX12_isIn_6 rfl (lv_at hl 2 rfl) ?_
    refine lv_icmp_gt (tgt := 14) hx hb dX12_isIn_7 (by decide) (fun c_2 => ?_) (fun c_2 => ?_)
    · rw [if_pos c_2] at h
      refine lv_iconst (v := 0) hx hb dX12_isIn_14 (by decide) ?_
      obtain ⟨e1, e2, e3⟩ := gb_eq3 h
      exact W.zret (v := 0) hx hb hr (by decide) (fun t ht hW => gb_ri ht ⟨e3, by rw [← e1, ← e2]; exact hP⟩ hS) hS.2.2 dX12_isIn_15
    · rw [if_neg c_2] at h
      refine lv_iconst (v := 1) hx hb dX12_isIn_10 (by decide) ?_
      refine lv_goto (tgt := 15) hx hb dX12_isIn_11 (by decide) ?_
      obtain ⟨e1, e2, e3⟩ := gb_eq3 h
      exact W.zret (v := 1) hx hb hr (by decide) (fun t ht hW => gb_ri ht ⟨e3, by rw [← e1, ← e2]; exact hP⟩ hS) hS.2.2 dX12_isIn_15
theorem dX12_feed_0 : decode cX12_feed 0 = .ok (.aload_n 0, 1) := dc_42 (show ((cX12_feed.data.toList.drop 0).take 1).map UInt8.toNat = [42] by decide +kernel)
theorem dX12_feed_1 : decode cX12_feed 1 = .ok (.getfield 7, 3) := dc_180 (show ((cX12_feed.data.toList.drop 1).take 3).map UInt8.toNat = [180, 0, 7] by decide +kernel) rfl
theorem dX12_feed_4 : decode cX12_feed 4 = .ok (.iconst 4, 1) := dc_7 (show ((cX12_feed.data.toList.drop 4).take 1).map UInt8.toNat = [7] by decide +kernel)
theorem dX12_feed_5 : decode cX12_feed 5 = .ok (.iaload, 1) := dc_46 (show ((cX12_feed.data.toList.drop 5).take 1).map UInt8.toNat = [46] by decide +kernel)
theorem dX12_feed_6 : decode cX12_feed 6 = .ok (.bipush 20, 2) := dc_16 (show ((cX12_feed.data.toList.drop 6).take 2).map UInt8.toNat = [16, 20] by decide +kernel) rfl
theorem dX12_feed_8 : decode cX12_feed 8 = .ok (.iadd, 1) := dc_96 (show ((cX12_feed.data.toList.drop 8).take 1).map UInt8.toNat = [96] by decide +kernel)
theorem dX12_feed_9 : decode cX12_feed 9 = .ok (.sipush 600, 3) := dc_17 (show ((cX12_feed.data.toList.drop 9).take 3).map UInt8.toNat = [17, 2, 88] by decide +kernel) rfl
theorem dX12_feed_12 : decode cX12_feed 12 = .ok (.if_icmp .le 5, 3) := dc_164 (show ((cX12_feed.data.toList.drop 12).take 3).map UInt8.toNat = [164, 0, 5] by decide +kernel) rfl
theorem dX12_feed_17 : decode cX12_feed 17 = .ok (.iconst 0, 1) := dc_3 (show ((cX12_feed.data.toList.drop 17).take 1).map UInt8.toNat = [3] by decide +kernel)
theorem dX12_feed_18 : decode cX12_feed 18 = .ok (.istore 6, 2) := dc_54 (show ((cX12_feed.data.toList.drop 18).take 2).map UInt8.toNat = [54, 6] by decide +kernel) rfl
theorem dX12_feed_20 : decode cX12_feed 20 = .ok (.iload 6, 2) := dc_21 (show ((cX12_feed.data.toList.drop 20).take 2).map UInt8.toNat = [21, 6] by decide +kernel) rfl
theorem dX12_feed_22 : decode cX12_feed 22 = .ok (.bipush 20, 2) := dc_16 (show ((cX12_feed.data.toList.drop 22).take 2).map UInt8.toNat = [16, 20] by decide +kernel) rfl
theorem dX12_feed_24 : decode cX12_feed 24 = .ok (.if_icmp .ge 98, 3) := dc_162 (show ((cX12_feed.data.toList.drop 24).take 3).map UInt8.toNat = [162, 0, 98] by decide +kernel) rfl
theorem dX12_feed_122 : decode cX12_feed 122 = .ok (.aload_n 0, 1) := dc_42 (show ((cX12_feed.data.toList.drop 122).take 1).map UInt8.toNat = [42] by decide +kernel)
theorem dX12_feed_123 : decode cX12_feed 123 = .ok (.getfield 7, 3) := dc_180 (show ((cX12_feed.data.toList.drop 123).take 3).map UInt8.toNat = [180, 0, 7] by decide +kernel) rfl
theorem dX12_feed_126 : decode cX12_feed 126 = .ok (.iconst 4, 1) := dc_7 (show ((cX12_feed.data.toList.drop 126).take 1).map UInt8.toNat = [7] by decide +kernel)
theorem dX12_feed_127 : decode cX12_feed 127 = .ok (.iaload, 1) := dc_46 (show ((cX12_feed.data.toList.drop 127).take 1).map UInt8.toNat = [46] by decide +kernel)
theorem dX12_feed_128 : decode cX12_feed 128 = .ok (.ireturn, 1) := dc_172 (show ((cX12_feed.data.toList.drop 128).take 1).map UInt8.toNat = [172] by decide +kernel)
theorem dX12_feed_27 : decode cX12_feed 27 = .ok (.iload 6, 2) := dc_21 (show ((cX12_feed.data.toList.drop 27).take 2).map UInt8.toNat = [21, 6] by decide +kernel) rfl
theorem dX12_feed_29 : decode cX12_feed 29 = .ok (.iconst 4, 1) := dc_7 (show ((cX12_feed.data.toList.drop 29).take 1).map UInt8.toNat = [7] by decide +kernel)
theorem dX12_feed_30 : decode cX12_feed 30 = .ok (.if_icmp .ge 7, 3) := dc_162 (show ((cX12_feed.data.toList.drop 30).take 3).map UInt8.toNat = [162, 0, 7] by decide +kernel) rfl
theorem dX12_feed_37 : decode cX12_feed 37 = .ok (.iload 6, 2) := dc_21 (show ((cX12_feed.data.toList.drop 37).take 2).map UInt8.toNat = [21, 6] by decide +kernel) rfl
theorem dX12_feed_39 : decode cX12_feed 39 = .ok (.bipush 8, 2) := dc_16 (show ((cX12_feed.data.toList.drop 39).take 2).map UInt8.toNat = [16, 8] by decide +kernel) rfl
theorem dX12_feed_41 : decode cX12_feed 41 = .ok (.if_icmp .ge 7, 3) := dc_162 (show ((cX12_feed.data.toList.drop 41).take 3).map UInt8.toNat = [162, 0, 7] by decide +kernel) rfl
theorem dX12_feed_48 : decode cX12_feed 48 = .ok (.iload 6, 2) := dc_21 (show ((cX12_feed.data.toList.drop 48).take 2).map UInt8.toNat = [21, 6] by decide +kernel) rfl
theorem dX12_feed_50 : decode cX12_feed 50 = .ok (.bipush 12, 2) := dc_16 (show ((cX12_feed.data.toList.drop 50).take 2).map UInt8.toNat = [16, 12] by decide +kernel) rfl
theorem dX12_feed_52 : decode cX12_feed 52 = .ok (.if_icmp .ge 7, 3) := dc_162 (show ((cX12_feed.data.toList.drop 52).take 3).map UInt8.toNat = [162, 0, 7] by decide +kernel) rfl
theorem dX12_feed_59 : decode cX12_feed 59 = .ok (.iload 6, 2) := dc_21 (show ((cX12_feed.data.toList.drop 59).take 2).map UInt8.toNat = [21, 6] by decide +kernel) rfl
theorem dX12_feed_61 : decode cX12_feed 61 = .ok (.bipush 16, 2) := dc_16 (show ((cX12_feed.data.toList.drop 61).take 2).map UInt8.toNat = [16, 16] by decide +kernel) rfl
theorem dX12_feed_63 : decode cX12_feed 63 = .ok (.if_icmp .ge 8, 3) := dc_162 (show ((cX12_feed.data.toList.drop 63).take 3).map UInt8.toNat = [162, 0, 8] by decide +kernel) rfl
theorem dX12_feed_71 : decode cX12_feed 71 = .ok (.iload 5, 2) := dc_21 (show ((cX12_feed.data.toList.drop 71).take 2).map UInt8.toNat = [21, 5] by decide +kernel) rfl
theorem dX12_feed_73 : decode cX12_feed 73 = .ok (.istore 7, 2) := dc_54 (show ((cX12_feed.data.toList.drop 73).take 2).map UInt8.toNat = [54, 7] by decide +kernel) rfl
theorem dX12_feed_75 : decode cX12_feed 75 = .ok (.aload_n 0, 1) := dc_42 (show ((cX12_feed.data.toList.drop 75).take 1).map UInt8.toNat = [42] by decide +kernel)
theorem dX12_feed_76 : decode cX12_feed 76 = .ok (.getfield 7, 3) := dc_180 (show ((cX12_feed.data.toList.drop 76).take 3).map UInt8.toNat = [180, 0, 7] by decide +kernel) rfl
theorem dX12_feed_79 : decode cX12_feed 79 = .ok (.bipush 10, 2) := dc_16 (show ((cX12_feed.data.toList.drop 79).take 2).map UInt8.toNat = [16, 10] by decide +kernel) rfl
theorem dX12_feed_81 : decode cX12_feed 81 = .ok (.aload_n 0, 1) := dc_42 (show ((cX12_feed.data.toList.drop 81).take 1).map UInt8.toNat = [42] by decide +kernel)
theorem dX12_feed_82 : decode cX12_feed 82 = .ok (.getfield 7, 3) := dc_180 (show ((cX12_feed.data.toList.drop 82).take 3).map UInt8.toNat = [180, 0, 7] by decide +kernel) rfl
theorem dX12_feed_85 : decode cX12_feed 85 = .ok (.iconst 4, 1) := dc_7 (show ((cX12_feed.data.toList.drop 85).take 1).map UInt8.toNat = [7] by decide +kernel)
theorem dX12_feed_86 : decode cX12_feed 86 = .ok (.iaload, 1) := dc_46 (show ((cX12_feed.data.toList.drop 86).take 1).map UInt8.toNat = [46] by decide +kernel)
theorem dX12_feed_87 : decode cX12_feed 87 = .ok (.iadd, 1) := dc_96 (show ((cX12_feed.data.toList.drop 87).take 1).map UInt8.toNat = [96] by decide +kernel)
theorem dX12_feed_88 : decode cX12_feed 88 = .ok (.iload 7, 2) := dc_21 (show ((cX12_feed.data.toList.drop 88).take 2).map UInt8.toNat = [21, 7] by decide +kernel) rfl
theorem dX12_feed_90 : decode cX12_feed 90 = .ok (.bipush 24, 2) := dc_16 (show ((cX12_feed.data.toList.drop 90).take 2).map UInt8.toNat = [16, 24] by decide +kernel) rfl
theorem dX12_feed_92 : decode cX12_feed 92 = .ok (.bipush 8, 2) := dc_16 (show ((cX12_feed.data.toList.drop 92).take 2).map UInt8.toNat = [16, 8] by decide +kernel) rfl
theorem dX12_feed_94 : decode cX12_feed 94 = .ok (.iload 6, 2) := dc_21 (show ((cX12_feed.data.toList.drop 94).take 2).map UInt8.toNat = [21, 6] by decide +kernel) rfl
theorem dX12_feed_96 : decode cX12_feed 96 = .ok (.iconst 4, 1) := dc_7 (show ((cX12_feed.data.toList.drop 96).take 1).map UInt8.toNat = [7] by decide +kernel)
theorem dX12_feed_97 : decode cX12_feed 97 = .ok (.irem, 1) := dc_112 (show ((cX12_feed.data.toList.drop 97).take 1).map UInt8.toNat = [112] by decide +kernel)
theorem dX12_feed_98 : decode cX12_feed 98 = .ok (.imul, 1) := dc_104 (show ((cX12_feed.data.toList.drop 98).take 1).map UInt8.toNat = [104] by decide +kernel)
theorem dX12_feed_99 : decode cX12_feed 99 = .ok (.isub, 1) := dc_100 (show ((cX12_feed.data.toList.drop 99).take 1).map UInt8.toNat = [100] by decide +kernel)
theorem dX12_feed_100 : decode cX12_feed 100 = .ok (.ishr, 1) := dc_122 (show ((cX12_feed.data.toList.drop 100).take 1).map UInt8.toNat = [122] by decide +kernel)
theorem dX12_feed_101 : decode cX12_feed 101 = .ok (.sipush 255, 3) := dc_17 (show ((cX12_feed.data.toList.drop 101).take 3).map UInt8.toNat = [17, 0, 255] by decide +kernel) rfl
theorem dX12_feed_104 : decode cX12_feed 104 = .ok (.iand, 1) := dc_126 (show ((cX12_feed.data.toList.drop 104).take 1).map UInt8.toNat = [126] by decide +kernel)
theorem dX12_feed_105 : decode cX12_feed 105 = .ok (.iastore, 1) := dc_79 (show ((cX12_feed.data.toList.drop 105).take 1).map UInt8.toNat = [79] by decide +kernel)
theorem dX12_feed_106 : decode cX12_feed 106 = .ok (.aload_n 0, 1) := dc_42 (show ((cX12_feed.data.toList.drop 106).take 1).map UInt8.toNat = [42] by decide +kernel)
theorem dX12_feed_107 : decode cX12_feed 107 = .ok (.getfield 7, 3) := dc_180 (show ((cX12_feed.data.toList.drop 107).take 3).map UInt8.toNat = [180, 0, 7] by decide +kernel) rfl
theorem dX12_feed_110 : decode cX12_feed 110 = .ok (.iconst 4, 1) := dc_7 (show ((cX12_feed.data.toList.drop 110).take 1).map UInt8.toNat = [7] by decide +kernel)
theorem dX12_feed_111 : decode cX12_feed 111 = .ok (.dup2, 1) := dc_92 (show ((cX12_feed.data.toList.drop 111).take 1).map UInt8.toNat = [92] by decide +kernel)
theorem dX12_feed_112 : decode cX12_feed 112 = .ok (.iaload, 1) := dc_46 (show ((cX12_feed.data.toList.drop 112).take 1).map UInt8.toNat = [46] by decide +kernel)
theorem dX12_feed_113 : decode cX12_feed 113 = .ok (.iconst 1, 1) := dc_4 (show ((cX12_feed.data.toList.drop 113).take 1).map UInt8.toNat = [4] by decide +kernel)
theorem dX12_feed_114 : decode cX12_feed 114 = .ok (.iadd, 1) := dc_96 (show ((cX12_feed.data.toList.drop 114).take 1).map UInt8.toNat = [96] by decide +kernel)
theorem dX12_feed_115 : decode cX12_feed 115 = .ok (.iastore, 1) := dc_79 (show ((cX12_feed.data.toList.drop 115).take 1).map UInt8.toNat = [79] by decide +kernel)
theorem dX12_feed_116 : decode cX12_feed 116 = .ok (.iinc 6 1, 3) := dc_132 (show ((cX12_feed.data.toList.drop 116).take 3).map UInt8.toNat = [132, 6, 1] by decide +kernel) rfl
theorem dX12_feed_119 : decode cX12_feed 119 = .ok (.goto (-99), 3) := dc_167 (show ((cX12_feed.data.toList.drop 119).take 3).map UInt8.toNat = [167, 255, 157] by decide +kernel) rfl
theorem dX12_feed_66 : decode cX12_feed 66 = .ok (.iload 4, 2) := dc_21 (show ((cX12_feed.data.toList.drop 66).take 2).map UInt8.toNat = [21, 4] by decide +kernel) rfl
theorem dX12_feed_68 : decode cX12_feed 68 = .ok (.goto 5, 3) := dc_167 (show ((cX12_feed.data.toList.drop 68).take 3).map UInt8.toNat = [167, 0, 5] by decide +kernel) rfl
theorem dX12_feed_55 : decode cX12_feed 55 = .ok (.iload_n 3, 1) := dc_29 (show ((cX12_feed.data.toList.drop 55).take 1).map UInt8.toNat = [29] by decide +kernel)
theorem dX12_feed_56 : decode cX12_feed 56 = .ok (.goto 17, 3) := dc_167 (show ((cX12_feed.data.toList.drop 56).take 3).map UInt8.toNat = [167, 0, 17] by decide +kernel) rfl
theorem dX12_feed_44 : decode cX12_feed 44 = .ok (.iload_n 2, 1) := dc_28 (show ((cX12_feed.data.toList.drop 44).take 1).map UInt8.toNat = [28] by decide +kernel)
theorem dX12_feed_45 : decode cX12_feed 45 = .ok (.goto 28, 3) := dc_167 (show ((cX12_feed.data.toList.drop 45).take 3).map UInt8.toNat = [167, 0, 28] by decide +kernel) rfl
theorem dX12_feed_33 : decode cX12_feed 33 = .ok (.iload_n 1, 1) := dc_27 (show ((cX12_feed.data.toList.drop 33).take 1).map UInt8.toNat = [27] by decide +kernel)
theorem dX12_feed_34 : decode cX12_feed 34 = .ok (.goto 39, 3) := dc_167 (show ((cX12_feed.data.toList.drop 34).take 3).map UInt8.toNat = [167, 0, 39] by decide +kernel) rfl
theorem dX12_feed_15 : decode cX12_feed 15 = .ok (.iconst (-1), 1) := dc_2 (show ((cX12_feed.data.toList.drop 15).take 1).map UInt8.toNat = [2] by decide +kernel)
theorem dX12_feed_16 : decode cX12_feed 16 = .ok (.ireturn, 1) := dc_172 (show ((cX12_feed.data.toList.drop 16).take 1).map UInt8.toNat = [172] by decide +kernel)
def ms_feed_73 (n : Nat) (k20 : gb_F → Int64 → Int32 → Int32 → Int32 → Int32 → Int32 → Int32 → gb_MR Int32) (f : gb_F) (w : Int64) (v1 : Int32) (v2 : Int32) (v3 : Int32) (v4 : Int32) (v5 : Int32) (v6 : Int32) (t0 : Int32) : gb_MR Int32 := gb_lt (f 1 (Int32.toNatClampNeg 4)) (fun x_9 => gb_lt (v6 - v6 / 4 * 4) (fun x_10 => gb_ck (10 + x_9) 3968 (gb_lt (gb_u f 1 (upd (f 1) (Int32.toNatClampNeg (10 + x_9)) ((t0 >>> ((24 - (8 * x_10)) &&& 31)) &&& 255))) (fun f_12 => gb_lt (f_12 1 (Int32.toNatClampNeg 4)) (fun x_13 => gb_lt (gb_u f_12 1 (upd (f_12 1) (Int32.toNatClampNeg 4) (x_13 + 1))) (fun f_14 => gb_lt (v6 + 1) (fun x_15 => k20 f_14 w v1 v2 v3 v4 v5 x_15)))))))
def ms_feed_20 (n : Nat) : Nat → gb_F → Int64 → Int32 → Int32 → Int32 → Int32 → Int32 → Int32 → gb_MR Int32
  | 0, _, _, _, _, _, _, _, _ => none
  | mm + 1, f, w, v1, v2, v3, v4, v5, v6 => (if (20 : Int32) ≤ v6 then gb_lt (f 1 (Int32.toNatClampNeg 4)) (fun x_4 => some (f, w, x_4)) else (if (4 : Int32) ≤ v6 then (if (8 : Int32) ≤ v6 then (if (12 : Int32) ≤ v6 then (if (16 : Int32) ≤ v6 then ms_feed_73 n (fun f w v1 v2 v3 v4 v5 v6 => ms_feed_20 n mm f w v1 v2 v3 v4 v5 v6) f w v1 v2 v3 v4 v5 v6 v5 else ms_feed_73 n (fun f w v1 v2 v3 v4 v5 v6 => ms_feed_20 n mm f w v1 v2 v3 v4 v5 v6) f w v1 v2 v3 v4 v5 v6 v4) else ms_feed_73 n (fun f w v1 v2 v3 v4 v5 v6 => ms_feed_20 n mm f w v1 v2 v3 v4 v5 v6) f w v1 v2 v3 v4 v5 v6 v3) else ms_feed_73 n (fun f w v1 v2 v3 v4 v5 v6 => ms_feed_20 n mm f w v1 v2 v3 v4 v5 v6) f w v1 v2 v3 v4 v5 v6 v2) else ms_feed_73 n (fun f w v1 v2 v3 v4 v5 v6 => ms_feed_20 n mm f w v1 v2 v3 v4 v5 v6) f w v1 v2 v3 v4 v5 v6 v1))
def ms_feed (n : Nat) (f : gb_F) (w : Int64) (p1 : Int32) (p2 : Int32) (p3 : Int32) (p4 : Int32) (p5 : Int32) : gb_MR Int32 := gb_lt (f 1 (Int32.toNatClampNeg 4)) (fun x_1 => (if (x_1 + 20) ≤ 600 then ms_feed_20 n n f w p1 p2 p3 p4 p5 0 else some (f, w, (-1))))
set_option maxHeartbeats 8000000 in
set_option maxRecDepth 100000 in
theorem mc_feed (l : Launch) (D : va_G) (cT : Nat → ClassId) (tt : Nat → Nat) (b1 b : Nat) (hb1 : b1 ≤ b) (n : Nat) (f : gb_F) (w : Int64) (p1 : Int32) (p2 : Int32) (p3 : Int32) (p4 : Int32) (p5 : Int32) (fE : gb_F) (wE : Int64) (rE : Int32) (h : ms_feed n f w p1 p2 p3 p4 p5 = some (fE, wE, rE)) : Met l yX12_feed (.code yX12_feed cX12_feed 8 (some FieldType.int) :: gb_wA) ({ frames := 0, cells := 0, slots := 0, locals := 0 }) (gb_Pc D cT tt b1 [.ref (b + 0), .int p1, .int p2, .int p3, .int p4, .int p5] (fun h => va_P D vwCl (gb_wl b (gb_MW cT b f w)) h)) (gb_Qi (fun r h => r = rE ∧ va_P D vwCl (gb_wl b (gb_MW cT b fE wE)) h) (gb_fr b 22)) 0 0 (gb_fr b 22) := by
  refine Met.ofW (cc := cX12_feed) (maxL := 8) (ret := (some FieldType.int)) (by decide) rfl ?_
  intro p e s m args below meth c s₁ B hml hv
  obtain ⟨rfl, hSt, hP⟩ := hv
  have hx := B.exec
  have hb := B.bytes
  have hr := B.returns
  have hts := atoms_spec (ws := .code yX12_feed cX12_feed 8 (some FieldType.int) :: gb_wA) B.pre
  have hq : ∀ w ∈ gb_wA, w.before _ s = true := fun w h => hts w (List.mem_cons_of_mem _ h)
  have hown : s.vm.findClass RX12 = some m.cls := findClass_of_methodNamed B.named
  have hlocks := B.notSynchronized
  clear B hts
  have hK := hSt.1
  have hS : va_S (gb_fr b 22) s.heap s.heap [] := va_S.rf
  have hl := lv_entry ([.ref (b + 0), .int p1, .int p2, .int p3, .int p4, .int p5]) (n := 8) (Nat.le_of_ble_eq_true rfl)
  rw [lg_entry_eq]
  generalize (lg_sl ([.ref (b + 0), .int p1, .int p2, .int p3, .int p4, .int p5]) ++ List.replicate (8 - (lg_sl ([.ref (b + 0), .int p1, .int p2, .int p3, .int p4, .int p5])).length) Slot.unset).toArray = ls at hl ⊢
  replace hl : lv_has ls 8 [(0, .ref (b + 0)), (1, .int p1), (2, .int p2), (3, .int p3), (4, .int p4), (5, .int p5)] := hl
  have L73 : ∀ (k20 : gb_F → Int64 → Int32 → Int32 → Int32 → Int32 → Int32 → Int32 → gb_MR Int32) (hk20 : ∀ (f : gb_F) (w : Int64) (v1 : Int32) (v2 : Int32) (v3 : Int32) (v4 : Int32) (v5 : Int32) (v6 : Int32) (H : Heap) (locs : List Loc) (ls : Array Slot), k20 f w v1 v2 v3 v4 v5 v6 = some (fE, wE, rE) → va_P D vwCl (gb_wl b (gb_MW cT b f w)) H → va_S (gb_fr b 22) s.heap H locs → lv_has ls 8 [(0, .ref (b + 0)), (1, .int v1), (2, .int v2), (3, .int v3), (4, .int v4), (5, .int v5), (6, .int v6)] → W p l e (headSpec (.code yX12_feed cX12_feed 8 (some FieldType.int) :: gb_wA) ({ frames := 0, cells := 0, slots := 0, locals := 0 })).room s m ([.ref (b + 0), .int p1, .int p2, .int p3, .int p4, .int p5]).toArray below meth c H locs 0 0 (MQ below (gb_Qi (fun r h => r = rE ∧ va_P D vwCl (gb_wl b (gb_MW cT b fE wE)) h) (gb_fr b 22)) ([.ref (b + 0), .int p1, .int p2, .int p3, .int p4, .int p5]).toArray s 0 0 (gb_fr b 22)) (F0 m 20 ls [])) (f : gb_F) (w : Int64) (v1 : Int32) (v2 : Int32) (v3 : Int32) (v4 : Int32) (v5 : Int32) (v6 : Int32) (t0 : Int32) (H : Heap) (locs : List Loc) (ls : Array Slot), ms_feed_73 n k20 f w v1 v2 v3 v4 v5 v6 t0 = some (fE, wE, rE) → va_P D vwCl (gb_wl b (gb_MW cT b f w)) H → va_S (gb_fr b 22) s.heap H locs → lv_has ls 8 [(0, .ref (b + 0)), (1, .int v1), (2, .int v2), (3, .int v3), (4, .int v4), (5, .int v5), (6, .int v6)] → W p l e (headSpec (.code yX12_feed cX12_feed 8 (some FieldType.int) :: gb_wA) ({ frames := 0, cells := 0, slots := 0, locals := 0 })).room s m ([.ref (b + 0), .int p1, .int p2, .int p3, .int p4, .int p5]).toArray below meth c H locs 0 0 (MQ below (gb_Qi (fun r h => r = rE ∧ va_P D vwCl (gb_wl b (gb_MW cT b fE wE)) h) (gb_fr b 22)) ([.ref (b + 0), .int p1, .int p2, .int p3, .int p4, .int p5]).toArray s 0 0 (gb_fr b 22)) (F0 m 73 ls [.int t0]) := by
    clear h hP hS hl ls f w
    intro k20 hk20 f w v1 v2 v3 v4 v5 v6 t0 H locs ls h hP hS hl
    unfold ms_feed_73 at h
    refine lv_istore (lv' := [(7, .int t0), (0, .ref (b + 0)), (1, .int v1), (2, .int v2), (3, .int v3), (4, .int v4), (5, .int v5), (6, .int v6)]) hx hb dX12_feed_73 hl (by decide) rfl (fun ls hl => ?_)
    refine lv_aload_n hx hb dX12_feed_75 rfl (lv_at hl 1 rfl) ?_
    refine va_get (ci := 10) (v := (.ref (b + 1))) (C := RX12) (T := TX12) (N := 44) hx hb hq i_X12 hown hK hP 0 (gb_at b rfl) rfl 0 (by decide) (hq _ w_1124) (fun _ h9 => h9) rfl dX12_feed_76 ?_
    refine lv_bipush (v := 10) hx hb dX12_feed_79 (by decide) ?_
    refine lv_aload_n hx hb dX12_feed_81 rfl (lv_at hl 1 rfl) ?_
    refine va_get (ci := 10) (v := (.ref (b + 1))) (C := RX12) (T := TX12) (N := 44) hx hb hq i_X12 hown hK hP 0 (gb_at b rfl) rfl 0 (by decide) (hq _ w_1124) (fun _ h9 => h9) rfl dX12_feed_82 ?_
    refine lv_iconst (v := 4) hx hb dX12_feed_85 (by decide) ?_
    refine va_iald hx hb hK hP 1 0 (gb_at b rfl) rfl (gb_in rfl) dX12_feed_86 ?_
    refine lv_topi (fun x_9 ex_9 => ?_)
    replace h := gb_lt_s ex_9 h
    refine lv_iadd hx hb dX12_feed_87 ?_
    refine lv_iload hx hb dX12_feed_88 (lv_at hl 0 rfl) ?_
    refine lv_bipush (v := 24) hx hb dX12_feed_90 (by decide) ?_
    refine lv_bipush (v := 8) hx hb dX12_feed_92 (by decide) ?_
    refine lv_iload hx hb dX12_feed_94 (lv_at hl 7 rfl) ?_
    refine lv_iconst (v := 4) hx hb dX12_feed_96 (by decide) ?_
    refine lv_irem hx hb dX12_feed_97 (by decide) ?_
    refine lv_topi (fun x_10 ex_10 => ?_)
    replace h := gb_lt_s ex_10 h
    refine lv_imul hx hb dX12_feed_98 ?_
    refine lv_isub hx hb dX12_feed_99 ?_
    refine lv_ishr hx hb dX12_feed_100 ?_
    refine lv_sipush (v := 255) hx hb dX12_feed_101 (by decide) ?_
    refine lv_iand hx hb dX12_feed_104 ?_
    obtain ⟨z_11, h⟩ := gb_ck_s h
    refine gb_iast (x := ((t0 >>> ((24 - (8 * x_10)) &&& 31)) &&& 255)) hx hb hK hP (fun k h => ⟨Nat.le_add_right b k, Nat.add_lt_add_left h b⟩) hS rfl 1 0 rfl rfl z_11 dX12_feed_105 (fun H locs hP hz_ hS => ?_)
    obtain ⟨f_12, ef_12⟩ : ∃ q, q = (gb_u f 1 (upd (f 1) (Int32.toNatClampNeg (10 + x_9)) ((t0 >>> ((24 - (8 * x_10)) &&& 31)) &&& 255))) := ⟨_, rfl⟩
    replace hP : va_P D vwCl (gb_wl b (gb_MW cT b f_12 w)) H := by rw [ef_12]; exact hP
    replace h := gb_lt_s ef_12 h
    refine lv_aload_n hx hb dX12_feed_106 rfl (lv_at hl 1 rfl) ?_
    refine va_get (ci := 10) (v := (.ref (b + 1))) (C := RX12) (T := TX12) (N := 44) hx hb hq i_X12 hown hK hP 0 (gb_at b rfl) rfl 0 (by decide) (hq _ w_1124) (fun _ h9 => h9) rfl dX12_feed_107 ?_
    refine lv_iconst (v := 4) hx hb dX12_feed_110 (by decide) ?_
    refine lv_dup2_11 hx hb dX12_feed_111 rfl rfl ?_
    refine va_iald hx hb hK hP 1 0 (gb_at b rfl) rfl (gb_in rfl) dX12_feed_112 ?_
    refine lv_topi (fun x_13 ex_13 => ?_)
    replace h := gb_lt_s ex_13 h
    refine lv_iconst (v := 1) hx hb dX12_feed_113 (by decide) ?_
    refine lv_iadd hx hb dX12_feed_114 ?_
    refine gb_iast (x := (x_13 + 1)) hx hb hK hP (fun k h => ⟨Nat.le_add_right b k, Nat.add_lt_add_left h b⟩) hS rfl 1 0 rfl rfl (gb_in rfl) dX12_feed_115 (fun H locs hP hz_ hS => ?_)
    obtain ⟨f_14, ef_14⟩ : ∃ q, q = (gb_u f_12 1 (upd (f_12 1) (Int32.toNatClampNeg 4) (x_13 + 1))) := ⟨_, rfl⟩
    replace hP : va_P D vwCl (gb_wl b (gb_MW cT b f_14 w)) H := by rw [ef_14]; exact hP
    replace h := gb_lt_s ef_14 h
    obtain ⟨x_15, ex_15⟩ : ∃ q, q = (v6 + 1) := ⟨_, rfl⟩
    replace h := gb_lt_s ex_15 h
    refine lv_iinc (v := x_15) (lv' := [(6, .int x_15), (7, .int t0), (0, .ref (b + 0)), (1, .int v1), (2, .int v2), (3, .int v3), (4, .int v4), (5, .int v5)]) hx hb dX12_feed_116 hl (k := 7) rfl (by rw [ex_15]; rfl) (by decide) rfl (fun ls hl => ?_)
    refine lv_goto (tgt := 20) hx hb dX12_feed_119 (by decide) ?_
    exact hk20 _ _ _ _ _ _ _ _ _ _ _ h hP hS (lv_sub hl [2, 3, 4, 5, 6, 7, 0] rfl)
  have L20 : ∀ (mm : Nat) (f : gb_F) (w : Int64) (v1 : Int32) (v2 : Int32) (v3 : Int32) (v4 : Int32) (v5 : Int32) (v6 : Int32) (H : Heap) (locs : List Loc) (ls : Array Slot), ms_feed_20 n mm f w v1 v2 v3 v4 v5 v6 = some (fE, wE, rE) → va_P D vwCl (gb_wl b (gb_MW cT b f w)) H → va_S (gb_fr b 22) s.heap H locs → lv_has ls 8 [(0, .ref (b + 0)), (1, .int v1), (2, .int v2), (3, .int v3), (4, .int v4), (5, .int v5), (6, .int v6)] → W p l e (headSpec (.code yX12_feed cX12_feed 8 (some FieldType.int) :: gb_wA) ({ frames := 0, cells := 0, slots := 0, locals := 0 })).room s m ([.ref (b + 0), .int p1, .int p2, .int p3, .int p4, .int p5]).toArray below meth c H locs 0 0 (MQ below (gb_Qi (fun r h => r = rE ∧ va_P D vwCl (gb_wl b (gb_MW cT b fE wE)) h) (gb_fr b 22)) ([.ref (b + 0), .int p1, .int p2, .int p3, .int p4, .int p5]).toArray s 0 0 (gb_fr b 22)) (F0 m 20 ls []) := by
    clear h hP hS hl ls f w
    intro mm
    induction mm with
    | zero =>
      intro f w v1 v2 v3 v4 v5 v6 H locs ls h
      cases h
    | succ mm ih =>
      intro f w v1 v2 v3 v4 v5 v6 H locs ls h hP hS hl
      rw [ms_feed_20] at h
      refine lv_iload hx hb dX12_feed_20 (lv_at hl 6 rfl) ?_
      refine lv_bipush (v := 20) hx hb dX12_feed_22 (by decide) ?_
      refine lv_icmp_ge (tgt := 122) hx hb dX12_feed_24 (by decide) (fun c_3 => ?_) (fun c_3 => ?_)
      · rw [if_pos c_3] at h
        refine lv_aload_n hx hb dX12_feed_122 rfl (lv_at hl 0 rfl) ?_
        refine va_get (ci := 10) (v := (.ref (b + 1))) (C := RX12) (T := TX12) (N := 44) hx hb hq i_X12 hown hK hP 0 (gb_at b rfl) rfl 0 (by decide) (hq _ w_1124) (fun _ h9 => h9) rfl dX12_feed_123 ?_
        refine lv_iconst (v := 4) hx hb dX12_feed_126 (by decide) ?_
        refine va_iald hx hb hK hP 1 0 (gb_at b rfl) rfl (gb_in rfl) dX12_feed_127 ?_
        refine lv_topi (fun x_4 ex_4 => ?_)
        replace h := gb_lt_s ex_4 h
        obtain ⟨e1, e2, e3⟩ := gb_eq3 h
        exact W.iret (v := x_4) hx hb hr (fun t ht hW => gb_ri ht ⟨e3, by rw [← e1, ← e2]; exact hP⟩ hS) hS.2.2 dX12_feed_128
      · rw [if_neg c_3] at h
        refine lv_iload hx hb dX12_feed_27 (lv_at hl 6 rfl) ?_
        refine lv_iconst (v := 4) hx hb dX12_feed_29 (by decide) ?_
        refine lv_icmp_ge (tgt := 37) hx hb dX12_feed_30 (by decide) (fun c_5 => ?_) (fun c_5 => ?_)
        · rw [if_pos c_5] at h
          refine lv_iload hx hb dX12_feed_37 (lv_at hl 6 rfl) ?_
          refine lv_bipush (v := 8) hx hb dX12_feed_39 (by decide) ?_
          refine lv_icmp_ge (tgt := 48) hx hb dX12_feed_41 (by decide) (fun c_6 => ?_) (fun c_6 => ?_)
          · rw [if_pos c_6] at h
            refine lv_iload hx hb dX12_feed_48 (lv_at hl 6 rfl) ?_
            refine lv_bipush (v := 12) hx hb dX12_feed_50 (by decide) ?_
            refine lv_icmp_ge (tgt := 59) hx hb dX12_feed_52 (by decide) (fun c_7 => ?_) (fun c_7 => ?_)
            · rw [if_pos c_7] at h
              refine lv_iload hx hb dX12_feed_59 (lv_at hl 6 rfl) ?_
              refine lv_bipush (v := 16) hx hb dX12_feed_61 (by decide) ?_
              refine lv_icmp_ge (tgt := 71) hx hb dX12_feed_63 (by decide) (fun c_8 => ?_) (fun c_8 => ?_)
              · rw [if_pos c_8] at h
                refine lv_iload hx hb dX12_feed_71 (lv_at hl 5 rfl) ?_
                exact L73 _ ih _ _ _ _ _ _ _ _ _ _ _ _ h hP hS (lv_sub hl [0, 1, 2, 3, 4, 5, 6] rfl)
              · rw [if_neg c_8] at h
                refine lv_iload hx hb dX12_feed_66 (lv_at hl 4 rfl) ?_
                refine lv_goto (tgt := 73) hx hb dX12_feed_68 (by decide) ?_
                exact L73 _ ih _ _ _ _ _ _ _ _ _ _ _ _ h hP hS (lv_sub hl [0, 1, 2, 3, 4, 5, 6] rfl)
            · rw [if_neg c_7] at h
              refine lv_iload_n hx hb dX12_feed_55 rfl (lv_at hl 3 rfl) ?_
              refine lv_goto (tgt := 73) hx hb dX12_feed_56 (by decide) ?_
              exact L73 _ ih _ _ _ _ _ _ _ _ _ _ _ _ h hP hS (lv_sub hl [0, 1, 2, 3, 4, 5, 6] rfl)
          · rw [if_neg c_6] at h
            refine lv_iload_n hx hb dX12_feed_44 rfl (lv_at hl 2 rfl) ?_
            refine lv_goto (tgt := 73) hx hb dX12_feed_45 (by decide) ?_
            exact L73 _ ih _ _ _ _ _ _ _ _ _ _ _ _ h hP hS (lv_sub hl [0, 1, 2, 3, 4, 5, 6] rfl)
        · rw [if_neg c_5] at h
          refine lv_iload_n hx hb dX12_feed_33 rfl (lv_at hl 1 rfl) ?_
          refine lv_goto (tgt := 73) hx hb dX12_feed_34 (by decide) ?_
          exact L73 _ ih _ _ _ _ _ _ _ _ _ _ _ _ h hP hS (lv_sub hl [0, 1, 2, 3, 4, 5, 6] rfl)
  unfold ms_feed at h
  refine lv_aload_n hx hb dX12_feed_0 rfl (lv_at hl 0 rfl) ?_
  refine va_get (ci := 10) (v := (.ref (b + 1))) (C := RX12) (T := TX12) (N := 44) hx hb hq i_X12 hown hK hP 0 (gb_at b rfl) rfl 0 (by decide) (hq _ w_1124) (fun _ h9 => h9) rfl dX12_feed_1 ?_
  refine lv_iconst (v := 4) hx hb dX12_feed_4 (by decide) ?_
  refine va_iald hx hb hK hP 1 0 (gb_at b rfl) rfl (gb_in rfl) dX12_feed_5 ?_
  refine lv_topi (fun x_1 ex_1 => ?_)
  replace h := gb_lt_s ex_1 h
  refine lv_bipush (v := 20) hx hb dX12_feed_6 (by decide) ?_
  refine lv_iadd hx hb dX12_feed_8 ?_
  refine lv_sipush (v := 600) hx hb dX12_feed_9 (by decide) ?_
  refine lv_icmp_le (tgt := 17) hx hb dX12_feed_12 (by decide) (fun c_2 => ?_) (fun c_2 => ?_)
  · rw [if_pos c_2] at h
    refine lv_iconst (v := 0) hx hb dX12_feed_17 (by decide) ?_
    refine lv_istore (lv' := [(6, .int 0), (0, .ref (b + 0)), (1, .int p1), (2, .int p2), (3, .int p3), (4, .int p4), (5, .int p5)]) hx hb dX12_feed_18 hl (by decide) rfl (fun ls hl => ?_)
    exact L20 n _ _ _ _ _ _ _ _ _ _ _ h hP hS (lv_sub hl [1, 2, 3, 4, 5, 6, 0] rfl)
  · rw [if_neg c_2] at h
    refine lv_iconst (v := (-1)) hx hb dX12_feed_15 (by decide) ?_
    obtain ⟨e1, e2, e3⟩ := gb_eq3 h
    exact W.iret (v := (-1)) hx hb hr (fun t ht hW => gb_ri ht ⟨e3, by rw [← e1, ← e2]; exact hP⟩ hS) hS.2.2 dX12_feed_16
theorem dX12_end_0 : decode cX12_end 0 = .ok (.iload_n 1, 1) := dc_27 (show ((cX12_end.data.toList.drop 0).take 1).map UInt8.toNat = [27] by decide +kernel)
theorem dX12_end_1 : decode cX12_end 1 = .ok (.ifCond .lt 13, 3) := dc_155 (show ((cX12_end.data.toList.drop 1).take 3).map UInt8.toNat = [155, 0, 13] by decide +kernel) rfl
theorem dX12_end_14 : decode cX12_end 14 = .ok (.iconst (-1), 1) := dc_2 (show ((cX12_end.data.toList.drop 14).take 1).map UInt8.toNat = [2] by decide +kernel)
theorem dX12_end_15 : decode cX12_end 15 = .ok (.ireturn, 1) := dc_172 (show ((cX12_end.data.toList.drop 15).take 1).map UInt8.toNat = [172] by decide +kernel)
theorem dX12_end_4 : decode cX12_end 4 = .ok (.iload_n 1, 1) := dc_27 (show ((cX12_end.data.toList.drop 4).take 1).map UInt8.toNat = [27] by decide +kernel)
theorem dX12_end_5 : decode cX12_end 5 = .ok (.aload_n 0, 1) := dc_42 (show ((cX12_end.data.toList.drop 5).take 1).map UInt8.toNat = [42] by decide +kernel)
theorem dX12_end_6 : decode cX12_end 6 = .ok (.getfield 7, 3) := dc_180 (show ((cX12_end.data.toList.drop 6).take 3).map UInt8.toNat = [180, 0, 7] by decide +kernel) rfl
theorem dX12_end_9 : decode cX12_end 9 = .ok (.iconst 4, 1) := dc_7 (show ((cX12_end.data.toList.drop 9).take 1).map UInt8.toNat = [7] by decide +kernel)
theorem dX12_end_10 : decode cX12_end 10 = .ok (.iaload, 1) := dc_46 (show ((cX12_end.data.toList.drop 10).take 1).map UInt8.toNat = [46] by decide +kernel)
theorem dX12_end_11 : decode cX12_end 11 = .ok (.if_icmp .le 5, 3) := dc_164 (show ((cX12_end.data.toList.drop 11).take 3).map UInt8.toNat = [164, 0, 5] by decide +kernel) rfl
theorem dX12_end_16 : decode cX12_end 16 = .ok (.aload_n 0, 1) := dc_42 (show ((cX12_end.data.toList.drop 16).take 1).map UInt8.toNat = [42] by decide +kernel)
theorem dX12_end_17 : decode cX12_end 17 = .ok (.getfield 7, 3) := dc_180 (show ((cX12_end.data.toList.drop 17).take 3).map UInt8.toNat = [180, 0, 7] by decide +kernel) rfl
theorem dX12_end_20 : decode cX12_end 20 = .ok (.iconst 4, 1) := dc_7 (show ((cX12_end.data.toList.drop 20).take 1).map UInt8.toNat = [7] by decide +kernel)
theorem dX12_end_21 : decode cX12_end 21 = .ok (.iload_n 1, 1) := dc_27 (show ((cX12_end.data.toList.drop 21).take 1).map UInt8.toNat = [27] by decide +kernel)
theorem dX12_end_22 : decode cX12_end 22 = .ok (.iastore, 1) := dc_79 (show ((cX12_end.data.toList.drop 22).take 1).map UInt8.toNat = [79] by decide +kernel)
theorem dX12_end_23 : decode cX12_end 23 = .ok (.iload_n 1, 1) := dc_27 (show ((cX12_end.data.toList.drop 23).take 1).map UInt8.toNat = [27] by decide +kernel)
theorem dX12_end_24 : decode cX12_end 24 = .ok (.ireturn, 1) := dc_172 (show ((cX12_end.data.toList.drop 24).take 1).map UInt8.toNat = [172] by decide +kernel)
def ms_end (n : Nat) (f : gb_F) (w : Int64) (p1 : Int32) : gb_MR Int32 := (if p1 < 0 then some (f, w, (-1)) else gb_lt (f 1 (Int32.toNatClampNeg 4)) (fun x_2 => (if p1 ≤ x_2 then gb_lt (gb_u f 1 (upd (f 1) (Int32.toNatClampNeg 4) p1)) (fun f_4 => some (f_4, w, p1)) else some (f, w, (-1)))))
set_option maxHeartbeats 8000000 in
set_option maxRecDepth 100000 in
theorem mc_end (l : Launch) (D : va_G) (cT : Nat → ClassId) (tt : Nat → Nat) (b1 b : Nat) (hb1 : b1 ≤ b) (n : Nat) (f : gb_F) (w : Int64) (p1 : Int32) (fE : gb_F) (wE : Int64) (rE : Int32) (h : ms_end n f w p1 = some (fE, wE, rE)) : Met l yX12_end (.code yX12_end cX12_end 2 (some FieldType.int) :: gb_wA) ({ frames := 0, cells := 0, slots := 0, locals := 0 }) (gb_Pc D cT tt b1 [.ref (b + 0), .int p1] (fun h => va_P D vwCl (gb_wl b (gb_MW cT b f w)) h)) (gb_Qi (fun r h => r = rE ∧ va_P D vwCl (gb_wl b (gb_MW cT b fE wE)) h) (gb_fr b 22)) 0 0 (gb_fr b 22) := by
  refine Met.ofW (cc := cX12_end) (maxL := 2) (ret := (some FieldType.int)) (by decide) rfl ?_
  intro p e s m args below meth c s₁ B hml hv
  obtain ⟨rfl, hSt, hP⟩ := hv
  have hx := B.exec
  have hb := B.bytes
  have hr := B.returns
  have hts := atoms_spec (ws := .code yX12_end cX12_end 2 (some FieldType.int) :: gb_wA) B.pre
  have hq : ∀ w ∈ gb_wA, w.before _ s = true := fun w h => hts w (List.mem_cons_of_mem _ h)
  have hown : s.vm.findClass RX12 = some m.cls := findClass_of_methodNamed B.named
  have hlocks := B.notSynchronized
  clear B hts
  have hK := hSt.1
  have hS : va_S (gb_fr b 22) s.heap s.heap [] := va_S.rf
  have hl := lv_entry ([.ref (b + 0), .int p1]) (n := 2) (Nat.le_of_ble_eq_true rfl)
  rw [lg_entry_eq]
  generalize (lg_sl ([.ref (b + 0), .int p1]) ++ List.replicate (2 - (lg_sl ([.ref (b + 0), .int p1])).length) Slot.unset).toArray = ls at hl ⊢
  replace hl : lv_has ls 2 [(0, .ref (b + 0)), (1, .int p1)] := hl
  unfold ms_end at h
  refine lv_iload_n hx hb dX12_end_0 rfl (lv_at hl 1 rfl) ?_
  refine lv_if_lt (tgt := 14) hx hb dX12_end_1 (by decide) (fun c_1 => ?_) (fun c_1 => ?_)
  · rw [if_pos c_1] at h
    refine lv_iconst (v := (-1)) hx hb dX12_end_14 (by decide) ?_
    obtain ⟨e1, e2, e3⟩ := gb_eq3 h
    exact W.iret (v := (-1)) hx hb hr (fun t ht hW => gb_ri ht ⟨e3, by rw [← e1, ← e2]; exact hP⟩ hS) hS.2.2 dX12_end_15
  · rw [if_neg c_1] at h
    refine lv_iload_n hx hb dX12_end_4 rfl (lv_at hl 1 rfl) ?_
    refine lv_aload_n hx hb dX12_end_5 rfl (lv_at hl 0 rfl) ?_
    refine va_get (ci := 10) (v := (.ref (b + 1))) (C := RX12) (T := TX12) (N := 44) hx hb hq i_X12 hown hK hP 0 (gb_at b rfl) rfl 0 (by decide) (hq _ w_1124) (fun _ h9 => h9) rfl dX12_end_6 ?_
    refine lv_iconst (v := 4) hx hb dX12_end_9 (by decide) ?_
    refine va_iald hx hb hK hP 1 0 (gb_at b rfl) rfl (gb_in rfl) dX12_end_10 ?_
    refine lv_topi (fun x_2 ex_2 => ?_)
    replace h := gb_lt_s ex_2 h
    refine lv_icmp_le (tgt := 16) hx hb dX12_end_11 (by decide) (fun c_3 => ?_) (fun c_3 => ?_)
    · rw [if_pos c_3] at h
      refine lv_aload_n hx hb dX12_end_16 rfl (lv_at hl 0 rfl) ?_
      refine va_get (ci := 10) (v := (.ref (b + 1))) (C := RX12) (T := TX12) (N := 44) hx hb hq i_X12 hown hK hP 0 (gb_at b rfl) rfl 0 (by decide) (hq _ w_1124) (fun _ h9 => h9) rfl dX12_end_17 ?_
      refine lv_iconst (v := 4) hx hb dX12_end_20 (by decide) ?_
      refine lv_iload_n hx hb dX12_end_21 rfl (lv_at hl 1 rfl) ?_
      refine gb_iast (x := p1) hx hb hK hP (fun k h => ⟨Nat.le_add_right b k, Nat.add_lt_add_left h b⟩) hS rfl 1 0 rfl rfl (gb_in rfl) dX12_end_22 (fun H locs hP hz_ hS => ?_)
      obtain ⟨f_4, ef_4⟩ : ∃ q, q = (gb_u f 1 (upd (f 1) (Int32.toNatClampNeg 4) p1)) := ⟨_, rfl⟩
      replace hP : va_P D vwCl (gb_wl b (gb_MW cT b f_4 w)) H := by rw [ef_4]; exact hP
      replace h := gb_lt_s ef_4 h
      refine lv_iload_n hx hb dX12_end_23 rfl (lv_at hl 1 rfl) ?_
      obtain ⟨e1, e2, e3⟩ := gb_eq3 h
      exact W.iret (v := p1) hx hb hr (fun t ht hW => gb_ri ht ⟨e3, by rw [← e1, ← e2]; exact hP⟩ hS) hS.2.2 dX12_end_24
    · rw [if_neg c_3] at h
      refine lv_iconst (v := (-1)) hx hb dX12_end_14 (by decide) ?_
      obtain ⟨e1, e2, e3⟩ := gb_eq3 h
      exact W.iret (v := (-1)) hx hb hr (fun t ht hW => gb_ri ht ⟨e3, by rw [← e1, ← e2]; exact hP⟩ hS) hS.2.2 dX12_end_15
theorem dX12_byteAt_0 : decode cX12_byteAt 0 = .ok (.iload_n 1, 1) := dc_27 (show ((cX12_byteAt.data.toList.drop 0).take 1).map UInt8.toNat = [27] by decide +kernel)
theorem dX12_byteAt_1 : decode cX12_byteAt 1 = .ok (.aload_n 0, 1) := dc_42 (show ((cX12_byteAt.data.toList.drop 1).take 1).map UInt8.toNat = [42] by decide +kernel)
theorem dX12_byteAt_2 : decode cX12_byteAt 2 = .ok (.getfield 74, 3) := dc_180 (show ((cX12_byteAt.data.toList.drop 2).take 3).map UInt8.toNat = [180, 0, 74] by decide +kernel) rfl
theorem w_1126 : (Cond.fieldLink "GooseBorderModel" (74 : Nat) "GooseBorderModel" "size" "I") ∈ gb_wA := gb_t5 166 rfl rfl
theorem dX12_byteAt_5 : decode cX12_byteAt 5 = .ok (.if_icmp .ge 15, 3) := dc_162 (show ((cX12_byteAt.data.toList.drop 5).take 3).map UInt8.toNat = [162, 0, 15] by decide +kernel) rfl
theorem dX12_byteAt_20 : decode cX12_byteAt 20 = .ok (.iconst (-1), 1) := dc_2 (show ((cX12_byteAt.data.toList.drop 20).take 1).map UInt8.toNat = [2] by decide +kernel)
theorem dX12_byteAt_21 : decode cX12_byteAt 21 = .ok (.ireturn, 1) := dc_172 (show ((cX12_byteAt.data.toList.drop 21).take 1).map UInt8.toNat = [172] by decide +kernel)
theorem dX12_byteAt_8 : decode cX12_byteAt 8 = .ok (.aload_n 0, 1) := dc_42 (show ((cX12_byteAt.data.toList.drop 8).take 1).map UInt8.toNat = [42] by decide +kernel)
theorem dX12_byteAt_9 : decode cX12_byteAt 9 = .ok (.getfield 7, 3) := dc_180 (show ((cX12_byteAt.data.toList.drop 9).take 3).map UInt8.toNat = [180, 0, 7] by decide +kernel) rfl
theorem dX12_byteAt_12 : decode cX12_byteAt 12 = .ok (.bipush 10, 2) := dc_16 (show ((cX12_byteAt.data.toList.drop 12).take 2).map UInt8.toNat = [16, 10] by decide +kernel) rfl
theorem dX12_byteAt_14 : decode cX12_byteAt 14 = .ok (.iload_n 1, 1) := dc_27 (show ((cX12_byteAt.data.toList.drop 14).take 1).map UInt8.toNat = [27] by decide +kernel)
theorem dX12_byteAt_15 : decode cX12_byteAt 15 = .ok (.iadd, 1) := dc_96 (show ((cX12_byteAt.data.toList.drop 15).take 1).map UInt8.toNat = [96] by decide +kernel)
theorem dX12_byteAt_16 : decode cX12_byteAt 16 = .ok (.iaload, 1) := dc_46 (show ((cX12_byteAt.data.toList.drop 16).take 1).map UInt8.toNat = [46] by decide +kernel)
theorem dX12_byteAt_17 : decode cX12_byteAt 17 = .ok (.goto 4, 3) := dc_167 (show ((cX12_byteAt.data.toList.drop 17).take 3).map UInt8.toNat = [167, 0, 4] by decide +kernel) rfl
def ms_byteAt (n : Nat) (f : gb_F) (w : Int64) (p1 : Int32) : gb_MR Int32 := (if (f 0 2) ≤ p1 then some (f, w, (-1)) else gb_ck (10 + p1) 3968 (gb_lt (f 1 (Int32.toNatClampNeg (10 + p1))) (fun x_3 => some (f, w, x_3))))
set_option maxHeartbeats 8000000 in
set_option maxRecDepth 100000 in
theorem mc_byteAt (l : Launch) (D : va_G) (cT : Nat → ClassId) (tt : Nat → Nat) (b1 b : Nat) (hb1 : b1 ≤ b) (n : Nat) (f : gb_F) (w : Int64) (p1 : Int32) (fE : gb_F) (wE : Int64) (rE : Int32) (h : ms_byteAt n f w p1 = some (fE, wE, rE)) : Met l yX12_byteAt (.code yX12_byteAt cX12_byteAt 2 (some FieldType.int) :: gb_wA) ({ frames := 0, cells := 0, slots := 0, locals := 0 }) (gb_Pc D cT tt b1 [.ref (b + 0), .int p1] (fun h => va_P D vwCl (gb_wl b (gb_MW cT b f w)) h)) (gb_Qi (fun r h => r = rE ∧ va_P D vwCl (gb_wl b (gb_MW cT b fE wE)) h) (gb_fr b 22)) 0 0 (gb_fr b 22) := by
  refine Met.ofW (cc := cX12_byteAt) (maxL := 2) (ret := (some FieldType.int)) (by decide) rfl ?_
  intro p e s m args below meth c s₁ B hml hv
  obtain ⟨rfl, hSt, hP⟩ := hv
  have hx := B.exec
  have hb := B.bytes
  have hr := B.returns
  have hts := atoms_spec (ws := .code yX12_byteAt cX12_byteAt 2 (some FieldType.int) :: gb_wA) B.pre
  have hq : ∀ w ∈ gb_wA, w.before _ s = true := fun w h => hts w (List.mem_cons_of_mem _ h)
  have hown : s.vm.findClass RX12 = some m.cls := findClass_of_methodNamed B.named
  have hlocks := B.notSynchronized
  clear B hts
  have hK := hSt.1
  have hS : va_S (gb_fr b 22) s.heap s.heap [] := va_S.rf
  have hl := lv_entry ([.ref (b + 0), .int p1]) (n := 2) (Nat.le_of_ble_eq_true rfl)
  rw [lg_entry_eq]
  generalize (lg_sl ([.ref (b + 0), .int p1]) ++ List.replicate (2 - (lg_sl ([.ref (b + 0), .int p1])).length) Slot.unset).toArray = ls at hl ⊢
  replace hl : lv_has ls 2 [(0, .ref (b + 0)), (1, .int p1)] := hl
  unfold ms_byteAt at h
  refine lv_iload_n hx hb dX12_byteAt_0 rfl (lv_at hl 1 rfl) ?_
  refine lv_aload_n hx hb dX12_byteAt_1 rfl (lv_at hl 0 rfl) ?_
  refine va_get (ci := 10) (v := (.int (f 0 2))) (C := RX12) (T := TX12) (N := 44) hx hb hq i_X12 hown hK hP 0 (gb_at b rfl) rfl 2 (by decide) (hq _ w_1126) (fun _ h9 => h9) rfl dX12_byteAt_2 ?_
  refine lv_icmp_ge (tgt := 20) hx hb dX12_byteAt_5 (by decide) (fun c_1 => ?_) (fun c_1 => ?_)
  · rw [if_pos c_1] at h
    refine lv_iconst (v := (-1)) hx hb dX12_byteAt_20 (by decide) ?_
    obtain ⟨e1, e2, e3⟩ := gb_eq3 h
    exact W.iret (v := (-1)) hx hb hr (fun t ht hW => gb_ri ht ⟨e3, by rw [← e1, ← e2]; exact hP⟩ hS) hS.2.2 dX12_byteAt_21
  · rw [if_neg c_1] at h
    refine lv_aload_n hx hb dX12_byteAt_8 rfl (lv_at hl 0 rfl) ?_
    refine va_get (ci := 10) (v := (.ref (b + 1))) (C := RX12) (T := TX12) (N := 44) hx hb hq i_X12 hown hK hP 0 (gb_at b rfl) rfl 0 (by decide) (hq _ w_1124) (fun _ h9 => h9) rfl dX12_byteAt_9 ?_
    refine lv_bipush (v := 10) hx hb dX12_byteAt_12 (by decide) ?_
    refine lv_iload_n hx hb dX12_byteAt_14 rfl (lv_at hl 1 rfl) ?_
    refine lv_iadd hx hb dX12_byteAt_15 ?_
    obtain ⟨z_2, h⟩ := gb_ck_s h
    refine va_iald hx hb hK hP 1 0 (gb_at b rfl) rfl z_2 dX12_byteAt_16 ?_
    refine lv_topi (fun x_3 ex_3 => ?_)
    replace h := gb_lt_s ex_3 h
    refine lv_goto (tgt := 21) hx hb dX12_byteAt_17 (by decide) ?_
    obtain ⟨e1, e2, e3⟩ := gb_eq3 h
    exact W.iret (v := x_3) hx hb hr (fun t ht hW => gb_ri ht ⟨e3, by rw [← e1, ← e2]; exact hP⟩ hS) hS.2.2 dX12_byteAt_21
theorem dX12_isLetter_0 : decode cX12_isLetter 0 = .ok (.iload_n 0, 1) := dc_26 (show ((cX12_isLetter.data.toList.drop 0).take 1).map UInt8.toNat = [26] by decide +kernel)
theorem dX12_isLetter_1 : decode cX12_isLetter 1 = .ok (.bipush 97, 2) := dc_16 (show ((cX12_isLetter.data.toList.drop 1).take 2).map UInt8.toNat = [16, 97] by decide +kernel) rfl
theorem dX12_isLetter_3 : decode cX12_isLetter 3 = .ok (.if_icmp .lt 13, 3) := dc_161 (show ((cX12_isLetter.data.toList.drop 3).take 3).map UInt8.toNat = [161, 0, 13] by decide +kernel) rfl
theorem dX12_isLetter_16 : decode cX12_isLetter 16 = .ok (.iconst 0, 1) := dc_3 (show ((cX12_isLetter.data.toList.drop 16).take 1).map UInt8.toNat = [3] by decide +kernel)
theorem dX12_isLetter_17 : decode cX12_isLetter 17 = .ok (.ireturn, 1) := dc_172 (show ((cX12_isLetter.data.toList.drop 17).take 1).map UInt8.toNat = [172] by decide +kernel)
theorem dX12_isLetter_6 : decode cX12_isLetter 6 = .ok (.iload_n 0, 1) := dc_26 (show ((cX12_isLetter.data.toList.drop 6).take 1).map UInt8.toNat = [26] by decide +kernel)
theorem dX12_isLetter_7 : decode cX12_isLetter 7 = .ok (.bipush 122, 2) := dc_16 (show ((cX12_isLetter.data.toList.drop 7).take 2).map UInt8.toNat = [16, 122] by decide +kernel) rfl
theorem dX12_isLetter_9 : decode cX12_isLetter 9 = .ok (.if_icmp .gt 7, 3) := dc_163 (show ((cX12_isLetter.data.toList.drop 9).take 3).map UInt8.toNat = [163, 0, 7] by decide +kernel) rfl
theorem dX12_isLetter_12 : decode cX12_isLetter 12 = .ok (.iconst 1, 1) := dc_4 (show ((cX12_isLetter.data.toList.drop 12).take 1).map UInt8.toNat = [4] by decide +kernel)
theorem dX12_isLetter_13 : decode cX12_isLetter 13 = .ok (.goto 4, 3) := dc_167 (show ((cX12_isLetter.data.toList.drop 13).take 3).map UInt8.toNat = [167, 0, 4] by decide +kernel) rfl
def ms_isLetter (n : Nat) (f : gb_F) (w : Int64) (p1 : Int32) : gb_MR Int32 := (if p1 < 97 then some (f, w, 0) else (if (122 : Int32) < p1 then some (f, w, 0) else some (f, w, 1)))
set_option maxHeartbeats 8000000 in
set_option maxRecDepth 100000 in
theorem mc_isLetter (l : Launch) (D : va_G) (cT : Nat → ClassId) (tt : Nat → Nat) (b1 b : Nat) (hb1 : b1 ≤ b) (n : Nat) (f : gb_F) (w : Int64) (p1 : Int32) (fE : gb_F) (wE : Int64) (rE : Int32) (h : ms_isLetter n f w p1 = some (fE, wE, rE)) : Met l yX12_isLetter (.code yX12_isLetter cX12_isLetter 1 (some FieldType.boolean) :: gb_wA) ({ frames := 0, cells := 0, slots := 0, locals := 0 }) (gb_Pc D cT tt b1 [.int p1] (fun h => va_P D vwCl (gb_wl b (gb_MW cT b f w)) h)) (gb_Qi (fun r h => r = rE ∧ va_P D vwCl (gb_wl b (gb_MW cT b fE wE)) h) (gb_fr b 22)) 0 0 (gb_fr b 22) := by
  refine Met.ofW (cc := cX12_isLetter) (maxL := 1) (ret := (some FieldType.boolean)) (by decide) rfl ?_
  intro p e s m args below meth c s₁ B hml hv
  obtain ⟨rfl, hSt, hP⟩ := hv
  have hx := B.exec
  have hb := B.bytes
  have hr := B.returns
  have hts := atoms_spec (ws := .code yX12_isLetter cX12_isLetter 1 (some FieldType.boolean) :: gb_wA) B.pre
  have hq : ∀ w ∈ gb_wA, w.before _ s = true := fun w h => hts w (List.mem_cons_of_mem _ h)
  have hown : s.vm.findClass RX12 = some m.cls := findClass_of_methodNamed B.named
  have hlocks := B.notSynchronized
  clear B hts
  have hK := hSt.1
  have hS : va_S (gb_fr b 22) s.heap s.heap [] := va_S.rf
  have hl := lv_entry ([.int p1]) (n := 1) (Nat.le_of_ble_eq_true rfl)
  rw [lg_entry_eq]
  generalize (lg_sl ([.int p1]) ++ List.replicate (1 - (lg_sl ([.int p1])).length) Slot.unset).toArray = ls at hl ⊢
  replace hl : lv_has ls 1 [(0, .int p1)] := hl
  unfold ms_isLetter at h
  refine lv_iload_n hx hb dX12_isLetter_0 rfl (lv_at hl 0 rfl) ?_
  refine lv_bipush (v := 97) hx hb dX12_isLetter_1 (by decide) ?_
  refine lv_icmp_lt (tgt := 16) hx hb dX12_isLetter_3 (by decide) (fun c_1 => ?_) (fun c_1 => ?_)
  · rw [if_pos c_1] at h
    refine lv_iconst (v := 0) hx hb dX12_isLetter_16 (by decide) ?_
    obtain ⟨e1, e2, e3⟩ := gb_eq3 h
    exact W.zret (v := 0) hx hb hr (by decide) (fun t ht hW => gb_ri ht ⟨e3, by rw [← e1, ← e2]; exact hP⟩ hS) hS.2.2 dX12_isLetter_17
  · rw [if_neg c_1] at h
    refine lv_iload_n hx hb dX12_isLetter_6 rfl (lv_at hl 0 rfl) ?_
    refine lv_bipush (v := 122) hx hb dX12_isLetter_7 (by decide) ?_
    refine lv_icmp_gt (tgt := 16) hx hb dX12_isLetter_9 (by decide) (fun c_2 => ?_) (fun c_2 => ?_)
    · rw [if_pos c_2] at h
      refine lv_iconst (v := 0) hx hb dX12_isLetter_16 (by decide) ?_
      obtain ⟨e1, e2, e3⟩ := gb_eq3 h
      exact W.zret (v := 0) hx hb hr (by decide) (fun t ht hW => gb_ri ht ⟨e3, by rw [← e1, ← e2]; exact hP⟩ hS) hS.2.2 dX12_isLetter_17
    · rw [if_neg c_2] at h
      refine lv_iconst (v := 1) hx hb dX12_isLetter_12 (by decide) ?_
      refine lv_goto (tgt := 17) hx hb dX12_isLetter_13 (by decide) ?_
      obtain ⟨e1, e2, e3⟩ := gb_eq3 h
      exact W.zret (v := 1) hx hb hr (by decide) (fun t ht hW => gb_ri ht ⟨e3, by rw [← e1, ← e2]; exact hP⟩ hS) hS.2.2 dX12_isLetter_17
theorem dX12_isDigit_0 : decode cX12_isDigit 0 = .ok (.iload_n 0, 1) := dc_26 (show ((cX12_isDigit.data.toList.drop 0).take 1).map UInt8.toNat = [26] by decide +kernel)
theorem dX12_isDigit_1 : decode cX12_isDigit 1 = .ok (.bipush 48, 2) := dc_16 (show ((cX12_isDigit.data.toList.drop 1).take 2).map UInt8.toNat = [16, 48] by decide +kernel) rfl
theorem dX12_isDigit_3 : decode cX12_isDigit 3 = .ok (.if_icmp .lt 13, 3) := dc_161 (show ((cX12_isDigit.data.toList.drop 3).take 3).map UInt8.toNat = [161, 0, 13] by decide +kernel) rfl
theorem dX12_isDigit_16 : decode cX12_isDigit 16 = .ok (.iconst 0, 1) := dc_3 (show ((cX12_isDigit.data.toList.drop 16).take 1).map UInt8.toNat = [3] by decide +kernel)
theorem dX12_isDigit_17 : decode cX12_isDigit 17 = .ok (.ireturn, 1) := dc_172 (show ((cX12_isDigit.data.toList.drop 17).take 1).map UInt8.toNat = [172] by decide +kernel)
theorem dX12_isDigit_6 : decode cX12_isDigit 6 = .ok (.iload_n 0, 1) := dc_26 (show ((cX12_isDigit.data.toList.drop 6).take 1).map UInt8.toNat = [26] by decide +kernel)
theorem dX12_isDigit_7 : decode cX12_isDigit 7 = .ok (.bipush 57, 2) := dc_16 (show ((cX12_isDigit.data.toList.drop 7).take 2).map UInt8.toNat = [16, 57] by decide +kernel) rfl
theorem dX12_isDigit_9 : decode cX12_isDigit 9 = .ok (.if_icmp .gt 7, 3) := dc_163 (show ((cX12_isDigit.data.toList.drop 9).take 3).map UInt8.toNat = [163, 0, 7] by decide +kernel) rfl
theorem dX12_isDigit_12 : decode cX12_isDigit 12 = .ok (.iconst 1, 1) := dc_4 (show ((cX12_isDigit.data.toList.drop 12).take 1).map UInt8.toNat = [4] by decide +kernel)
theorem dX12_isDigit_13 : decode cX12_isDigit 13 = .ok (.goto 4, 3) := dc_167 (show ((cX12_isDigit.data.toList.drop 13).take 3).map UInt8.toNat = [167, 0, 4] by decide +kernel) rfl
def ms_isDigit (n : Nat) (f : gb_F) (w : Int64) (p1 : Int32) : gb_MR Int32 := (if p1 < 48 then some (f, w, 0) else (if (57 : Int32) < p1 then some (f, w, 0) else some (f, w, 1)))
set_option maxHeartbeats 8000000 in
set_option maxRecDepth 100000 in
theorem mc_isDigit (l : Launch) (D : va_G) (cT : Nat → ClassId) (tt : Nat → Nat) (b1 b : Nat) (hb1 : b1 ≤ b) (n : Nat) (f : gb_F) (w : Int64) (p1 : Int32) (fE : gb_F) (wE : Int64) (rE : Int32) (h : ms_isDigit n f w p1 = some (fE, wE, rE)) : Met l yX12_isDigit (.code yX12_isDigit cX12_isDigit 1 (some FieldType.boolean) :: gb_wA) ({ frames := 0, cells := 0, slots := 0, locals := 0 }) (gb_Pc D cT tt b1 [.int p1] (fun h => va_P D vwCl (gb_wl b (gb_MW cT b f w)) h)) (gb_Qi (fun r h => r = rE ∧ va_P D vwCl (gb_wl b (gb_MW cT b fE wE)) h) (gb_fr b 22)) 0 0 (gb_fr b 22) := by
  refine Met.ofW (cc := cX12_isDigit) (maxL := 1) (ret := (some FieldType.boolean)) (by decide) rfl ?_
  intro p e s m args below meth c s₁ B hml hv
  obtain ⟨rfl, hSt, hP⟩ := hv
  have hx := B.exec
  have hb := B.bytes
  have hr := B.returns
  have hts := atoms_spec (ws := .code yX12_isDigit cX12_isDigit 1 (some FieldType.boolean) :: gb_wA) B.pre
  have hq : ∀ w ∈ gb_wA, w.before _ s = true := fun w h => hts w (List.mem_cons_of_mem _ h)
  have hown : s.vm.findClass RX12 = some m.cls := findClass_of_methodNamed B.named
  have hlocks := B.notSynchronized
  clear B hts
  have hK := hSt.1
  have hS : va_S (gb_fr b 22) s.heap s.heap [] := va_S.rf
  have hl := lv_entry ([.int p1]) (n := 1) (Nat.le_of_ble_eq_true rfl)
  rw [lg_entry_eq]
  generalize (lg_sl ([.int p1]) ++ List.replicate (1 - (lg_sl ([.int p1])).length) Slot.unset).toArray = ls at hl ⊢
  replace hl : lv_has ls 1 [(0, .int p1)] := hl
  unfold ms_isDigit at h
  refine lv_iload_n hx hb dX12_isDigit_0 rfl (lv_at hl 0 rfl) ?_
  refine lv_bipush (v := 48) hx hb dX12_isDigit_1 (by decide) ?_
  refine lv_icmp_lt (tgt := 16) hx hb dX12_isDigit_3 (by decide) (fun c_1 => ?_) (fun c_1 => ?_)
  · rw [if_pos c_1] at h
    refine lv_iconst (v := 0) hx hb dX12_isDigit_16 (by decide) ?_
    obtain ⟨e1, e2, e3⟩ := gb_eq3 h
    exact W.zret (v := 0) hx hb hr (by decide) (fun t ht hW => gb_ri ht ⟨e3, by rw [← e1, ← e2]; exact hP⟩ hS) hS.2.2 dX12_isDigit_17
  · rw [if_neg c_1] at h
    refine lv_iload_n hx hb dX12_isDigit_6 rfl (lv_at hl 0 rfl) ?_
    refine lv_bipush (v := 57) hx hb dX12_isDigit_7 (by decide) ?_
    refine lv_icmp_gt (tgt := 16) hx hb dX12_isDigit_9 (by decide) (fun c_2 => ?_) (fun c_2 => ?_)
    · rw [if_pos c_2] at h
      refine lv_iconst (v := 0) hx hb dX12_isDigit_16 (by decide) ?_
      obtain ⟨e1, e2, e3⟩ := gb_eq3 h
      exact W.zret (v := 0) hx hb hr (by decide) (fun t ht hW => gb_ri ht ⟨e3, by rw [← e1, ← e2]; exact hP⟩ hS) hS.2.2 dX12_isDigit_17
    · rw [if_neg c_2] at h
      refine lv_iconst (v := 1) hx hb dX12_isDigit_12 (by decide) ?_
      refine lv_goto (tgt := 17) hx hb dX12_isDigit_13 (by decide) ?_
      obtain ⟨e1, e2, e3⟩ := gb_eq3 h
      exact W.zret (v := 1) hx hb hr (by decide) (fun t ht hW => gb_ri ht ⟨e3, by rw [← e1, ← e2]; exact hP⟩ hS) hS.2.2 dX12_isDigit_17
theorem dX12_four_0 : decode cX12_four 0 = .ok (.iload_n 0, 1) := dc_26 (show ((cX12_four.data.toList.drop 0).take 1).map UInt8.toNat = [26] by decide +kernel)
theorem dX12_four_1 : decode cX12_four 1 = .ok (.bipush 32, 2) := dc_16 (show ((cX12_four.data.toList.drop 1).take 2).map UInt8.toNat = [16, 32] by decide +kernel) rfl
theorem dX12_four_3 : decode cX12_four 3 = .ok (.imul, 1) := dc_104 (show ((cX12_four.data.toList.drop 3).take 1).map UInt8.toNat = [104] by decide +kernel)
theorem dX12_four_4 : decode cX12_four 4 = .ok (.iload_n 1, 1) := dc_27 (show ((cX12_four.data.toList.drop 4).take 1).map UInt8.toNat = [27] by decide +kernel)
theorem dX12_four_5 : decode cX12_four 5 = .ok (.iadd, 1) := dc_96 (show ((cX12_four.data.toList.drop 5).take 1).map UInt8.toNat = [96] by decide +kernel)
theorem dX12_four_6 : decode cX12_four 6 = .ok (.bipush 32, 2) := dc_16 (show ((cX12_four.data.toList.drop 6).take 2).map UInt8.toNat = [16, 32] by decide +kernel) rfl
theorem dX12_four_8 : decode cX12_four 8 = .ok (.imul, 1) := dc_104 (show ((cX12_four.data.toList.drop 8).take 1).map UInt8.toNat = [104] by decide +kernel)
theorem dX12_four_9 : decode cX12_four 9 = .ok (.iload_n 2, 1) := dc_28 (show ((cX12_four.data.toList.drop 9).take 1).map UInt8.toNat = [28] by decide +kernel)
theorem dX12_four_10 : decode cX12_four 10 = .ok (.iadd, 1) := dc_96 (show ((cX12_four.data.toList.drop 10).take 1).map UInt8.toNat = [96] by decide +kernel)
theorem dX12_four_11 : decode cX12_four 11 = .ok (.bipush 32, 2) := dc_16 (show ((cX12_four.data.toList.drop 11).take 2).map UInt8.toNat = [16, 32] by decide +kernel) rfl
theorem dX12_four_13 : decode cX12_four 13 = .ok (.imul, 1) := dc_104 (show ((cX12_four.data.toList.drop 13).take 1).map UInt8.toNat = [104] by decide +kernel)
theorem dX12_four_14 : decode cX12_four 14 = .ok (.iload_n 3, 1) := dc_29 (show ((cX12_four.data.toList.drop 14).take 1).map UInt8.toNat = [29] by decide +kernel)
theorem dX12_four_15 : decode cX12_four 15 = .ok (.iadd, 1) := dc_96 (show ((cX12_four.data.toList.drop 15).take 1).map UInt8.toNat = [96] by decide +kernel)
theorem dX12_four_16 : decode cX12_four 16 = .ok (.i2l, 1) := dc_133 (show ((cX12_four.data.toList.drop 16).take 1).map UInt8.toNat = [133] by decide +kernel)
theorem dX12_four_17 : decode cX12_four 17 = .ok (.lreturn, 1) := dc_173 (show ((cX12_four.data.toList.drop 17).take 1).map UInt8.toNat = [173] by decide +kernel)
def ms_four (n : Nat) (f : gb_F) (w : Int64) (p1 : Int32) (p2 : Int32) (p3 : Int32) (p4 : Int32) : gb_MR Int64 := some (f, w, (((((((p1 * 32) + p2) * 32) + p3) * 32) + p4).toInt64))
set_option maxHeartbeats 8000000 in
set_option maxRecDepth 100000 in
theorem mc_four (l : Launch) (D : va_G) (cT : Nat → ClassId) (tt : Nat → Nat) (b1 b : Nat) (hb1 : b1 ≤ b) (n : Nat) (f : gb_F) (w : Int64) (p1 : Int32) (p2 : Int32) (p3 : Int32) (p4 : Int32) (fE : gb_F) (wE : Int64) (rE : Int64) (h : ms_four n f w p1 p2 p3 p4 = some (fE, wE, rE)) : Met l yX12_four (.code yX12_four cX12_four 4 (some FieldType.long) :: gb_wA) ({ frames := 0, cells := 0, slots := 0, locals := 0 }) (gb_Pc D cT tt b1 [.int p1, .int p2, .int p3, .int p4] (fun h => va_P D vwCl (gb_wl b (gb_MW cT b f w)) h)) (gb_Ql (fun r h => r = rE ∧ va_P D vwCl (gb_wl b (gb_MW cT b fE wE)) h) (gb_fr b 22)) 0 0 (gb_fr b 22) := by
  refine Met.ofW (cc := cX12_four) (maxL := 4) (ret := (some FieldType.long)) (by decide) rfl ?_
  intro p e s m args below meth c s₁ B hml hv
  obtain ⟨rfl, hSt, hP⟩ := hv
  have hx := B.exec
  have hb := B.bytes
  have hr := B.returns
  have hts := atoms_spec (ws := .code yX12_four cX12_four 4 (some FieldType.long) :: gb_wA) B.pre
  have hq : ∀ w ∈ gb_wA, w.before _ s = true := fun w h => hts w (List.mem_cons_of_mem _ h)
  have hown : s.vm.findClass RX12 = some m.cls := findClass_of_methodNamed B.named
  have hlocks := B.notSynchronized
  clear B hts
  have hK := hSt.1
  have hS : va_S (gb_fr b 22) s.heap s.heap [] := va_S.rf
  have hl := lv_entry ([.int p1, .int p2, .int p3, .int p4]) (n := 4) (Nat.le_of_ble_eq_true rfl)
  rw [lg_entry_eq]
  generalize (lg_sl ([.int p1, .int p2, .int p3, .int p4]) ++ List.replicate (4 - (lg_sl ([.int p1, .int p2, .int p3, .int p4])).length) Slot.unset).toArray = ls at hl ⊢
  replace hl : lv_has ls 4 [(0, .int p1), (1, .int p2), (2, .int p3), (3, .int p4)] := hl
  unfold ms_four at h
  refine lv_iload_n hx hb dX12_four_0 rfl (lv_at hl 0 rfl) ?_
  refine lv_bipush (v := 32) hx hb dX12_four_1 (by decide) ?_
  refine lv_imul hx hb dX12_four_3 ?_
  refine lv_iload_n hx hb dX12_four_4 rfl (lv_at hl 1 rfl) ?_
  refine lv_iadd hx hb dX12_four_5 ?_
  refine lv_bipush (v := 32) hx hb dX12_four_6 (by decide) ?_
  refine lv_imul hx hb dX12_four_8 ?_
  refine lv_iload_n hx hb dX12_four_9 rfl (lv_at hl 2 rfl) ?_
  refine lv_iadd hx hb dX12_four_10 ?_
  refine lv_bipush (v := 32) hx hb dX12_four_11 (by decide) ?_
  refine lv_imul hx hb dX12_four_13 ?_
  refine lv_iload_n hx hb dX12_four_14 rfl (lv_at hl 3 rfl) ?_
  refine lv_iadd hx hb dX12_four_15 ?_
  refine lv_i2l (v := ((((((p1 * 32) + p2) * 32) + p3) * 32) + p4).toInt64) hx hb dX12_four_16 rfl ?_
  obtain ⟨e1, e2, e3⟩ := gb_eq3 h
  exact W.lret (v := (((((((p1 * 32) + p2) * 32) + p3) * 32) + p4).toInt64)) hx hb hr (fun t ht hW => gb_rl ht ⟨e3, by rw [← e1, ← e2]; exact hP⟩ hS) hS.2.2 dX12_four_17
theorem dX12_eight_0 : decode cX12_eight 0 = .ok (.iload_n 0, 1) := dc_26 (show ((cX12_eight.data.toList.drop 0).take 1).map UInt8.toNat = [26] by decide +kernel)
theorem dX12_eight_1 : decode cX12_eight 1 = .ok (.iload_n 1, 1) := dc_27 (show ((cX12_eight.data.toList.drop 1).take 1).map UInt8.toNat = [27] by decide +kernel)
theorem dX12_eight_2 : decode cX12_eight 2 = .ok (.iload_n 2, 1) := dc_28 (show ((cX12_eight.data.toList.drop 2).take 1).map UInt8.toNat = [28] by decide +kernel)
theorem dX12_eight_3 : decode cX12_eight 3 = .ok (.iload_n 3, 1) := dc_29 (show ((cX12_eight.data.toList.drop 3).take 1).map UInt8.toNat = [29] by decide +kernel)
theorem dX12_eight_4 : decode cX12_eight 4 = .ok (.invokestatic 78, 3) := dc_184 (show ((cX12_eight.data.toList.drop 4).take 3).map UInt8.toNat = [184, 0, 78] by decide +kernel) rfl
theorem w_1294 : (Cond.code ({ cls := "GooseBorderModel", name := "four", desc := "(IIII)J" } : MethodName) prog_14_method_8_code (4 : Nat) (Option.some FieldType.long)) ∈ gb_wA := gb_t6 94 rfl rfl
theorem w_1292 : (Cond.methodLink "GooseBorderModel" (78 : Nat) ({ cls := "GooseBorderModel", name := "four", desc := "(IIII)J" } : MethodName)) ∈ gb_wA := gb_t6 92 rfl rfl
theorem w_1293 : (Cond.static ({ cls := "GooseBorderModel", name := "four", desc := "(IIII)J" } : MethodName)) ∈ gb_wA := gb_t6 93 rfl rfl
theorem w_14 : (Cond.initialized "GooseBorderModel") ∈ gb_wA := gb_t1 14 rfl rfl
theorem dX12_eight_7 : decode cX12_eight 7 = .ok (.ldc2_w 82, 3) := dc_20 (show ((cX12_eight.data.toList.drop 7).take 3).map UInt8.toNat = [20, 0, 82] by decide +kernel) rfl
theorem w_1298 : (Cond.constantLong "GooseBorderModel" (82 : Nat) (1048576 : Int64)) ∈ gb_wA := gb_t6 98 rfl rfl
theorem dX12_eight_10 : decode cX12_eight 10 = .ok (.lmul, 1) := dc_105 (show ((cX12_eight.data.toList.drop 10).take 1).map UInt8.toNat = [105] by decide +kernel)
theorem dX12_eight_11 : decode cX12_eight 11 = .ok (.iload 4, 2) := dc_21 (show ((cX12_eight.data.toList.drop 11).take 2).map UInt8.toNat = [21, 4] by decide +kernel) rfl
theorem dX12_eight_13 : decode cX12_eight 13 = .ok (.iload 5, 2) := dc_21 (show ((cX12_eight.data.toList.drop 13).take 2).map UInt8.toNat = [21, 5] by decide +kernel) rfl
theorem dX12_eight_15 : decode cX12_eight 15 = .ok (.iload 6, 2) := dc_21 (show ((cX12_eight.data.toList.drop 15).take 2).map UInt8.toNat = [21, 6] by decide +kernel) rfl
theorem dX12_eight_17 : decode cX12_eight 17 = .ok (.iload 7, 2) := dc_21 (show ((cX12_eight.data.toList.drop 17).take 2).map UInt8.toNat = [21, 7] by decide +kernel) rfl
theorem dX12_eight_19 : decode cX12_eight 19 = .ok (.invokestatic 78, 3) := dc_184 (show ((cX12_eight.data.toList.drop 19).take 3).map UInt8.toNat = [184, 0, 78] by decide +kernel) rfl
theorem dX12_eight_22 : decode cX12_eight 22 = .ok (.ladd, 1) := dc_97 (show ((cX12_eight.data.toList.drop 22).take 1).map UInt8.toNat = [97] by decide +kernel)
theorem dX12_eight_23 : decode cX12_eight 23 = .ok (.lreturn, 1) := dc_173 (show ((cX12_eight.data.toList.drop 23).take 1).map UInt8.toNat = [173] by decide +kernel)
def ms_eight (n : Nat) (f : gb_F) (w : Int64) (p1 : Int32) (p2 : Int32) (p3 : Int32) (p4 : Int32) (p5 : Int32) (p6 : Int32) (p7 : Int32) (p8 : Int32) : gb_MR Int64 := gb_bd (ms_four n f w p1 p2 p3 p4) (fun f_1 wl_2 r_3 => gb_bd (ms_four n f_1 wl_2 p5 p6 p7 p8) (fun f_6 wl_7 r_8 => some (f_6, wl_7, ((r_3 * 1048576) + r_8))))
set_option maxHeartbeats 8000000 in
set_option maxRecDepth 100000 in
theorem mc_eight (l : Launch) (D : va_G) (cT : Nat → ClassId) (tt : Nat → Nat) (b1 b : Nat) (hb1 : b1 ≤ b) (n : Nat) (f : gb_F) (w : Int64) (p1 : Int32) (p2 : Int32) (p3 : Int32) (p4 : Int32) (p5 : Int32) (p6 : Int32) (p7 : Int32) (p8 : Int32) (fE : gb_F) (wE : Int64) (rE : Int64) (h : ms_eight n f w p1 p2 p3 p4 p5 p6 p7 p8 = some (fE, wE, rE)) : Met l yX12_eight (.code yX12_eight cX12_eight 8 (some FieldType.long) :: gb_wA) ({ frames := 1, cells := 0, slots := 0, locals := 23 }) (gb_Pc D cT tt b1 [.int p1, .int p2, .int p3, .int p4, .int p5, .int p6, .int p7, .int p8] (fun h => va_P D vwCl (gb_wl b (gb_MW cT b f w)) h)) (gb_Ql (fun r h => r = rE ∧ va_P D vwCl (gb_wl b (gb_MW cT b fE wE)) h) (gb_fr b 22)) 0 0 (gb_fr b 22) := by
  refine Met.ofW (cc := cX12_eight) (maxL := 8) (ret := (some FieldType.long)) (by decide) rfl ?_
  intro p e s m args below meth c s₁ B hml hv
  obtain ⟨rfl, hSt, hP⟩ := hv
  have hx := B.exec
  have hb := B.bytes
  have hr := B.returns
  have hts := atoms_spec (ws := .code yX12_eight cX12_eight 8 (some FieldType.long) :: gb_wA) B.pre
  have hq : ∀ w ∈ gb_wA, w.before _ s = true := fun w h => hts w (List.mem_cons_of_mem _ h)
  have hown : s.vm.findClass RX12 = some m.cls := findClass_of_methodNamed B.named
  have hlocks := B.notSynchronized
  clear B hts
  have hK := hSt.1
  have hS : va_S (gb_fr b 22) s.heap s.heap [] := va_S.rf
  have hl := lv_entry ([.int p1, .int p2, .int p3, .int p4, .int p5, .int p6, .int p7, .int p8]) (n := 8) (Nat.le_of_ble_eq_true rfl)
  rw [lg_entry_eq]
  generalize (lg_sl ([.int p1, .int p2, .int p3, .int p4, .int p5, .int p6, .int p7, .int p8]) ++ List.replicate (8 - (lg_sl ([.int p1, .int p2, .int p3, .int p4, .int p5, .int p6, .int p7, .int p8])).length) Slot.unset).toArray = ls at hl ⊢
  replace hl : lv_has ls 8 [(0, .int p1), (1, .int p2), (2, .int p3), (3, .int p4), (4, .int p5), (5, .int p6), (6, .int p7), (7, .int p8)] := hl
  unfold ms_eight at h
  refine lv_iload_n hx hb dX12_eight_0 rfl (lv_at hl 0 rfl) ?_
  refine lv_iload_n hx hb dX12_eight_1 rfl (lv_at hl 1 rfl) ?_
  refine lv_iload_n hx hb dX12_eight_2 rfl (lv_at hl 2 rfl) ?_
  refine lv_iload_n hx hb dX12_eight_3 rfl (lv_at hl 3 rfl) ?_
  obtain ⟨f_1, wl_2, r_3, z_4, h⟩ := gb_bd_s h
  refine gb_calll (va_runS (As := [.int p1, .int p2, .int p3, .int p4]) (rest := []) ⟨hx, hb, hml, hown, hq⟩ (mc_four l D cT tt b1 b hb1 n f w p1 p2 p3 p4 f_1 wl_2 r_3 z_4) (va_cwS 4 hq (gb_gS w_1292 w_1293 w_14 w_1294) rfl rfl rfl (by decide +kernel) ⟨Nat.le_of_ble_eq_true rfl, Nat.le_of_ble_eq_true rfl⟩) (gb_preS hSt hS (fun q h => Nat.le_trans hb1 h.1) hP) rfl rfl hl.1 rfl (lv_room (Nat.le_of_ble_eq_true rfl)) dX12_eight_4 ⟨Nat.le_of_ble_eq_true rfl, Nat.le_of_ble_eq_true rfl⟩) hS (fun _ h => h) (fun _ h => h) (fun q_5 H locs hY hk hS => ?_)
  obtain ⟨hq_5, hP⟩ := hY
  replace hq_5 := hq_5.symm
  subst hq_5
  refine lv_ldc2 (v := 1048576) hx hb hown (hq _ w_1298) dX12_eight_7 ?_
  refine lv_lmul hx hb dX12_eight_10 ?_
  refine lv_iload hx hb dX12_eight_11 (lv_at hl 4 rfl) ?_
  refine lv_iload hx hb dX12_eight_13 (lv_at hl 5 rfl) ?_
  refine lv_iload hx hb dX12_eight_15 (lv_at hl 6 rfl) ?_
  refine lv_iload hx hb dX12_eight_17 (lv_at hl 7 rfl) ?_
  obtain ⟨f_6, wl_7, r_8, z_9, h⟩ := gb_bd_s h
  refine gb_calll (va_runS (As := [.int p5, .int p6, .int p7, .int p8]) (rest := [.long (r_3 * 1048576)]) ⟨hx, hb, hml, hown, hq⟩ (mc_four l D cT tt b1 b hb1 n f_1 wl_2 p5 p6 p7 p8 f_6 wl_7 r_8 z_9) (va_cwS 4 hq (gb_gS w_1292 w_1293 w_14 w_1294) rfl rfl rfl (by decide +kernel) ⟨Nat.le_of_ble_eq_true rfl, Nat.le_of_ble_eq_true rfl⟩) (gb_preS hSt hS (fun q h => Nat.le_trans hb1 h.1) hP) rfl rfl hl.1 rfl (lv_room (Nat.le_of_ble_eq_true rfl)) dX12_eight_19 ⟨Nat.le_of_ble_eq_true rfl, Nat.le_of_ble_eq_true rfl⟩) hS (fun _ h => h) (fun _ h => h) (fun q_10 H locs hY hk hS => ?_)
  obtain ⟨hq_10, hP⟩ := hY
  replace hq_10 := hq_10.symm
  subst hq_10
  refine lv_ladd hx hb dX12_eight_22 ?_
  obtain ⟨e1, e2, e3⟩ := gb_eq3 h
  exact W.lret (v := ((r_3 * 1048576) + r_8)) hx hb hr (fun t ht hW => gb_rl ht ⟨e3, by rw [← e1, ← e2]; exact hP⟩ hS) hS.2.2 dX12_eight_23
theorem dq_cX12_wordOf_0 : ((cX12_wordOf.data.toList.drop 0).take 67).map UInt8.toNat = [30, 16, 16, 4, 16, 20, 16, 8, 184, 0, 78, 148, 154, 0, 5, 4, 172, 30, 3, 3, 3, 16, 7, 16, 15, 16, 15, 16, 19, 8, 184, 0, 84, 148, 154, 0, 5, 5, 172, 30, 3, 6, 4, 16, 16, 184, 0, 78, 148, 154, 0, 5, 6, 172, 30, 3, 3, 3, 16, 13, 4, 16, 18, 6, 16, 8, 184] := by decide +kernel
theorem dX12_wordOf_0 : decode cX12_wordOf 0 = .ok (.lload_n 0, 1) := dc_30 (dc_cut (j := 0) (n := 1) (l := [30]) dq_cX12_wordOf_0 (by decide +kernel) (by decide))
theorem dX12_wordOf_1 : decode cX12_wordOf 1 = .ok (.bipush 16, 2) := dc_16 (dc_cut (j := 1) (n := 2) (l := [16, 16]) dq_cX12_wordOf_0 (by decide +kernel) (by decide)) rfl
theorem dX12_wordOf_3 : decode cX12_wordOf 3 = .ok (.iconst 1, 1) := dc_4 (dc_cut (j := 3) (n := 1) (l := [4]) dq_cX12_wordOf_0 (by decide +kernel) (by decide))
theorem dX12_wordOf_4 : decode cX12_wordOf 4 = .ok (.bipush 20, 2) := dc_16 (dc_cut (j := 4) (n := 2) (l := [16, 20]) dq_cX12_wordOf_0 (by decide +kernel) (by decide)) rfl
theorem dX12_wordOf_6 : decode cX12_wordOf 6 = .ok (.bipush 8, 2) := dc_16 (dc_cut (j := 6) (n := 2) (l := [16, 8]) dq_cX12_wordOf_0 (by decide +kernel) (by decide)) rfl
theorem dX12_wordOf_8 : decode cX12_wordOf 8 = .ok (.invokestatic 78, 3) := dc_184 (dc_cut (j := 8) (n := 3) (l := [184, 0, 78]) dq_cX12_wordOf_0 (by decide +kernel) (by decide)) rfl
theorem dX12_wordOf_11 : decode cX12_wordOf 11 = .ok (.lcmp, 1) := dc_148 (dc_cut (j := 11) (n := 1) (l := [148]) dq_cX12_wordOf_0 (by decide +kernel) (by decide))
theorem dX12_wordOf_12 : decode cX12_wordOf 12 = .ok (.ifCond .ne 5, 3) := dc_154 (dc_cut (j := 12) (n := 3) (l := [154, 0, 5]) dq_cX12_wordOf_0 (by decide +kernel) (by decide)) rfl
theorem dX12_wordOf_17 : decode cX12_wordOf 17 = .ok (.lload_n 0, 1) := dc_30 (dc_cut (j := 17) (n := 1) (l := [30]) dq_cX12_wordOf_0 (by decide +kernel) (by decide))
theorem dX12_wordOf_18 : decode cX12_wordOf 18 = .ok (.iconst 0, 1) := dc_3 (dc_cut (j := 18) (n := 1) (l := [3]) dq_cX12_wordOf_0 (by decide +kernel) (by decide))
theorem dX12_wordOf_19 : decode cX12_wordOf 19 = .ok (.iconst 0, 1) := dc_3 (dc_cut (j := 19) (n := 1) (l := [3]) dq_cX12_wordOf_0 (by decide +kernel) (by decide))
theorem dX12_wordOf_20 : decode cX12_wordOf 20 = .ok (.iconst 0, 1) := dc_3 (dc_cut (j := 20) (n := 1) (l := [3]) dq_cX12_wordOf_0 (by decide +kernel) (by decide))
theorem dX12_wordOf_21 : decode cX12_wordOf 21 = .ok (.bipush 7, 2) := dc_16 (dc_cut (j := 21) (n := 2) (l := [16, 7]) dq_cX12_wordOf_0 (by decide +kernel) (by decide)) rfl
theorem dX12_wordOf_23 : decode cX12_wordOf 23 = .ok (.bipush 15, 2) := dc_16 (dc_cut (j := 23) (n := 2) (l := [16, 15]) dq_cX12_wordOf_0 (by decide +kernel) (by decide)) rfl
theorem dX12_wordOf_25 : decode cX12_wordOf 25 = .ok (.bipush 15, 2) := dc_16 (dc_cut (j := 25) (n := 2) (l := [16, 15]) dq_cX12_wordOf_0 (by decide +kernel) (by decide)) rfl
theorem dX12_wordOf_27 : decode cX12_wordOf 27 = .ok (.bipush 19, 2) := dc_16 (dc_cut (j := 27) (n := 2) (l := [16, 19]) dq_cX12_wordOf_0 (by decide +kernel) (by decide)) rfl
theorem dX12_wordOf_29 : decode cX12_wordOf 29 = .ok (.iconst 5, 1) := dc_8 (dc_cut (j := 29) (n := 1) (l := [8]) dq_cX12_wordOf_0 (by decide +kernel) (by decide))
theorem dX12_wordOf_30 : decode cX12_wordOf 30 = .ok (.invokestatic 84, 3) := dc_184 (dc_cut (j := 30) (n := 3) (l := [184, 0, 84]) dq_cX12_wordOf_0 (by decide +kernel) (by decide)) rfl
theorem w_1297 : (Cond.code ({ cls := "GooseBorderModel", name := "eight", desc := "(IIIIIIII)J" } : MethodName) prog_14_method_9_code (8 : Nat) (Option.some FieldType.long)) ∈ gb_wA := gb_t6 97 rfl rfl
theorem w_1295 : (Cond.methodLink "GooseBorderModel" (84 : Nat) ({ cls := "GooseBorderModel", name := "eight", desc := "(IIIIIIII)J" } : MethodName)) ∈ gb_wA := gb_t6 95 rfl rfl
theorem w_1296 : (Cond.static ({ cls := "GooseBorderModel", name := "eight", desc := "(IIIIIIII)J" } : MethodName)) ∈ gb_wA := gb_t6 96 rfl rfl
theorem dX12_wordOf_33 : decode cX12_wordOf 33 = .ok (.lcmp, 1) := dc_148 (dc_cut (j := 33) (n := 1) (l := [148]) dq_cX12_wordOf_0 (by decide +kernel) (by decide))
theorem dX12_wordOf_34 : decode cX12_wordOf 34 = .ok (.ifCond .ne 5, 3) := dc_154 (dc_cut (j := 34) (n := 3) (l := [154, 0, 5]) dq_cX12_wordOf_0 (by decide +kernel) (by decide)) rfl
theorem dX12_wordOf_39 : decode cX12_wordOf 39 = .ok (.lload_n 0, 1) := dc_30 (dc_cut (j := 39) (n := 1) (l := [30]) dq_cX12_wordOf_0 (by decide +kernel) (by decide))
theorem dX12_wordOf_40 : decode cX12_wordOf 40 = .ok (.iconst 0, 1) := dc_3 (dc_cut (j := 40) (n := 1) (l := [3]) dq_cX12_wordOf_0 (by decide +kernel) (by decide))
theorem dX12_wordOf_41 : decode cX12_wordOf 41 = .ok (.iconst 3, 1) := dc_6 (dc_cut (j := 41) (n := 1) (l := [6]) dq_cX12_wordOf_0 (by decide +kernel) (by decide))
theorem dX12_wordOf_42 : decode cX12_wordOf 42 = .ok (.iconst 1, 1) := dc_4 (dc_cut (j := 42) (n := 1) (l := [4]) dq_cX12_wordOf_0 (by decide +kernel) (by decide))
theorem dX12_wordOf_43 : decode cX12_wordOf 43 = .ok (.bipush 16, 2) := dc_16 (dc_cut (j := 43) (n := 2) (l := [16, 16]) dq_cX12_wordOf_0 (by decide +kernel) (by decide)) rfl
theorem dX12_wordOf_45 : decode cX12_wordOf 45 = .ok (.invokestatic 78, 3) := dc_184 (dc_cut (j := 45) (n := 3) (l := [184, 0, 78]) dq_cX12_wordOf_0 (by decide +kernel) (by decide)) rfl
theorem dX12_wordOf_48 : decode cX12_wordOf 48 = .ok (.lcmp, 1) := dc_148 (dc_cut (j := 48) (n := 1) (l := [148]) dq_cX12_wordOf_0 (by decide +kernel) (by decide))
theorem dX12_wordOf_49 : decode cX12_wordOf 49 = .ok (.ifCond .ne 5, 3) := dc_154 (dc_cut (j := 49) (n := 3) (l := [154, 0, 5]) dq_cX12_wordOf_0 (by decide +kernel) (by decide)) rfl
theorem dX12_wordOf_54 : decode cX12_wordOf 54 = .ok (.lload_n 0, 1) := dc_30 (dc_cut (j := 54) (n := 1) (l := [30]) dq_cX12_wordOf_0 (by decide +kernel) (by decide))
theorem dX12_wordOf_55 : decode cX12_wordOf 55 = .ok (.iconst 0, 1) := dc_3 (dc_cut (j := 55) (n := 1) (l := [3]) dq_cX12_wordOf_0 (by decide +kernel) (by decide))
theorem dX12_wordOf_56 : decode cX12_wordOf 56 = .ok (.iconst 0, 1) := dc_3 (dc_cut (j := 56) (n := 1) (l := [3]) dq_cX12_wordOf_0 (by decide +kernel) (by decide))
theorem dX12_wordOf_57 : decode cX12_wordOf 57 = .ok (.iconst 0, 1) := dc_3 (dc_cut (j := 57) (n := 1) (l := [3]) dq_cX12_wordOf_0 (by decide +kernel) (by decide))
theorem dX12_wordOf_58 : decode cX12_wordOf 58 = .ok (.bipush 13, 2) := dc_16 (dc_cut (j := 58) (n := 2) (l := [16, 13]) dq_cX12_wordOf_0 (by decide +kernel) (by decide)) rfl
theorem dX12_wordOf_60 : decode cX12_wordOf 60 = .ok (.iconst 1, 1) := dc_4 (dc_cut (j := 60) (n := 1) (l := [4]) dq_cX12_wordOf_0 (by decide +kernel) (by decide))
theorem dX12_wordOf_61 : decode cX12_wordOf 61 = .ok (.bipush 18, 2) := dc_16 (dc_cut (j := 61) (n := 2) (l := [16, 18]) dq_cX12_wordOf_0 (by decide +kernel) (by decide)) rfl
theorem dX12_wordOf_63 : decode cX12_wordOf 63 = .ok (.iconst 3, 1) := dc_6 (dc_cut (j := 63) (n := 1) (l := [6]) dq_cX12_wordOf_0 (by decide +kernel) (by decide))
theorem dq_cX12_wordOf_64 : ((cX12_wordOf.data.toList.drop 64).take 67).map UInt8.toNat = [16, 8, 184, 0, 84, 148, 154, 0, 5, 7, 172, 30, 5, 4, 6, 16, 11, 184, 0, 78, 148, 154, 0, 5, 8, 172, 30, 16, 8, 16, 15, 16, 13, 8, 184, 0, 78, 148, 154, 0, 6, 16, 6, 172, 30, 3, 3, 3, 6, 4, 16, 18, 16, 18, 16, 25, 184, 0, 84, 148, 154, 0, 6, 16, 7, 172, 30] := by decide +kernel
theorem dX12_wordOf_64 : decode cX12_wordOf 64 = .ok (.bipush 8, 2) := dc_16 (dc_cut (j := 0) (n := 2) (l := [16, 8]) dq_cX12_wordOf_64 (by decide +kernel) (by decide)) rfl
theorem dX12_wordOf_66 : decode cX12_wordOf 66 = .ok (.invokestatic 84, 3) := dc_184 (dc_cut (j := 2) (n := 3) (l := [184, 0, 84]) dq_cX12_wordOf_64 (by decide +kernel) (by decide)) rfl
theorem dX12_wordOf_69 : decode cX12_wordOf 69 = .ok (.lcmp, 1) := dc_148 (dc_cut (j := 5) (n := 1) (l := [148]) dq_cX12_wordOf_64 (by decide +kernel) (by decide))
theorem dX12_wordOf_70 : decode cX12_wordOf 70 = .ok (.ifCond .ne 5, 3) := dc_154 (dc_cut (j := 6) (n := 3) (l := [154, 0, 5]) dq_cX12_wordOf_64 (by decide +kernel) (by decide)) rfl
theorem dX12_wordOf_75 : decode cX12_wordOf 75 = .ok (.lload_n 0, 1) := dc_30 (dc_cut (j := 11) (n := 1) (l := [30]) dq_cX12_wordOf_64 (by decide +kernel) (by decide))
theorem dX12_wordOf_76 : decode cX12_wordOf 76 = .ok (.iconst 2, 1) := dc_5 (dc_cut (j := 12) (n := 1) (l := [5]) dq_cX12_wordOf_64 (by decide +kernel) (by decide))
theorem dX12_wordOf_77 : decode cX12_wordOf 77 = .ok (.iconst 1, 1) := dc_4 (dc_cut (j := 13) (n := 1) (l := [4]) dq_cX12_wordOf_64 (by decide +kernel) (by decide))
theorem dX12_wordOf_78 : decode cX12_wordOf 78 = .ok (.iconst 3, 1) := dc_6 (dc_cut (j := 14) (n := 1) (l := [6]) dq_cX12_wordOf_64 (by decide +kernel) (by decide))
theorem dX12_wordOf_79 : decode cX12_wordOf 79 = .ok (.bipush 11, 2) := dc_16 (dc_cut (j := 15) (n := 2) (l := [16, 11]) dq_cX12_wordOf_64 (by decide +kernel) (by decide)) rfl
theorem dX12_wordOf_81 : decode cX12_wordOf 81 = .ok (.invokestatic 78, 3) := dc_184 (dc_cut (j := 17) (n := 3) (l := [184, 0, 78]) dq_cX12_wordOf_64 (by decide +kernel) (by decide)) rfl
theorem dX12_wordOf_84 : decode cX12_wordOf 84 = .ok (.lcmp, 1) := dc_148 (dc_cut (j := 20) (n := 1) (l := [148]) dq_cX12_wordOf_64 (by decide +kernel) (by decide))
theorem dX12_wordOf_85 : decode cX12_wordOf 85 = .ok (.ifCond .ne 5, 3) := dc_154 (dc_cut (j := 21) (n := 3) (l := [154, 0, 5]) dq_cX12_wordOf_64 (by decide +kernel) (by decide)) rfl
theorem dX12_wordOf_90 : decode cX12_wordOf 90 = .ok (.lload_n 0, 1) := dc_30 (dc_cut (j := 26) (n := 1) (l := [30]) dq_cX12_wordOf_64 (by decide +kernel) (by decide))
theorem dX12_wordOf_91 : decode cX12_wordOf 91 = .ok (.bipush 8, 2) := dc_16 (dc_cut (j := 27) (n := 2) (l := [16, 8]) dq_cX12_wordOf_64 (by decide +kernel) (by decide)) rfl
theorem dX12_wordOf_93 : decode cX12_wordOf 93 = .ok (.bipush 15, 2) := dc_16 (dc_cut (j := 29) (n := 2) (l := [16, 15]) dq_cX12_wordOf_64 (by decide +kernel) (by decide)) rfl
theorem dX12_wordOf_95 : decode cX12_wordOf 95 = .ok (.bipush 13, 2) := dc_16 (dc_cut (j := 31) (n := 2) (l := [16, 13]) dq_cX12_wordOf_64 (by decide +kernel) (by decide)) rfl
theorem dX12_wordOf_97 : decode cX12_wordOf 97 = .ok (.iconst 5, 1) := dc_8 (dc_cut (j := 33) (n := 1) (l := [8]) dq_cX12_wordOf_64 (by decide +kernel) (by decide))
theorem dX12_wordOf_98 : decode cX12_wordOf 98 = .ok (.invokestatic 78, 3) := dc_184 (dc_cut (j := 34) (n := 3) (l := [184, 0, 78]) dq_cX12_wordOf_64 (by decide +kernel) (by decide)) rfl
theorem dX12_wordOf_101 : decode cX12_wordOf 101 = .ok (.lcmp, 1) := dc_148 (dc_cut (j := 37) (n := 1) (l := [148]) dq_cX12_wordOf_64 (by decide +kernel) (by decide))
theorem dX12_wordOf_102 : decode cX12_wordOf 102 = .ok (.ifCond .ne 6, 3) := dc_154 (dc_cut (j := 38) (n := 3) (l := [154, 0, 6]) dq_cX12_wordOf_64 (by decide +kernel) (by decide)) rfl
theorem dX12_wordOf_108 : decode cX12_wordOf 108 = .ok (.lload_n 0, 1) := dc_30 (dc_cut (j := 44) (n := 1) (l := [30]) dq_cX12_wordOf_64 (by decide +kernel) (by decide))
theorem dX12_wordOf_109 : decode cX12_wordOf 109 = .ok (.iconst 0, 1) := dc_3 (dc_cut (j := 45) (n := 1) (l := [3]) dq_cX12_wordOf_64 (by decide +kernel) (by decide))
theorem dX12_wordOf_110 : decode cX12_wordOf 110 = .ok (.iconst 0, 1) := dc_3 (dc_cut (j := 46) (n := 1) (l := [3]) dq_cX12_wordOf_64 (by decide +kernel) (by decide))
theorem dX12_wordOf_111 : decode cX12_wordOf 111 = .ok (.iconst 0, 1) := dc_3 (dc_cut (j := 47) (n := 1) (l := [3]) dq_cX12_wordOf_64 (by decide +kernel) (by decide))
theorem dX12_wordOf_112 : decode cX12_wordOf 112 = .ok (.iconst 3, 1) := dc_6 (dc_cut (j := 48) (n := 1) (l := [6]) dq_cX12_wordOf_64 (by decide +kernel) (by decide))
theorem dX12_wordOf_113 : decode cX12_wordOf 113 = .ok (.iconst 1, 1) := dc_4 (dc_cut (j := 49) (n := 1) (l := [4]) dq_cX12_wordOf_64 (by decide +kernel) (by decide))
theorem dX12_wordOf_114 : decode cX12_wordOf 114 = .ok (.bipush 18, 2) := dc_16 (dc_cut (j := 50) (n := 2) (l := [16, 18]) dq_cX12_wordOf_64 (by decide +kernel) (by decide)) rfl
theorem dX12_wordOf_116 : decode cX12_wordOf 116 = .ok (.bipush 18, 2) := dc_16 (dc_cut (j := 52) (n := 2) (l := [16, 18]) dq_cX12_wordOf_64 (by decide +kernel) (by decide)) rfl
theorem dX12_wordOf_118 : decode cX12_wordOf 118 = .ok (.bipush 25, 2) := dc_16 (dc_cut (j := 54) (n := 2) (l := [16, 25]) dq_cX12_wordOf_64 (by decide +kernel) (by decide)) rfl
theorem dX12_wordOf_120 : decode cX12_wordOf 120 = .ok (.invokestatic 84, 3) := dc_184 (dc_cut (j := 56) (n := 3) (l := [184, 0, 84]) dq_cX12_wordOf_64 (by decide +kernel) (by decide)) rfl
theorem dX12_wordOf_123 : decode cX12_wordOf 123 = .ok (.lcmp, 1) := dc_148 (dc_cut (j := 59) (n := 1) (l := [148]) dq_cX12_wordOf_64 (by decide +kernel) (by decide))
theorem dX12_wordOf_124 : decode cX12_wordOf 124 = .ok (.ifCond .ne 6, 3) := dc_154 (dc_cut (j := 60) (n := 3) (l := [154, 0, 6]) dq_cX12_wordOf_64 (by decide +kernel) (by decide)) rfl
theorem dq_cX12_wordOf_128 : ((cX12_wordOf.data.toList.drop 128).take 67).map UInt8.toNat = [7, 172, 30, 3, 3, 16, 18, 8, 6, 4, 16, 19, 16, 20, 184, 0, 84, 148, 154, 0, 6, 16, 8, 172, 30, 16, 18, 4, 16, 9, 16, 14, 184, 0, 78, 148, 154, 0, 6, 16, 9, 172, 30, 3, 3, 3, 16, 6, 16, 18, 16, 15, 16, 19, 16, 20, 184, 0, 84, 148, 154, 0, 6, 16, 10, 172, 30] := by decide +kernel
theorem dX12_wordOf_130 : decode cX12_wordOf 130 = .ok (.lload_n 0, 1) := dc_30 (dc_cut (j := 2) (n := 1) (l := [30]) dq_cX12_wordOf_128 (by decide +kernel) (by decide))
theorem dX12_wordOf_131 : decode cX12_wordOf 131 = .ok (.iconst 0, 1) := dc_3 (dc_cut (j := 3) (n := 1) (l := [3]) dq_cX12_wordOf_128 (by decide +kernel) (by decide))
theorem dX12_wordOf_132 : decode cX12_wordOf 132 = .ok (.iconst 0, 1) := dc_3 (dc_cut (j := 4) (n := 1) (l := [3]) dq_cX12_wordOf_128 (by decide +kernel) (by decide))
theorem dX12_wordOf_133 : decode cX12_wordOf 133 = .ok (.bipush 18, 2) := dc_16 (dc_cut (j := 5) (n := 2) (l := [16, 18]) dq_cX12_wordOf_128 (by decide +kernel) (by decide)) rfl
theorem dX12_wordOf_135 : decode cX12_wordOf 135 = .ok (.iconst 5, 1) := dc_8 (dc_cut (j := 7) (n := 1) (l := [8]) dq_cX12_wordOf_128 (by decide +kernel) (by decide))
theorem dX12_wordOf_136 : decode cX12_wordOf 136 = .ok (.iconst 3, 1) := dc_6 (dc_cut (j := 8) (n := 1) (l := [6]) dq_cX12_wordOf_128 (by decide +kernel) (by decide))
theorem dX12_wordOf_137 : decode cX12_wordOf 137 = .ok (.iconst 1, 1) := dc_4 (dc_cut (j := 9) (n := 1) (l := [4]) dq_cX12_wordOf_128 (by decide +kernel) (by decide))
theorem dX12_wordOf_138 : decode cX12_wordOf 138 = .ok (.bipush 19, 2) := dc_16 (dc_cut (j := 10) (n := 2) (l := [16, 19]) dq_cX12_wordOf_128 (by decide +kernel) (by decide)) rfl
theorem dX12_wordOf_140 : decode cX12_wordOf 140 = .ok (.bipush 20, 2) := dc_16 (dc_cut (j := 12) (n := 2) (l := [16, 20]) dq_cX12_wordOf_128 (by decide +kernel) (by decide)) rfl
theorem dX12_wordOf_142 : decode cX12_wordOf 142 = .ok (.invokestatic 84, 3) := dc_184 (dc_cut (j := 14) (n := 3) (l := [184, 0, 84]) dq_cX12_wordOf_128 (by decide +kernel) (by decide)) rfl
theorem dX12_wordOf_145 : decode cX12_wordOf 145 = .ok (.lcmp, 1) := dc_148 (dc_cut (j := 17) (n := 1) (l := [148]) dq_cX12_wordOf_128 (by decide +kernel) (by decide))
theorem dX12_wordOf_146 : decode cX12_wordOf 146 = .ok (.ifCond .ne 6, 3) := dc_154 (dc_cut (j := 18) (n := 3) (l := [154, 0, 6]) dq_cX12_wordOf_128 (by decide +kernel) (by decide)) rfl
theorem dX12_wordOf_152 : decode cX12_wordOf 152 = .ok (.lload_n 0, 1) := dc_30 (dc_cut (j := 24) (n := 1) (l := [30]) dq_cX12_wordOf_128 (by decide +kernel) (by decide))
theorem dX12_wordOf_153 : decode cX12_wordOf 153 = .ok (.bipush 18, 2) := dc_16 (dc_cut (j := 25) (n := 2) (l := [16, 18]) dq_cX12_wordOf_128 (by decide +kernel) (by decide)) rfl
theorem dX12_wordOf_155 : decode cX12_wordOf 155 = .ok (.iconst 1, 1) := dc_4 (dc_cut (j := 27) (n := 1) (l := [4]) dq_cX12_wordOf_128 (by decide +kernel) (by decide))
theorem dX12_wordOf_156 : decode cX12_wordOf 156 = .ok (.bipush 9, 2) := dc_16 (dc_cut (j := 28) (n := 2) (l := [16, 9]) dq_cX12_wordOf_128 (by decide +kernel) (by decide)) rfl
theorem dX12_wordOf_158 : decode cX12_wordOf 158 = .ok (.bipush 14, 2) := dc_16 (dc_cut (j := 30) (n := 2) (l := [16, 14]) dq_cX12_wordOf_128 (by decide +kernel) (by decide)) rfl
theorem dX12_wordOf_160 : decode cX12_wordOf 160 = .ok (.invokestatic 78, 3) := dc_184 (dc_cut (j := 32) (n := 3) (l := [184, 0, 78]) dq_cX12_wordOf_128 (by decide +kernel) (by decide)) rfl
theorem dX12_wordOf_163 : decode cX12_wordOf 163 = .ok (.lcmp, 1) := dc_148 (dc_cut (j := 35) (n := 1) (l := [148]) dq_cX12_wordOf_128 (by decide +kernel) (by decide))
theorem dX12_wordOf_164 : decode cX12_wordOf 164 = .ok (.ifCond .ne 6, 3) := dc_154 (dc_cut (j := 36) (n := 3) (l := [154, 0, 6]) dq_cX12_wordOf_128 (by decide +kernel) (by decide)) rfl
theorem dX12_wordOf_170 : decode cX12_wordOf 170 = .ok (.lload_n 0, 1) := dc_30 (dc_cut (j := 42) (n := 1) (l := [30]) dq_cX12_wordOf_128 (by decide +kernel) (by decide))
theorem dX12_wordOf_171 : decode cX12_wordOf 171 = .ok (.iconst 0, 1) := dc_3 (dc_cut (j := 43) (n := 1) (l := [3]) dq_cX12_wordOf_128 (by decide +kernel) (by decide))
theorem dX12_wordOf_172 : decode cX12_wordOf 172 = .ok (.iconst 0, 1) := dc_3 (dc_cut (j := 44) (n := 1) (l := [3]) dq_cX12_wordOf_128 (by decide +kernel) (by decide))
theorem dX12_wordOf_173 : decode cX12_wordOf 173 = .ok (.iconst 0, 1) := dc_3 (dc_cut (j := 45) (n := 1) (l := [3]) dq_cX12_wordOf_128 (by decide +kernel) (by decide))
theorem dX12_wordOf_174 : decode cX12_wordOf 174 = .ok (.bipush 6, 2) := dc_16 (dc_cut (j := 46) (n := 2) (l := [16, 6]) dq_cX12_wordOf_128 (by decide +kernel) (by decide)) rfl
theorem dX12_wordOf_176 : decode cX12_wordOf 176 = .ok (.bipush 18, 2) := dc_16 (dc_cut (j := 48) (n := 2) (l := [16, 18]) dq_cX12_wordOf_128 (by decide +kernel) (by decide)) rfl
theorem dX12_wordOf_178 : decode cX12_wordOf 178 = .ok (.bipush 15, 2) := dc_16 (dc_cut (j := 50) (n := 2) (l := [16, 15]) dq_cX12_wordOf_128 (by decide +kernel) (by decide)) rfl
theorem dX12_wordOf_180 : decode cX12_wordOf 180 = .ok (.bipush 19, 2) := dc_16 (dc_cut (j := 52) (n := 2) (l := [16, 19]) dq_cX12_wordOf_128 (by decide +kernel) (by decide)) rfl
theorem dX12_wordOf_182 : decode cX12_wordOf 182 = .ok (.bipush 20, 2) := dc_16 (dc_cut (j := 54) (n := 2) (l := [16, 20]) dq_cX12_wordOf_128 (by decide +kernel) (by decide)) rfl
theorem dX12_wordOf_184 : decode cX12_wordOf 184 = .ok (.invokestatic 84, 3) := dc_184 (dc_cut (j := 56) (n := 3) (l := [184, 0, 84]) dq_cX12_wordOf_128 (by decide +kernel) (by decide)) rfl
theorem dX12_wordOf_187 : decode cX12_wordOf 187 = .ok (.lcmp, 1) := dc_148 (dc_cut (j := 59) (n := 1) (l := [148]) dq_cX12_wordOf_128 (by decide +kernel) (by decide))
theorem dX12_wordOf_188 : decode cX12_wordOf 188 = .ok (.ifCond .ne 6, 3) := dc_154 (dc_cut (j := 60) (n := 3) (l := [154, 0, 6]) dq_cX12_wordOf_128 (by decide +kernel) (by decide)) rfl
theorem dq_cX12_wordOf_192 : ((cX12_wordOf.data.toList.drop 192).take 67).map UInt8.toNat = [10, 172, 30, 16, 20, 16, 8, 4, 16, 23, 184, 0, 78, 148, 154, 0, 6, 16, 11, 172, 30, 3, 16, 6, 16, 15, 16, 24, 184, 0, 78, 148, 154, 0, 6, 16, 12, 172, 30, 8, 4, 6, 16, 8, 184, 0, 78, 148, 154, 0, 6, 16, 13, 172, 30, 3, 3, 3, 4, 5, 16, 15, 16, 22, 8, 184, 0] := by decide +kernel
theorem dX12_wordOf_194 : decode cX12_wordOf 194 = .ok (.lload_n 0, 1) := dc_30 (dc_cut (j := 2) (n := 1) (l := [30]) dq_cX12_wordOf_192 (by decide +kernel) (by decide))
theorem dX12_wordOf_195 : decode cX12_wordOf 195 = .ok (.bipush 20, 2) := dc_16 (dc_cut (j := 3) (n := 2) (l := [16, 20]) dq_cX12_wordOf_192 (by decide +kernel) (by decide)) rfl
theorem dX12_wordOf_197 : decode cX12_wordOf 197 = .ok (.bipush 8, 2) := dc_16 (dc_cut (j := 5) (n := 2) (l := [16, 8]) dq_cX12_wordOf_192 (by decide +kernel) (by decide)) rfl
theorem dX12_wordOf_199 : decode cX12_wordOf 199 = .ok (.iconst 1, 1) := dc_4 (dc_cut (j := 7) (n := 1) (l := [4]) dq_cX12_wordOf_192 (by decide +kernel) (by decide))
theorem dX12_wordOf_200 : decode cX12_wordOf 200 = .ok (.bipush 23, 2) := dc_16 (dc_cut (j := 8) (n := 2) (l := [16, 23]) dq_cX12_wordOf_192 (by decide +kernel) (by decide)) rfl
theorem dX12_wordOf_202 : decode cX12_wordOf 202 = .ok (.invokestatic 78, 3) := dc_184 (dc_cut (j := 10) (n := 3) (l := [184, 0, 78]) dq_cX12_wordOf_192 (by decide +kernel) (by decide)) rfl
theorem dX12_wordOf_205 : decode cX12_wordOf 205 = .ok (.lcmp, 1) := dc_148 (dc_cut (j := 13) (n := 1) (l := [148]) dq_cX12_wordOf_192 (by decide +kernel) (by decide))
theorem dX12_wordOf_206 : decode cX12_wordOf 206 = .ok (.ifCond .ne 6, 3) := dc_154 (dc_cut (j := 14) (n := 3) (l := [154, 0, 6]) dq_cX12_wordOf_192 (by decide +kernel) (by decide)) rfl
theorem dX12_wordOf_212 : decode cX12_wordOf 212 = .ok (.lload_n 0, 1) := dc_30 (dc_cut (j := 20) (n := 1) (l := [30]) dq_cX12_wordOf_192 (by decide +kernel) (by decide))
theorem dX12_wordOf_213 : decode cX12_wordOf 213 = .ok (.iconst 0, 1) := dc_3 (dc_cut (j := 21) (n := 1) (l := [3]) dq_cX12_wordOf_192 (by decide +kernel) (by decide))
theorem dX12_wordOf_214 : decode cX12_wordOf 214 = .ok (.bipush 6, 2) := dc_16 (dc_cut (j := 22) (n := 2) (l := [16, 6]) dq_cX12_wordOf_192 (by decide +kernel) (by decide)) rfl
theorem dX12_wordOf_216 : decode cX12_wordOf 216 = .ok (.bipush 15, 2) := dc_16 (dc_cut (j := 24) (n := 2) (l := [16, 15]) dq_cX12_wordOf_192 (by decide +kernel) (by decide)) rfl
theorem dX12_wordOf_218 : decode cX12_wordOf 218 = .ok (.bipush 24, 2) := dc_16 (dc_cut (j := 26) (n := 2) (l := [16, 24]) dq_cX12_wordOf_192 (by decide +kernel) (by decide)) rfl
theorem dX12_wordOf_220 : decode cX12_wordOf 220 = .ok (.invokestatic 78, 3) := dc_184 (dc_cut (j := 28) (n := 3) (l := [184, 0, 78]) dq_cX12_wordOf_192 (by decide +kernel) (by decide)) rfl
theorem dX12_wordOf_223 : decode cX12_wordOf 223 = .ok (.lcmp, 1) := dc_148 (dc_cut (j := 31) (n := 1) (l := [148]) dq_cX12_wordOf_192 (by decide +kernel) (by decide))
theorem dX12_wordOf_224 : decode cX12_wordOf 224 = .ok (.ifCond .ne 6, 3) := dc_154 (dc_cut (j := 32) (n := 3) (l := [154, 0, 6]) dq_cX12_wordOf_192 (by decide +kernel) (by decide)) rfl
theorem dX12_wordOf_230 : decode cX12_wordOf 230 = .ok (.lload_n 0, 1) := dc_30 (dc_cut (j := 38) (n := 1) (l := [30]) dq_cX12_wordOf_192 (by decide +kernel) (by decide))
theorem dX12_wordOf_231 : decode cX12_wordOf 231 = .ok (.iconst 5, 1) := dc_8 (dc_cut (j := 39) (n := 1) (l := [8]) dq_cX12_wordOf_192 (by decide +kernel) (by decide))
theorem dX12_wordOf_232 : decode cX12_wordOf 232 = .ok (.iconst 1, 1) := dc_4 (dc_cut (j := 40) (n := 1) (l := [4]) dq_cX12_wordOf_192 (by decide +kernel) (by decide))
theorem dX12_wordOf_233 : decode cX12_wordOf 233 = .ok (.iconst 3, 1) := dc_6 (dc_cut (j := 41) (n := 1) (l := [6]) dq_cX12_wordOf_192 (by decide +kernel) (by decide))
theorem dX12_wordOf_234 : decode cX12_wordOf 234 = .ok (.bipush 8, 2) := dc_16 (dc_cut (j := 42) (n := 2) (l := [16, 8]) dq_cX12_wordOf_192 (by decide +kernel) (by decide)) rfl
theorem dX12_wordOf_236 : decode cX12_wordOf 236 = .ok (.invokestatic 78, 3) := dc_184 (dc_cut (j := 44) (n := 3) (l := [184, 0, 78]) dq_cX12_wordOf_192 (by decide +kernel) (by decide)) rfl
theorem dX12_wordOf_239 : decode cX12_wordOf 239 = .ok (.lcmp, 1) := dc_148 (dc_cut (j := 47) (n := 1) (l := [148]) dq_cX12_wordOf_192 (by decide +kernel) (by decide))
theorem dX12_wordOf_240 : decode cX12_wordOf 240 = .ok (.ifCond .ne 6, 3) := dc_154 (dc_cut (j := 48) (n := 3) (l := [154, 0, 6]) dq_cX12_wordOf_192 (by decide +kernel) (by decide)) rfl
theorem dX12_wordOf_246 : decode cX12_wordOf 246 = .ok (.lload_n 0, 1) := dc_30 (dc_cut (j := 54) (n := 1) (l := [30]) dq_cX12_wordOf_192 (by decide +kernel) (by decide))
theorem dX12_wordOf_247 : decode cX12_wordOf 247 = .ok (.iconst 0, 1) := dc_3 (dc_cut (j := 55) (n := 1) (l := [3]) dq_cX12_wordOf_192 (by decide +kernel) (by decide))
theorem dX12_wordOf_248 : decode cX12_wordOf 248 = .ok (.iconst 0, 1) := dc_3 (dc_cut (j := 56) (n := 1) (l := [3]) dq_cX12_wordOf_192 (by decide +kernel) (by decide))
theorem dX12_wordOf_249 : decode cX12_wordOf 249 = .ok (.iconst 0, 1) := dc_3 (dc_cut (j := 57) (n := 1) (l := [3]) dq_cX12_wordOf_192 (by decide +kernel) (by decide))
theorem dX12_wordOf_250 : decode cX12_wordOf 250 = .ok (.iconst 1, 1) := dc_4 (dc_cut (j := 58) (n := 1) (l := [4]) dq_cX12_wordOf_192 (by decide +kernel) (by decide))
theorem dX12_wordOf_251 : decode cX12_wordOf 251 = .ok (.iconst 2, 1) := dc_5 (dc_cut (j := 59) (n := 1) (l := [5]) dq_cX12_wordOf_192 (by decide +kernel) (by decide))
theorem dX12_wordOf_252 : decode cX12_wordOf 252 = .ok (.bipush 15, 2) := dc_16 (dc_cut (j := 60) (n := 2) (l := [16, 15]) dq_cX12_wordOf_192 (by decide +kernel) (by decide)) rfl
theorem dX12_wordOf_254 : decode cX12_wordOf 254 = .ok (.bipush 22, 2) := dc_16 (dc_cut (j := 62) (n := 2) (l := [16, 22]) dq_cX12_wordOf_192 (by decide +kernel) (by decide)) rfl
theorem dq_cX12_wordOf_256 : ((cX12_wordOf.data.toList.drop 256).take 67).map UInt8.toNat = [8, 184, 0, 84, 148, 154, 0, 6, 16, 14, 172, 30, 3, 3, 3, 5, 8, 16, 12, 16, 15, 16, 23, 184, 0, 84, 148, 154, 0, 6, 16, 15, 172, 30, 3, 16, 15, 7, 7, 184, 0, 78, 148, 154, 0, 6, 16, 16, 172, 30, 16, 13, 16, 15, 16, 19, 16, 20, 184, 0, 78, 148, 154, 0, 6, 16, 17] := by decide +kernel
theorem dX12_wordOf_256 : decode cX12_wordOf 256 = .ok (.iconst 5, 1) := dc_8 (dc_cut (j := 0) (n := 1) (l := [8]) dq_cX12_wordOf_256 (by decide +kernel) (by decide))
theorem dX12_wordOf_257 : decode cX12_wordOf 257 = .ok (.invokestatic 84, 3) := dc_184 (dc_cut (j := 1) (n := 3) (l := [184, 0, 84]) dq_cX12_wordOf_256 (by decide +kernel) (by decide)) rfl
theorem dX12_wordOf_260 : decode cX12_wordOf 260 = .ok (.lcmp, 1) := dc_148 (dc_cut (j := 4) (n := 1) (l := [148]) dq_cX12_wordOf_256 (by decide +kernel) (by decide))
theorem dX12_wordOf_261 : decode cX12_wordOf 261 = .ok (.ifCond .ne 6, 3) := dc_154 (dc_cut (j := 5) (n := 3) (l := [154, 0, 6]) dq_cX12_wordOf_256 (by decide +kernel) (by decide)) rfl
theorem dX12_wordOf_267 : decode cX12_wordOf 267 = .ok (.lload_n 0, 1) := dc_30 (dc_cut (j := 11) (n := 1) (l := [30]) dq_cX12_wordOf_256 (by decide +kernel) (by decide))
theorem dX12_wordOf_268 : decode cX12_wordOf 268 = .ok (.iconst 0, 1) := dc_3 (dc_cut (j := 12) (n := 1) (l := [3]) dq_cX12_wordOf_256 (by decide +kernel) (by decide))
theorem dX12_wordOf_269 : decode cX12_wordOf 269 = .ok (.iconst 0, 1) := dc_3 (dc_cut (j := 13) (n := 1) (l := [3]) dq_cX12_wordOf_256 (by decide +kernel) (by decide))
theorem dX12_wordOf_270 : decode cX12_wordOf 270 = .ok (.iconst 0, 1) := dc_3 (dc_cut (j := 14) (n := 1) (l := [3]) dq_cX12_wordOf_256 (by decide +kernel) (by decide))
theorem dX12_wordOf_271 : decode cX12_wordOf 271 = .ok (.iconst 2, 1) := dc_5 (dc_cut (j := 15) (n := 1) (l := [5]) dq_cX12_wordOf_256 (by decide +kernel) (by decide))
theorem dX12_wordOf_272 : decode cX12_wordOf 272 = .ok (.iconst 5, 1) := dc_8 (dc_cut (j := 16) (n := 1) (l := [8]) dq_cX12_wordOf_256 (by decide +kernel) (by decide))
theorem dX12_wordOf_273 : decode cX12_wordOf 273 = .ok (.bipush 12, 2) := dc_16 (dc_cut (j := 17) (n := 2) (l := [16, 12]) dq_cX12_wordOf_256 (by decide +kernel) (by decide)) rfl
theorem dX12_wordOf_275 : decode cX12_wordOf 275 = .ok (.bipush 15, 2) := dc_16 (dc_cut (j := 19) (n := 2) (l := [16, 15]) dq_cX12_wordOf_256 (by decide +kernel) (by decide)) rfl
theorem dX12_wordOf_277 : decode cX12_wordOf 277 = .ok (.bipush 23, 2) := dc_16 (dc_cut (j := 21) (n := 2) (l := [16, 23]) dq_cX12_wordOf_256 (by decide +kernel) (by decide)) rfl
theorem dX12_wordOf_279 : decode cX12_wordOf 279 = .ok (.invokestatic 84, 3) := dc_184 (dc_cut (j := 23) (n := 3) (l := [184, 0, 84]) dq_cX12_wordOf_256 (by decide +kernel) (by decide)) rfl
theorem dX12_wordOf_282 : decode cX12_wordOf 282 = .ok (.lcmp, 1) := dc_148 (dc_cut (j := 26) (n := 1) (l := [148]) dq_cX12_wordOf_256 (by decide +kernel) (by decide))
theorem dX12_wordOf_283 : decode cX12_wordOf 283 = .ok (.ifCond .ne 6, 3) := dc_154 (dc_cut (j := 27) (n := 3) (l := [154, 0, 6]) dq_cX12_wordOf_256 (by decide +kernel) (by decide)) rfl
theorem dX12_wordOf_289 : decode cX12_wordOf 289 = .ok (.lload_n 0, 1) := dc_30 (dc_cut (j := 33) (n := 1) (l := [30]) dq_cX12_wordOf_256 (by decide +kernel) (by decide))
theorem dX12_wordOf_290 : decode cX12_wordOf 290 = .ok (.iconst 0, 1) := dc_3 (dc_cut (j := 34) (n := 1) (l := [3]) dq_cX12_wordOf_256 (by decide +kernel) (by decide))
theorem dX12_wordOf_291 : decode cX12_wordOf 291 = .ok (.bipush 15, 2) := dc_16 (dc_cut (j := 35) (n := 2) (l := [16, 15]) dq_cX12_wordOf_256 (by decide +kernel) (by decide)) rfl
theorem dX12_wordOf_293 : decode cX12_wordOf 293 = .ok (.iconst 4, 1) := dc_7 (dc_cut (j := 37) (n := 1) (l := [7]) dq_cX12_wordOf_256 (by decide +kernel) (by decide))
theorem dX12_wordOf_294 : decode cX12_wordOf 294 = .ok (.iconst 4, 1) := dc_7 (dc_cut (j := 38) (n := 1) (l := [7]) dq_cX12_wordOf_256 (by decide +kernel) (by decide))
theorem dX12_wordOf_295 : decode cX12_wordOf 295 = .ok (.invokestatic 78, 3) := dc_184 (dc_cut (j := 39) (n := 3) (l := [184, 0, 78]) dq_cX12_wordOf_256 (by decide +kernel) (by decide)) rfl
theorem dX12_wordOf_298 : decode cX12_wordOf 298 = .ok (.lcmp, 1) := dc_148 (dc_cut (j := 42) (n := 1) (l := [148]) dq_cX12_wordOf_256 (by decide +kernel) (by decide))
theorem dX12_wordOf_299 : decode cX12_wordOf 299 = .ok (.ifCond .ne 6, 3) := dc_154 (dc_cut (j := 43) (n := 3) (l := [154, 0, 6]) dq_cX12_wordOf_256 (by decide +kernel) (by decide)) rfl
theorem dX12_wordOf_305 : decode cX12_wordOf 305 = .ok (.lload_n 0, 1) := dc_30 (dc_cut (j := 49) (n := 1) (l := [30]) dq_cX12_wordOf_256 (by decide +kernel) (by decide))
theorem dX12_wordOf_306 : decode cX12_wordOf 306 = .ok (.bipush 13, 2) := dc_16 (dc_cut (j := 50) (n := 2) (l := [16, 13]) dq_cX12_wordOf_256 (by decide +kernel) (by decide)) rfl
theorem dX12_wordOf_308 : decode cX12_wordOf 308 = .ok (.bipush 15, 2) := dc_16 (dc_cut (j := 52) (n := 2) (l := [16, 15]) dq_cX12_wordOf_256 (by decide +kernel) (by decide)) rfl
theorem dX12_wordOf_310 : decode cX12_wordOf 310 = .ok (.bipush 19, 2) := dc_16 (dc_cut (j := 54) (n := 2) (l := [16, 19]) dq_cX12_wordOf_256 (by decide +kernel) (by decide)) rfl
theorem dX12_wordOf_312 : decode cX12_wordOf 312 = .ok (.bipush 20, 2) := dc_16 (dc_cut (j := 56) (n := 2) (l := [16, 20]) dq_cX12_wordOf_256 (by decide +kernel) (by decide)) rfl
theorem dX12_wordOf_314 : decode cX12_wordOf 314 = .ok (.invokestatic 78, 3) := dc_184 (dc_cut (j := 58) (n := 3) (l := [184, 0, 78]) dq_cX12_wordOf_256 (by decide +kernel) (by decide)) rfl
theorem dX12_wordOf_317 : decode cX12_wordOf 317 = .ok (.lcmp, 1) := dc_148 (dc_cut (j := 61) (n := 1) (l := [148]) dq_cX12_wordOf_256 (by decide +kernel) (by decide))
theorem dX12_wordOf_318 : decode cX12_wordOf 318 = .ok (.ifCond .ne 6, 3) := dc_154 (dc_cut (j := 62) (n := 3) (l := [154, 0, 6]) dq_cX12_wordOf_256 (by decide +kernel) (by decide)) rfl
theorem dq_cX12_wordOf_320 : ((cX12_wordOf.data.toList.drop 320).take 27).map UInt8.toNat = [6, 16, 17, 172, 30, 16, 12, 8, 16, 6, 16, 20, 184, 0, 78, 148, 154, 0, 8, 16, 18, 167, 0, 5, 16, 99, 172] := by decide +kernel
theorem dX12_wordOf_324 : decode cX12_wordOf 324 = .ok (.lload_n 0, 1) := dc_30 (dc_cut (j := 4) (n := 1) (l := [30]) dq_cX12_wordOf_320 (by decide +kernel) (by decide))
theorem dX12_wordOf_325 : decode cX12_wordOf 325 = .ok (.bipush 12, 2) := dc_16 (dc_cut (j := 5) (n := 2) (l := [16, 12]) dq_cX12_wordOf_320 (by decide +kernel) (by decide)) rfl
theorem dX12_wordOf_327 : decode cX12_wordOf 327 = .ok (.iconst 5, 1) := dc_8 (dc_cut (j := 7) (n := 1) (l := [8]) dq_cX12_wordOf_320 (by decide +kernel) (by decide))
theorem dX12_wordOf_328 : decode cX12_wordOf 328 = .ok (.bipush 6, 2) := dc_16 (dc_cut (j := 8) (n := 2) (l := [16, 6]) dq_cX12_wordOf_320 (by decide +kernel) (by decide)) rfl
theorem dX12_wordOf_330 : decode cX12_wordOf 330 = .ok (.bipush 20, 2) := dc_16 (dc_cut (j := 10) (n := 2) (l := [16, 20]) dq_cX12_wordOf_320 (by decide +kernel) (by decide)) rfl
theorem dX12_wordOf_332 : decode cX12_wordOf 332 = .ok (.invokestatic 78, 3) := dc_184 (dc_cut (j := 12) (n := 3) (l := [184, 0, 78]) dq_cX12_wordOf_320 (by decide +kernel) (by decide)) rfl
theorem dX12_wordOf_335 : decode cX12_wordOf 335 = .ok (.lcmp, 1) := dc_148 (dc_cut (j := 15) (n := 1) (l := [148]) dq_cX12_wordOf_320 (by decide +kernel) (by decide))
theorem dX12_wordOf_336 : decode cX12_wordOf 336 = .ok (.ifCond .ne 8, 3) := dc_154 (dc_cut (j := 16) (n := 3) (l := [154, 0, 8]) dq_cX12_wordOf_320 (by decide +kernel) (by decide)) rfl
theorem dX12_wordOf_344 : decode cX12_wordOf 344 = .ok (.bipush 99, 2) := dc_16 (dc_cut (j := 24) (n := 2) (l := [16, 99]) dq_cX12_wordOf_320 (by decide +kernel) (by decide)) rfl
theorem dX12_wordOf_346 : decode cX12_wordOf 346 = .ok (.ireturn, 1) := dc_172 (dc_cut (j := 26) (n := 1) (l := [172]) dq_cX12_wordOf_320 (by decide +kernel) (by decide))
theorem dX12_wordOf_339 : decode cX12_wordOf 339 = .ok (.bipush 18, 2) := dc_16 (dc_cut (j := 19) (n := 2) (l := [16, 18]) dq_cX12_wordOf_320 (by decide +kernel) (by decide)) rfl
theorem dX12_wordOf_341 : decode cX12_wordOf 341 = .ok (.goto 5, 3) := dc_167 (dc_cut (j := 21) (n := 3) (l := [167, 0, 5]) dq_cX12_wordOf_320 (by decide +kernel) (by decide)) rfl
theorem dX12_wordOf_321 : decode cX12_wordOf 321 = .ok (.bipush 17, 2) := dc_16 (dc_cut (j := 1) (n := 2) (l := [16, 17]) dq_cX12_wordOf_320 (by decide +kernel) (by decide)) rfl
theorem dX12_wordOf_323 : decode cX12_wordOf 323 = .ok (.ireturn, 1) := dc_172 (dc_cut (j := 3) (n := 1) (l := [172]) dq_cX12_wordOf_320 (by decide +kernel) (by decide))
theorem dX12_wordOf_302 : decode cX12_wordOf 302 = .ok (.bipush 16, 2) := dc_16 (dc_cut (j := 46) (n := 2) (l := [16, 16]) dq_cX12_wordOf_256 (by decide +kernel) (by decide)) rfl
theorem dX12_wordOf_304 : decode cX12_wordOf 304 = .ok (.ireturn, 1) := dc_172 (dc_cut (j := 48) (n := 1) (l := [172]) dq_cX12_wordOf_256 (by decide +kernel) (by decide))
theorem dX12_wordOf_286 : decode cX12_wordOf 286 = .ok (.bipush 15, 2) := dc_16 (dc_cut (j := 30) (n := 2) (l := [16, 15]) dq_cX12_wordOf_256 (by decide +kernel) (by decide)) rfl
theorem dX12_wordOf_288 : decode cX12_wordOf 288 = .ok (.ireturn, 1) := dc_172 (dc_cut (j := 32) (n := 1) (l := [172]) dq_cX12_wordOf_256 (by decide +kernel) (by decide))
theorem dX12_wordOf_264 : decode cX12_wordOf 264 = .ok (.bipush 14, 2) := dc_16 (dc_cut (j := 8) (n := 2) (l := [16, 14]) dq_cX12_wordOf_256 (by decide +kernel) (by decide)) rfl
theorem dX12_wordOf_266 : decode cX12_wordOf 266 = .ok (.ireturn, 1) := dc_172 (dc_cut (j := 10) (n := 1) (l := [172]) dq_cX12_wordOf_256 (by decide +kernel) (by decide))
theorem dX12_wordOf_243 : decode cX12_wordOf 243 = .ok (.bipush 13, 2) := dc_16 (dc_cut (j := 51) (n := 2) (l := [16, 13]) dq_cX12_wordOf_192 (by decide +kernel) (by decide)) rfl
theorem dX12_wordOf_245 : decode cX12_wordOf 245 = .ok (.ireturn, 1) := dc_172 (dc_cut (j := 53) (n := 1) (l := [172]) dq_cX12_wordOf_192 (by decide +kernel) (by decide))
theorem dX12_wordOf_227 : decode cX12_wordOf 227 = .ok (.bipush 12, 2) := dc_16 (dc_cut (j := 35) (n := 2) (l := [16, 12]) dq_cX12_wordOf_192 (by decide +kernel) (by decide)) rfl
theorem dX12_wordOf_229 : decode cX12_wordOf 229 = .ok (.ireturn, 1) := dc_172 (dc_cut (j := 37) (n := 1) (l := [172]) dq_cX12_wordOf_192 (by decide +kernel) (by decide))
theorem dX12_wordOf_209 : decode cX12_wordOf 209 = .ok (.bipush 11, 2) := dc_16 (dc_cut (j := 17) (n := 2) (l := [16, 11]) dq_cX12_wordOf_192 (by decide +kernel) (by decide)) rfl
theorem dX12_wordOf_211 : decode cX12_wordOf 211 = .ok (.ireturn, 1) := dc_172 (dc_cut (j := 19) (n := 1) (l := [172]) dq_cX12_wordOf_192 (by decide +kernel) (by decide))
theorem dX12_wordOf_191 : decode cX12_wordOf 191 = .ok (.bipush 10, 2) := dc_16 (dc_cut (j := 63) (n := 2) (l := [16, 10]) dq_cX12_wordOf_128 (by decide +kernel) (by decide)) rfl
theorem dX12_wordOf_193 : decode cX12_wordOf 193 = .ok (.ireturn, 1) := dc_172 (dc_cut (j := 1) (n := 1) (l := [172]) dq_cX12_wordOf_192 (by decide +kernel) (by decide))
theorem dX12_wordOf_167 : decode cX12_wordOf 167 = .ok (.bipush 9, 2) := dc_16 (dc_cut (j := 39) (n := 2) (l := [16, 9]) dq_cX12_wordOf_128 (by decide +kernel) (by decide)) rfl
theorem dX12_wordOf_169 : decode cX12_wordOf 169 = .ok (.ireturn, 1) := dc_172 (dc_cut (j := 41) (n := 1) (l := [172]) dq_cX12_wordOf_128 (by decide +kernel) (by decide))
theorem dX12_wordOf_149 : decode cX12_wordOf 149 = .ok (.bipush 8, 2) := dc_16 (dc_cut (j := 21) (n := 2) (l := [16, 8]) dq_cX12_wordOf_128 (by decide +kernel) (by decide)) rfl
theorem dX12_wordOf_151 : decode cX12_wordOf 151 = .ok (.ireturn, 1) := dc_172 (dc_cut (j := 23) (n := 1) (l := [172]) dq_cX12_wordOf_128 (by decide +kernel) (by decide))
theorem dX12_wordOf_127 : decode cX12_wordOf 127 = .ok (.bipush 7, 2) := dc_16 (dc_cut (j := 63) (n := 2) (l := [16, 7]) dq_cX12_wordOf_64 (by decide +kernel) (by decide)) rfl
theorem dX12_wordOf_129 : decode cX12_wordOf 129 = .ok (.ireturn, 1) := dc_172 (dc_cut (j := 1) (n := 1) (l := [172]) dq_cX12_wordOf_128 (by decide +kernel) (by decide))
theorem dX12_wordOf_105 : decode cX12_wordOf 105 = .ok (.bipush 6, 2) := dc_16 (dc_cut (j := 41) (n := 2) (l := [16, 6]) dq_cX12_wordOf_64 (by decide +kernel) (by decide)) rfl
theorem dX12_wordOf_107 : decode cX12_wordOf 107 = .ok (.ireturn, 1) := dc_172 (dc_cut (j := 43) (n := 1) (l := [172]) dq_cX12_wordOf_64 (by decide +kernel) (by decide))
theorem dX12_wordOf_88 : decode cX12_wordOf 88 = .ok (.iconst 5, 1) := dc_8 (dc_cut (j := 24) (n := 1) (l := [8]) dq_cX12_wordOf_64 (by decide +kernel) (by decide))
theorem dX12_wordOf_89 : decode cX12_wordOf 89 = .ok (.ireturn, 1) := dc_172 (dc_cut (j := 25) (n := 1) (l := [172]) dq_cX12_wordOf_64 (by decide +kernel) (by decide))
theorem dX12_wordOf_73 : decode cX12_wordOf 73 = .ok (.iconst 4, 1) := dc_7 (dc_cut (j := 9) (n := 1) (l := [7]) dq_cX12_wordOf_64 (by decide +kernel) (by decide))
theorem dX12_wordOf_74 : decode cX12_wordOf 74 = .ok (.ireturn, 1) := dc_172 (dc_cut (j := 10) (n := 1) (l := [172]) dq_cX12_wordOf_64 (by decide +kernel) (by decide))
theorem dX12_wordOf_52 : decode cX12_wordOf 52 = .ok (.iconst 3, 1) := dc_6 (dc_cut (j := 52) (n := 1) (l := [6]) dq_cX12_wordOf_0 (by decide +kernel) (by decide))
theorem dX12_wordOf_53 : decode cX12_wordOf 53 = .ok (.ireturn, 1) := dc_172 (dc_cut (j := 53) (n := 1) (l := [172]) dq_cX12_wordOf_0 (by decide +kernel) (by decide))
theorem dX12_wordOf_37 : decode cX12_wordOf 37 = .ok (.iconst 2, 1) := dc_5 (dc_cut (j := 37) (n := 1) (l := [5]) dq_cX12_wordOf_0 (by decide +kernel) (by decide))
theorem dX12_wordOf_38 : decode cX12_wordOf 38 = .ok (.ireturn, 1) := dc_172 (dc_cut (j := 38) (n := 1) (l := [172]) dq_cX12_wordOf_0 (by decide +kernel) (by decide))
theorem dX12_wordOf_15 : decode cX12_wordOf 15 = .ok (.iconst 1, 1) := dc_4 (dc_cut (j := 15) (n := 1) (l := [4]) dq_cX12_wordOf_0 (by decide +kernel) (by decide))
theorem dX12_wordOf_16 : decode cX12_wordOf 16 = .ok (.ireturn, 1) := dc_172 (dc_cut (j := 16) (n := 1) (l := [172]) dq_cX12_wordOf_0 (by decide +kernel) (by decide))
def ms_wordOf (n : Nat) (f : gb_F) (w : Int64) (p1 : Int64) : gb_MR Int32 := gb_bd (ms_four n f w 16 1 20 8) (fun f_1 wl_2 r_3 => (if (lg_cmp p1 r_3) = 0 then some (f_1, wl_2, 1) else gb_bd (ms_eight n f_1 wl_2 0 0 0 7 15 15 19 5) (fun f_7 wl_8 r_9 => (if (lg_cmp p1 r_9) = 0 then some (f_7, wl_8, 2) else gb_bd (ms_four n f_7 wl_8 0 3 1 16) (fun f_13 wl_14 r_15 => (if (lg_cmp p1 r_15) = 0 then some (f_13, wl_14, 3) else gb_bd (ms_eight n f_13 wl_14 0 0 0 13 1 18 3 8) (fun f_19 wl_20 r_21 => (if (lg_cmp p1 r_21) = 0 then some (f_19, wl_20, 4) else gb_bd (ms_four n f_19 wl_20 2 1 3 11) (fun f_25 wl_26 r_27 => (if (lg_cmp p1 r_27) = 0 then some (f_25, wl_26, 5) else gb_bd (ms_four n f_25 wl_26 8 15 13 5) (fun f_31 wl_32 r_33 => (if (lg_cmp p1 r_33) = 0 then some (f_31, wl_32, 6) else gb_bd (ms_eight n f_31 wl_32 0 0 0 3 1 18 18 25) (fun f_37 wl_38 r_39 => (if (lg_cmp p1 r_39) = 0 then some (f_37, wl_38, 7) else gb_bd (ms_eight n f_37 wl_38 0 0 18 5 3 1 19 20) (fun f_43 wl_44 r_45 => (if (lg_cmp p1 r_45) = 0 then some (f_43, wl_44, 8) else gb_bd (ms_four n f_43 wl_44 18 1 9 14) (fun f_49 wl_50 r_51 => (if (lg_cmp p1 r_51) = 0 then some (f_49, wl_50, 9) else gb_bd (ms_eight n f_49 wl_50 0 0 0 6 18 15 19 20) (fun f_55 wl_56 r_57 => (if (lg_cmp p1 r_57) = 0 then some (f_55, wl_56, 10) else gb_bd (ms_four n f_55 wl_56 20 8 1 23) (fun f_61 wl_62 r_63 => (if (lg_cmp p1 r_63) = 0 then some (f_61, wl_62, 11) else gb_bd (ms_four n f_61 wl_62 0 6 15 24) (fun f_67 wl_68 r_69 => (if (lg_cmp p1 r_69) = 0 then some (f_67, wl_68, 12) else gb_bd (ms_four n f_67 wl_68 5 1 3 8) (fun f_73 wl_74 r_75 => (if (lg_cmp p1 r_75) = 0 then some (f_73, wl_74, 13) else gb_bd (ms_eight n f_73 wl_74 0 0 0 1 2 15 22 5) (fun f_79 wl_80 r_81 => (if (lg_cmp p1 r_81) = 0 then some (f_79, wl_80, 14) else gb_bd (ms_eight n f_79 wl_80 0 0 0 2 5 12 15 23) (fun f_85 wl_86 r_87 => (if (lg_cmp p1 r_87) = 0 then some (f_85, wl_86, 15) else gb_bd (ms_four n f_85 wl_86 0 15 4 4) (fun f_91 wl_92 r_93 => (if (lg_cmp p1 r_93) = 0 then some (f_91, wl_92, 16) else gb_bd (ms_four n f_91 wl_92 13 15 19 20) (fun f_97 wl_98 r_99 => (if (lg_cmp p1 r_99) = 0 then some (f_97, wl_98, 17) else gb_bd (ms_four n f_97 wl_98 12 5 6 20) (fun f_103 wl_104 r_105 => (if (lg_cmp p1 r_105) = 0 then some (f_103, wl_104, 18) else some (f_103, wl_104, 99)))))))))))))))))))))))))))))))))))))
set_option maxHeartbeats 8000000 in
set_option maxRecDepth 100000 in
theorem mc_wordOf (l : Launch) (D : va_G) (cT : Nat → ClassId) (tt : Nat → Nat) (b1 b : Nat) (hb1 : b1 ≤ b) (n : Nat) (f : gb_F) (w : Int64) (p1 : Int64) (fE : gb_F) (wE : Int64) (rE : Int32) (h : ms_wordOf n f w p1 = some (fE, wE, rE)) : Met l yX12_wordOf (.code yX12_wordOf cX12_wordOf 2 (some FieldType.int) :: gb_wA) ({ frames := 2, cells := 0, slots := 0, locals := 50 }) (gb_Pc D cT tt b1 [.long p1] (fun h => va_P D vwCl (gb_wl b (gb_MW cT b f w)) h)) (gb_Qi (fun r h => r = rE ∧ va_P D vwCl (gb_wl b (gb_MW cT b fE wE)) h) (gb_fr b 22)) 0 0 (gb_fr b 22) := by
  refine Met.ofW (cc := cX12_wordOf) (maxL := 2) (ret := (some FieldType.int)) (by decide) rfl ?_
  intro p e s m args below meth c s₁ B hml hv
  obtain ⟨rfl, hSt, hP⟩ := hv
  have hx := B.exec
  have hb := B.bytes
  have hr := B.returns
  have hts := atoms_spec (ws := .code yX12_wordOf cX12_wordOf 2 (some FieldType.int) :: gb_wA) B.pre
  have hq : ∀ w ∈ gb_wA, w.before _ s = true := fun w h => hts w (List.mem_cons_of_mem _ h)
  have hown : s.vm.findClass RX12 = some m.cls := findClass_of_methodNamed B.named
  have hlocks := B.notSynchronized
  clear B hts
  have hK := hSt.1
  have hS : va_S (gb_fr b 22) s.heap s.heap [] := va_S.rf
  have hl := lv_entry ([.long p1]) (n := 2) (Nat.le_of_ble_eq_true rfl)
  rw [lg_entry_eq]
  generalize (lg_sl ([.long p1]) ++ List.replicate (2 - (lg_sl ([.long p1])).length) Slot.unset).toArray = ls at hl ⊢
  replace hl : lv_has ls 2 [(0, .long p1)] := hl
  unfold ms_wordOf at h
  refine lv_lload_n hx hb dX12_wordOf_0 rfl (lv_at hl 0 rfl) ?_
  refine lv_bipush (v := 16) hx hb dX12_wordOf_1 (by decide) ?_
  refine lv_iconst (v := 1) hx hb dX12_wordOf_3 (by decide) ?_
  refine lv_bipush (v := 20) hx hb dX12_wordOf_4 (by decide) ?_
  refine lv_bipush (v := 8) hx hb dX12_wordOf_6 (by decide) ?_
  obtain ⟨f_1, wl_2, r_3, z_4, h⟩ := gb_bd_s h
  refine gb_calll (va_runS (As := [.int 16, .int 1, .int 20, .int 8]) (rest := [.long p1]) ⟨hx, hb, hml, hown, hq⟩ (mc_four l D cT tt b1 b hb1 n f w 16 1 20 8 f_1 wl_2 r_3 z_4) (va_cwS 4 hq (gb_gS w_1292 w_1293 w_14 w_1294) rfl rfl rfl (by decide +kernel) ⟨Nat.le_of_ble_eq_true rfl, Nat.le_of_ble_eq_true rfl⟩) (gb_preS hSt hS (fun q h => Nat.le_trans hb1 h.1) hP) rfl rfl hl.1 rfl (lv_room (Nat.le_of_ble_eq_true rfl)) dX12_wordOf_8 ⟨Nat.le_of_ble_eq_true rfl, Nat.le_of_ble_eq_true rfl⟩) hS (fun _ h => h) (fun _ h => h) (fun q_5 H locs hY hk hS => ?_)
  obtain ⟨hq_5, hP⟩ := hY
  replace hq_5 := hq_5.symm
  subst hq_5
  refine W.lcmp hx hb dX12_wordOf_11 ?_
  refine lv_if_ne (tgt := 17) hx hb dX12_wordOf_12 (by decide) (fun c_6 => ?_) (fun c_6 => ?_)
  · rw [if_neg c_6] at h
    refine lv_lload_n hx hb dX12_wordOf_17 rfl (lv_at hl 0 rfl) ?_
    refine lv_iconst (v := 0) hx hb dX12_wordOf_18 (by decide) ?_
    refine lv_iconst (v := 0) hx hb dX12_wordOf_19 (by decide) ?_
    refine lv_iconst (v := 0) hx hb dX12_wordOf_20 (by decide) ?_
    refine lv_bipush (v := 7) hx hb dX12_wordOf_21 (by decide) ?_
    refine lv_bipush (v := 15) hx hb dX12_wordOf_23 (by decide) ?_
    refine lv_bipush (v := 15) hx hb dX12_wordOf_25 (by decide) ?_
    refine lv_bipush (v := 19) hx hb dX12_wordOf_27 (by decide) ?_
    refine lv_iconst (v := 5) hx hb dX12_wordOf_29 (by decide) ?_
    obtain ⟨f_7, wl_8, r_9, z_10, h⟩ := gb_bd_s h
    refine gb_calll (va_runS (As := [.int 0, .int 0, .int 0, .int 7, .int 15, .int 15, .int 19, .int 5]) (rest := [.long p1]) ⟨hx, hb, hml, hown, hq⟩ (mc_eight l D cT tt b1 b hb1 n f_1 wl_2 0 0 0 7 15 15 19 5 f_7 wl_8 r_9 z_10) (va_cwS 8 hq (gb_gS w_1295 w_1296 w_14 w_1297) rfl rfl rfl (by decide +kernel) ⟨Nat.le_of_ble_eq_true rfl, Nat.le_of_ble_eq_true rfl⟩) (gb_preS hSt hS (fun q h => Nat.le_trans hb1 h.1) hP) rfl rfl hl.1 rfl (lv_room (Nat.le_of_ble_eq_true rfl)) dX12_wordOf_30 ⟨Nat.le_of_ble_eq_true rfl, Nat.le_of_ble_eq_true rfl⟩) hS (fun _ h => h) (fun _ h => h) (fun q_11 H locs hY hk hS => ?_)
    obtain ⟨hq_11, hP⟩ := hY
    replace hq_11 := hq_11.symm
    subst hq_11
    refine W.lcmp hx hb dX12_wordOf_33 ?_
    refine lv_if_ne (tgt := 39) hx hb dX12_wordOf_34 (by decide) (fun c_12 => ?_) (fun c_12 => ?_)
    · rw [if_neg c_12] at h
      refine lv_lload_n hx hb dX12_wordOf_39 rfl (lv_at hl 0 rfl) ?_
      refine lv_iconst (v := 0) hx hb dX12_wordOf_40 (by decide) ?_
      refine lv_iconst (v := 3) hx hb dX12_wordOf_41 (by decide) ?_
      refine lv_iconst (v := 1) hx hb dX12_wordOf_42 (by decide) ?_
      refine lv_bipush (v := 16) hx hb dX12_wordOf_43 (by decide) ?_
      obtain ⟨f_13, wl_14, r_15, z_16, h⟩ := gb_bd_s h
      refine gb_calll (va_runS (As := [.int 0, .int 3, .int 1, .int 16]) (rest := [.long p1]) ⟨hx, hb, hml, hown, hq⟩ (mc_four l D cT tt b1 b hb1 n f_7 wl_8 0 3 1 16 f_13 wl_14 r_15 z_16) (va_cwS 4 hq (gb_gS w_1292 w_1293 w_14 w_1294) rfl rfl rfl (by decide +kernel) ⟨Nat.le_of_ble_eq_true rfl, Nat.le_of_ble_eq_true rfl⟩) (gb_preS hSt hS (fun q h => Nat.le_trans hb1 h.1) hP) rfl rfl hl.1 rfl (lv_room (Nat.le_of_ble_eq_true rfl)) dX12_wordOf_45 ⟨Nat.le_of_ble_eq_true rfl, Nat.le_of_ble_eq_true rfl⟩) hS (fun _ h => h) (fun _ h => h) (fun q_17 H locs hY hk hS => ?_)
      obtain ⟨hq_17, hP⟩ := hY
      replace hq_17 := hq_17.symm
      subst hq_17
      refine W.lcmp hx hb dX12_wordOf_48 ?_
      refine lv_if_ne (tgt := 54) hx hb dX12_wordOf_49 (by decide) (fun c_18 => ?_) (fun c_18 => ?_)
      · rw [if_neg c_18] at h
        refine lv_lload_n hx hb dX12_wordOf_54 rfl (lv_at hl 0 rfl) ?_
        refine lv_iconst (v := 0) hx hb dX12_wordOf_55 (by decide) ?_
        refine lv_iconst (v := 0) hx hb dX12_wordOf_56 (by decide) ?_
        refine lv_iconst (v := 0) hx hb dX12_wordOf_57 (by decide) ?_
        refine lv_bipush (v := 13) hx hb dX12_wordOf_58 (by decide) ?_
        refine lv_iconst (v := 1) hx hb dX12_wordOf_60 (by decide) ?_
        refine lv_bipush (v := 18) hx hb dX12_wordOf_61 (by decide) ?_
        refine lv_iconst (v := 3) hx hb dX12_wordOf_63 (by decide) ?_
        refine lv_bipush (v := 8) hx hb dX12_wordOf_64 (by decide) ?_
        obtain ⟨f_19, wl_20, r_21, z_22, h⟩ := gb_bd_s h
        refine gb_calll (va_runS (As := [.int 0, .int 0, .int 0, .int 13, .int 1, .int 18, .int 3, .int 8]) (rest := [.long p1]) ⟨hx, hb, hml, hown, hq⟩ (mc_eight l D cT tt b1 b hb1 n f_13 wl_14 0 0 0 13 1 18 3 8 f_19 wl_20 r_21 z_22) (va_cwS 8 hq (gb_gS w_1295 w_1296 w_14 w_1297) rfl rfl rfl (by decide +kernel) ⟨Nat.le_of_ble_eq_true rfl, Nat.le_of_ble_eq_true rfl⟩) (gb_preS hSt hS (fun q h => Nat.le_trans hb1 h.1) hP) rfl rfl hl.1 rfl (lv_room (Nat.le_of_ble_eq_true rfl)) dX12_wordOf_66 ⟨Nat.le_of_ble_eq_true rfl, Nat.le_of_ble_eq_true rfl⟩) hS (fun _ h => h) (fun _ h => h) (fun q_23 H locs hY hk hS => ?_)
        obtain ⟨hq_23, hP⟩ := hY
        replace hq_23 := hq_23.symm
        subst hq_23
        refine W.lcmp hx hb dX12_wordOf_69 ?_
        refine lv_if_ne (tgt := 75) hx hb dX12_wordOf_70 (by decide) (fun c_24 => ?_) (fun c_24 => ?_)
        · rw [if_neg c_24] at h
          refine lv_lload_n hx hb dX12_wordOf_75 rfl (lv_at hl 0 rfl) ?_
          refine lv_iconst (v := 2) hx hb dX12_wordOf_76 (by decide) ?_
          refine lv_iconst (v := 1) hx hb dX12_wordOf_77 (by decide) ?_
          refine lv_iconst (v := 3) hx hb dX12_wordOf_78 (by decide) ?_
          refine lv_bipush (v := 11) hx hb dX12_wordOf_79 (by decide) ?_
          obtain ⟨f_25, wl_26, r_27, z_28, h⟩ := gb_bd_s h
          refine gb_calll (va_runS (As := [.int 2, .int 1, .int 3, .int 11]) (rest := [.long p1]) ⟨hx, hb, hml, hown, hq⟩ (mc_four l D cT tt b1 b hb1 n f_19 wl_20 2 1 3 11 f_25 wl_26 r_27 z_28) (va_cwS 4 hq (gb_gS w_1292 w_1293 w_14 w_1294) rfl rfl rfl (by decide +kernel) ⟨Nat.le_of_ble_eq_true rfl, Nat.le_of_ble_eq_true rfl⟩) (gb_preS hSt hS (fun q h => Nat.le_trans hb1 h.1) hP) rfl rfl hl.1 rfl (lv_room (Nat.le_of_ble_eq_true rfl)) dX12_wordOf_81 ⟨Nat.le_of_ble_eq_true rfl, Nat.le_of_ble_eq_true rfl⟩) hS (fun _ h => h) (fun _ h => h) (fun q_29 H locs hY hk hS => ?_)
          obtain ⟨hq_29, hP⟩ := hY
          replace hq_29 := hq_29.symm
          subst hq_29
          refine W.lcmp hx hb dX12_wordOf_84 ?_
          refine lv_if_ne (tgt := 90) hx hb dX12_wordOf_85 (by decide) (fun c_30 => ?_) (fun c_30 => ?_)
          · rw [if_neg c_30] at h
            refine lv_lload_n hx hb dX12_wordOf_90 rfl (lv_at hl 0 rfl) ?_
            refine lv_bipush (v := 8) hx hb dX12_wordOf_91 (by decide) ?_
            refine lv_bipush (v := 15) hx hb dX12_wordOf_93 (by decide) ?_
            refine lv_bipush (v := 13) hx hb dX12_wordOf_95 (by decide) ?_
            refine lv_iconst (v := 5) hx hb dX12_wordOf_97 (by decide) ?_
            obtain ⟨f_31, wl_32, r_33, z_34, h⟩ := gb_bd_s h
            refine gb_calll (va_runS (As := [.int 8, .int 15, .int 13, .int 5]) (rest := [.long p1]) ⟨hx, hb, hml, hown, hq⟩ (mc_four l D cT tt b1 b hb1 n f_25 wl_26 8 15 13 5 f_31 wl_32 r_33 z_34) (va_cwS 4 hq (gb_gS w_1292 w_1293 w_14 w_1294) rfl rfl rfl (by decide +kernel) ⟨Nat.le_of_ble_eq_true rfl, Nat.le_of_ble_eq_true rfl⟩) (gb_preS hSt hS (fun q h => Nat.le_trans hb1 h.1) hP) rfl rfl hl.1 rfl (lv_room (Nat.le_of_ble_eq_true rfl)) dX12_wordOf_98 ⟨Nat.le_of_ble_eq_true rfl, Nat.le_of_ble_eq_true rfl⟩) hS (fun _ h => h) (fun _ h => h) (fun q_35 H locs hY hk hS => ?_)
            obtain ⟨hq_35, hP⟩ := hY
            replace hq_35 := hq_35.symm
            subst hq_35
            refine W.lcmp hx hb dX12_wordOf_101 ?_
            refine lv_if_ne (tgt := 108) hx hb dX12_wordOf_102 (by decide) (fun c_36 => ?_) (fun c_36 => ?_)
            · rw [if_neg c_36] at h
              refine lv_lload_n hx hb dX12_wordOf_108 rfl (lv_at hl 0 rfl) ?_
              refine lv_iconst (v := 0) hx hb dX12_wordOf_109 (by decide) ?_
              refine lv_iconst (v := 0) hx hb dX12_wordOf_110 (by decide) ?_
              refine lv_iconst (v := 0) hx hb dX12_wordOf_111 (by decide) ?_
              refine lv_iconst (v := 3) hx hb dX12_wordOf_112 (by decide) ?_
              refine lv_iconst (v := 1) hx hb dX12_wordOf_113 (by decide) ?_
              refine lv_bipush (v := 18) hx hb dX12_wordOf_114 (by decide) ?_
              refine lv_bipush (v := 18) hx hb dX12_wordOf_116 (by decide) ?_
              refine lv_bipush (v := 25) hx hb dX12_wordOf_118 (by decide) ?_
              obtain ⟨f_37, wl_38, r_39, z_40, h⟩ := gb_bd_s h
              refine gb_calll (va_runS (As := [.int 0, .int 0, .int 0, .int 3, .int 1, .int 18, .int 18, .int 25]) (rest := [.long p1]) ⟨hx, hb, hml, hown, hq⟩ (mc_eight l D cT tt b1 b hb1 n f_31 wl_32 0 0 0 3 1 18 18 25 f_37 wl_38 r_39 z_40) (va_cwS 8 hq (gb_gS w_1295 w_1296 w_14 w_1297) rfl rfl rfl (by decide +kernel) ⟨Nat.le_of_ble_eq_true rfl, Nat.le_of_ble_eq_true rfl⟩) (gb_preS hSt hS (fun q h => Nat.le_trans hb1 h.1) hP) rfl rfl hl.1 rfl (lv_room (Nat.le_of_ble_eq_true rfl)) dX12_wordOf_120 ⟨Nat.le_of_ble_eq_true rfl, Nat.le_of_ble_eq_true rfl⟩) hS (fun _ h => h) (fun _ h => h) (fun q_41 H locs hY hk hS => ?_)
              obtain ⟨hq_41, hP⟩ := hY
              replace hq_41 := hq_41.symm
              subst hq_41
              refine W.lcmp hx hb dX12_wordOf_123 ?_
              refine lv_if_ne (tgt := 130) hx hb dX12_wordOf_124 (by decide) (fun c_42 => ?_) (fun c_42 => ?_)
              · rw [if_neg c_42] at h
                refine lv_lload_n hx hb dX12_wordOf_130 rfl (lv_at hl 0 rfl) ?_
                refine lv_iconst (v := 0) hx hb dX12_wordOf_131 (by decide) ?_
                refine lv_iconst (v := 0) hx hb dX12_wordOf_132 (by decide) ?_
                refine lv_bipush (v := 18) hx hb dX12_wordOf_133 (by decide) ?_
                refine lv_iconst (v := 5) hx hb dX12_wordOf_135 (by decide) ?_
                refine lv_iconst (v := 3) hx hb dX12_wordOf_136 (by decide) ?_
                refine lv_iconst (v := 1) hx hb dX12_wordOf_137 (by decide) ?_
                refine lv_bipush (v := 19) hx hb dX12_wordOf_138 (by decide) ?_
                refine lv_bipush (v := 20) hx hb dX12_wordOf_140 (by decide) ?_
                obtain ⟨f_43, wl_44, r_45, z_46, h⟩ := gb_bd_s h
                refine gb_calll (va_runS (As := [.int 0, .int 0, .int 18, .int 5, .int 3, .int 1, .int 19, .int 20]) (rest := [.long p1]) ⟨hx, hb, hml, hown, hq⟩ (mc_eight l D cT tt b1 b hb1 n f_37 wl_38 0 0 18 5 3 1 19 20 f_43 wl_44 r_45 z_46) (va_cwS 8 hq (gb_gS w_1295 w_1296 w_14 w_1297) rfl rfl rfl (by decide +kernel) ⟨Nat.le_of_ble_eq_true rfl, Nat.le_of_ble_eq_true rfl⟩) (gb_preS hSt hS (fun q h => Nat.le_trans hb1 h.1) hP) rfl rfl hl.1 rfl (lv_room (Nat.le_of_ble_eq_true rfl)) dX12_wordOf_142 ⟨Nat.le_of_ble_eq_true rfl, Nat.le_of_ble_eq_true rfl⟩) hS (fun _ h => h) (fun _ h => h) (fun q_47 H locs hY hk hS => ?_)
                obtain ⟨hq_47, hP⟩ := hY
                replace hq_47 := hq_47.symm
                subst hq_47
                refine W.lcmp hx hb dX12_wordOf_145 ?_
                refine lv_if_ne (tgt := 152) hx hb dX12_wordOf_146 (by decide) (fun c_48 => ?_) (fun c_48 => ?_)
                · rw [if_neg c_48] at h
                  refine lv_lload_n hx hb dX12_wordOf_152 rfl (lv_at hl 0 rfl) ?_
                  refine lv_bipush (v := 18) hx hb dX12_wordOf_153 (by decide) ?_
                  refine lv_iconst (v := 1) hx hb dX12_wordOf_155 (by decide) ?_
                  refine lv_bipush (v := 9) hx hb dX12_wordOf_156 (by decide) ?_
                  refine lv_bipush (v := 14) hx hb dX12_wordOf_158 (by decide) ?_
                  obtain ⟨f_49, wl_50, r_51, z_52, h⟩ := gb_bd_s h
                  refine gb_calll (va_runS (As := [.int 18, .int 1, .int 9, .int 14]) (rest := [.long p1]) ⟨hx, hb, hml, hown, hq⟩ (mc_four l D cT tt b1 b hb1 n f_43 wl_44 18 1 9 14 f_49 wl_50 r_51 z_52) (va_cwS 4 hq (gb_gS w_1292 w_1293 w_14 w_1294) rfl rfl rfl (by decide +kernel) ⟨Nat.le_of_ble_eq_true rfl, Nat.le_of_ble_eq_true rfl⟩) (gb_preS hSt hS (fun q h => Nat.le_trans hb1 h.1) hP) rfl rfl hl.1 rfl (lv_room (Nat.le_of_ble_eq_true rfl)) dX12_wordOf_160 ⟨Nat.le_of_ble_eq_true rfl, Nat.le_of_ble_eq_true rfl⟩) hS (fun _ h => h) (fun _ h => h) (fun q_53 H locs hY hk hS => ?_)
                  obtain ⟨hq_53, hP⟩ := hY
                  replace hq_53 := hq_53.symm
                  subst hq_53
                  refine W.lcmp hx hb dX12_wordOf_163 ?_
                  refine lv_if_ne (tgt := 170) hx hb dX12_wordOf_164 (by decide) (fun c_54 => ?_) (fun c_54 => ?_)
                  · rw [if_neg c_54] at h
                    refine lv_lload_n hx hb dX12_wordOf_170 rfl (lv_at hl 0 rfl) ?_
                    refine lv_iconst (v := 0) hx hb dX12_wordOf_171 (by decide) ?_
                    refine lv_iconst (v := 0) hx hb dX12_wordOf_172 (by decide) ?_
                    refine lv_iconst (v := 0) hx hb dX12_wordOf_173 (by decide) ?_
                    refine lv_bipush (v := 6) hx hb dX12_wordOf_174 (by decide) ?_
                    refine lv_bipush (v := 18) hx hb dX12_wordOf_176 (by decide) ?_
                    refine lv_bipush (v := 15) hx hb dX12_wordOf_178 (by decide) ?_
                    refine lv_bipush (v := 19) hx hb dX12_wordOf_180 (by decide) ?_
                    refine lv_bipush (v := 20) hx hb dX12_wordOf_182 (by decide) ?_
                    obtain ⟨f_55, wl_56, r_57, z_58, h⟩ := gb_bd_s h
                    refine gb_calll (va_runS (As := [.int 0, .int 0, .int 0, .int 6, .int 18, .int 15, .int 19, .int 20]) (rest := [.long p1]) ⟨hx, hb, hml, hown, hq⟩ (mc_eight l D cT tt b1 b hb1 n f_49 wl_50 0 0 0 6 18 15 19 20 f_55 wl_56 r_57 z_58) (va_cwS 8 hq (gb_gS w_1295 w_1296 w_14 w_1297) rfl rfl rfl (by decide +kernel) ⟨Nat.le_of_ble_eq_true rfl, Nat.le_of_ble_eq_true rfl⟩) (gb_preS hSt hS (fun q h => Nat.le_trans hb1 h.1) hP) rfl rfl hl.1 rfl (lv_room (Nat.le_of_ble_eq_true rfl)) dX12_wordOf_184 ⟨Nat.le_of_ble_eq_true rfl, Nat.le_of_ble_eq_true rfl⟩) hS (fun _ h => h) (fun _ h => h) (fun q_59 H locs hY hk hS => ?_)
                    obtain ⟨hq_59, hP⟩ := hY
                    replace hq_59 := hq_59.symm
                    subst hq_59
                    refine W.lcmp hx hb dX12_wordOf_187 ?_
                    refine lv_if_ne (tgt := 194) hx hb dX12_wordOf_188 (by decide) (fun c_60 => ?_) (fun c_60 => ?_)
                    · rw [if_neg c_60] at h
                      refine lv_lload_n hx hb dX12_wordOf_194 rfl (lv_at hl 0 rfl) ?_
                      refine lv_bipush (v := 20) hx hb dX12_wordOf_195 (by decide) ?_
                      refine lv_bipush (v := 8) hx hb dX12_wordOf_197 (by decide) ?_
                      refine lv_iconst (v := 1) hx hb dX12_wordOf_199 (by decide) ?_
                      refine lv_bipush (v := 23) hx hb dX12_wordOf_200 (by decide) ?_
                      obtain ⟨f_61, wl_62, r_63, z_64, h⟩ := gb_bd_s h
                      refine gb_calll (va_runS (As := [.int 20, .int 8, .int 1, .int 23]) (rest := [.long p1]) ⟨hx, hb, hml, hown, hq⟩ (mc_four l D cT tt b1 b hb1 n f_55 wl_56 20 8 1 23 f_61 wl_62 r_63 z_64) (va_cwS 4 hq (gb_gS w_1292 w_1293 w_14 w_1294) rfl rfl rfl (by decide +kernel) ⟨Nat.le_of_ble_eq_true rfl, Nat.le_of_ble_eq_true rfl⟩) (gb_preS hSt hS (fun q h => Nat.le_trans hb1 h.1) hP) rfl rfl hl.1 rfl (lv_room (Nat.le_of_ble_eq_true rfl)) dX12_wordOf_202 ⟨Nat.le_of_ble_eq_true rfl, Nat.le_of_ble_eq_true rfl⟩) hS (fun _ h => h) (fun _ h => h) (fun q_65 H locs hY hk hS => ?_)
                      obtain ⟨hq_65, hP⟩ := hY
                      replace hq_65 := hq_65.symm
                      subst hq_65
                      refine W.lcmp hx hb dX12_wordOf_205 ?_
                      refine lv_if_ne (tgt := 212) hx hb dX12_wordOf_206 (by decide) (fun c_66 => ?_) (fun c_66 => ?_)
                      · rw [if_neg c_66] at h
                        refine lv_lload_n hx hb dX12_wordOf_212 rfl (lv_at hl 0 rfl) ?_
                        refine lv_iconst (v := 0) hx hb dX12_wordOf_213 (by decide) ?_
                        refine lv_bipush (v := 6) hx hb dX12_wordOf_214 (by decide) ?_
                        refine lv_bipush (v := 15) hx hb dX12_wordOf_216 (by decide) ?_
                        refine lv_bipush (v := 24) hx hb dX12_wordOf_218 (by decide) ?_
                        obtain ⟨f_67, wl_68, r_69, z_70, h⟩ := gb_bd_s h
                        refine gb_calll (va_runS (As := [.int 0, .int 6, .int 15, .int 24]) (rest := [.long p1]) ⟨hx, hb, hml, hown, hq⟩ (mc_four l D cT tt b1 b hb1 n f_61 wl_62 0 6 15 24 f_67 wl_68 r_69 z_70) (va_cwS 4 hq (gb_gS w_1292 w_1293 w_14 w_1294) rfl rfl rfl (by decide +kernel) ⟨Nat.le_of_ble_eq_true rfl, Nat.le_of_ble_eq_true rfl⟩) (gb_preS hSt hS (fun q h => Nat.le_trans hb1 h.1) hP) rfl rfl hl.1 rfl (lv_room (Nat.le_of_ble_eq_true rfl)) dX12_wordOf_220 ⟨Nat.le_of_ble_eq_true rfl, Nat.le_of_ble_eq_true rfl⟩) hS (fun _ h => h) (fun _ h => h) (fun q_71 H locs hY hk hS => ?_)
                        obtain ⟨hq_71, hP⟩ := hY
                        replace hq_71 := hq_71.symm
                        subst hq_71
                        refine W.lcmp hx hb dX12_wordOf_223 ?_
                        refine lv_if_ne (tgt := 230) hx hb dX12_wordOf_224 (by decide) (fun c_72 => ?_) (fun c_72 => ?_)
                        · rw [if_neg c_72] at h
                          refine lv_lload_n hx hb dX12_wordOf_230 rfl (lv_at hl 0 rfl) ?_
                          refine lv_iconst (v := 5) hx hb dX12_wordOf_231 (by decide) ?_
                          refine lv_iconst (v := 1) hx hb dX12_wordOf_232 (by decide) ?_
                          refine lv_iconst (v := 3) hx hb dX12_wordOf_233 (by decide) ?_
                          refine lv_bipush (v := 8) hx hb dX12_wordOf_234 (by decide) ?_
                          obtain ⟨f_73, wl_74, r_75, z_76, h⟩ := gb_bd_s h
                          refine gb_calll (va_runS (As := [.int 5, .int 1, .int 3, .int 8]) (rest := [.long p1]) ⟨hx, hb, hml, hown, hq⟩ (mc_four l D cT tt b1 b hb1 n f_67 wl_68 5 1 3 8 f_73 wl_74 r_75 z_76) (va_cwS 4 hq (gb_gS w_1292 w_1293 w_14 w_1294) rfl rfl rfl (by decide +kernel) ⟨Nat.le_of_ble_eq_true rfl, Nat.le_of_ble_eq_true rfl⟩) (gb_preS hSt hS (fun q h => Nat.le_trans hb1 h.1) hP) rfl rfl hl.1 rfl (lv_room (Nat.le_of_ble_eq_true rfl)) dX12_wordOf_236 ⟨Nat.le_of_ble_eq_true rfl, Nat.le_of_ble_eq_true rfl⟩) hS (fun _ h => h) (fun _ h => h) (fun q_77 H locs hY hk hS => ?_)
                          obtain ⟨hq_77, hP⟩ := hY
                          replace hq_77 := hq_77.symm
                          subst hq_77
                          refine W.lcmp hx hb dX12_wordOf_239 ?_
                          refine lv_if_ne (tgt := 246) hx hb dX12_wordOf_240 (by decide) (fun c_78 => ?_) (fun c_78 => ?_)
                          · rw [if_neg c_78] at h
                            refine lv_lload_n hx hb dX12_wordOf_246 rfl (lv_at hl 0 rfl) ?_
                            refine lv_iconst (v := 0) hx hb dX12_wordOf_247 (by decide) ?_
                            refine lv_iconst (v := 0) hx hb dX12_wordOf_248 (by decide) ?_
                            refine lv_iconst (v := 0) hx hb dX12_wordOf_249 (by decide) ?_
                            refine lv_iconst (v := 1) hx hb dX12_wordOf_250 (by decide) ?_
                            refine lv_iconst (v := 2) hx hb dX12_wordOf_251 (by decide) ?_
                            refine lv_bipush (v := 15) hx hb dX12_wordOf_252 (by decide) ?_
                            refine lv_bipush (v := 22) hx hb dX12_wordOf_254 (by decide) ?_
                            refine lv_iconst (v := 5) hx hb dX12_wordOf_256 (by decide) ?_
                            obtain ⟨f_79, wl_80, r_81, z_82, h⟩ := gb_bd_s h
                            refine gb_calll (va_runS (As := [.int 0, .int 0, .int 0, .int 1, .int 2, .int 15, .int 22, .int 5]) (rest := [.long p1]) ⟨hx, hb, hml, hown, hq⟩ (mc_eight l D cT tt b1 b hb1 n f_73 wl_74 0 0 0 1 2 15 22 5 f_79 wl_80 r_81 z_82) (va_cwS 8 hq (gb_gS w_1295 w_1296 w_14 w_1297) rfl rfl rfl (by decide +kernel) ⟨Nat.le_of_ble_eq_true rfl, Nat.le_of_ble_eq_true rfl⟩) (gb_preS hSt hS (fun q h => Nat.le_trans hb1 h.1) hP) rfl rfl hl.1 rfl (lv_room (Nat.le_of_ble_eq_true rfl)) dX12_wordOf_257 ⟨Nat.le_of_ble_eq_true rfl, Nat.le_of_ble_eq_true rfl⟩) hS (fun _ h => h) (fun _ h => h) (fun q_83 H locs hY hk hS => ?_)
                            obtain ⟨hq_83, hP⟩ := hY
                            replace hq_83 := hq_83.symm
                            subst hq_83
                            refine W.lcmp hx hb dX12_wordOf_260 ?_
                            refine lv_if_ne (tgt := 267) hx hb dX12_wordOf_261 (by decide) (fun c_84 => ?_) (fun c_84 => ?_)
                            · rw [if_neg c_84] at h
                              refine lv_lload_n hx hb dX12_wordOf_267 rfl (lv_at hl 0 rfl) ?_
                              refine lv_iconst (v := 0) hx hb dX12_wordOf_268 (by decide) ?_
                              refine lv_iconst (v := 0) hx hb dX12_wordOf_269 (by decide) ?_
                              refine lv_iconst (v := 0) hx hb dX12_wordOf_270 (by decide) ?_
                              refine lv_iconst (v := 2) hx hb dX12_wordOf_271 (by decide) ?_
                              refine lv_iconst (v := 5) hx hb dX12_wordOf_272 (by decide) ?_
                              refine lv_bipush (v := 12) hx hb dX12_wordOf_273 (by decide) ?_
                              refine lv_bipush (v := 15) hx hb dX12_wordOf_275 (by decide) ?_
                              refine lv_bipush (v := 23) hx hb dX12_wordOf_277 (by decide) ?_
                              obtain ⟨f_85, wl_86, r_87, z_88, h⟩ := gb_bd_s h
                              refine gb_calll (va_runS (As := [.int 0, .int 0, .int 0, .int 2, .int 5, .int 12, .int 15, .int 23]) (rest := [.long p1]) ⟨hx, hb, hml, hown, hq⟩ (mc_eight l D cT tt b1 b hb1 n f_79 wl_80 0 0 0 2 5 12 15 23 f_85 wl_86 r_87 z_88) (va_cwS 8 hq (gb_gS w_1295 w_1296 w_14 w_1297) rfl rfl rfl (by decide +kernel) ⟨Nat.le_of_ble_eq_true rfl, Nat.le_of_ble_eq_true rfl⟩) (gb_preS hSt hS (fun q h => Nat.le_trans hb1 h.1) hP) rfl rfl hl.1 rfl (lv_room (Nat.le_of_ble_eq_true rfl)) dX12_wordOf_279 ⟨Nat.le_of_ble_eq_true rfl, Nat.le_of_ble_eq_true rfl⟩) hS (fun _ h => h) (fun _ h => h) (fun q_89 H locs hY hk hS => ?_)
                              obtain ⟨hq_89, hP⟩ := hY
                              replace hq_89 := hq_89.symm
                              subst hq_89
                              refine W.lcmp hx hb dX12_wordOf_282 ?_
                              refine lv_if_ne (tgt := 289) hx hb dX12_wordOf_283 (by decide) (fun c_90 => ?_) (fun c_90 => ?_)
                              · rw [if_neg c_90] at h
                                refine lv_lload_n hx hb dX12_wordOf_289 rfl (lv_at hl 0 rfl) ?_
                                refine lv_iconst (v := 0) hx hb dX12_wordOf_290 (by decide) ?_
                                refine lv_bipush (v := 15) hx hb dX12_wordOf_291 (by decide) ?_
                                refine lv_iconst (v := 4) hx hb dX12_wordOf_293 (by decide) ?_
                                refine lv_iconst (v := 4) hx hb dX12_wordOf_294 (by decide) ?_
                                obtain ⟨f_91, wl_92, r_93, z_94, h⟩ := gb_bd_s h
                                refine gb_calll (va_runS (As := [.int 0, .int 15, .int 4, .int 4]) (rest := [.long p1]) ⟨hx, hb, hml, hown, hq⟩ (mc_four l D cT tt b1 b hb1 n f_85 wl_86 0 15 4 4 f_91 wl_92 r_93 z_94) (va_cwS 4 hq (gb_gS w_1292 w_1293 w_14 w_1294) rfl rfl rfl (by decide +kernel) ⟨Nat.le_of_ble_eq_true rfl, Nat.le_of_ble_eq_true rfl⟩) (gb_preS hSt hS (fun q h => Nat.le_trans hb1 h.1) hP) rfl rfl hl.1 rfl (lv_room (Nat.le_of_ble_eq_true rfl)) dX12_wordOf_295 ⟨Nat.le_of_ble_eq_true rfl, Nat.le_of_ble_eq_true rfl⟩) hS (fun _ h => h) (fun _ h => h) (fun q_95 H locs hY hk hS => ?_)
                                obtain ⟨hq_95, hP⟩ := hY
                                replace hq_95 := hq_95.symm
                                subst hq_95
                                refine W.lcmp hx hb dX12_wordOf_298 ?_
                                refine lv_if_ne (tgt := 305) hx hb dX12_wordOf_299 (by decide) (fun c_96 => ?_) (fun c_96 => ?_)
                                · rw [if_neg c_96] at h
                                  refine lv_lload_n hx hb dX12_wordOf_305 rfl (lv_at hl 0 rfl) ?_
                                  refine lv_bipush (v := 13) hx hb dX12_wordOf_306 (by decide) ?_
                                  refine lv_bipush (v := 15) hx hb dX12_wordOf_308 (by decide) ?_
                                  refine lv_bipush (v := 19) hx hb dX12_wordOf_310 (by decide) ?_
                                  refine lv_bipush (v := 20) hx hb dX12_wordOf_312 (by decide) ?_
                                  obtain ⟨f_97, wl_98, r_99, z_100, h⟩ := gb_bd_s h
                                  refine gb_calll (va_runS (As := [.int 13, .int 15, .int 19, .int 20]) (rest := [.long p1]) ⟨hx, hb, hml, hown, hq⟩ (mc_four l D cT tt b1 b hb1 n f_91 wl_92 13 15 19 20 f_97 wl_98 r_99 z_100) (va_cwS 4 hq (gb_gS w_1292 w_1293 w_14 w_1294) rfl rfl rfl (by decide +kernel) ⟨Nat.le_of_ble_eq_true rfl, Nat.le_of_ble_eq_true rfl⟩) (gb_preS hSt hS (fun q h => Nat.le_trans hb1 h.1) hP) rfl rfl hl.1 rfl (lv_room (Nat.le_of_ble_eq_true rfl)) dX12_wordOf_314 ⟨Nat.le_of_ble_eq_true rfl, Nat.le_of_ble_eq_true rfl⟩) hS (fun _ h => h) (fun _ h => h) (fun q_101 H locs hY hk hS => ?_)
                                  obtain ⟨hq_101, hP⟩ := hY
                                  replace hq_101 := hq_101.symm
                                  subst hq_101
                                  refine W.lcmp hx hb dX12_wordOf_317 ?_
                                  refine lv_if_ne (tgt := 324) hx hb dX12_wordOf_318 (by decide) (fun c_102 => ?_) (fun c_102 => ?_)
                                  · rw [if_neg c_102] at h
                                    refine lv_lload_n hx hb dX12_wordOf_324 rfl (lv_at hl 0 rfl) ?_
                                    refine lv_bipush (v := 12) hx hb dX12_wordOf_325 (by decide) ?_
                                    refine lv_iconst (v := 5) hx hb dX12_wordOf_327 (by decide) ?_
                                    refine lv_bipush (v := 6) hx hb dX12_wordOf_328 (by decide) ?_
                                    refine lv_bipush (v := 20) hx hb dX12_wordOf_330 (by decide) ?_
                                    obtain ⟨f_103, wl_104, r_105, z_106, h⟩ := gb_bd_s h
                                    refine gb_calll (va_runS (As := [.int 12, .int 5, .int 6, .int 20]) (rest := [.long p1]) ⟨hx, hb, hml, hown, hq⟩ (mc_four l D cT tt b1 b hb1 n f_97 wl_98 12 5 6 20 f_103 wl_104 r_105 z_106) (va_cwS 4 hq (gb_gS w_1292 w_1293 w_14 w_1294) rfl rfl rfl (by decide +kernel) ⟨Nat.le_of_ble_eq_true rfl, Nat.le_of_ble_eq_true rfl⟩) (gb_preS hSt hS (fun q h => Nat.le_trans hb1 h.1) hP) rfl rfl hl.1 rfl (lv_room (Nat.le_of_ble_eq_true rfl)) dX12_wordOf_332 ⟨Nat.le_of_ble_eq_true rfl, Nat.le_of_ble_eq_true rfl⟩) hS (fun _ h => h) (fun _ h => h) (fun q_107 H locs hY hk hS => ?_)
                                    obtain ⟨hq_107, hP⟩ := hY
                                    replace hq_107 := hq_107.symm
                                    subst hq_107
                                    refine W.lcmp hx hb dX12_wordOf_335 ?_
                                    refine lv_if_ne (tgt := 344) hx hb dX12_wordOf_336 (by decide) (fun c_108 => ?_) (fun c_108 => ?_)
                                    · rw [if_neg c_108] at h
                                      refine lv_bipush (v := 99) hx hb dX12_wordOf_344 (by decide) ?_
                                      obtain ⟨e1, e2, e3⟩ := gb_eq3 h
                                      exact W.iret (v := 99) hx hb hr (fun t ht hW => gb_ri ht ⟨e3, by rw [← e1, ← e2]; exact hP⟩ hS) hS.2.2 dX12_wordOf_346
                                    · rw [if_pos c_108] at h
                                      refine lv_bipush (v := 18) hx hb dX12_wordOf_339 (by decide) ?_
                                      refine lv_goto (tgt := 346) hx hb dX12_wordOf_341 (by decide) ?_
                                      obtain ⟨e1, e2, e3⟩ := gb_eq3 h
                                      exact W.iret (v := 18) hx hb hr (fun t ht hW => gb_ri ht ⟨e3, by rw [← e1, ← e2]; exact hP⟩ hS) hS.2.2 dX12_wordOf_346
                                  · rw [if_pos c_102] at h
                                    refine lv_bipush (v := 17) hx hb dX12_wordOf_321 (by decide) ?_
                                    obtain ⟨e1, e2, e3⟩ := gb_eq3 h
                                    exact W.iret (v := 17) hx hb hr (fun t ht hW => gb_ri ht ⟨e3, by rw [← e1, ← e2]; exact hP⟩ hS) hS.2.2 dX12_wordOf_323
                                · rw [if_pos c_96] at h
                                  refine lv_bipush (v := 16) hx hb dX12_wordOf_302 (by decide) ?_
                                  obtain ⟨e1, e2, e3⟩ := gb_eq3 h
                                  exact W.iret (v := 16) hx hb hr (fun t ht hW => gb_ri ht ⟨e3, by rw [← e1, ← e2]; exact hP⟩ hS) hS.2.2 dX12_wordOf_304
                              · rw [if_pos c_90] at h
                                refine lv_bipush (v := 15) hx hb dX12_wordOf_286 (by decide) ?_
                                obtain ⟨e1, e2, e3⟩ := gb_eq3 h
                                exact W.iret (v := 15) hx hb hr (fun t ht hW => gb_ri ht ⟨e3, by rw [← e1, ← e2]; exact hP⟩ hS) hS.2.2 dX12_wordOf_288
                            · rw [if_pos c_84] at h
                              refine lv_bipush (v := 14) hx hb dX12_wordOf_264 (by decide) ?_
                              obtain ⟨e1, e2, e3⟩ := gb_eq3 h
                              exact W.iret (v := 14) hx hb hr (fun t ht hW => gb_ri ht ⟨e3, by rw [← e1, ← e2]; exact hP⟩ hS) hS.2.2 dX12_wordOf_266
                          · rw [if_pos c_78] at h
                            refine lv_bipush (v := 13) hx hb dX12_wordOf_243 (by decide) ?_
                            obtain ⟨e1, e2, e3⟩ := gb_eq3 h
                            exact W.iret (v := 13) hx hb hr (fun t ht hW => gb_ri ht ⟨e3, by rw [← e1, ← e2]; exact hP⟩ hS) hS.2.2 dX12_wordOf_245
                        · rw [if_pos c_72] at h
                          refine lv_bipush (v := 12) hx hb dX12_wordOf_227 (by decide) ?_
                          obtain ⟨e1, e2, e3⟩ := gb_eq3 h
                          exact W.iret (v := 12) hx hb hr (fun t ht hW => gb_ri ht ⟨e3, by rw [← e1, ← e2]; exact hP⟩ hS) hS.2.2 dX12_wordOf_229
                      · rw [if_pos c_66] at h
                        refine lv_bipush (v := 11) hx hb dX12_wordOf_209 (by decide) ?_
                        obtain ⟨e1, e2, e3⟩ := gb_eq3 h
                        exact W.iret (v := 11) hx hb hr (fun t ht hW => gb_ri ht ⟨e3, by rw [← e1, ← e2]; exact hP⟩ hS) hS.2.2 dX12_wordOf_211
                    · rw [if_pos c_60] at h
                      refine lv_bipush (v := 10) hx hb dX12_wordOf_191 (by decide) ?_
                      obtain ⟨e1, e2, e3⟩ := gb_eq3 h
                      exact W.iret (v := 10) hx hb hr (fun t ht hW => gb_ri ht ⟨e3, by rw [← e1, ← e2]; exact hP⟩ hS) hS.2.2 dX12_wordOf_193
                  · rw [if_pos c_54] at h
                    refine lv_bipush (v := 9) hx hb dX12_wordOf_167 (by decide) ?_
                    obtain ⟨e1, e2, e3⟩ := gb_eq3 h
                    exact W.iret (v := 9) hx hb hr (fun t ht hW => gb_ri ht ⟨e3, by rw [← e1, ← e2]; exact hP⟩ hS) hS.2.2 dX12_wordOf_169
                · rw [if_pos c_48] at h
                  refine lv_bipush (v := 8) hx hb dX12_wordOf_149 (by decide) ?_
                  obtain ⟨e1, e2, e3⟩ := gb_eq3 h
                  exact W.iret (v := 8) hx hb hr (fun t ht hW => gb_ri ht ⟨e3, by rw [← e1, ← e2]; exact hP⟩ hS) hS.2.2 dX12_wordOf_151
              · rw [if_pos c_42] at h
                refine lv_bipush (v := 7) hx hb dX12_wordOf_127 (by decide) ?_
                obtain ⟨e1, e2, e3⟩ := gb_eq3 h
                exact W.iret (v := 7) hx hb hr (fun t ht hW => gb_ri ht ⟨e3, by rw [← e1, ← e2]; exact hP⟩ hS) hS.2.2 dX12_wordOf_129
            · rw [if_pos c_36] at h
              refine lv_bipush (v := 6) hx hb dX12_wordOf_105 (by decide) ?_
              obtain ⟨e1, e2, e3⟩ := gb_eq3 h
              exact W.iret (v := 6) hx hb hr (fun t ht hW => gb_ri ht ⟨e3, by rw [← e1, ← e2]; exact hP⟩ hS) hS.2.2 dX12_wordOf_107
          · rw [if_pos c_30] at h
            refine lv_iconst (v := 5) hx hb dX12_wordOf_88 (by decide) ?_
            obtain ⟨e1, e2, e3⟩ := gb_eq3 h
            exact W.iret (v := 5) hx hb hr (fun t ht hW => gb_ri ht ⟨e3, by rw [← e1, ← e2]; exact hP⟩ hS) hS.2.2 dX12_wordOf_89
        · rw [if_pos c_24] at h
          refine lv_iconst (v := 4) hx hb dX12_wordOf_73 (by decide) ?_
          obtain ⟨e1, e2, e3⟩ := gb_eq3 h
          exact W.iret (v := 4) hx hb hr (fun t ht hW => gb_ri ht ⟨e3, by rw [← e1, ← e2]; exact hP⟩ hS) hS.2.2 dX12_wordOf_74
      · rw [if_pos c_18] at h
        refine lv_iconst (v := 3) hx hb dX12_wordOf_52 (by decide) ?_
        obtain ⟨e1, e2, e3⟩ := gb_eq3 h
        exact W.iret (v := 3) hx hb hr (fun t ht hW => gb_ri ht ⟨e3, by rw [← e1, ← e2]; exact hP⟩ hS) hS.2.2 dX12_wordOf_53
    · rw [if_pos c_12] at h
      refine lv_iconst (v := 2) hx hb dX12_wordOf_37 (by decide) ?_
      obtain ⟨e1, e2, e3⟩ := gb_eq3 h
      exact W.iret (v := 2) hx hb hr (fun t ht hW => gb_ri ht ⟨e3, by rw [← e1, ← e2]; exact hP⟩ hS) hS.2.2 dX12_wordOf_38
  · rw [if_pos c_6] at h
    refine lv_iconst (v := 1) hx hb dX12_wordOf_15 (by decide) ?_
    obtain ⟨e1, e2, e3⟩ := gb_eq3 h
    exact W.iret (v := 1) hx hb hr (fun t ht hW => gb_ri ht ⟨e3, by rw [← e1, ← e2]; exact hP⟩ hS) hS.2.2 dX12_wordOf_16
theorem dq_cX12_advance_0 : ((cX12_advance.data.toList.drop 0).take 67).map UInt8.toNat = [42, 42, 180, 0, 88, 182, 0, 91, 16, 10, 159, 0, 16, 42, 42, 180, 0, 88, 182, 0, 91, 16, 32, 160, 0, 16, 42, 89, 180, 0, 88, 4, 96, 181, 0, 88, 167, 255, 220, 42, 42, 180, 0, 88, 181, 0, 95, 42, 42, 180, 0, 88, 182, 0, 91, 60, 27, 156, 0, 11, 42, 3, 181, 0, 98, 167, 0] := by decide +kernel
theorem dX12_advance_0 : decode cX12_advance 0 = .ok (.aload_n 0, 1) := dc_42 (dc_cut (j := 0) (n := 1) (l := [42]) dq_cX12_advance_0 (by decide +kernel) (by decide))
theorem dX12_advance_1 : decode cX12_advance 1 = .ok (.aload_n 0, 1) := dc_42 (dc_cut (j := 1) (n := 1) (l := [42]) dq_cX12_advance_0 (by decide +kernel) (by decide))
theorem dX12_advance_2 : decode cX12_advance 2 = .ok (.getfield 88, 3) := dc_180 (dc_cut (j := 2) (n := 3) (l := [180, 0, 88]) dq_cX12_advance_0 (by decide +kernel) (by decide)) rfl
theorem w_1127 : (Cond.fieldLink "GooseBorderModel" (88 : Nat) "GooseBorderModel" "next" "I") ∈ gb_wA := gb_t5 167 rfl rfl
theorem dX12_advance_5 : decode cX12_advance 5 = .ok (.invokevirtual 91, 3) := dc_182 (dc_cut (j := 5) (n := 3) (l := [182, 0, 91]) dq_cX12_advance_0 (by decide +kernel) (by decide)) rfl
theorem w_1283 : (Cond.code ({ cls := "GooseBorderModel", name := "byteAt", desc := "(I)I" } : MethodName) prog_14_method_5_code (2 : Nat) (Option.some FieldType.int)) ∈ gb_wA := gb_t6 83 rfl rfl
theorem w_1280 : (Cond.methodLink "GooseBorderModel" (91 : Nat) ({ cls := "GooseBorderModel", name := "byteAt", desc := "(I)I" } : MethodName)) ∈ gb_wA := gb_t6 80 rfl rfl
theorem w_1282 : (Cond.instanceMethod ({ cls := "GooseBorderModel", name := "byteAt", desc := "(I)I" } : MethodName)) ∈ gb_wA := gb_t6 82 rfl rfl
theorem s_3_2 : Cond.selects "GooseBorderModel" (⟨"GooseBorderModel", "byteAt", "(I)I"⟩ : MethodName) (⟨"GooseBorderModel", "byteAt", "(I)I"⟩ : MethodName) ∈ gb_wA := gb_s3 2 rfl rfl
theorem dX12_advance_8 : decode cX12_advance 8 = .ok (.bipush 10, 2) := dc_16 (dc_cut (j := 8) (n := 2) (l := [16, 10]) dq_cX12_advance_0 (by decide +kernel) (by decide)) rfl
theorem dX12_advance_10 : decode cX12_advance 10 = .ok (.if_icmp .eq 16, 3) := dc_159 (dc_cut (j := 10) (n := 3) (l := [159, 0, 16]) dq_cX12_advance_0 (by decide +kernel) (by decide)) rfl
theorem dX12_advance_26 : decode cX12_advance 26 = .ok (.aload_n 0, 1) := dc_42 (dc_cut (j := 26) (n := 1) (l := [42]) dq_cX12_advance_0 (by decide +kernel) (by decide))
theorem dX12_advance_27 : decode cX12_advance 27 = .ok (.dup, 1) := dc_89 (dc_cut (j := 27) (n := 1) (l := [89]) dq_cX12_advance_0 (by decide +kernel) (by decide))
theorem dX12_advance_28 : decode cX12_advance 28 = .ok (.getfield 88, 3) := dc_180 (dc_cut (j := 28) (n := 3) (l := [180, 0, 88]) dq_cX12_advance_0 (by decide +kernel) (by decide)) rfl
theorem dX12_advance_31 : decode cX12_advance 31 = .ok (.iconst 1, 1) := dc_4 (dc_cut (j := 31) (n := 1) (l := [4]) dq_cX12_advance_0 (by decide +kernel) (by decide))
theorem dX12_advance_32 : decode cX12_advance 32 = .ok (.iadd, 1) := dc_96 (dc_cut (j := 32) (n := 1) (l := [96]) dq_cX12_advance_0 (by decide +kernel) (by decide))
theorem dX12_advance_33 : decode cX12_advance 33 = .ok (.putfield 88, 3) := dc_181 (dc_cut (j := 33) (n := 3) (l := [181, 0, 88]) dq_cX12_advance_0 (by decide +kernel) (by decide)) rfl
theorem dX12_advance_36 : decode cX12_advance 36 = .ok (.goto (-36), 3) := dc_167 (dc_cut (j := 36) (n := 3) (l := [167, 255, 220]) dq_cX12_advance_0 (by decide +kernel) (by decide)) rfl
theorem dX12_advance_13 : decode cX12_advance 13 = .ok (.aload_n 0, 1) := dc_42 (dc_cut (j := 13) (n := 1) (l := [42]) dq_cX12_advance_0 (by decide +kernel) (by decide))
theorem dX12_advance_14 : decode cX12_advance 14 = .ok (.aload_n 0, 1) := dc_42 (dc_cut (j := 14) (n := 1) (l := [42]) dq_cX12_advance_0 (by decide +kernel) (by decide))
theorem dX12_advance_15 : decode cX12_advance 15 = .ok (.getfield 88, 3) := dc_180 (dc_cut (j := 15) (n := 3) (l := [180, 0, 88]) dq_cX12_advance_0 (by decide +kernel) (by decide)) rfl
theorem dX12_advance_18 : decode cX12_advance 18 = .ok (.invokevirtual 91, 3) := dc_182 (dc_cut (j := 18) (n := 3) (l := [182, 0, 91]) dq_cX12_advance_0 (by decide +kernel) (by decide)) rfl
theorem dX12_advance_21 : decode cX12_advance 21 = .ok (.bipush 32, 2) := dc_16 (dc_cut (j := 21) (n := 2) (l := [16, 32]) dq_cX12_advance_0 (by decide +kernel) (by decide)) rfl
theorem dX12_advance_23 : decode cX12_advance 23 = .ok (.if_icmp .ne 16, 3) := dc_160 (dc_cut (j := 23) (n := 3) (l := [160, 0, 16]) dq_cX12_advance_0 (by decide +kernel) (by decide)) rfl
theorem dX12_advance_39 : decode cX12_advance 39 = .ok (.aload_n 0, 1) := dc_42 (dc_cut (j := 39) (n := 1) (l := [42]) dq_cX12_advance_0 (by decide +kernel) (by decide))
theorem dX12_advance_40 : decode cX12_advance 40 = .ok (.aload_n 0, 1) := dc_42 (dc_cut (j := 40) (n := 1) (l := [42]) dq_cX12_advance_0 (by decide +kernel) (by decide))
theorem dX12_advance_41 : decode cX12_advance 41 = .ok (.getfield 88, 3) := dc_180 (dc_cut (j := 41) (n := 3) (l := [180, 0, 88]) dq_cX12_advance_0 (by decide +kernel) (by decide)) rfl
theorem dX12_advance_44 : decode cX12_advance 44 = .ok (.putfield 95, 3) := dc_181 (dc_cut (j := 44) (n := 3) (l := [181, 0, 95]) dq_cX12_advance_0 (by decide +kernel) (by decide)) rfl
theorem w_1128 : (Cond.fieldLink "GooseBorderModel" (95 : Nat) "GooseBorderModel" "where" "I") ∈ gb_wA := gb_t5 168 rfl rfl
theorem dX12_advance_47 : decode cX12_advance 47 = .ok (.aload_n 0, 1) := dc_42 (dc_cut (j := 47) (n := 1) (l := [42]) dq_cX12_advance_0 (by decide +kernel) (by decide))
theorem dX12_advance_48 : decode cX12_advance 48 = .ok (.aload_n 0, 1) := dc_42 (dc_cut (j := 48) (n := 1) (l := [42]) dq_cX12_advance_0 (by decide +kernel) (by decide))
theorem dX12_advance_49 : decode cX12_advance 49 = .ok (.getfield 88, 3) := dc_180 (dc_cut (j := 49) (n := 3) (l := [180, 0, 88]) dq_cX12_advance_0 (by decide +kernel) (by decide)) rfl
theorem dX12_advance_52 : decode cX12_advance 52 = .ok (.invokevirtual 91, 3) := dc_182 (dc_cut (j := 52) (n := 3) (l := [182, 0, 91]) dq_cX12_advance_0 (by decide +kernel) (by decide)) rfl
theorem dX12_advance_55 : decode cX12_advance 55 = .ok (.istore_n 1, 1) := dc_60 (dc_cut (j := 55) (n := 1) (l := [60]) dq_cX12_advance_0 (by decide +kernel) (by decide))
theorem dX12_advance_56 : decode cX12_advance 56 = .ok (.iload_n 1, 1) := dc_27 (dc_cut (j := 56) (n := 1) (l := [27]) dq_cX12_advance_0 (by decide +kernel) (by decide))
theorem dX12_advance_57 : decode cX12_advance 57 = .ok (.ifCond .ge 11, 3) := dc_156 (dc_cut (j := 57) (n := 3) (l := [156, 0, 11]) dq_cX12_advance_0 (by decide +kernel) (by decide)) rfl
theorem dq_cX12_advance_64 : ((cX12_advance.data.toList.drop 64).take 67).map UInt8.toNat = [98, 167, 0, 246, 27, 184, 0, 101, 153, 0, 114, 9, 65, 42, 42, 180, 0, 88, 182, 0, 91, 184, 0, 101, 153, 0, 50, 42, 180, 0, 88, 42, 180, 0, 95, 100, 16, 8, 162, 0, 23, 20, 0, 105, 32, 105, 42, 42, 180, 0, 88, 182, 0, 91, 133, 97, 20, 0, 107, 101, 65, 42, 89, 180, 0, 88, 4] := by decide +kernel
theorem dX12_advance_68 : decode cX12_advance 68 = .ok (.iload_n 1, 1) := dc_27 (dc_cut (j := 4) (n := 1) (l := [27]) dq_cX12_advance_64 (by decide +kernel) (by decide))
theorem dX12_advance_69 : decode cX12_advance 69 = .ok (.invokestatic 101, 3) := dc_184 (dc_cut (j := 5) (n := 3) (l := [184, 0, 101]) dq_cX12_advance_64 (by decide +kernel) (by decide)) rfl
theorem w_1286 : (Cond.code ({ cls := "GooseBorderModel", name := "isLetter", desc := "(I)Z" } : MethodName) prog_14_method_6_code (1 : Nat) (Option.some FieldType.boolean)) ∈ gb_wA := gb_t6 86 rfl rfl
theorem w_1284 : (Cond.methodLink "GooseBorderModel" (101 : Nat) ({ cls := "GooseBorderModel", name := "isLetter", desc := "(I)Z" } : MethodName)) ∈ gb_wA := gb_t6 84 rfl rfl
theorem w_1285 : (Cond.static ({ cls := "GooseBorderModel", name := "isLetter", desc := "(I)Z" } : MethodName)) ∈ gb_wA := gb_t6 85 rfl rfl
theorem dX12_advance_72 : decode cX12_advance 72 = .ok (.ifCond .eq 114, 3) := dc_153 (dc_cut (j := 8) (n := 3) (l := [153, 0, 114]) dq_cX12_advance_64 (by decide +kernel) (by decide)) rfl
theorem dq_cX12_advance_128 : ((cX12_advance.data.toList.drop 128).take 67).map UInt8.toNat = [0, 88, 4, 96, 181, 0, 88, 167, 255, 198, 42, 42, 180, 0, 88, 42, 180, 0, 95, 100, 16, 8, 164, 0, 8, 16, 99, 167, 0, 7, 32, 184, 0, 109, 181, 0, 113, 42, 42, 180, 0, 113, 16, 99, 160, 0, 7, 7, 167, 0, 4, 6, 181, 0, 98, 167, 0, 128, 27, 184, 0, 116, 153, 0, 96, 42, 3] := by decide +kernel
theorem dX12_advance_186 : decode cX12_advance 186 = .ok (.iload_n 1, 1) := dc_27 (dc_cut (j := 58) (n := 1) (l := [27]) dq_cX12_advance_128 (by decide +kernel) (by decide))
theorem dX12_advance_187 : decode cX12_advance 187 = .ok (.invokestatic 116, 3) := dc_184 (dc_cut (j := 59) (n := 3) (l := [184, 0, 116]) dq_cX12_advance_128 (by decide +kernel) (by decide)) rfl
theorem w_1301 : (Cond.code ({ cls := "GooseBorderModel", name := "isDigit", desc := "(I)Z" } : MethodName) prog_14_method_7_code (1 : Nat) (Option.some FieldType.boolean)) ∈ gb_wA := gb_t6 101 rfl rfl
theorem w_1299 : (Cond.methodLink "GooseBorderModel" (116 : Nat) ({ cls := "GooseBorderModel", name := "isDigit", desc := "(I)Z" } : MethodName)) ∈ gb_wA := gb_t6 99 rfl rfl
theorem w_1300 : (Cond.static ({ cls := "GooseBorderModel", name := "isDigit", desc := "(I)Z" } : MethodName)) ∈ gb_wA := gb_t6 100 rfl rfl
theorem dX12_advance_190 : decode cX12_advance 190 = .ok (.ifCond .eq 96, 3) := dc_153 (dc_cut (j := 62) (n := 3) (l := [153, 0, 96]) dq_cX12_advance_128 (by decide +kernel) (by decide)) rfl
theorem dq_cX12_advance_256 : ((cX12_advance.data.toList.drop 256).take 56).map UInt8.toNat = [0, 88, 167, 255, 196, 42, 42, 180, 0, 88, 42, 180, 0, 95, 100, 6, 164, 0, 7, 7, 167, 0, 4, 4, 181, 0, 98, 167, 0, 28, 42, 89, 180, 0, 88, 4, 96, 181, 0, 88, 42, 27, 16, 59, 160, 0, 7, 5, 167, 0, 4, 7, 181, 0, 98, 177] := by decide +kernel
theorem dX12_advance_286 : decode cX12_advance 286 = .ok (.aload_n 0, 1) := dc_42 (dc_cut (j := 30) (n := 1) (l := [42]) dq_cX12_advance_256 (by decide +kernel) (by decide))
theorem dX12_advance_287 : decode cX12_advance 287 = .ok (.dup, 1) := dc_89 (dc_cut (j := 31) (n := 1) (l := [89]) dq_cX12_advance_256 (by decide +kernel) (by decide))
theorem dX12_advance_288 : decode cX12_advance 288 = .ok (.getfield 88, 3) := dc_180 (dc_cut (j := 32) (n := 3) (l := [180, 0, 88]) dq_cX12_advance_256 (by decide +kernel) (by decide)) rfl
theorem dX12_advance_291 : decode cX12_advance 291 = .ok (.iconst 1, 1) := dc_4 (dc_cut (j := 35) (n := 1) (l := [4]) dq_cX12_advance_256 (by decide +kernel) (by decide))
theorem dX12_advance_292 : decode cX12_advance 292 = .ok (.iadd, 1) := dc_96 (dc_cut (j := 36) (n := 1) (l := [96]) dq_cX12_advance_256 (by decide +kernel) (by decide))
theorem dX12_advance_293 : decode cX12_advance 293 = .ok (.putfield 88, 3) := dc_181 (dc_cut (j := 37) (n := 3) (l := [181, 0, 88]) dq_cX12_advance_256 (by decide +kernel) (by decide)) rfl
theorem dX12_advance_296 : decode cX12_advance 296 = .ok (.aload_n 0, 1) := dc_42 (dc_cut (j := 40) (n := 1) (l := [42]) dq_cX12_advance_256 (by decide +kernel) (by decide))
theorem dX12_advance_297 : decode cX12_advance 297 = .ok (.iload_n 1, 1) := dc_27 (dc_cut (j := 41) (n := 1) (l := [27]) dq_cX12_advance_256 (by decide +kernel) (by decide))
theorem dX12_advance_298 : decode cX12_advance 298 = .ok (.bipush 59, 2) := dc_16 (dc_cut (j := 42) (n := 2) (l := [16, 59]) dq_cX12_advance_256 (by decide +kernel) (by decide)) rfl
theorem dX12_advance_300 : decode cX12_advance 300 = .ok (.if_icmp .ne 7, 3) := dc_160 (dc_cut (j := 44) (n := 3) (l := [160, 0, 7]) dq_cX12_advance_256 (by decide +kernel) (by decide)) rfl
theorem dX12_advance_307 : decode cX12_advance 307 = .ok (.iconst 4, 1) := dc_7 (dc_cut (j := 51) (n := 1) (l := [7]) dq_cX12_advance_256 (by decide +kernel) (by decide))
theorem dX12_advance_308 : decode cX12_advance 308 = .ok (.putfield 98, 3) := dc_181 (dc_cut (j := 52) (n := 3) (l := [181, 0, 98]) dq_cX12_advance_256 (by decide +kernel) (by decide)) rfl
theorem w_1129 : (Cond.fieldLink "GooseBorderModel" (98 : Nat) "GooseBorderModel" "token" "I") ∈ gb_wA := gb_t5 169 rfl rfl
theorem dX12_advance_311 : decode cX12_advance 311 = .ok (.return_, 1) := dc_177 (dc_cut (j := 55) (n := 1) (l := [177]) dq_cX12_advance_256 (by decide +kernel) (by decide))
theorem dX12_advance_303 : decode cX12_advance 303 = .ok (.iconst 2, 1) := dc_5 (dc_cut (j := 47) (n := 1) (l := [5]) dq_cX12_advance_256 (by decide +kernel) (by decide))
theorem dX12_advance_304 : decode cX12_advance 304 = .ok (.goto 4, 3) := dc_167 (dc_cut (j := 48) (n := 3) (l := [167, 0, 4]) dq_cX12_advance_256 (by decide +kernel) (by decide)) rfl
theorem dq_cX12_advance_192 : ((cX12_advance.data.toList.drop 192).take 67).map UInt8.toNat = [96, 42, 3, 181, 0, 119, 42, 42, 180, 0, 88, 182, 0, 91, 184, 0, 116, 153, 0, 52, 42, 180, 0, 88, 42, 180, 0, 95, 100, 6, 162, 0, 26, 42, 16, 10, 42, 180, 0, 119, 104, 42, 42, 180, 0, 88, 182, 0, 91, 96, 16, 48, 100, 181, 0, 119, 42, 89, 180, 0, 88, 4, 96, 181, 0, 88, 167] := by decide +kernel
theorem dX12_advance_193 : decode cX12_advance 193 = .ok (.aload_n 0, 1) := dc_42 (dc_cut (j := 1) (n := 1) (l := [42]) dq_cX12_advance_192 (by decide +kernel) (by decide))
theorem dX12_advance_194 : decode cX12_advance 194 = .ok (.iconst 0, 1) := dc_3 (dc_cut (j := 2) (n := 1) (l := [3]) dq_cX12_advance_192 (by decide +kernel) (by decide))
theorem dX12_advance_195 : decode cX12_advance 195 = .ok (.putfield 119, 3) := dc_181 (dc_cut (j := 3) (n := 3) (l := [181, 0, 119]) dq_cX12_advance_192 (by decide +kernel) (by decide)) rfl
theorem w_1130 : (Cond.fieldLink "GooseBorderModel" (119 : Nat) "GooseBorderModel" "number" "I") ∈ gb_wA := gb_t5 170 rfl rfl
theorem dX12_advance_198 : decode cX12_advance 198 = .ok (.aload_n 0, 1) := dc_42 (dc_cut (j := 6) (n := 1) (l := [42]) dq_cX12_advance_192 (by decide +kernel) (by decide))
theorem dX12_advance_199 : decode cX12_advance 199 = .ok (.aload_n 0, 1) := dc_42 (dc_cut (j := 7) (n := 1) (l := [42]) dq_cX12_advance_192 (by decide +kernel) (by decide))
theorem dX12_advance_200 : decode cX12_advance 200 = .ok (.getfield 88, 3) := dc_180 (dc_cut (j := 8) (n := 3) (l := [180, 0, 88]) dq_cX12_advance_192 (by decide +kernel) (by decide)) rfl
theorem dX12_advance_203 : decode cX12_advance 203 = .ok (.invokevirtual 91, 3) := dc_182 (dc_cut (j := 11) (n := 3) (l := [182, 0, 91]) dq_cX12_advance_192 (by decide +kernel) (by decide)) rfl
theorem dX12_advance_206 : decode cX12_advance 206 = .ok (.invokestatic 116, 3) := dc_184 (dc_cut (j := 14) (n := 3) (l := [184, 0, 116]) dq_cX12_advance_192 (by decide +kernel) (by decide)) rfl
theorem dX12_advance_209 : decode cX12_advance 209 = .ok (.ifCond .eq 52, 3) := dc_153 (dc_cut (j := 17) (n := 3) (l := [153, 0, 52]) dq_cX12_advance_192 (by decide +kernel) (by decide)) rfl
theorem dX12_advance_261 : decode cX12_advance 261 = .ok (.aload_n 0, 1) := dc_42 (dc_cut (j := 5) (n := 1) (l := [42]) dq_cX12_advance_256 (by decide +kernel) (by decide))
theorem dX12_advance_262 : decode cX12_advance 262 = .ok (.aload_n 0, 1) := dc_42 (dc_cut (j := 6) (n := 1) (l := [42]) dq_cX12_advance_256 (by decide +kernel) (by decide))
theorem dX12_advance_263 : decode cX12_advance 263 = .ok (.getfield 88, 3) := dc_180 (dc_cut (j := 7) (n := 3) (l := [180, 0, 88]) dq_cX12_advance_256 (by decide +kernel) (by decide)) rfl
theorem dX12_advance_266 : decode cX12_advance 266 = .ok (.aload_n 0, 1) := dc_42 (dc_cut (j := 10) (n := 1) (l := [42]) dq_cX12_advance_256 (by decide +kernel) (by decide))
theorem dX12_advance_267 : decode cX12_advance 267 = .ok (.getfield 95, 3) := dc_180 (dc_cut (j := 11) (n := 3) (l := [180, 0, 95]) dq_cX12_advance_256 (by decide +kernel) (by decide)) rfl
theorem dX12_advance_270 : decode cX12_advance 270 = .ok (.isub, 1) := dc_100 (dc_cut (j := 14) (n := 1) (l := [100]) dq_cX12_advance_256 (by decide +kernel) (by decide))
theorem dX12_advance_271 : decode cX12_advance 271 = .ok (.iconst 3, 1) := dc_6 (dc_cut (j := 15) (n := 1) (l := [6]) dq_cX12_advance_256 (by decide +kernel) (by decide))
theorem dX12_advance_272 : decode cX12_advance 272 = .ok (.if_icmp .le 7, 3) := dc_164 (dc_cut (j := 16) (n := 3) (l := [164, 0, 7]) dq_cX12_advance_256 (by decide +kernel) (by decide)) rfl
theorem dX12_advance_279 : decode cX12_advance 279 = .ok (.iconst 1, 1) := dc_4 (dc_cut (j := 23) (n := 1) (l := [4]) dq_cX12_advance_256 (by decide +kernel) (by decide))
theorem dX12_advance_280 : decode cX12_advance 280 = .ok (.putfield 98, 3) := dc_181 (dc_cut (j := 24) (n := 3) (l := [181, 0, 98]) dq_cX12_advance_256 (by decide +kernel) (by decide)) rfl
theorem dX12_advance_283 : decode cX12_advance 283 = .ok (.goto 28, 3) := dc_167 (dc_cut (j := 27) (n := 3) (l := [167, 0, 28]) dq_cX12_advance_256 (by decide +kernel) (by decide)) rfl
theorem dX12_advance_275 : decode cX12_advance 275 = .ok (.iconst 4, 1) := dc_7 (dc_cut (j := 19) (n := 1) (l := [7]) dq_cX12_advance_256 (by decide +kernel) (by decide))
theorem dX12_advance_276 : decode cX12_advance 276 = .ok (.goto 4, 3) := dc_167 (dc_cut (j := 20) (n := 3) (l := [167, 0, 4]) dq_cX12_advance_256 (by decide +kernel) (by decide)) rfl
theorem dX12_advance_212 : decode cX12_advance 212 = .ok (.aload_n 0, 1) := dc_42 (dc_cut (j := 20) (n := 1) (l := [42]) dq_cX12_advance_192 (by decide +kernel) (by decide))
theorem dX12_advance_213 : decode cX12_advance 213 = .ok (.getfield 88, 3) := dc_180 (dc_cut (j := 21) (n := 3) (l := [180, 0, 88]) dq_cX12_advance_192 (by decide +kernel) (by decide)) rfl
theorem dX12_advance_216 : decode cX12_advance 216 = .ok (.aload_n 0, 1) := dc_42 (dc_cut (j := 24) (n := 1) (l := [42]) dq_cX12_advance_192 (by decide +kernel) (by decide))
theorem dX12_advance_217 : decode cX12_advance 217 = .ok (.getfield 95, 3) := dc_180 (dc_cut (j := 25) (n := 3) (l := [180, 0, 95]) dq_cX12_advance_192 (by decide +kernel) (by decide)) rfl
theorem dX12_advance_220 : decode cX12_advance 220 = .ok (.isub, 1) := dc_100 (dc_cut (j := 28) (n := 1) (l := [100]) dq_cX12_advance_192 (by decide +kernel) (by decide))
theorem dX12_advance_221 : decode cX12_advance 221 = .ok (.iconst 3, 1) := dc_6 (dc_cut (j := 29) (n := 1) (l := [6]) dq_cX12_advance_192 (by decide +kernel) (by decide))
theorem dX12_advance_222 : decode cX12_advance 222 = .ok (.if_icmp .ge 26, 3) := dc_162 (dc_cut (j := 30) (n := 3) (l := [162, 0, 26]) dq_cX12_advance_192 (by decide +kernel) (by decide)) rfl
theorem dX12_advance_248 : decode cX12_advance 248 = .ok (.aload_n 0, 1) := dc_42 (dc_cut (j := 56) (n := 1) (l := [42]) dq_cX12_advance_192 (by decide +kernel) (by decide))
theorem dX12_advance_249 : decode cX12_advance 249 = .ok (.dup, 1) := dc_89 (dc_cut (j := 57) (n := 1) (l := [89]) dq_cX12_advance_192 (by decide +kernel) (by decide))
theorem dX12_advance_250 : decode cX12_advance 250 = .ok (.getfield 88, 3) := dc_180 (dc_cut (j := 58) (n := 3) (l := [180, 0, 88]) dq_cX12_advance_192 (by decide +kernel) (by decide)) rfl
theorem dX12_advance_253 : decode cX12_advance 253 = .ok (.iconst 1, 1) := dc_4 (dc_cut (j := 61) (n := 1) (l := [4]) dq_cX12_advance_192 (by decide +kernel) (by decide))
theorem dX12_advance_254 : decode cX12_advance 254 = .ok (.iadd, 1) := dc_96 (dc_cut (j := 62) (n := 1) (l := [96]) dq_cX12_advance_192 (by decide +kernel) (by decide))
theorem dX12_advance_255 : decode cX12_advance 255 = .ok (.putfield 88, 3) := dc_181 (dc_cut (j := 63) (n := 3) (l := [181, 0, 88]) dq_cX12_advance_192 (by decide +kernel) (by decide)) rfl
theorem dX12_advance_258 : decode cX12_advance 258 = .ok (.goto (-60), 3) := dc_167 (dc_cut (j := 2) (n := 3) (l := [167, 255, 196]) dq_cX12_advance_256 (by decide +kernel) (by decide)) rfl
theorem dX12_advance_225 : decode cX12_advance 225 = .ok (.aload_n 0, 1) := dc_42 (dc_cut (j := 33) (n := 1) (l := [42]) dq_cX12_advance_192 (by decide +kernel) (by decide))
theorem dX12_advance_226 : decode cX12_advance 226 = .ok (.bipush 10, 2) := dc_16 (dc_cut (j := 34) (n := 2) (l := [16, 10]) dq_cX12_advance_192 (by decide +kernel) (by decide)) rfl
theorem dX12_advance_228 : decode cX12_advance 228 = .ok (.aload_n 0, 1) := dc_42 (dc_cut (j := 36) (n := 1) (l := [42]) dq_cX12_advance_192 (by decide +kernel) (by decide))
theorem dX12_advance_229 : decode cX12_advance 229 = .ok (.getfield 119, 3) := dc_180 (dc_cut (j := 37) (n := 3) (l := [180, 0, 119]) dq_cX12_advance_192 (by decide +kernel) (by decide)) rfl
theorem dX12_advance_232 : decode cX12_advance 232 = .ok (.imul, 1) := dc_104 (dc_cut (j := 40) (n := 1) (l := [104]) dq_cX12_advance_192 (by decide +kernel) (by decide))
theorem dX12_advance_233 : decode cX12_advance 233 = .ok (.aload_n 0, 1) := dc_42 (dc_cut (j := 41) (n := 1) (l := [42]) dq_cX12_advance_192 (by decide +kernel) (by decide))
theorem dX12_advance_234 : decode cX12_advance 234 = .ok (.aload_n 0, 1) := dc_42 (dc_cut (j := 42) (n := 1) (l := [42]) dq_cX12_advance_192 (by decide +kernel) (by decide))
theorem dX12_advance_235 : decode cX12_advance 235 = .ok (.getfield 88, 3) := dc_180 (dc_cut (j := 43) (n := 3) (l := [180, 0, 88]) dq_cX12_advance_192 (by decide +kernel) (by decide)) rfl
theorem dX12_advance_238 : decode cX12_advance 238 = .ok (.invokevirtual 91, 3) := dc_182 (dc_cut (j := 46) (n := 3) (l := [182, 0, 91]) dq_cX12_advance_192 (by decide +kernel) (by decide)) rfl
theorem dX12_advance_241 : decode cX12_advance 241 = .ok (.iadd, 1) := dc_96 (dc_cut (j := 49) (n := 1) (l := [96]) dq_cX12_advance_192 (by decide +kernel) (by decide))
theorem dX12_advance_242 : decode cX12_advance 242 = .ok (.bipush 48, 2) := dc_16 (dc_cut (j := 50) (n := 2) (l := [16, 48]) dq_cX12_advance_192 (by decide +kernel) (by decide)) rfl
theorem dX12_advance_244 : decode cX12_advance 244 = .ok (.isub, 1) := dc_100 (dc_cut (j := 52) (n := 1) (l := [100]) dq_cX12_advance_192 (by decide +kernel) (by decide))
theorem dX12_advance_245 : decode cX12_advance 245 = .ok (.putfield 119, 3) := dc_181 (dc_cut (j := 53) (n := 3) (l := [181, 0, 119]) dq_cX12_advance_192 (by decide +kernel) (by decide)) rfl
theorem dX12_advance_75 : decode cX12_advance 75 = .ok (.lconst 0, 1) := dc_9 (dc_cut (j := 11) (n := 1) (l := [9]) dq_cX12_advance_64 (by decide +kernel) (by decide))
theorem dX12_advance_76 : decode cX12_advance 76 = .ok (.lstore_n 2, 1) := dc_65 (dc_cut (j := 12) (n := 1) (l := [65]) dq_cX12_advance_64 (by decide +kernel) (by decide))
theorem dX12_advance_77 : decode cX12_advance 77 = .ok (.aload_n 0, 1) := dc_42 (dc_cut (j := 13) (n := 1) (l := [42]) dq_cX12_advance_64 (by decide +kernel) (by decide))
theorem dX12_advance_78 : decode cX12_advance 78 = .ok (.aload_n 0, 1) := dc_42 (dc_cut (j := 14) (n := 1) (l := [42]) dq_cX12_advance_64 (by decide +kernel) (by decide))
theorem dX12_advance_79 : decode cX12_advance 79 = .ok (.getfield 88, 3) := dc_180 (dc_cut (j := 15) (n := 3) (l := [180, 0, 88]) dq_cX12_advance_64 (by decide +kernel) (by decide)) rfl
theorem dX12_advance_82 : decode cX12_advance 82 = .ok (.invokevirtual 91, 3) := dc_182 (dc_cut (j := 18) (n := 3) (l := [182, 0, 91]) dq_cX12_advance_64 (by decide +kernel) (by decide)) rfl
theorem dX12_advance_85 : decode cX12_advance 85 = .ok (.invokestatic 101, 3) := dc_184 (dc_cut (j := 21) (n := 3) (l := [184, 0, 101]) dq_cX12_advance_64 (by decide +kernel) (by decide)) rfl
theorem dX12_advance_88 : decode cX12_advance 88 = .ok (.ifCond .eq 50, 3) := dc_153 (dc_cut (j := 24) (n := 3) (l := [153, 0, 50]) dq_cX12_advance_64 (by decide +kernel) (by decide)) rfl
theorem dX12_advance_138 : decode cX12_advance 138 = .ok (.aload_n 0, 1) := dc_42 (dc_cut (j := 10) (n := 1) (l := [42]) dq_cX12_advance_128 (by decide +kernel) (by decide))
theorem dX12_advance_139 : decode cX12_advance 139 = .ok (.aload_n 0, 1) := dc_42 (dc_cut (j := 11) (n := 1) (l := [42]) dq_cX12_advance_128 (by decide +kernel) (by decide))
theorem dX12_advance_140 : decode cX12_advance 140 = .ok (.getfield 88, 3) := dc_180 (dc_cut (j := 12) (n := 3) (l := [180, 0, 88]) dq_cX12_advance_128 (by decide +kernel) (by decide)) rfl
theorem dX12_advance_143 : decode cX12_advance 143 = .ok (.aload_n 0, 1) := dc_42 (dc_cut (j := 15) (n := 1) (l := [42]) dq_cX12_advance_128 (by decide +kernel) (by decide))
theorem dX12_advance_144 : decode cX12_advance 144 = .ok (.getfield 95, 3) := dc_180 (dc_cut (j := 16) (n := 3) (l := [180, 0, 95]) dq_cX12_advance_128 (by decide +kernel) (by decide)) rfl
theorem dX12_advance_147 : decode cX12_advance 147 = .ok (.isub, 1) := dc_100 (dc_cut (j := 19) (n := 1) (l := [100]) dq_cX12_advance_128 (by decide +kernel) (by decide))
theorem dX12_advance_148 : decode cX12_advance 148 = .ok (.bipush 8, 2) := dc_16 (dc_cut (j := 20) (n := 2) (l := [16, 8]) dq_cX12_advance_128 (by decide +kernel) (by decide)) rfl
theorem dX12_advance_150 : decode cX12_advance 150 = .ok (.if_icmp .le 8, 3) := dc_164 (dc_cut (j := 22) (n := 3) (l := [164, 0, 8]) dq_cX12_advance_128 (by decide +kernel) (by decide)) rfl
theorem dX12_advance_158 : decode cX12_advance 158 = .ok (.lload_n 2, 1) := dc_32 (dc_cut (j := 30) (n := 1) (l := [32]) dq_cX12_advance_128 (by decide +kernel) (by decide))
theorem dX12_advance_159 : decode cX12_advance 159 = .ok (.invokestatic 109, 3) := dc_184 (dc_cut (j := 31) (n := 3) (l := [184, 0, 109]) dq_cX12_advance_128 (by decide +kernel) (by decide)) rfl
theorem w_1291 : (Cond.code ({ cls := "GooseBorderModel", name := "wordOf", desc := "(J)I" } : MethodName) prog_14_method_10_code (2 : Nat) (Option.some FieldType.int)) ∈ gb_wA := gb_t6 91 rfl rfl
theorem w_1289 : (Cond.methodLink "GooseBorderModel" (109 : Nat) ({ cls := "GooseBorderModel", name := "wordOf", desc := "(J)I" } : MethodName)) ∈ gb_wA := gb_t6 89 rfl rfl
theorem w_1290 : (Cond.static ({ cls := "GooseBorderModel", name := "wordOf", desc := "(J)I" } : MethodName)) ∈ gb_wA := gb_t6 90 rfl rfl
theorem dX12_advance_162 : decode cX12_advance 162 = .ok (.putfield 113, 3) := dc_181 (dc_cut (j := 34) (n := 3) (l := [181, 0, 113]) dq_cX12_advance_128 (by decide +kernel) (by decide)) rfl
theorem w_1131 : (Cond.fieldLink "GooseBorderModel" (113 : Nat) "GooseBorderModel" "word" "I") ∈ gb_wA := gb_t5 171 rfl rfl
theorem dX12_advance_165 : decode cX12_advance 165 = .ok (.aload_n 0, 1) := dc_42 (dc_cut (j := 37) (n := 1) (l := [42]) dq_cX12_advance_128 (by decide +kernel) (by decide))
theorem dX12_advance_166 : decode cX12_advance 166 = .ok (.aload_n 0, 1) := dc_42 (dc_cut (j := 38) (n := 1) (l := [42]) dq_cX12_advance_128 (by decide +kernel) (by decide))
theorem dX12_advance_167 : decode cX12_advance 167 = .ok (.getfield 113, 3) := dc_180 (dc_cut (j := 39) (n := 3) (l := [180, 0, 113]) dq_cX12_advance_128 (by decide +kernel) (by decide)) rfl
theorem dX12_advance_170 : decode cX12_advance 170 = .ok (.bipush 99, 2) := dc_16 (dc_cut (j := 42) (n := 2) (l := [16, 99]) dq_cX12_advance_128 (by decide +kernel) (by decide)) rfl
theorem dX12_advance_172 : decode cX12_advance 172 = .ok (.if_icmp .ne 7, 3) := dc_160 (dc_cut (j := 44) (n := 3) (l := [160, 0, 7]) dq_cX12_advance_128 (by decide +kernel) (by decide)) rfl
theorem dX12_advance_179 : decode cX12_advance 179 = .ok (.iconst 3, 1) := dc_6 (dc_cut (j := 51) (n := 1) (l := [6]) dq_cX12_advance_128 (by decide +kernel) (by decide))
theorem dX12_advance_180 : decode cX12_advance 180 = .ok (.putfield 98, 3) := dc_181 (dc_cut (j := 52) (n := 3) (l := [181, 0, 98]) dq_cX12_advance_128 (by decide +kernel) (by decide)) rfl
theorem dX12_advance_183 : decode cX12_advance 183 = .ok (.goto 128, 3) := dc_167 (dc_cut (j := 55) (n := 3) (l := [167, 0, 128]) dq_cX12_advance_128 (by decide +kernel) (by decide)) rfl
theorem dX12_advance_175 : decode cX12_advance 175 = .ok (.iconst 4, 1) := dc_7 (dc_cut (j := 47) (n := 1) (l := [7]) dq_cX12_advance_128 (by decide +kernel) (by decide))
theorem dX12_advance_176 : decode cX12_advance 176 = .ok (.goto 4, 3) := dc_167 (dc_cut (j := 48) (n := 3) (l := [167, 0, 4]) dq_cX12_advance_128 (by decide +kernel) (by decide)) rfl
theorem dX12_advance_153 : decode cX12_advance 153 = .ok (.bipush 99, 2) := dc_16 (dc_cut (j := 25) (n := 2) (l := [16, 99]) dq_cX12_advance_128 (by decide +kernel) (by decide)) rfl
theorem dX12_advance_155 : decode cX12_advance 155 = .ok (.goto 7, 3) := dc_167 (dc_cut (j := 27) (n := 3) (l := [167, 0, 7]) dq_cX12_advance_128 (by decide +kernel) (by decide)) rfl
theorem dX12_advance_91 : decode cX12_advance 91 = .ok (.aload_n 0, 1) := dc_42 (dc_cut (j := 27) (n := 1) (l := [42]) dq_cX12_advance_64 (by decide +kernel) (by decide))
theorem dX12_advance_92 : decode cX12_advance 92 = .ok (.getfield 88, 3) := dc_180 (dc_cut (j := 28) (n := 3) (l := [180, 0, 88]) dq_cX12_advance_64 (by decide +kernel) (by decide)) rfl
theorem dX12_advance_95 : decode cX12_advance 95 = .ok (.aload_n 0, 1) := dc_42 (dc_cut (j := 31) (n := 1) (l := [42]) dq_cX12_advance_64 (by decide +kernel) (by decide))
theorem dX12_advance_96 : decode cX12_advance 96 = .ok (.getfield 95, 3) := dc_180 (dc_cut (j := 32) (n := 3) (l := [180, 0, 95]) dq_cX12_advance_64 (by decide +kernel) (by decide)) rfl
theorem dX12_advance_99 : decode cX12_advance 99 = .ok (.isub, 1) := dc_100 (dc_cut (j := 35) (n := 1) (l := [100]) dq_cX12_advance_64 (by decide +kernel) (by decide))
theorem dX12_advance_100 : decode cX12_advance 100 = .ok (.bipush 8, 2) := dc_16 (dc_cut (j := 36) (n := 2) (l := [16, 8]) dq_cX12_advance_64 (by decide +kernel) (by decide)) rfl
theorem dX12_advance_102 : decode cX12_advance 102 = .ok (.if_icmp .ge 23, 3) := dc_162 (dc_cut (j := 38) (n := 3) (l := [162, 0, 23]) dq_cX12_advance_64 (by decide +kernel) (by decide)) rfl
theorem dX12_advance_125 : decode cX12_advance 125 = .ok (.aload_n 0, 1) := dc_42 (dc_cut (j := 61) (n := 1) (l := [42]) dq_cX12_advance_64 (by decide +kernel) (by decide))
theorem dX12_advance_126 : decode cX12_advance 126 = .ok (.dup, 1) := dc_89 (dc_cut (j := 62) (n := 1) (l := [89]) dq_cX12_advance_64 (by decide +kernel) (by decide))
theorem dX12_advance_127 : decode cX12_advance 127 = .ok (.getfield 88, 3) := dc_180 (dc_cut (j := 63) (n := 3) (l := [180, 0, 88]) dq_cX12_advance_64 (by decide +kernel) (by decide)) rfl
theorem dX12_advance_130 : decode cX12_advance 130 = .ok (.iconst 1, 1) := dc_4 (dc_cut (j := 2) (n := 1) (l := [4]) dq_cX12_advance_128 (by decide +kernel) (by decide))
theorem dX12_advance_131 : decode cX12_advance 131 = .ok (.iadd, 1) := dc_96 (dc_cut (j := 3) (n := 1) (l := [96]) dq_cX12_advance_128 (by decide +kernel) (by decide))
theorem dX12_advance_132 : decode cX12_advance 132 = .ok (.putfield 88, 3) := dc_181 (dc_cut (j := 4) (n := 3) (l := [181, 0, 88]) dq_cX12_advance_128 (by decide +kernel) (by decide)) rfl
theorem dX12_advance_135 : decode cX12_advance 135 = .ok (.goto (-58), 3) := dc_167 (dc_cut (j := 7) (n := 3) (l := [167, 255, 198]) dq_cX12_advance_128 (by decide +kernel) (by decide)) rfl
theorem dX12_advance_105 : decode cX12_advance 105 = .ok (.ldc2_w 105, 3) := dc_20 (dc_cut (j := 41) (n := 3) (l := [20, 0, 105]) dq_cX12_advance_64 (by decide +kernel) (by decide)) rfl
theorem w_1287 : (Cond.constantLong "GooseBorderModel" (105 : Nat) (32 : Int64)) ∈ gb_wA := gb_t6 87 rfl rfl
theorem dX12_advance_108 : decode cX12_advance 108 = .ok (.lload_n 2, 1) := dc_32 (dc_cut (j := 44) (n := 1) (l := [32]) dq_cX12_advance_64 (by decide +kernel) (by decide))
theorem dX12_advance_109 : decode cX12_advance 109 = .ok (.lmul, 1) := dc_105 (dc_cut (j := 45) (n := 1) (l := [105]) dq_cX12_advance_64 (by decide +kernel) (by decide))
theorem dX12_advance_110 : decode cX12_advance 110 = .ok (.aload_n 0, 1) := dc_42 (dc_cut (j := 46) (n := 1) (l := [42]) dq_cX12_advance_64 (by decide +kernel) (by decide))
theorem dX12_advance_111 : decode cX12_advance 111 = .ok (.aload_n 0, 1) := dc_42 (dc_cut (j := 47) (n := 1) (l := [42]) dq_cX12_advance_64 (by decide +kernel) (by decide))
theorem dX12_advance_112 : decode cX12_advance 112 = .ok (.getfield 88, 3) := dc_180 (dc_cut (j := 48) (n := 3) (l := [180, 0, 88]) dq_cX12_advance_64 (by decide +kernel) (by decide)) rfl
theorem dX12_advance_115 : decode cX12_advance 115 = .ok (.invokevirtual 91, 3) := dc_182 (dc_cut (j := 51) (n := 3) (l := [182, 0, 91]) dq_cX12_advance_64 (by decide +kernel) (by decide)) rfl
theorem dX12_advance_118 : decode cX12_advance 118 = .ok (.i2l, 1) := dc_133 (dc_cut (j := 54) (n := 1) (l := [133]) dq_cX12_advance_64 (by decide +kernel) (by decide))
theorem dX12_advance_119 : decode cX12_advance 119 = .ok (.ladd, 1) := dc_97 (dc_cut (j := 55) (n := 1) (l := [97]) dq_cX12_advance_64 (by decide +kernel) (by decide))
theorem dX12_advance_120 : decode cX12_advance 120 = .ok (.ldc2_w 107, 3) := dc_20 (dc_cut (j := 56) (n := 3) (l := [20, 0, 107]) dq_cX12_advance_64 (by decide +kernel) (by decide)) rfl
theorem w_1288 : (Cond.constantLong "GooseBorderModel" (107 : Nat) (96 : Int64)) ∈ gb_wA := gb_t6 88 rfl rfl
theorem dX12_advance_123 : decode cX12_advance 123 = .ok (.lsub, 1) := dc_101 (dc_cut (j := 59) (n := 1) (l := [101]) dq_cX12_advance_64 (by decide +kernel) (by decide))
theorem dX12_advance_124 : decode cX12_advance 124 = .ok (.lstore_n 2, 1) := dc_65 (dc_cut (j := 60) (n := 1) (l := [65]) dq_cX12_advance_64 (by decide +kernel) (by decide))
theorem dX12_advance_60 : decode cX12_advance 60 = .ok (.aload_n 0, 1) := dc_42 (dc_cut (j := 60) (n := 1) (l := [42]) dq_cX12_advance_0 (by decide +kernel) (by decide))
theorem dX12_advance_61 : decode cX12_advance 61 = .ok (.iconst 0, 1) := dc_3 (dc_cut (j := 61) (n := 1) (l := [3]) dq_cX12_advance_0 (by decide +kernel) (by decide))
theorem dX12_advance_62 : decode cX12_advance 62 = .ok (.putfield 98, 3) := dc_181 (dc_cut (j := 62) (n := 3) (l := [181, 0, 98]) dq_cX12_advance_0 (by decide +kernel) (by decide)) rfl
theorem dX12_advance_65 : decode cX12_advance 65 = .ok (.goto 246, 3) := dc_167 (dc_cut (j := 1) (n := 3) (l := [167, 0, 246]) dq_cX12_advance_64 (by decide +kernel) (by decide)) rfl
def ms_advance_198 (n : Nat) : Nat → gb_F → Int64 → gb_MR Unit
  | 0, _, _ => none
  | mm + 1, f, w => gb_bd (ms_byteAt n f w (f 0 3)) (fun f_45 wl_46 r_47 => gb_bd (ms_isDigit n f_45 wl_46 r_47) (fun f_50 wl_51 r_52 => (if r_52 = 0 then (if ((f_50 0 3) - (f_50 0 4)) ≤ 3 then gb_lt (gb_u f_50 0 (upd (f_50 0) 5 1)) (fun f_57 => some (f_57, wl_51, ())) else gb_lt (gb_u f_50 0 (upd (f_50 0) 5 4)) (fun f_58 => some (f_58, wl_51, ()))) else (if (3 : Int32) ≤ ((f_50 0 3) - (f_50 0 4)) then gb_lt (gb_u f_50 0 (upd (f_50 0) 3 ((f_50 0 3) + 1))) (fun f_60 => ms_advance_198 n mm f_60 wl_51) else gb_bd (ms_byteAt n f_50 wl_51 (f_50 0 3)) (fun f_61 wl_62 r_63 => gb_lt (gb_u f_61 0 (upd (f_61 0) 6 (((10 * (f_50 0 6)) + r_63) - 48))) (fun f_66 => gb_lt (gb_u f_66 0 (upd (f_66 0) 3 ((f_66 0 3) + 1))) (fun f_67 => ms_advance_198 n mm f_67 wl_62)))))))
def ms_advance_77 (n : Nat) : Nat → gb_F → Int64 → Int64 → gb_MR Unit
  | 0, _, _, _ => none
  | mm + 1, f, w, v2 => gb_bd (ms_byteAt n f w (f 0 3)) (fun f_68 wl_69 r_70 => gb_bd (ms_isLetter n f_68 wl_69 r_70) (fun f_73 wl_74 r_75 => (if r_75 = 0 then (if ((f_73 0 3) - (f_73 0 4)) ≤ 8 then gb_bd (ms_wordOf n f_73 wl_74 v2) (fun f_80 wl_81 r_82 => gb_lt (gb_u f_80 0 (upd (f_80 0) 7 r_82)) (fun f_85 => (if (f_85 0 7) = 99 then gb_lt (gb_u f_85 0 (upd (f_85 0) 5 4)) (fun f_88 => some (f_88, wl_81, ())) else gb_lt (gb_u f_85 0 (upd (f_85 0) 5 3)) (fun f_87 => some (f_87, wl_81, ()))))) else gb_lt (gb_u f_73 0 (upd (f_73 0) 7 99)) (fun f_89 => (if (f_89 0 7) = 99 then gb_lt (gb_u f_89 0 (upd (f_89 0) 5 4)) (fun f_92 => some (f_92, wl_74, ())) else gb_lt (gb_u f_89 0 (upd (f_89 0) 5 3)) (fun f_91 => some (f_91, wl_74, ()))))) else (if (8 : Int32) ≤ ((f_73 0 3) - (f_73 0 4)) then gb_lt (gb_u f_73 0 (upd (f_73 0) 3 ((f_73 0 3) + 1))) (fun f_94 => ms_advance_77 n mm f_94 wl_74 v2) else gb_bd (ms_byteAt n f_73 wl_74 (f_73 0 3)) (fun f_95 wl_96 r_97 => gb_lt (((32 * v2) + (r_97.toInt64)) - 96) (fun x_100 => gb_lt (gb_u f_95 0 (upd (f_95 0) 3 ((f_95 0 3) + 1))) (fun f_101 => ms_advance_77 n mm f_101 wl_96 x_100)))))))
def ms_advance_0 (n : Nat) : Nat → gb_F → Int64 → gb_MR Unit
  | 0, _, _ => none
  | mm + 1, f, w => gb_bd (ms_byteAt n f w (f 0 3)) (fun f_8 wl_9 r_10 => (if r_10 = 10 then gb_lt (gb_u f_8 0 (upd (f_8 0) 3 ((f_8 0 3) + 1))) (fun f_14 => ms_advance_0 n mm f_14 wl_9) else gb_bd (ms_byteAt n f_8 wl_9 (f_8 0 3)) (fun f_15 wl_16 r_17 => (if r_17 = 32 then gb_lt (gb_u f_15 0 (upd (f_15 0) 3 ((f_15 0 3) + 1))) (fun f_103 => ms_advance_0 n mm f_103 wl_16) else gb_lt (gb_u f_15 0 (upd (f_15 0) 4 (f_15 0 3))) (fun f_21 => gb_bd (ms_byteAt n f_21 wl_16 (f_21 0 3)) (fun f_22 wl_23 r_24 => (if (0 : Int32) ≤ r_24 then gb_bd (ms_isLetter n f_22 wl_23 r_24) (fun f_28 wl_29 r_30 => (if r_30 = 0 then gb_bd (ms_isDigit n f_28 wl_29 r_24) (fun f_34 wl_35 r_36 => (if r_36 = 0 then gb_lt (gb_u f_34 0 (upd (f_34 0) 3 ((f_34 0 3) + 1))) (fun f_40 => (if r_24 = 59 then gb_lt (gb_u f_40 0 (upd (f_40 0) 5 2)) (fun f_43 => some (f_43, wl_35, ())) else gb_lt (gb_u f_40 0 (upd (f_40 0) 5 4)) (fun f_42 => some (f_42, wl_35, ())))) else gb_lt (gb_u f_34 0 (upd (f_34 0) 6 0)) (fun f_44 => ms_advance_198 n n f_44 wl_35))) else ms_advance_77 n n f_28 wl_29 0)) else gb_lt (gb_u f_22 0 (upd (f_22 0) 5 0)) (fun f_102 => some (f_102, wl_23, ())))))))))
def ms_advance (n : Nat) (f : gb_F) (w : Int64) : gb_MR Unit := gb_bd (ms_byteAt n f w (f 0 3)) (fun f_1 wl_2 r_3 => (if r_3 = 10 then gb_lt (gb_u f_1 0 (upd (f_1 0) 3 ((f_1 0 3) + 1))) (fun f_7 => ms_advance_0 n n f_7 wl_2) else gb_bd (ms_byteAt n f_1 wl_2 (f_1 0 3)) (fun f_104 wl_105 r_106 => (if r_106 = 32 then gb_lt (gb_u f_104 0 (upd (f_104 0) 3 ((f_104 0 3) + 1))) (fun f_135 => ms_advance_0 n n f_135 wl_105) else gb_lt (gb_u f_104 0 (upd (f_104 0) 4 (f_104 0 3))) (fun f_110 => gb_bd (ms_byteAt n f_110 wl_105 (f_110 0 3)) (fun f_111 wl_112 r_113 => (if (0 : Int32) ≤ r_113 then gb_bd (ms_isLetter n f_111 wl_112 r_113) (fun f_117 wl_118 r_119 => (if r_119 = 0 then gb_bd (ms_isDigit n f_117 wl_118 r_113) (fun f_123 wl_124 r_125 => (if r_125 = 0 then gb_lt (gb_u f_123 0 (upd (f_123 0) 3 ((f_123 0 3) + 1))) (fun f_129 => (if r_113 = 59 then gb_lt (gb_u f_129 0 (upd (f_129 0) 5 2)) (fun f_132 => some (f_132, wl_124, ())) else gb_lt (gb_u f_129 0 (upd (f_129 0) 5 4)) (fun f_131 => some (f_131, wl_124, ())))) else gb_lt (gb_u f_123 0 (upd (f_123 0) 6 0)) (fun f_133 => ms_advance_198 n n f_133 wl_124))) else ms_advance_77 n n f_117 wl_118 0)) else gb_lt (gb_u f_111 0 (upd (f_111 0) 5 0)) (fun f_134 => some (f_134, wl_112, ())))))))))
set_option maxHeartbeats 8000000 in
set_option maxRecDepth 100000 in
theorem mc_advance (l : Launch) (D : va_G) (cT : Nat → ClassId) (tt : Nat → Nat) (b1 b : Nat) (hb1 : b1 ≤ b) (n : Nat) (f : gb_F) (w : Int64) (fE : gb_F) (wE : Int64) (rE : Unit) (h : ms_advance n f w = some (fE, wE, rE)) : Met l yX12_advance (.code yX12_advance cX12_advance 4 none :: gb_wA) ({ frames := 3, cells := 0, slots := 0, locals := 71 }) (gb_Pc D cT tt b1 [.ref (b + 0)] (fun h => va_P D vwCl (gb_wl b (gb_MW cT b f w)) h)) (gb_Qv (fun h => va_P D vwCl (gb_wl b (gb_MW cT b fE wE)) h) (gb_fr b 22)) 0 0 (gb_fr b 22) := by
  refine Met.ofW (cc := cX12_advance) (maxL := 4) (ret := none) (by decide) rfl ?_
  intro p e s m args below meth c s₁ B hml hv
  obtain ⟨rfl, hSt, hP⟩ := hv
  have hx := B.exec
  have hb := B.bytes
  have hr := B.returns
  have hts := atoms_spec (ws := .code yX12_advance cX12_advance 4 none :: gb_wA) B.pre
  have hq : ∀ w ∈ gb_wA, w.before _ s = true := fun w h => hts w (List.mem_cons_of_mem _ h)
  have hown : s.vm.findClass RX12 = some m.cls := findClass_of_methodNamed B.named
  have hlocks := B.notSynchronized
  clear B hts
  have hK := hSt.1
  have hS : va_S (gb_fr b 22) s.heap s.heap [] := va_S.rf
  have hl := lv_entry ([.ref (b + 0)]) (n := 4) (Nat.le_of_ble_eq_true rfl)
  rw [lg_entry_eq]
  generalize (lg_sl ([.ref (b + 0)]) ++ List.replicate (4 - (lg_sl ([.ref (b + 0)])).length) Slot.unset).toArray = ls at hl ⊢
  replace hl : lv_has ls 4 [(0, .ref (b + 0))] := hl
  have L198 : ∀ (mm : Nat) (f : gb_F) (w : Int64) (H : Heap) (locs : List Loc) (ls : Array Slot), ms_advance_198 n mm f w = some (fE, wE, rE) → va_P D vwCl (gb_wl b (gb_MW cT b f w)) H → va_S (gb_fr b 22) s.heap H locs → lv_has ls 4 [(0, .ref (b + 0))] → W p l e (headSpec (.code yX12_advance cX12_advance 4 none :: gb_wA) ({ frames := 3, cells := 0, slots := 0, locals := 71 })).room s m ([.ref (b + 0)]).toArray below meth c H locs 0 0 (MQ below (gb_Qv (fun h => va_P D vwCl (gb_wl b (gb_MW cT b fE wE)) h) (gb_fr b 22)) ([.ref (b + 0)]).toArray s 0 0 (gb_fr b 22)) (F0 m 198 ls []) := by
    clear h hP hS hl ls f w
    intro mm
    induction mm with
    | zero =>
      intro f w H locs ls h
      cases h
    | succ mm ih =>
      intro f w H locs ls h hP hS hl
      rw [ms_advance_198] at h
      refine lv_aload_n hx hb dX12_advance_198 rfl (lv_at hl 0 rfl) ?_
      refine lv_aload_n hx hb dX12_advance_199 rfl (lv_at hl 0 rfl) ?_
      refine va_get (ci := 10) (v := (.int (f 0 3))) (C := RX12) (T := TX12) (N := 44) hx hb hq i_X12 hown hK hP 0 (gb_at b rfl) rfl 3 (by decide) (hq _ w_1127) (fun _ h9 => h9) rfl dX12_advance_200 ?_
      obtain ⟨f_45, wl_46, r_47, z_48, h⟩ := gb_bd_s h
      refine gb_calli (va_runV (C := RX12) (As := [.int (f 0 3)]) (rest := []) ⟨hx, hb, hml, hown, hq⟩ (mc_byteAt l D cT tt b1 b hb1 n f w (f 0 3) f_45 wl_46 r_47 z_48) (cwV 1 hq (gb_gV w_1280 w_1282 s_3_2 w_14 w_1283) rfl rfl rfl (by decide +kernel) ⟨Nat.le_of_ble_eq_true rfl, Nat.le_of_ble_eq_true rfl⟩) (gb_preV (r := (RX12, TX12, 44)) (ci := 10) (q0 := 0) hSt hP rfl (gb_at b rfl) hS (fun q h => Nat.le_trans hb1 h.1) hP) rfl rfl hl.1 rfl (lv_room (Nat.le_of_ble_eq_true rfl)) dX12_advance_203 ⟨Nat.le_of_ble_eq_true rfl, Nat.le_of_ble_eq_true rfl⟩) hS (fun _ h => h) (fun _ h => h) (fun q_49 H locs hY hk hS => ?_)
      obtain ⟨hq_49, hP⟩ := hY
      replace hq_49 := hq_49.symm
      subst hq_49
      obtain ⟨f_50, wl_51, r_52, z_53, h⟩ := gb_bd_s h
      refine gb_calli (va_runS (As := [.int r_47]) (rest := []) ⟨hx, hb, hml, hown, hq⟩ (mc_isDigit l D cT tt b1 b hb1 n f_45 wl_46 r_47 f_50 wl_51 r_52 z_53) (va_cwS 1 hq (gb_gS w_1299 w_1300 w_14 w_1301) rfl rfl rfl (by decide +kernel) ⟨Nat.le_of_ble_eq_true rfl, Nat.le_of_ble_eq_true rfl⟩) (gb_preS hSt hS (fun q h => Nat.le_trans hb1 h.1) hP) rfl rfl hl.1 rfl (lv_room (Nat.le_of_ble_eq_true rfl)) dX12_advance_206 ⟨Nat.le_of_ble_eq_true rfl, Nat.le_of_ble_eq_true rfl⟩) hS (fun _ h => h) (fun _ h => h) (fun q_54 H locs hY hk hS => ?_)
      obtain ⟨hq_54, hP⟩ := hY
      replace hq_54 := hq_54.symm
      subst hq_54
      refine lv_if_eq (tgt := 261) hx hb dX12_advance_209 (by decide) (fun c_55 => ?_) (fun c_55 => ?_)
      · rw [if_pos c_55] at h
        refine lv_aload_n hx hb dX12_advance_261 rfl (lv_at hl 0 rfl) ?_
        refine lv_aload_n hx hb dX12_advance_262 rfl (lv_at hl 0 rfl) ?_
        refine va_get (ci := 10) (v := (.int (f_50 0 3))) (C := RX12) (T := TX12) (N := 44) hx hb hq i_X12 hown hK hP 0 (gb_at b rfl) rfl 3 (by decide) (hq _ w_1127) (fun _ h9 => h9) rfl dX12_advance_263 ?_
        refine lv_aload_n hx hb dX12_advance_266 rfl (lv_at hl 0 rfl) ?_
        refine va_get (ci := 10) (v := (.int (f_50 0 4))) (C := RX12) (T := TX12) (N := 44) hx hb hq i_X12 hown hK hP 0 (gb_at b rfl) rfl 4 (by decide) (hq _ w_1128) (fun _ h9 => h9) rfl dX12_advance_267 ?_
        refine lv_isub hx hb dX12_advance_270 ?_
        refine lv_iconst (v := 3) hx hb dX12_advance_271 (by decide) ?_
        refine lv_icmp_le (tgt := 279) hx hb dX12_advance_272 (by decide) (fun c_56 => ?_) (fun c_56 => ?_)
        · rw [if_pos c_56] at h
          refine lv_iconst (v := 1) hx hb dX12_advance_279 (by decide) ?_
          refine gb_put (ci := 10) (v := (.int 1)) (ty := .int) (C := RX12) (T := TX12) (N := 44) hx hb hq i_X12 tyX12 tyX12_ok nmX12 hown hK hP (fun k h => ⟨Nat.le_add_right b k, Nat.add_lt_add_left h b⟩) hS rfl 0 rfl rfl 5 (by decide) (hq _ w_1129) (fun _ h9 => h9) rfl (by decide +kernel) rfl rfl (Nat.le_of_ble_eq_true rfl) dX12_advance_280 (fun H locs hP hz_ hS => ?_)
          obtain ⟨f_57, ef_57⟩ : ∃ q, q = (gb_u f_50 0 (upd (f_50 0) 5 1)) := ⟨_, rfl⟩
          replace hP : va_P D vwCl (gb_wl b (gb_MW cT b f_57 wl_51)) H := by rw [ef_57]; exact hP
          replace h := gb_lt_s ef_57 h
          refine lv_goto (tgt := 311) hx hb dX12_advance_283 (by decide) ?_
          obtain ⟨e1, e2, -⟩ := gb_eq3 h
          exact W.vret hx hb hr (fun t ht hW => gb_rv ht (by rw [← e1, ← e2]; exact hP) hS) hS.2.2 dX12_advance_311
        · rw [if_neg c_56] at h
          refine lv_iconst (v := 4) hx hb dX12_advance_275 (by decide) ?_
          refine lv_goto (tgt := 280) hx hb dX12_advance_276 (by decide) ?_
          refine gb_put (ci := 10) (v := (.int 4)) (ty := .int) (C := RX12) (T := TX12) (N := 44) hx hb hq i_X12 tyX12 tyX12_ok nmX12 hown hK hP (fun k h => ⟨Nat.le_add_right b k, Nat.add_lt_add_left h b⟩) hS rfl 0 rfl rfl 5 (by decide) (hq _ w_1129) (fun _ h9 => h9) rfl (by decide +kernel) rfl rfl (Nat.le_of_ble_eq_true rfl) dX12_advance_280 (fun H locs hP hz_ hS => ?_)
          obtain ⟨f_58, ef_58⟩ : ∃ q, q = (gb_u f_50 0 (upd (f_50 0) 5 4)) := ⟨_, rfl⟩
          replace hP : va_P D vwCl (gb_wl b (gb_MW cT b f_58 wl_51)) H := by rw [ef_58]; exact hP
          replace h := gb_lt_s ef_58 h
          refine lv_goto (tgt := 311) hx hb dX12_advance_283 (by decide) ?_
          obtain ⟨e1, e2, -⟩ := gb_eq3 h
          exact W.vret hx hb hr (fun t ht hW => gb_rv ht (by rw [← e1, ← e2]; exact hP) hS) hS.2.2 dX12_advance_311
      · rw [if_neg c_55] at h
        refine lv_aload_n hx hb dX12_advance_212 rfl (lv_at hl 0 rfl) ?_
        refine va_get (ci := 10) (v := (.int (f_50 0 3))) (C := RX12) (T := TX12) (N := 44) hx hb hq i_X12 hown hK hP 0 (gb_at b rfl) rfl 3 (by decide) (hq _ w_1127) (fun _ h9 => h9) rfl dX12_advance_213 ?_
        refine lv_aload_n hx hb dX12_advance_216 rfl (lv_at hl 0 rfl) ?_
        refine va_get (ci := 10) (v := (.int (f_50 0 4))) (C := RX12) (T := TX12) (N := 44) hx hb hq i_X12 hown hK hP 0 (gb_at b rfl) rfl 4 (by decide) (hq _ w_1128) (fun _ h9 => h9) rfl dX12_advance_217 ?_
        refine lv_isub hx hb dX12_advance_220 ?_
        refine lv_iconst (v := 3) hx hb dX12_advance_221 (by decide) ?_
        refine lv_icmp_ge (tgt := 248) hx hb dX12_advance_222 (by decide) (fun c_59 => ?_) (fun c_59 => ?_)
        · rw [if_pos c_59] at h
          refine lv_aload_n hx hb dX12_advance_248 rfl (lv_at hl 0 rfl) ?_
          refine lv_dup hx hb dX12_advance_249 rfl ?_
          refine va_get (ci := 10) (v := (.int (f_50 0 3))) (C := RX12) (T := TX12) (N := 44) hx hb hq i_X12 hown hK hP 0 (gb_at b rfl) rfl 3 (by decide) (hq _ w_1127) (fun _ h9 => h9) rfl dX12_advance_250 ?_
          refine lv_iconst (v := 1) hx hb dX12_advance_253 (by decide) ?_
          refine lv_iadd hx hb dX12_advance_254 ?_
          refine gb_put (ci := 10) (v := (.int ((f_50 0 3) + 1))) (ty := .int) (C := RX12) (T := TX12) (N := 44) hx hb hq i_X12 tyX12 tyX12_ok nmX12 hown hK hP (fun k h => ⟨Nat.le_add_right b k, Nat.add_lt_add_left h b⟩) hS rfl 0 rfl rfl 3 (by decide) (hq _ w_1127) (fun _ h9 => h9) rfl (by decide +kernel) rfl rfl (Nat.le_of_ble_eq_true rfl) dX12_advance_255 (fun H locs hP hz_ hS => ?_)
          obtain ⟨f_60, ef_60⟩ : ∃ q, q = (gb_u f_50 0 (upd (f_50 0) 3 ((f_50 0 3) + 1))) := ⟨_, rfl⟩
          replace hP : va_P D vwCl (gb_wl b (gb_MW cT b f_60 wl_51)) H := by rw [ef_60]; exact hP
          replace h := gb_lt_s ef_60 h
          refine lv_goto (tgt := 198) hx hb dX12_advance_258 (by decide) ?_
          exact ih _ _ _ _ _ h hP hS (lv_sub hl [0] rfl)
        · rw [if_neg c_59] at h
          refine lv_aload_n hx hb dX12_advance_225 rfl (lv_at hl 0 rfl) ?_
          refine lv_bipush (v := 10) hx hb dX12_advance_226 (by decide) ?_
          refine lv_aload_n hx hb dX12_advance_228 rfl (lv_at hl 0 rfl) ?_
          refine va_get (ci := 10) (v := (.int (f_50 0 6))) (C := RX12) (T := TX12) (N := 44) hx hb hq i_X12 hown hK hP 0 (gb_at b rfl) rfl 6 (by decide) (hq _ w_1130) (fun _ h9 => h9) rfl dX12_advance_229 ?_
          refine lv_imul hx hb dX12_advance_232 ?_
          refine lv_aload_n hx hb dX12_advance_233 rfl (lv_at hl 0 rfl) ?_
          refine lv_aload_n hx hb dX12_advance_234 rfl (lv_at hl 0 rfl) ?_
          refine va_get (ci := 10) (v := (.int (f_50 0 3))) (C := RX12) (T := TX12) (N := 44) hx hb hq i_X12 hown hK hP 0 (gb_at b rfl) rfl 3 (by decide) (hq _ w_1127) (fun _ h9 => h9) rfl dX12_advance_235 ?_
          obtain ⟨f_61, wl_62, r_63, z_64, h⟩ := gb_bd_s h
          refine gb_calli (va_runV (C := RX12) (As := [.int (f_50 0 3)]) (rest := [.int (10 * (f_50 0 6)), .ref (b + 0)]) ⟨hx, hb, hml, hown, hq⟩ (mc_byteAt l D cT tt b1 b hb1 n f_50 wl_51 (f_50 0 3) f_61 wl_62 r_63 z_64) (cwV 1 hq (gb_gV w_1280 w_1282 s_3_2 w_14 w_1283) rfl rfl rfl (by decide +kernel) ⟨Nat.le_of_ble_eq_true rfl, Nat.le_of_ble_eq_true rfl⟩) (gb_preV (r := (RX12, TX12, 44)) (ci := 10) (q0 := 0) hSt hP rfl (gb_at b rfl) hS (fun q h => Nat.le_trans hb1 h.1) hP) rfl rfl hl.1 rfl (lv_room (Nat.le_of_ble_eq_true rfl)) dX12_advance_238 ⟨Nat.le_of_ble_eq_true rfl, Nat.le_of_ble_eq_true rfl⟩) hS (fun _ h => h) (fun _ h => h) (fun q_65 H locs hY hk hS => ?_)
          obtain ⟨hq_65, hP⟩ := hY
          replace hq_65 := hq_65.symm
          subst hq_65
          refine lv_iadd hx hb dX12_advance_241 ?_
          refine lv_bipush (v := 48) hx hb dX12_advance_242 (by decide) ?_
          refine lv_isub hx hb dX12_advance_244 ?_
          refine gb_put (ci := 10) (v := (.int (((10 * (f_50 0 6)) + r_63) - 48))) (ty := .int) (C := RX12) (T := TX12) (N := 44) hx hb hq i_X12 tyX12 tyX12_ok nmX12 hown hK hP (fun k h => ⟨Nat.le_add_right b k, Nat.add_lt_add_left h b⟩) hS rfl 0 rfl rfl 6 (by decide) (hq _ w_1130) (fun _ h9 => h9) rfl (by decide +kernel) rfl rfl (Nat.le_of_ble_eq_true rfl) dX12_advance_245 (fun H locs hP hz_ hS => ?_)
          obtain ⟨f_66, ef_66⟩ : ∃ q, q = (gb_u f_61 0 (upd (f_61 0) 6 (((10 * (f_50 0 6)) + r_63) - 48))) := ⟨_, rfl⟩
          replace hP : va_P D vwCl (gb_wl b (gb_MW cT b f_66 wl_62)) H := by rw [ef_66]; exact hP
          replace h := gb_lt_s ef_66 h
          refine lv_aload_n hx hb dX12_advance_248 rfl (lv_at hl 0 rfl) ?_
          refine lv_dup hx hb dX12_advance_249 rfl ?_
          refine va_get (ci := 10) (v := (.int (f_66 0 3))) (C := RX12) (T := TX12) (N := 44) hx hb hq i_X12 hown hK hP 0 (gb_at b rfl) rfl 3 (by decide) (hq _ w_1127) (fun _ h9 => h9) rfl dX12_advance_250 ?_
          refine lv_iconst (v := 1) hx hb dX12_advance_253 (by decide) ?_
          refine lv_iadd hx hb dX12_advance_254 ?_
          refine gb_put (ci := 10) (v := (.int ((f_66 0 3) + 1))) (ty := .int) (C := RX12) (T := TX12) (N := 44) hx hb hq i_X12 tyX12 tyX12_ok nmX12 hown hK hP (fun k h => ⟨Nat.le_add_right b k, Nat.add_lt_add_left h b⟩) hS rfl 0 rfl rfl 3 (by decide) (hq _ w_1127) (fun _ h9 => h9) rfl (by decide +kernel) rfl rfl (Nat.le_of_ble_eq_true rfl) dX12_advance_255 (fun H locs hP hz_ hS => ?_)
          obtain ⟨f_67, ef_67⟩ : ∃ q, q = (gb_u f_66 0 (upd (f_66 0) 3 ((f_66 0 3) + 1))) := ⟨_, rfl⟩
          replace hP : va_P D vwCl (gb_wl b (gb_MW cT b f_67 wl_62)) H := by rw [ef_67]; exact hP
          replace h := gb_lt_s ef_67 h
          refine lv_goto (tgt := 198) hx hb dX12_advance_258 (by decide) ?_
          exact ih _ _ _ _ _ h hP hS (lv_sub hl [0] rfl)
  have L77 : ∀ (mm : Nat) (f : gb_F) (w : Int64) (v2 : Int64) (H : Heap) (locs : List Loc) (ls : Array Slot), ms_advance_77 n mm f w v2 = some (fE, wE, rE) → va_P D vwCl (gb_wl b (gb_MW cT b f w)) H → va_S (gb_fr b 22) s.heap H locs → lv_has ls 4 [(0, .ref (b + 0)), (2, .long v2)] → W p l e (headSpec (.code yX12_advance cX12_advance 4 none :: gb_wA) ({ frames := 3, cells := 0, slots := 0, locals := 71 })).room s m ([.ref (b + 0)]).toArray below meth c H locs 0 0 (MQ below (gb_Qv (fun h => va_P D vwCl (gb_wl b (gb_MW cT b fE wE)) h) (gb_fr b 22)) ([.ref (b + 0)]).toArray s 0 0 (gb_fr b 22)) (F0 m 77 ls []) := by
    clear h hP hS hl ls f w
    intro mm
    induction mm with
    | zero =>
      intro f w v2 H locs ls h
      cases h
    | succ mm ih =>
      intro f w v2 H locs ls h hP hS hl
      rw [ms_advance_77] at h
      refine lv_aload_n hx hb dX12_advance_77 rfl (lv_at hl 0 rfl) ?_
      refine lv_aload_n hx hb dX12_advance_78 rfl (lv_at hl 0 rfl) ?_
      refine va_get (ci := 10) (v := (.int (f 0 3))) (C := RX12) (T := TX12) (N := 44) hx hb hq i_X12 hown hK hP 0 (gb_at b rfl) rfl 3 (by decide) (hq _ w_1127) (fun _ h9 => h9) rfl dX12_advance_79 ?_
      obtain ⟨f_68, wl_69, r_70, z_71, h⟩ := gb_bd_s h
      refine gb_calli (va_runV (C := RX12) (As := [.int (f 0 3)]) (rest := []) ⟨hx, hb, hml, hown, hq⟩ (mc_byteAt l D cT tt b1 b hb1 n f w (f 0 3) f_68 wl_69 r_70 z_71) (cwV 1 hq (gb_gV w_1280 w_1282 s_3_2 w_14 w_1283) rfl rfl rfl (by decide +kernel) ⟨Nat.le_of_ble_eq_true rfl, Nat.le_of_ble_eq_true rfl⟩) (gb_preV (r := (RX12, TX12, 44)) (ci := 10) (q0 := 0) hSt hP rfl (gb_at b rfl) hS (fun q h => Nat.le_trans hb1 h.1) hP) rfl rfl hl.1 rfl (lv_room (Nat.le_of_ble_eq_true rfl)) dX12_advance_82 ⟨Nat.le_of_ble_eq_true rfl, Nat.le_of_ble_eq_true rfl⟩) hS (fun _ h => h) (fun _ h => h) (fun q_72 H locs hY hk hS => ?_)
      obtain ⟨hq_72, hP⟩ := hY
      replace hq_72 := hq_72.symm
      subst hq_72
      obtain ⟨f_73, wl_74, r_75, z_76, h⟩ := gb_bd_s h
      refine gb_calli (va_runS (As := [.int r_70]) (rest := []) ⟨hx, hb, hml, hown, hq⟩ (mc_isLetter l D cT tt b1 b hb1 n f_68 wl_69 r_70 f_73 wl_74 r_75 z_76) (va_cwS 1 hq (gb_gS w_1284 w_1285 w_14 w_1286) rfl rfl rfl (by decide +kernel) ⟨Nat.le_of_ble_eq_true rfl, Nat.le_of_ble_eq_true rfl⟩) (gb_preS hSt hS (fun q h => Nat.le_trans hb1 h.1) hP) rfl rfl hl.1 rfl (lv_room (Nat.le_of_ble_eq_true rfl)) dX12_advance_85 ⟨Nat.le_of_ble_eq_true rfl, Nat.le_of_ble_eq_true rfl⟩) hS (fun _ h => h) (fun _ h => h) (fun q_77 H locs hY hk hS => ?_)
      obtain ⟨hq_77, hP⟩ := hY
      replace hq_77 := hq_77.symm
      subst hq_77
      refine lv_if_eq (tgt := 138) hx hb dX12_advance_88 (by decide) (fun c_78 => ?_) (fun c_78 => ?_)
      · rw [if_pos c_78] at h
        refine lv_aload_n hx hb dX12_advance_138 rfl (lv_at hl 0 rfl) ?_
        refine lv_aload_n hx hb dX12_advance_139 rfl (lv_at hl 0 rfl) ?_
        refine va_get (ci := 10) (v := (.int (f_73 0 3))) (C := RX12) (T := TX12) (N := 44) hx hb hq i_X12 hown hK hP 0 (gb_at b rfl) rfl 3 (by decide) (hq _ w_1127) (fun _ h9 => h9) rfl dX12_advance_140 ?_
        refine lv_aload_n hx hb dX12_advance_143 rfl (lv_at hl 0 rfl) ?_
        refine va_get (ci := 10) (v := (.int (f_73 0 4))) (C := RX12) (T := TX12) (N := 44) hx hb hq i_X12 hown hK hP 0 (gb_at b rfl) rfl 4 (by decide) (hq _ w_1128) (fun _ h9 => h9) rfl dX12_advance_144 ?_
        refine lv_isub hx hb dX12_advance_147 ?_
        refine lv_bipush (v := 8) hx hb dX12_advance_148 (by decide) ?_
        refine lv_icmp_le (tgt := 158) hx hb dX12_advance_150 (by decide) (fun c_79 => ?_) (fun c_79 => ?_)
        · rw [if_pos c_79] at h
          refine lv_lload_n hx hb dX12_advance_158 rfl (lv_at hl 1 rfl) ?_
          obtain ⟨f_80, wl_81, r_82, z_83, h⟩ := gb_bd_s h
          refine gb_calli (va_runS (As := [.long v2]) (rest := [.ref (b + 0)]) ⟨hx, hb, hml, hown, hq⟩ (mc_wordOf l D cT tt b1 b hb1 n f_73 wl_74 v2 f_80 wl_81 r_82 z_83) (va_cwS 1 hq (gb_gS w_1289 w_1290 w_14 w_1291) rfl rfl rfl (by decide +kernel) ⟨Nat.le_of_ble_eq_true rfl, Nat.le_of_ble_eq_true rfl⟩) (gb_preS hSt hS (fun q h => Nat.le_trans hb1 h.1) hP) rfl rfl hl.1 rfl (lv_room (Nat.le_of_ble_eq_true rfl)) dX12_advance_159 ⟨Nat.le_of_ble_eq_true rfl, Nat.le_of_ble_eq_true rfl⟩) hS (fun _ h => h) (fun _ h => h) (fun q_84 H locs hY hk hS => ?_)
          obtain ⟨hq_84, hP⟩ := hY
          replace hq_84 := hq_84.symm
          subst hq_84
          refine gb_put (ci := 10) (v := (.int r_82)) (ty := .int) (C := RX12) (T := TX12) (N := 44) hx hb hq i_X12 tyX12 tyX12_ok nmX12 hown hK hP (fun k h => ⟨Nat.le_add_right b k, Nat.add_lt_add_left h b⟩) hS rfl 0 rfl rfl 7 (by decide) (hq _ w_1131) (fun _ h9 => h9) rfl (by decide +kernel) rfl rfl (Nat.le_of_ble_eq_true rfl) dX12_advance_162 (fun H locs hP hz_ hS => ?_)
          obtain ⟨f_85, ef_85⟩ : ∃ q, q = (gb_u f_80 0 (upd (f_80 0) 7 r_82)) := ⟨_, rfl⟩
          replace hP : va_P D vwCl (gb_wl b (gb_MW cT b f_85 wl_81)) H := by rw [ef_85]; exact hP
          replace h := gb_lt_s ef_85 h
          refine lv_aload_n hx hb dX12_advance_165 rfl (lv_at hl 0 rfl) ?_
          refine lv_aload_n hx hb dX12_advance_166 rfl (lv_at hl 0 rfl) ?_
          refine va_get (ci := 10) (v := (.int (f_85 0 7))) (C := RX12) (T := TX12) (N := 44) hx hb hq i_X12 hown hK hP 0 (gb_at b rfl) rfl 7 (by decide) (hq _ w_1131) (fun _ h9 => h9) rfl dX12_advance_167 ?_
          refine lv_bipush (v := 99) hx hb dX12_advance_170 (by decide) ?_
          refine lv_icmp_ne (tgt := 179) hx hb dX12_advance_172 (by decide) (fun c_86 => ?_) (fun c_86 => ?_)
          · rw [if_neg c_86] at h
            refine lv_iconst (v := 3) hx hb dX12_advance_179 (by decide) ?_
            refine gb_put (ci := 10) (v := (.int 3)) (ty := .int) (C := RX12) (T := TX12) (N := 44) hx hb hq i_X12 tyX12 tyX12_ok nmX12 hown hK hP (fun k h => ⟨Nat.le_add_right b k, Nat.add_lt_add_left h b⟩) hS rfl 0 rfl rfl 5 (by decide) (hq _ w_1129) (fun _ h9 => h9) rfl (by decide +kernel) rfl rfl (Nat.le_of_ble_eq_true rfl) dX12_advance_180 (fun H locs hP hz_ hS => ?_)
            obtain ⟨f_87, ef_87⟩ : ∃ q, q = (gb_u f_85 0 (upd (f_85 0) 5 3)) := ⟨_, rfl⟩
            replace hP : va_P D vwCl (gb_wl b (gb_MW cT b f_87 wl_81)) H := by rw [ef_87]; exact hP
            replace h := gb_lt_s ef_87 h
            refine lv_goto (tgt := 311) hx hb dX12_advance_183 (by decide) ?_
            obtain ⟨e1, e2, -⟩ := gb_eq3 h
            exact W.vret hx hb hr (fun t ht hW => gb_rv ht (by rw [← e1, ← e2]; exact hP) hS) hS.2.2 dX12_advance_311
          · rw [if_pos c_86] at h
            refine lv_iconst (v := 4) hx hb dX12_advance_175 (by decide) ?_
            refine lv_goto (tgt := 180) hx hb dX12_advance_176 (by decide) ?_
            refine gb_put (ci := 10) (v := (.int 4)) (ty := .int) (C := RX12) (T := TX12) (N := 44) hx hb hq i_X12 tyX12 tyX12_ok nmX12 hown hK hP (fun k h => ⟨Nat.le_add_right b k, Nat.add_lt_add_left h b⟩) hS rfl 0 rfl rfl 5 (by decide) (hq _ w_1129) (fun _ h9 => h9) rfl (by decide +kernel) rfl rfl (Nat.le_of_ble_eq_true rfl) dX12_advance_180 (fun H locs hP hz_ hS => ?_)
            obtain ⟨f_88, ef_88⟩ : ∃ q, q = (gb_u f_85 0 (upd (f_85 0) 5 4)) := ⟨_, rfl⟩
            replace hP : va_P D vwCl (gb_wl b (gb_MW cT b f_88 wl_81)) H := by rw [ef_88]; exact hP
            replace h := gb_lt_s ef_88 h
            refine lv_goto (tgt := 311) hx hb dX12_advance_183 (by decide) ?_
            obtain ⟨e1, e2, -⟩ := gb_eq3 h
            exact W.vret hx hb hr (fun t ht hW => gb_rv ht (by rw [← e1, ← e2]; exact hP) hS) hS.2.2 dX12_advance_311
        · rw [if_neg c_79] at h
          refine lv_bipush (v := 99) hx hb dX12_advance_153 (by decide) ?_
          refine lv_goto (tgt := 162) hx hb dX12_advance_155 (by decide) ?_
          refine gb_put (ci := 10) (v := (.int 99)) (ty := .int) (C := RX12) (T := TX12) (N := 44) hx hb hq i_X12 tyX12 tyX12_ok nmX12 hown hK hP (fun k h => ⟨Nat.le_add_right b k, Nat.add_lt_add_left h b⟩) hS rfl 0 rfl rfl 7 (by decide) (hq _ w_1131) (fun _ h9 => h9) rfl (by decide +kernel) rfl rfl (Nat.le_of_ble_eq_true rfl) dX12_advance_162 (fun H locs hP hz_ hS => ?_)
          obtain ⟨f_89, ef_89⟩ : ∃ q, q = (gb_u f_73 0 (upd (f_73 0) 7 99)) := ⟨_, rfl⟩
          replace hP : va_P D vwCl (gb_wl b (gb_MW cT b f_89 wl_74)) H := by rw [ef_89]; exact hP
          replace h := gb_lt_s ef_89 h
          refine lv_aload_n hx hb dX12_advance_165 rfl (lv_at hl 0 rfl) ?_
          refine lv_aload_n hx hb dX12_advance_166 rfl (lv_at hl 0 rfl) ?_
          refine va_get (ci := 10) (v := (.int (f_89 0 7))) (C := RX12) (T := TX12) (N := 44) hx hb hq i_X12 hown hK hP 0 (gb_at b rfl) rfl 7 (by decide) (hq _ w_1131) (fun _ h9 => h9) rfl dX12_advance_167 ?_
          refine lv_bipush (v := 99) hx hb dX12_advance_170 (by decide) ?_
          refine lv_icmp_ne (tgt := 179) hx hb dX12_advance_172 (by decide) (fun c_90 => ?_) (fun c_90 => ?_)
          · rw [if_neg c_90] at h
            refine lv_iconst (v := 3) hx hb dX12_advance_179 (by decide) ?_
            refine gb_put (ci := 10) (v := (.int 3)) (ty := .int) (C := RX12) (T := TX12) (N := 44) hx hb hq i_X12 tyX12 tyX12_ok nmX12 hown hK hP (fun k h => ⟨Nat.le_add_right b k, Nat.add_lt_add_left h b⟩) hS rfl 0 rfl rfl 5 (by decide) (hq _ w_1129) (fun _ h9 => h9) rfl (by decide +kernel) rfl rfl (Nat.le_of_ble_eq_true rfl) dX12_advance_180 (fun H locs hP hz_ hS => ?_)
            obtain ⟨f_91, ef_91⟩ : ∃ q, q = (gb_u f_89 0 (upd (f_89 0) 5 3)) := ⟨_, rfl⟩
            replace hP : va_P D vwCl (gb_wl b (gb_MW cT b f_91 wl_74)) H := by rw [ef_91]; exact hP
            replace h := gb_lt_s ef_91 h
            refine lv_goto (tgt := 311) hx hb dX12_advance_183 (by decide) ?_
            obtain ⟨e1, e2, -⟩ := gb_eq3 h
            exact W.vret hx hb hr (fun t ht hW => gb_rv ht (by rw [← e1, ← e2]; exact hP) hS) hS.2.2 dX12_advance_311
          · rw [if_pos c_90] at h
            refine lv_iconst (v := 4) hx hb dX12_advance_175 (by decide) ?_
            refine lv_goto (tgt := 180) hx hb dX12_advance_176 (by decide) ?_
            refine gb_put (ci := 10) (v := (.int 4)) (ty := .int) (C := RX12) (T := TX12) (N := 44) hx hb hq i_X12 tyX12 tyX12_ok nmX12 hown hK hP (fun k h => ⟨Nat.le_add_right b k, Nat.add_lt_add_left h b⟩) hS rfl 0 rfl rfl 5 (by decide) (hq _ w_1129) (fun _ h9 => h9) rfl (by decide +kernel) rfl rfl (Nat.le_of_ble_eq_true rfl) dX12_advance_180 (fun H locs hP hz_ hS => ?_)
            obtain ⟨f_92, ef_92⟩ : ∃ q, q = (gb_u f_89 0 (upd (f_89 0) 5 4)) := ⟨_, rfl⟩
            replace hP : va_P D vwCl (gb_wl b (gb_MW cT b f_92 wl_74)) H := by rw [ef_92]; exact hP
            replace h := gb_lt_s ef_92 h
            refine lv_goto (tgt := 311) hx hb dX12_advance_183 (by decide) ?_
            obtain ⟨e1, e2, -⟩ := gb_eq3 h
            exact W.vret hx hb hr (fun t ht hW => gb_rv ht (by rw [← e1, ← e2]; exact hP) hS) hS.2.2 dX12_advance_311
      · rw [if_neg c_78] at h
        refine lv_aload_n hx hb dX12_advance_91 rfl (lv_at hl 0 rfl) ?_
        refine va_get (ci := 10) (v := (.int (f_73 0 3))) (C := RX12) (T := TX12) (N := 44) hx hb hq i_X12 hown hK hP 0 (gb_at b rfl) rfl 3 (by decide) (hq _ w_1127) (fun _ h9 => h9) rfl dX12_advance_92 ?_
        refine lv_aload_n hx hb dX12_advance_95 rfl (lv_at hl 0 rfl) ?_
        refine va_get (ci := 10) (v := (.int (f_73 0 4))) (C := RX12) (T := TX12) (N := 44) hx hb hq i_X12 hown hK hP 0 (gb_at b rfl) rfl 4 (by decide) (hq _ w_1128) (fun _ h9 => h9) rfl dX12_advance_96 ?_
        refine lv_isub hx hb dX12_advance_99 ?_
        refine lv_bipush (v := 8) hx hb dX12_advance_100 (by decide) ?_
        refine lv_icmp_ge (tgt := 125) hx hb dX12_advance_102 (by decide) (fun c_93 => ?_) (fun c_93 => ?_)
        · rw [if_pos c_93] at h
          refine lv_aload_n hx hb dX12_advance_125 rfl (lv_at hl 0 rfl) ?_
          refine lv_dup hx hb dX12_advance_126 rfl ?_
          refine va_get (ci := 10) (v := (.int (f_73 0 3))) (C := RX12) (T := TX12) (N := 44) hx hb hq i_X12 hown hK hP 0 (gb_at b rfl) rfl 3 (by decide) (hq _ w_1127) (fun _ h9 => h9) rfl dX12_advance_127 ?_
          refine lv_iconst (v := 1) hx hb dX12_advance_130 (by decide) ?_
          refine lv_iadd hx hb dX12_advance_131 ?_
          refine gb_put (ci := 10) (v := (.int ((f_73 0 3) + 1))) (ty := .int) (C := RX12) (T := TX12) (N := 44) hx hb hq i_X12 tyX12 tyX12_ok nmX12 hown hK hP (fun k h => ⟨Nat.le_add_right b k, Nat.add_lt_add_left h b⟩) hS rfl 0 rfl rfl 3 (by decide) (hq _ w_1127) (fun _ h9 => h9) rfl (by decide +kernel) rfl rfl (Nat.le_of_ble_eq_true rfl) dX12_advance_132 (fun H locs hP hz_ hS => ?_)
          obtain ⟨f_94, ef_94⟩ : ∃ q, q = (gb_u f_73 0 (upd (f_73 0) 3 ((f_73 0 3) + 1))) := ⟨_, rfl⟩
          replace hP : va_P D vwCl (gb_wl b (gb_MW cT b f_94 wl_74)) H := by rw [ef_94]; exact hP
          replace h := gb_lt_s ef_94 h
          refine lv_goto (tgt := 77) hx hb dX12_advance_135 (by decide) ?_
          exact ih _ _ _ _ _ _ h hP hS (lv_sub hl [0, 1] rfl)
        · rw [if_neg c_93] at h
          refine lv_ldc2 (v := 32) hx hb hown (hq _ w_1287) dX12_advance_105 ?_
          refine lv_lload_n hx hb dX12_advance_108 rfl (lv_at hl 1 rfl) ?_
          refine lv_lmul hx hb dX12_advance_109 ?_
          refine lv_aload_n hx hb dX12_advance_110 rfl (lv_at hl 0 rfl) ?_
          refine lv_aload_n hx hb dX12_advance_111 rfl (lv_at hl 0 rfl) ?_
          refine va_get (ci := 10) (v := (.int (f_73 0 3))) (C := RX12) (T := TX12) (N := 44) hx hb hq i_X12 hown hK hP 0 (gb_at b rfl) rfl 3 (by decide) (hq _ w_1127) (fun _ h9 => h9) rfl dX12_advance_112 ?_
          obtain ⟨f_95, wl_96, r_97, z_98, h⟩ := gb_bd_s h
          refine gb_calli (va_runV (C := RX12) (As := [.int (f_73 0 3)]) (rest := [.long (32 * v2)]) ⟨hx, hb, hml, hown, hq⟩ (mc_byteAt l D cT tt b1 b hb1 n f_73 wl_74 (f_73 0 3) f_95 wl_96 r_97 z_98) (cwV 1 hq (gb_gV w_1280 w_1282 s_3_2 w_14 w_1283) rfl rfl rfl (by decide +kernel) ⟨Nat.le_of_ble_eq_true rfl, Nat.le_of_ble_eq_true rfl⟩) (gb_preV (r := (RX12, TX12, 44)) (ci := 10) (q0 := 0) hSt hP rfl (gb_at b rfl) hS (fun q h => Nat.le_trans hb1 h.1) hP) rfl rfl hl.1 rfl (lv_room (Nat.le_of_ble_eq_true rfl)) dX12_advance_115 ⟨Nat.le_of_ble_eq_true rfl, Nat.le_of_ble_eq_true rfl⟩) hS (fun _ h => h) (fun _ h => h) (fun q_99 H locs hY hk hS => ?_)
          obtain ⟨hq_99, hP⟩ := hY
          replace hq_99 := hq_99.symm
          subst hq_99
          refine lv_i2l (v := r_97.toInt64) hx hb dX12_advance_118 rfl ?_
          refine lv_ladd hx hb dX12_advance_119 ?_
          refine lv_ldc2 (v := 96) hx hb hown (hq _ w_1288) dX12_advance_120 ?_
          refine lv_lsub hx hb dX12_advance_123 ?_
          refine lv_topl (fun x_100 ex_100 => ?_)
          replace h := gb_lt_s ex_100 h
          refine lv_lstore_n (lv' := [(2, .long x_100), (0, .ref (b + 0))]) hx hb dX12_advance_124 rfl hl (by decide) rfl (fun ls hl => ?_)
          refine lv_aload_n hx hb dX12_advance_125 rfl (lv_at hl 1 rfl) ?_
          refine lv_dup hx hb dX12_advance_126 rfl ?_
          refine va_get (ci := 10) (v := (.int (f_95 0 3))) (C := RX12) (T := TX12) (N := 44) hx hb hq i_X12 hown hK hP 0 (gb_at b rfl) rfl 3 (by decide) (hq _ w_1127) (fun _ h9 => h9) rfl dX12_advance_127 ?_
          refine lv_iconst (v := 1) hx hb dX12_advance_130 (by decide) ?_
          refine lv_iadd hx hb dX12_advance_131 ?_
          refine gb_put (ci := 10) (v := (.int ((f_95 0 3) + 1))) (ty := .int) (C := RX12) (T := TX12) (N := 44) hx hb hq i_X12 tyX12 tyX12_ok nmX12 hown hK hP (fun k h => ⟨Nat.le_add_right b k, Nat.add_lt_add_left h b⟩) hS rfl 0 rfl rfl 3 (by decide) (hq _ w_1127) (fun _ h9 => h9) rfl (by decide +kernel) rfl rfl (Nat.le_of_ble_eq_true rfl) dX12_advance_132 (fun H locs hP hz_ hS => ?_)
          obtain ⟨f_101, ef_101⟩ : ∃ q, q = (gb_u f_95 0 (upd (f_95 0) 3 ((f_95 0 3) + 1))) := ⟨_, rfl⟩
          replace hP : va_P D vwCl (gb_wl b (gb_MW cT b f_101 wl_96)) H := by rw [ef_101]; exact hP
          replace h := gb_lt_s ef_101 h
          refine lv_goto (tgt := 77) hx hb dX12_advance_135 (by decide) ?_
          exact ih _ _ _ _ _ _ h hP hS (lv_sub hl [1, 0] rfl)
  have L0 : ∀ (mm : Nat) (f : gb_F) (w : Int64) (H : Heap) (locs : List Loc) (ls : Array Slot), ms_advance_0 n mm f w = some (fE, wE, rE) → va_P D vwCl (gb_wl b (gb_MW cT b f w)) H → va_S (gb_fr b 22) s.heap H locs → lv_has ls 4 [(0, .ref (b + 0))] → W p l e (headSpec (.code yX12_advance cX12_advance 4 none :: gb_wA) ({ frames := 3, cells := 0, slots := 0, locals := 71 })).room s m ([.ref (b + 0)]).toArray below meth c H locs 0 0 (MQ below (gb_Qv (fun h => va_P D vwCl (gb_wl b (gb_MW cT b fE wE)) h) (gb_fr b 22)) ([.ref (b + 0)]).toArray s 0 0 (gb_fr b 22)) (F0 m 0 ls []) := by
    clear h hP hS hl ls f w
    intro mm
    induction mm with
    | zero =>
      intro f w H locs ls h
      cases h
    | succ mm ih =>
      intro f w H locs ls h hP hS hl
      rw [ms_advance_0] at h
      refine lv_aload_n hx hb dX12_advance_0 rfl (lv_at hl 0 rfl) ?_
      refine lv_aload_n hx hb dX12_advance_1 rfl (lv_at hl 0 rfl) ?_
      refine va_get (ci := 10) (v := (.int (f 0 3))) (C := RX12) (T := TX12) (N := 44) hx hb hq i_X12 hown hK hP 0 (gb_at b rfl) rfl 3 (by decide) (hq _ w_1127) (fun _ h9 => h9) rfl dX12_advance_2 ?_
      obtain ⟨f_8, wl_9, r_10, z_11, h⟩ := gb_bd_s h
      refine gb_calli (va_runV (C := RX12) (As := [.int (f 0 3)]) (rest := []) ⟨hx, hb, hml, hown, hq⟩ (mc_byteAt l D cT tt b1 b hb1 n f w (f 0 3) f_8 wl_9 r_10 z_11) (cwV 1 hq (gb_gV w_1280 w_1282 s_3_2 w_14 w_1283) rfl rfl rfl (by decide +kernel) ⟨Nat.le_of_ble_eq_true rfl, Nat.le_of_ble_eq_true rfl⟩) (gb_preV (r := (RX12, TX12, 44)) (ci := 10) (q0 := 0) hSt hP rfl (gb_at b rfl) hS (fun q h => Nat.le_trans hb1 h.1) hP) rfl rfl hl.1 rfl (lv_room (Nat.le_of_ble_eq_true rfl)) dX12_advance_5 ⟨Nat.le_of_ble_eq_true rfl, Nat.le_of_ble_eq_true rfl⟩) hS (fun _ h => h) (fun _ h => h) (fun q_12 H locs hY hk hS => ?_)
      obtain ⟨hq_12, hP⟩ := hY
      replace hq_12 := hq_12.symm
      subst hq_12
      refine lv_bipush (v := 10) hx hb dX12_advance_8 (by decide) ?_
      refine lv_icmp_eq (tgt := 26) hx hb dX12_advance_10 (by decide) (fun c_13 => ?_) (fun c_13 => ?_)
      · rw [if_pos c_13] at h
        refine lv_aload_n hx hb dX12_advance_26 rfl (lv_at hl 0 rfl) ?_
        refine lv_dup hx hb dX12_advance_27 rfl ?_
        refine va_get (ci := 10) (v := (.int (f_8 0 3))) (C := RX12) (T := TX12) (N := 44) hx hb hq i_X12 hown hK hP 0 (gb_at b rfl) rfl 3 (by decide) (hq _ w_1127) (fun _ h9 => h9) rfl dX12_advance_28 ?_
        refine lv_iconst (v := 1) hx hb dX12_advance_31 (by decide) ?_
        refine lv_iadd hx hb dX12_advance_32 ?_
        refine gb_put (ci := 10) (v := (.int ((f_8 0 3) + 1))) (ty := .int) (C := RX12) (T := TX12) (N := 44) hx hb hq i_X12 tyX12 tyX12_ok nmX12 hown hK hP (fun k h => ⟨Nat.le_add_right b k, Nat.add_lt_add_left h b⟩) hS rfl 0 rfl rfl 3 (by decide) (hq _ w_1127) (fun _ h9 => h9) rfl (by decide +kernel) rfl rfl (Nat.le_of_ble_eq_true rfl) dX12_advance_33 (fun H locs hP hz_ hS => ?_)
        obtain ⟨f_14, ef_14⟩ : ∃ q, q = (gb_u f_8 0 (upd (f_8 0) 3 ((f_8 0 3) + 1))) := ⟨_, rfl⟩
        replace hP : va_P D vwCl (gb_wl b (gb_MW cT b f_14 wl_9)) H := by rw [ef_14]; exact hP
        replace h := gb_lt_s ef_14 h
        refine lv_goto (tgt := 0) hx hb dX12_advance_36 (by decide) ?_
        exact ih _ _ _ _ _ h hP hS (lv_sub hl [0] rfl)
      · rw [if_neg c_13] at h
        refine lv_aload_n hx hb dX12_advance_13 rfl (lv_at hl 0 rfl) ?_
        refine lv_aload_n hx hb dX12_advance_14 rfl (lv_at hl 0 rfl) ?_
        refine va_get (ci := 10) (v := (.int (f_8 0 3))) (C := RX12) (T := TX12) (N := 44) hx hb hq i_X12 hown hK hP 0 (gb_at b rfl) rfl 3 (by decide) (hq _ w_1127) (fun _ h9 => h9) rfl dX12_advance_15 ?_
        obtain ⟨f_15, wl_16, r_17, z_18, h⟩ := gb_bd_s h
        refine gb_calli (va_runV (C := RX12) (As := [.int (f_8 0 3)]) (rest := []) ⟨hx, hb, hml, hown, hq⟩ (mc_byteAt l D cT tt b1 b hb1 n f_8 wl_9 (f_8 0 3) f_15 wl_16 r_17 z_18) (cwV 1 hq (gb_gV w_1280 w_1282 s_3_2 w_14 w_1283) rfl rfl rfl (by decide +kernel) ⟨Nat.le_of_ble_eq_true rfl, Nat.le_of_ble_eq_true rfl⟩) (gb_preV (r := (RX12, TX12, 44)) (ci := 10) (q0 := 0) hSt hP rfl (gb_at b rfl) hS (fun q h => Nat.le_trans hb1 h.1) hP) rfl rfl hl.1 rfl (lv_room (Nat.le_of_ble_eq_true rfl)) dX12_advance_18 ⟨Nat.le_of_ble_eq_true rfl, Nat.le_of_ble_eq_true rfl⟩) hS (fun _ h => h) (fun _ h => h) (fun q_19 H locs hY hk hS => ?_)
        obtain ⟨hq_19, hP⟩ := hY
        replace hq_19 := hq_19.symm
        subst hq_19
        refine lv_bipush (v := 32) hx hb dX12_advance_21 (by decide) ?_
        refine lv_icmp_ne (tgt := 39) hx hb dX12_advance_23 (by decide) (fun c_20 => ?_) (fun c_20 => ?_)
        · rw [if_neg c_20] at h
          refine lv_aload_n hx hb dX12_advance_39 rfl (lv_at hl 0 rfl) ?_
          refine lv_aload_n hx hb dX12_advance_40 rfl (lv_at hl 0 rfl) ?_
          refine va_get (ci := 10) (v := (.int (f_15 0 3))) (C := RX12) (T := TX12) (N := 44) hx hb hq i_X12 hown hK hP 0 (gb_at b rfl) rfl 3 (by decide) (hq _ w_1127) (fun _ h9 => h9) rfl dX12_advance_41 ?_
          refine gb_put (ci := 10) (v := (.int (f_15 0 3))) (ty := .int) (C := RX12) (T := TX12) (N := 44) hx hb hq i_X12 tyX12 tyX12_ok nmX12 hown hK hP (fun k h => ⟨Nat.le_add_right b k, Nat.add_lt_add_left h b⟩) hS rfl 0 rfl rfl 4 (by decide) (hq _ w_1128) (fun _ h9 => h9) rfl (by decide +kernel) rfl rfl (Nat.le_of_ble_eq_true rfl) dX12_advance_44 (fun H locs hP hz_ hS => ?_)
          obtain ⟨f_21, ef_21⟩ : ∃ q, q = (gb_u f_15 0 (upd (f_15 0) 4 (f_15 0 3))) := ⟨_, rfl⟩
          replace hP : va_P D vwCl (gb_wl b (gb_MW cT b f_21 wl_16)) H := by rw [ef_21]; exact hP
          replace h := gb_lt_s ef_21 h
          refine lv_aload_n hx hb dX12_advance_47 rfl (lv_at hl 0 rfl) ?_
          refine lv_aload_n hx hb dX12_advance_48 rfl (lv_at hl 0 rfl) ?_
          refine va_get (ci := 10) (v := (.int (f_21 0 3))) (C := RX12) (T := TX12) (N := 44) hx hb hq i_X12 hown hK hP 0 (gb_at b rfl) rfl 3 (by decide) (hq _ w_1127) (fun _ h9 => h9) rfl dX12_advance_49 ?_
          obtain ⟨f_22, wl_23, r_24, z_25, h⟩ := gb_bd_s h
          refine gb_calli (va_runV (C := RX12) (As := [.int (f_21 0 3)]) (rest := []) ⟨hx, hb, hml, hown, hq⟩ (mc_byteAt l D cT tt b1 b hb1 n f_21 wl_16 (f_21 0 3) f_22 wl_23 r_24 z_25) (cwV 1 hq (gb_gV w_1280 w_1282 s_3_2 w_14 w_1283) rfl rfl rfl (by decide +kernel) ⟨Nat.le_of_ble_eq_true rfl, Nat.le_of_ble_eq_true rfl⟩) (gb_preV (r := (RX12, TX12, 44)) (ci := 10) (q0 := 0) hSt hP rfl (gb_at b rfl) hS (fun q h => Nat.le_trans hb1 h.1) hP) rfl rfl hl.1 rfl (lv_room (Nat.le_of_ble_eq_true rfl)) dX12_advance_52 ⟨Nat.le_of_ble_eq_true rfl, Nat.le_of_ble_eq_true rfl⟩) hS (fun _ h => h) (fun _ h => h) (fun q_26 H locs hY hk hS => ?_)
          obtain ⟨hq_26, hP⟩ := hY
          replace hq_26 := hq_26.symm
          subst hq_26
          refine lv_istore_n (lv' := [(1, .int r_24), (0, .ref (b + 0))]) hx hb dX12_advance_55 rfl hl (by decide) rfl (fun ls hl => ?_)
          refine lv_iload_n hx hb dX12_advance_56 rfl (lv_at hl 0 rfl) ?_
          refine lv_if_ge (tgt := 68) hx hb dX12_advance_57 (by decide) (fun c_27 => ?_) (fun c_27 => ?_)
          · rw [if_pos c_27] at h
            refine lv_iload_n hx hb dX12_advance_68 rfl (lv_at hl 0 rfl) ?_
            obtain ⟨f_28, wl_29, r_30, z_31, h⟩ := gb_bd_s h
            refine gb_calli (va_runS (As := [.int r_24]) (rest := []) ⟨hx, hb, hml, hown, hq⟩ (mc_isLetter l D cT tt b1 b hb1 n f_22 wl_23 r_24 f_28 wl_29 r_30 z_31) (va_cwS 1 hq (gb_gS w_1284 w_1285 w_14 w_1286) rfl rfl rfl (by decide +kernel) ⟨Nat.le_of_ble_eq_true rfl, Nat.le_of_ble_eq_true rfl⟩) (gb_preS hSt hS (fun q h => Nat.le_trans hb1 h.1) hP) rfl rfl hl.1 rfl (lv_room (Nat.le_of_ble_eq_true rfl)) dX12_advance_69 ⟨Nat.le_of_ble_eq_true rfl, Nat.le_of_ble_eq_true rfl⟩) hS (fun _ h => h) (fun _ h => h) (fun q_32 H locs hY hk hS => ?_)
            obtain ⟨hq_32, hP⟩ := hY
            replace hq_32 := hq_32.symm
            subst hq_32
            refine lv_if_eq (tgt := 186) hx hb dX12_advance_72 (by decide) (fun c_33 => ?_) (fun c_33 => ?_)
            · rw [if_pos c_33] at h
              refine lv_iload_n hx hb dX12_advance_186 rfl (lv_at hl 0 rfl) ?_
              obtain ⟨f_34, wl_35, r_36, z_37, h⟩ := gb_bd_s h
              refine gb_calli (va_runS (As := [.int r_24]) (rest := []) ⟨hx, hb, hml, hown, hq⟩ (mc_isDigit l D cT tt b1 b hb1 n f_28 wl_29 r_24 f_34 wl_35 r_36 z_37) (va_cwS 1 hq (gb_gS w_1299 w_1300 w_14 w_1301) rfl rfl rfl (by decide +kernel) ⟨Nat.le_of_ble_eq_true rfl, Nat.le_of_ble_eq_true rfl⟩) (gb_preS hSt hS (fun q h => Nat.le_trans hb1 h.1) hP) rfl rfl hl.1 rfl (lv_room (Nat.le_of_ble_eq_true rfl)) dX12_advance_187 ⟨Nat.le_of_ble_eq_true rfl, Nat.le_of_ble_eq_true rfl⟩) hS (fun _ h => h) (fun _ h => h) (fun q_38 H locs hY hk hS => ?_)
              obtain ⟨hq_38, hP⟩ := hY
              replace hq_38 := hq_38.symm
              subst hq_38
              refine lv_if_eq (tgt := 286) hx hb dX12_advance_190 (by decide) (fun c_39 => ?_) (fun c_39 => ?_)
              · rw [if_pos c_39] at h
                refine lv_aload_n hx hb dX12_advance_286 rfl (lv_at hl 1 rfl) ?_
                refine lv_dup hx hb dX12_advance_287 rfl ?_
                refine va_get (ci := 10) (v := (.int (f_34 0 3))) (C := RX12) (T := TX12) (N := 44) hx hb hq i_X12 hown hK hP 0 (gb_at b rfl) rfl 3 (by decide) (hq _ w_1127) (fun _ h9 => h9) rfl dX12_advance_288 ?_
                refine lv_iconst (v := 1) hx hb dX12_advance_291 (by decide) ?_
                refine lv_iadd hx hb dX12_advance_292 ?_
                refine gb_put (ci := 10) (v := (.int ((f_34 0 3) + 1))) (ty := .int) (C := RX12) (T := TX12) (N := 44) hx hb hq i_X12 tyX12 tyX12_ok nmX12 hown hK hP (fun k h => ⟨Nat.le_add_right b k, Nat.add_lt_add_left h b⟩) hS rfl 0 rfl rfl 3 (by decide) (hq _ w_1127) (fun _ h9 => h9) rfl (by decide +kernel) rfl rfl (Nat.le_of_ble_eq_true rfl) dX12_advance_293 (fun H locs hP hz_ hS => ?_)
                obtain ⟨f_40, ef_40⟩ : ∃ q, q = (gb_u f_34 0 (upd (f_34 0) 3 ((f_34 0 3) + 1))) := ⟨_, rfl⟩
                replace hP : va_P D vwCl (gb_wl b (gb_MW cT b f_40 wl_35)) H := by rw [ef_40]; exact hP
                replace h := gb_lt_s ef_40 h
                refine lv_aload_n hx hb dX12_advance_296 rfl (lv_at hl 1 rfl) ?_
                refine lv_iload_n hx hb dX12_advance_297 rfl (lv_at hl 0 rfl) ?_
                refine lv_bipush (v := 59) hx hb dX12_advance_298 (by decide) ?_
                refine lv_icmp_ne (tgt := 307) hx hb dX12_advance_300 (by decide) (fun c_41 => ?_) (fun c_41 => ?_)
                · rw [if_neg c_41] at h
                  refine lv_iconst (v := 4) hx hb dX12_advance_307 (by decide) ?_
                  refine gb_put (ci := 10) (v := (.int 4)) (ty := .int) (C := RX12) (T := TX12) (N := 44) hx hb hq i_X12 tyX12 tyX12_ok nmX12 hown hK hP (fun k h => ⟨Nat.le_add_right b k, Nat.add_lt_add_left h b⟩) hS rfl 0 rfl rfl 5 (by decide) (hq _ w_1129) (fun _ h9 => h9) rfl (by decide +kernel) rfl rfl (Nat.le_of_ble_eq_true rfl) dX12_advance_308 (fun H locs hP hz_ hS => ?_)
                  obtain ⟨f_42, ef_42⟩ : ∃ q, q = (gb_u f_40 0 (upd (f_40 0) 5 4)) := ⟨_, rfl⟩
                  replace hP : va_P D vwCl (gb_wl b (gb_MW cT b f_42 wl_35)) H := by rw [ef_42]; exact hP
                  replace h := gb_lt_s ef_42 h
                  obtain ⟨e1, e2, -⟩ := gb_eq3 h
                  exact W.vret hx hb hr (fun t ht hW => gb_rv ht (by rw [← e1, ← e2]; exact hP) hS) hS.2.2 dX12_advance_311
                · rw [if_pos c_41] at h
                  refine lv_iconst (v := 2) hx hb dX12_advance_303 (by decide) ?_
                  refine lv_goto (tgt := 308) hx hb dX12_advance_304 (by decide) ?_
                  refine gb_put (ci := 10) (v := (.int 2)) (ty := .int) (C := RX12) (T := TX12) (N := 44) hx hb hq i_X12 tyX12 tyX12_ok nmX12 hown hK hP (fun k h => ⟨Nat.le_add_right b k, Nat.add_lt_add_left h b⟩) hS rfl 0 rfl rfl 5 (by decide) (hq _ w_1129) (fun _ h9 => h9) rfl (by decide +kernel) rfl rfl (Nat.le_of_ble_eq_true rfl) dX12_advance_308 (fun H locs hP hz_ hS => ?_)
                  obtain ⟨f_43, ef_43⟩ : ∃ q, q = (gb_u f_40 0 (upd (f_40 0) 5 2)) := ⟨_, rfl⟩
                  replace hP : va_P D vwCl (gb_wl b (gb_MW cT b f_43 wl_35)) H := by rw [ef_43]; exact hP
                  replace h := gb_lt_s ef_43 h
                  obtain ⟨e1, e2, -⟩ := gb_eq3 h
                  exact W.vret hx hb hr (fun t ht hW => gb_rv ht (by rw [← e1, ← e2]; exact hP) hS) hS.2.2 dX12_advance_311
              · rw [if_neg c_39] at h
                refine lv_aload_n hx hb dX12_advance_193 rfl (lv_at hl 1 rfl) ?_
                refine lv_iconst (v := 0) hx hb dX12_advance_194 (by decide) ?_
                refine gb_put (ci := 10) (v := (.int 0)) (ty := .int) (C := RX12) (T := TX12) (N := 44) hx hb hq i_X12 tyX12 tyX12_ok nmX12 hown hK hP (fun k h => ⟨Nat.le_add_right b k, Nat.add_lt_add_left h b⟩) hS rfl 0 rfl rfl 6 (by decide) (hq _ w_1130) (fun _ h9 => h9) rfl (by decide +kernel) rfl rfl (Nat.le_of_ble_eq_true rfl) dX12_advance_195 (fun H locs hP hz_ hS => ?_)
                obtain ⟨f_44, ef_44⟩ : ∃ q, q = (gb_u f_34 0 (upd (f_34 0) 6 0)) := ⟨_, rfl⟩
                replace hP : va_P D vwCl (gb_wl b (gb_MW cT b f_44 wl_35)) H := by rw [ef_44]; exact hP
                replace h := gb_lt_s ef_44 h
                exact L198 n _ _ _ _ _ h hP hS (lv_sub hl [1] rfl)
            · rw [if_neg c_33] at h
              refine lv_lconst (v := 0) hx hb dX12_advance_75 (by decide) ?_
              refine lv_lstore_n (lv' := [(2, .long 0), (1, .int r_24), (0, .ref (b + 0))]) hx hb dX12_advance_76 rfl hl (by decide) rfl (fun ls hl => ?_)
              exact L77 n _ _ _ _ _ _ h hP hS (lv_sub hl [2, 0] rfl)
          · rw [if_neg c_27] at h
            refine lv_aload_n hx hb dX12_advance_60 rfl (lv_at hl 1 rfl) ?_
            refine lv_iconst (v := 0) hx hb dX12_advance_61 (by decide) ?_
            refine gb_put (ci := 10) (v := (.int 0)) (ty := .int) (C := RX12) (T := TX12) (N := 44) hx hb hq i_X12 tyX12 tyX12_ok nmX12 hown hK hP (fun k h => ⟨Nat.le_add_right b k, Nat.add_lt_add_left h b⟩) hS rfl 0 rfl rfl 5 (by decide) (hq _ w_1129) (fun _ h9 => h9) rfl (by decide +kernel) rfl rfl (Nat.le_of_ble_eq_true rfl) dX12_advance_62 (fun H locs hP hz_ hS => ?_)
            obtain ⟨f_102, ef_102⟩ : ∃ q, q = (gb_u f_22 0 (upd (f_22 0) 5 0)) := ⟨_, rfl⟩
            replace hP : va_P D vwCl (gb_wl b (gb_MW cT b f_102 wl_23)) H := by rw [ef_102]; exact hP
            replace h := gb_lt_s ef_102 h
            refine lv_goto (tgt := 311) hx hb dX12_advance_65 (by decide) ?_
            obtain ⟨e1, e2, -⟩ := gb_eq3 h
            exact W.vret hx hb hr (fun t ht hW => gb_rv ht (by rw [← e1, ← e2]; exact hP) hS) hS.2.2 dX12_advance_311
        · rw [if_pos c_20] at h
          refine lv_aload_n hx hb dX12_advance_26 rfl (lv_at hl 0 rfl) ?_
          refine lv_dup hx hb dX12_advance_27 rfl ?_
          refine va_get (ci := 10) (v := (.int (f_15 0 3))) (C := RX12) (T := TX12) (N := 44) hx hb hq i_X12 hown hK hP 0 (gb_at b rfl) rfl 3 (by decide) (hq _ w_1127) (fun _ h9 => h9) rfl dX12_advance_28 ?_
          refine lv_iconst (v := 1) hx hb dX12_advance_31 (by decide) ?_
          refine lv_iadd hx hb dX12_advance_32 ?_
          refine gb_put (ci := 10) (v := (.int ((f_15 0 3) + 1))) (ty := .int) (C := RX12) (T := TX12) (N := 44) hx hb hq i_X12 tyX12 tyX12_ok nmX12 hown hK hP (fun k h => ⟨Nat.le_add_right b k, Nat.add_lt_add_left h b⟩) hS rfl 0 rfl rfl 3 (by decide) (hq _ w_1127) (fun _ h9 => h9) rfl (by decide +kernel) rfl rfl (Nat.le_of_ble_eq_true rfl) dX12_advance_33 (fun H locs hP hz_ hS => ?_)
          obtain ⟨f_103, ef_103⟩ : ∃ q, q = (gb_u f_15 0 (upd (f_15 0) 3 ((f_15 0 3) + 1))) := ⟨_, rfl⟩
          replace hP : va_P D vwCl (gb_wl b (gb_MW cT b f_103 wl_16)) H := by rw [ef_103]; exact hP
          replace h := gb_lt_s ef_103 h
          refine lv_goto (tgt := 0) hx hb dX12_advance_36 (by decide) ?_
          exact ih _ _ _ _ _ h hP hS (lv_sub hl [0] rfl)
  unfold ms_advance at h
  refine lv_aload_n hx hb dX12_advance_0 rfl (lv_at hl 0 rfl) ?_
  refine lv_aload_n hx hb dX12_advance_1 rfl (lv_at hl 0 rfl) ?_
  refine va_get (ci := 10) (v := (.int (f 0 3))) (C := RX12) (T := TX12) (N := 44) hx hb hq i_X12 hown hK hP 0 (gb_at b rfl) rfl 3 (by decide) (hq _ w_1127) (fun _ h9 => h9) rfl dX12_advance_2 ?_
  obtain ⟨f_1, wl_2, r_3, z_4, h⟩ := gb_bd_s h
  refine gb_calli (va_runV (C := RX12) (As := [.int (f 0 3)]) (rest := []) ⟨hx, hb, hml, hown, hq⟩ (mc_byteAt l D cT tt b1 b hb1 n f w (f 0 3) f_1 wl_2 r_3 z_4) (cwV 1 hq (gb_gV w_1280 w_1282 s_3_2 w_14 w_1283) rfl rfl rfl (by decide +kernel) ⟨Nat.le_of_ble_eq_true rfl, Nat.le_of_ble_eq_true rfl⟩) (gb_preV (r := (RX12, TX12, 44)) (ci := 10) (q0 := 0) hSt hP rfl (gb_at b rfl) hS (fun q h => Nat.le_trans hb1 h.1) hP) rfl rfl hl.1 rfl (lv_room (Nat.le_of_ble_eq_true rfl)) dX12_advance_5 ⟨Nat.le_of_ble_eq_true rfl, Nat.le_of_ble_eq_true rfl⟩) hS (fun _ h => h) (fun _ h => h) (fun q_5 H locs hY hk hS => ?_)
  obtain ⟨hq_5, hP⟩ := hY
  replace hq_5 := hq_5.symm
  subst hq_5
  refine lv_bipush (v := 10) hx hb dX12_advance_8 (by decide) ?_
  refine lv_icmp_eq (tgt := 26) hx hb dX12_advance_10 (by decide) (fun c_6 => ?_) (fun c_6 => ?_)
  · rw [if_pos c_6] at h
    refine lv_aload_n hx hb dX12_advance_26 rfl (lv_at hl 0 rfl) ?_
    refine lv_dup hx hb dX12_advance_27 rfl ?_
    refine va_get (ci := 10) (v := (.int (f_1 0 3))) (C := RX12) (T := TX12) (N := 44) hx hb hq i_X12 hown hK hP 0 (gb_at b rfl) rfl 3 (by decide) (hq _ w_1127) (fun _ h9 => h9) rfl dX12_advance_28 ?_
    refine lv_iconst (v := 1) hx hb dX12_advance_31 (by decide) ?_
    refine lv_iadd hx hb dX12_advance_32 ?_
    refine gb_put (ci := 10) (v := (.int ((f_1 0 3) + 1))) (ty := .int) (C := RX12) (T := TX12) (N := 44) hx hb hq i_X12 tyX12 tyX12_ok nmX12 hown hK hP (fun k h => ⟨Nat.le_add_right b k, Nat.add_lt_add_left h b⟩) hS rfl 0 rfl rfl 3 (by decide) (hq _ w_1127) (fun _ h9 => h9) rfl (by decide +kernel) rfl rfl (Nat.le_of_ble_eq_true rfl) dX12_advance_33 (fun H locs hP hz_ hS => ?_)
    obtain ⟨f_7, ef_7⟩ : ∃ q, q = (gb_u f_1 0 (upd (f_1 0) 3 ((f_1 0 3) + 1))) := ⟨_, rfl⟩
    replace hP : va_P D vwCl (gb_wl b (gb_MW cT b f_7 wl_2)) H := by rw [ef_7]; exact hP
    replace h := gb_lt_s ef_7 h
    refine lv_goto (tgt := 0) hx hb dX12_advance_36 (by decide) ?_
    exact L0 n _ _ _ _ _ h hP hS (lv_sub hl [0] rfl)
  · rw [if_neg c_6] at h
    refine lv_aload_n hx hb dX12_advance_13 rfl (lv_at hl 0 rfl) ?_
    refine lv_aload_n hx hb dX12_advance_14 rfl (lv_at hl 0 rfl) ?_
    refine va_get (ci := 10) (v := (.int (f_1 0 3))) (C := RX12) (T := TX12) (N := 44) hx hb hq i_X12 hown hK hP 0 (gb_at b rfl) rfl 3 (by decide) (hq _ w_1127) (fun _ h9 => h9) rfl dX12_advance_15 ?_
    obtain ⟨f_104, wl_105, r_106, z_107, h⟩ := gb_bd_s h
    refine gb_calli (va_runV (C := RX12) (As := [.int (f_1 0 3)]) (rest := []) ⟨hx, hb, hml, hown, hq⟩ (mc_byteAt l D cT tt b1 b hb1 n f_1 wl_2 (f_1 0 3) f_104 wl_105 r_106 z_107) (cwV 1 hq (gb_gV w_1280 w_1282 s_3_2 w_14 w_1283) rfl rfl rfl (by decide +kernel) ⟨Nat.le_of_ble_eq_true rfl, Nat.le_of_ble_eq_true rfl⟩) (gb_preV (r := (RX12, TX12, 44)) (ci := 10) (q0 := 0) hSt hP rfl (gb_at b rfl) hS (fun q h => Nat.le_trans hb1 h.1) hP) rfl rfl hl.1 rfl (lv_room (Nat.le_of_ble_eq_true rfl)) dX12_advance_18 ⟨Nat.le_of_ble_eq_true rfl, Nat.le_of_ble_eq_true rfl⟩) hS (fun _ h => h) (fun _ h => h) (fun q_108 H locs hY hk hS => ?_)
    obtain ⟨hq_108, hP⟩ := hY
    replace hq_108 := hq_108.symm
    subst hq_108
    refine lv_bipush (v := 32) hx hb dX12_advance_21 (by decide) ?_
    refine lv_icmp_ne (tgt := 39) hx hb dX12_advance_23 (by decide) (fun c_109 => ?_) (fun c_109 => ?_)
    · rw [if_neg c_109] at h
      refine lv_aload_n hx hb dX12_advance_39 rfl (lv_at hl 0 rfl) ?_
      refine lv_aload_n hx hb dX12_advance_40 rfl (lv_at hl 0 rfl) ?_
      refine va_get (ci := 10) (v := (.int (f_104 0 3))) (C := RX12) (T := TX12) (N := 44) hx hb hq i_X12 hown hK hP 0 (gb_at b rfl) rfl 3 (by decide) (hq _ w_1127) (fun _ h9 => h9) rfl dX12_advance_41 ?_
      refine gb_put (ci := 10) (v := (.int (f_104 0 3))) (ty := .int) (C := RX12) (T := TX12) (N := 44) hx hb hq i_X12 tyX12 tyX12_ok nmX12 hown hK hP (fun k h => ⟨Nat.le_add_right b k, Nat.add_lt_add_left h b⟩) hS rfl 0 rfl rfl 4 (by decide) (hq _ w_1128) (fun _ h9 => h9) rfl (by decide +kernel) rfl rfl (Nat.le_of_ble_eq_true rfl) dX12_advance_44 (fun H locs hP hz_ hS => ?_)
      obtain ⟨f_110, ef_110⟩ : ∃ q, q = (gb_u f_104 0 (upd (f_104 0) 4 (f_104 0 3))) := ⟨_, rfl⟩
      replace hP : va_P D vwCl (gb_wl b (gb_MW cT b f_110 wl_105)) H := by rw [ef_110]; exact hP
      replace h := gb_lt_s ef_110 h
      refine lv_aload_n hx hb dX12_advance_47 rfl (lv_at hl 0 rfl) ?_
      refine lv_aload_n hx hb dX12_advance_48 rfl (lv_at hl 0 rfl) ?_
      refine va_get (ci := 10) (v := (.int (f_110 0 3))) (C := RX12) (T := TX12) (N := 44) hx hb hq i_X12 hown hK hP 0 (gb_at b rfl) rfl 3 (by decide) (hq _ w_1127) (fun _ h9 => h9) rfl dX12_advance_49 ?_
      obtain ⟨f_111, wl_112, r_113, z_114, h⟩ := gb_bd_s h
      refine gb_calli (va_runV (C := RX12) (As := [.int (f_110 0 3)]) (rest := []) ⟨hx, hb, hml, hown, hq⟩ (mc_byteAt l D cT tt b1 b hb1 n f_110 wl_105 (f_110 0 3) f_111 wl_112 r_113 z_114) (cwV 1 hq (gb_gV w_1280 w_1282 s_3_2 w_14 w_1283) rfl rfl rfl (by decide +kernel) ⟨Nat.le_of_ble_eq_true rfl, Nat.le_of_ble_eq_true rfl⟩) (gb_preV (r := (RX12, TX12, 44)) (ci := 10) (q0 := 0) hSt hP rfl (gb_at b rfl) hS (fun q h => Nat.le_trans hb1 h.1) hP) rfl rfl hl.1 rfl (lv_room (Nat.le_of_ble_eq_true rfl)) dX12_advance_52 ⟨Nat.le_of_ble_eq_true rfl, Nat.le_of_ble_eq_true rfl⟩) hS (fun _ h => h) (fun _ h => h) (fun q_115 H locs hY hk hS => ?_)
      obtain ⟨hq_115, hP⟩ := hY
      replace hq_115 := hq_115.symm
      subst hq_115
      refine lv_istore_n (lv' := [(1, .int r_113), (0, .ref (b + 0))]) hx hb dX12_advance_55 rfl hl (by decide) rfl (fun ls hl => ?_)
      refine lv_iload_n hx hb dX12_advance_56 rfl (lv_at hl 0 rfl) ?_
      refine lv_if_ge (tgt := 68) hx hb dX12_advance_57 (by decide) (fun c_116 => ?_) (fun c_116 => ?_)
      · rw [if_pos c_116] at h
        refine lv_iload_n hx hb dX12_advance_68 rfl (lv_at hl 0 rfl) ?_
        obtain ⟨f_117, wl_118, r_119, z_120, h⟩ := gb_bd_s h
        refine gb_calli (va_runS (As := [.int r_113]) (rest := []) ⟨hx, hb, hml, hown, hq⟩ (mc_isLetter l D cT tt b1 b hb1 n f_111 wl_112 r_113 f_117 wl_118 r_119 z_120) (va_cwS 1 hq (gb_gS w_1284 w_1285 w_14 w_1286) rfl rfl rfl (by decide +kernel) ⟨Nat.le_of_ble_eq_true rfl, Nat.le_of_ble_eq_true rfl⟩) (gb_preS hSt hS (fun q h => Nat.le_trans hb1 h.1) hP) rfl rfl hl.1 rfl (lv_room (Nat.le_of_ble_eq_true rfl)) dX12_advance_69 ⟨Nat.le_of_ble_eq_true rfl, Nat.le_of_ble_eq_true rfl⟩) hS (fun _ h => h) (fun _ h => h) (fun q_121 H locs hY hk hS => ?_)
        obtain ⟨hq_121, hP⟩ := hY
        replace hq_121 := hq_121.symm
        subst hq_121
        refine lv_if_eq (tgt := 186) hx hb dX12_advance_72 (by decide) (fun c_122 => ?_) (fun c_122 => ?_)
        · rw [if_pos c_122] at h
          refine lv_iload_n hx hb dX12_advance_186 rfl (lv_at hl 0 rfl) ?_
          obtain ⟨f_123, wl_124, r_125, z_126, h⟩ := gb_bd_s h
          refine gb_calli (va_runS (As := [.int r_113]) (rest := []) ⟨hx, hb, hml, hown, hq⟩ (mc_isDigit l D cT tt b1 b hb1 n f_117 wl_118 r_113 f_123 wl_124 r_125 z_126) (va_cwS 1 hq (gb_gS w_1299 w_1300 w_14 w_1301) rfl rfl rfl (by decide +kernel) ⟨Nat.le_of_ble_eq_true rfl, Nat.le_of_ble_eq_true rfl⟩) (gb_preS hSt hS (fun q h => Nat.le_trans hb1 h.1) hP) rfl rfl hl.1 rfl (lv_room (Nat.le_of_ble_eq_true rfl)) dX12_advance_187 ⟨Nat.le_of_ble_eq_true rfl, Nat.le_of_ble_eq_true rfl⟩) hS (fun _ h => h) (fun _ h => h) (fun q_127 H locs hY hk hS => ?_)
          obtain ⟨hq_127, hP⟩ := hY
          replace hq_127 := hq_127.symm
          subst hq_127
          refine lv_if_eq (tgt := 286) hx hb dX12_advance_190 (by decide) (fun c_128 => ?_) (fun c_128 => ?_)
          · rw [if_pos c_128] at h
            refine lv_aload_n hx hb dX12_advance_286 rfl (lv_at hl 1 rfl) ?_
            refine lv_dup hx hb dX12_advance_287 rfl ?_
            refine va_get (ci := 10) (v := (.int (f_123 0 3))) (C := RX12) (T := TX12) (N := 44) hx hb hq i_X12 hown hK hP 0 (gb_at b rfl) rfl 3 (by decide) (hq _ w_1127) (fun _ h9 => h9) rfl dX12_advance_288 ?_
            refine lv_iconst (v := 1) hx hb dX12_advance_291 (by decide) ?_
            refine lv_iadd hx hb dX12_advance_292 ?_
            refine gb_put (ci := 10) (v := (.int ((f_123 0 3) + 1))) (ty := .int) (C := RX12) (T := TX12) (N := 44) hx hb hq i_X12 tyX12 tyX12_ok nmX12 hown hK hP (fun k h => ⟨Nat.le_add_right b k, Nat.add_lt_add_left h b⟩) hS rfl 0 rfl rfl 3 (by decide) (hq _ w_1127) (fun _ h9 => h9) rfl (by decide +kernel) rfl rfl (Nat.le_of_ble_eq_true rfl) dX12_advance_293 (fun H locs hP hz_ hS => ?_)
            obtain ⟨f_129, ef_129⟩ : ∃ q, q = (gb_u f_123 0 (upd (f_123 0) 3 ((f_123 0 3) + 1))) := ⟨_, rfl⟩
            replace hP : va_P D vwCl (gb_wl b (gb_MW cT b f_129 wl_124)) H := by rw [ef_129]; exact hP
            replace h := gb_lt_s ef_129 h
            refine lv_aload_n hx hb dX12_advance_296 rfl (lv_at hl 1 rfl) ?_
            refine lv_iload_n hx hb dX12_advance_297 rfl (lv_at hl 0 rfl) ?_
            refine lv_bipush (v := 59) hx hb dX12_advance_298 (by decide) ?_
            refine lv_icmp_ne (tgt := 307) hx hb dX12_advance_300 (by decide) (fun c_130 => ?_) (fun c_130 => ?_)
            · rw [if_neg c_130] at h
              refine lv_iconst (v := 4) hx hb dX12_advance_307 (by decide) ?_
              refine gb_put (ci := 10) (v := (.int 4)) (ty := .int) (C := RX12) (T := TX12) (N := 44) hx hb hq i_X12 tyX12 tyX12_ok nmX12 hown hK hP (fun k h => ⟨Nat.le_add_right b k, Nat.add_lt_add_left h b⟩) hS rfl 0 rfl rfl 5 (by decide) (hq _ w_1129) (fun _ h9 => h9) rfl (by decide +kernel) rfl rfl (Nat.le_of_ble_eq_true rfl) dX12_advance_308 (fun H locs hP hz_ hS => ?_)
              obtain ⟨f_131, ef_131⟩ : ∃ q, q = (gb_u f_129 0 (upd (f_129 0) 5 4)) := ⟨_, rfl⟩
              replace hP : va_P D vwCl (gb_wl b (gb_MW cT b f_131 wl_124)) H := by rw [ef_131]; exact hP
              replace h := gb_lt_s ef_131 h
              obtain ⟨e1, e2, -⟩ := gb_eq3 h
              exact W.vret hx hb hr (fun t ht hW => gb_rv ht (by rw [← e1, ← e2]; exact hP) hS) hS.2.2 dX12_advance_311
            · rw [if_pos c_130] at h
              refine lv_iconst (v := 2) hx hb dX12_advance_303 (by decide) ?_
              refine lv_goto (tgt := 308) hx hb dX12_advance_304 (by decide) ?_
              refine gb_put (ci := 10) (v := (.int 2)) (ty := .int) (C := RX12) (T := TX12) (N := 44) hx hb hq i_X12 tyX12 tyX12_ok nmX12 hown hK hP (fun k h => ⟨Nat.le_add_right b k, Nat.add_lt_add_left h b⟩) hS rfl 0 rfl rfl 5 (by decide) (hq _ w_1129) (fun _ h9 => h9) rfl (by decide +kernel) rfl rfl (Nat.le_of_ble_eq_true rfl) dX12_advance_308 (fun H locs hP hz_ hS => ?_)
              obtain ⟨f_132, ef_132⟩ : ∃ q, q = (gb_u f_129 0 (upd (f_129 0) 5 2)) := ⟨_, rfl⟩
              replace hP : va_P D vwCl (gb_wl b (gb_MW cT b f_132 wl_124)) H := by rw [ef_132]; exact hP
              replace h := gb_lt_s ef_132 h
              obtain ⟨e1, e2, -⟩ := gb_eq3 h
              exact W.vret hx hb hr (fun t ht hW => gb_rv ht (by rw [← e1, ← e2]; exact hP) hS) hS.2.2 dX12_advance_311
          · rw [if_neg c_128] at h
            refine lv_aload_n hx hb dX12_advance_193 rfl (lv_at hl 1 rfl) ?_
            refine lv_iconst (v := 0) hx hb dX12_advance_194 (by decide) ?_
            refine gb_put (ci := 10) (v := (.int 0)) (ty := .int) (C := RX12) (T := TX12) (N := 44) hx hb hq i_X12 tyX12 tyX12_ok nmX12 hown hK hP (fun k h => ⟨Nat.le_add_right b k, Nat.add_lt_add_left h b⟩) hS rfl 0 rfl rfl 6 (by decide) (hq _ w_1130) (fun _ h9 => h9) rfl (by decide +kernel) rfl rfl (Nat.le_of_ble_eq_true rfl) dX12_advance_195 (fun H locs hP hz_ hS => ?_)
            obtain ⟨f_133, ef_133⟩ : ∃ q, q = (gb_u f_123 0 (upd (f_123 0) 6 0)) := ⟨_, rfl⟩
            replace hP : va_P D vwCl (gb_wl b (gb_MW cT b f_133 wl_124)) H := by rw [ef_133]; exact hP
            replace h := gb_lt_s ef_133 h
            exact L198 n _ _ _ _ _ h hP hS (lv_sub hl [1] rfl)
        · rw [if_neg c_122] at h
          refine lv_lconst (v := 0) hx hb dX12_advance_75 (by decide) ?_
          refine lv_lstore_n (lv' := [(2, .long 0), (1, .int r_113), (0, .ref (b + 0))]) hx hb dX12_advance_76 rfl hl (by decide) rfl (fun ls hl => ?_)
          exact L77 n _ _ _ _ _ _ h hP hS (lv_sub hl [2, 0] rfl)
      · rw [if_neg c_116] at h
        refine lv_aload_n hx hb dX12_advance_60 rfl (lv_at hl 1 rfl) ?_
        refine lv_iconst (v := 0) hx hb dX12_advance_61 (by decide) ?_
        refine gb_put (ci := 10) (v := (.int 0)) (ty := .int) (C := RX12) (T := TX12) (N := 44) hx hb hq i_X12 tyX12 tyX12_ok nmX12 hown hK hP (fun k h => ⟨Nat.le_add_right b k, Nat.add_lt_add_left h b⟩) hS rfl 0 rfl rfl 5 (by decide) (hq _ w_1129) (fun _ h9 => h9) rfl (by decide +kernel) rfl rfl (Nat.le_of_ble_eq_true rfl) dX12_advance_62 (fun H locs hP hz_ hS => ?_)
        obtain ⟨f_134, ef_134⟩ : ∃ q, q = (gb_u f_111 0 (upd (f_111 0) 5 0)) := ⟨_, rfl⟩
        replace hP : va_P D vwCl (gb_wl b (gb_MW cT b f_134 wl_112)) H := by rw [ef_134]; exact hP
        replace h := gb_lt_s ef_134 h
        refine lv_goto (tgt := 311) hx hb dX12_advance_65 (by decide) ?_
        obtain ⟨e1, e2, -⟩ := gb_eq3 h
        exact W.vret hx hb hr (fun t ht hW => gb_rv ht (by rw [← e1, ← e2]; exact hP) hS) hS.2.2 dX12_advance_311
    · rw [if_pos c_109] at h
      refine lv_aload_n hx hb dX12_advance_26 rfl (lv_at hl 0 rfl) ?_
      refine lv_dup hx hb dX12_advance_27 rfl ?_
      refine va_get (ci := 10) (v := (.int (f_104 0 3))) (C := RX12) (T := TX12) (N := 44) hx hb hq i_X12 hown hK hP 0 (gb_at b rfl) rfl 3 (by decide) (hq _ w_1127) (fun _ h9 => h9) rfl dX12_advance_28 ?_
      refine lv_iconst (v := 1) hx hb dX12_advance_31 (by decide) ?_
      refine lv_iadd hx hb dX12_advance_32 ?_
      refine gb_put (ci := 10) (v := (.int ((f_104 0 3) + 1))) (ty := .int) (C := RX12) (T := TX12) (N := 44) hx hb hq i_X12 tyX12 tyX12_ok nmX12 hown hK hP (fun k h => ⟨Nat.le_add_right b k, Nat.add_lt_add_left h b⟩) hS rfl 0 rfl rfl 3 (by decide) (hq _ w_1127) (fun _ h9 => h9) rfl (by decide +kernel) rfl rfl (Nat.le_of_ble_eq_true rfl) dX12_advance_33 (fun H locs hP hz_ hS => ?_)
      obtain ⟨f_135, ef_135⟩ : ∃ q, q = (gb_u f_104 0 (upd (f_104 0) 3 ((f_104 0 3) + 1))) := ⟨_, rfl⟩
      replace hP : va_P D vwCl (gb_wl b (gb_MW cT b f_135 wl_105)) H := by rw [ef_135]; exact hP
      replace h := gb_lt_s ef_135 h
      refine lv_goto (tgt := 0) hx hb dX12_advance_36 (by decide) ?_
      exact L0 n _ _ _ _ _ h hP hS (lv_sub hl [0] rfl)
theorem dX12_ends_0 : decode cX12_ends 0 = .ok (.aload_n 0, 1) := dc_42 (show ((cX12_ends.data.toList.drop 0).take 1).map UInt8.toNat = [42] by decide +kernel)
theorem dX12_ends_1 : decode cX12_ends 1 = .ok (.getfield 122, 3) := dc_180 (show ((cX12_ends.data.toList.drop 1).take 3).map UInt8.toNat = [180, 0, 122] by decide +kernel) rfl
theorem w_1132 : (Cond.fieldLink "GooseBorderModel" (122 : Nat) "GooseBorderModel" "wrong" "Z") ∈ gb_wA := gb_t5 172 rfl rfl
theorem dX12_ends_4 : decode cX12_ends 4 = .ok (.ifCond .eq 4, 3) := dc_153 (show ((cX12_ends.data.toList.drop 4).take 3).map UInt8.toNat = [153, 0, 4] by decide +kernel) rfl
theorem dX12_ends_8 : decode cX12_ends 8 = .ok (.aload_n 0, 1) := dc_42 (show ((cX12_ends.data.toList.drop 8).take 1).map UInt8.toNat = [42] by decide +kernel)
theorem dX12_ends_9 : decode cX12_ends 9 = .ok (.iconst 1, 1) := dc_4 (show ((cX12_ends.data.toList.drop 9).take 1).map UInt8.toNat = [4] by decide +kernel)
theorem dX12_ends_10 : decode cX12_ends 10 = .ok (.putfield 122, 3) := dc_181 (show ((cX12_ends.data.toList.drop 10).take 3).map UInt8.toNat = [181, 0, 122] by decide +kernel) rfl
theorem dX12_ends_13 : decode cX12_ends 13 = .ok (.aload_n 0, 1) := dc_42 (show ((cX12_ends.data.toList.drop 13).take 1).map UInt8.toNat = [42] by decide +kernel)
theorem dX12_ends_14 : decode cX12_ends 14 = .ok (.getfield 7, 3) := dc_180 (show ((cX12_ends.data.toList.drop 14).take 3).map UInt8.toNat = [180, 0, 7] by decide +kernel) rfl
theorem dX12_ends_17 : decode cX12_ends 17 = .ok (.iconst 5, 1) := dc_8 (show ((cX12_ends.data.toList.drop 17).take 1).map UInt8.toNat = [8] by decide +kernel)
theorem dX12_ends_18 : decode cX12_ends 18 = .ok (.iconst 1, 1) := dc_4 (show ((cX12_ends.data.toList.drop 18).take 1).map UInt8.toNat = [4] by decide +kernel)
theorem dX12_ends_19 : decode cX12_ends 19 = .ok (.iastore, 1) := dc_79 (show ((cX12_ends.data.toList.drop 19).take 1).map UInt8.toNat = [79] by decide +kernel)
theorem dX12_ends_20 : decode cX12_ends 20 = .ok (.aload_n 0, 1) := dc_42 (show ((cX12_ends.data.toList.drop 20).take 1).map UInt8.toNat = [42] by decide +kernel)
theorem dX12_ends_21 : decode cX12_ends 21 = .ok (.getfield 7, 3) := dc_180 (show ((cX12_ends.data.toList.drop 21).take 3).map UInt8.toNat = [180, 0, 7] by decide +kernel) rfl
theorem dX12_ends_24 : decode cX12_ends 24 = .ok (.bipush 6, 2) := dc_16 (show ((cX12_ends.data.toList.drop 24).take 2).map UInt8.toNat = [16, 6] by decide +kernel) rfl
theorem dX12_ends_26 : decode cX12_ends 26 = .ok (.aload_n 0, 1) := dc_42 (show ((cX12_ends.data.toList.drop 26).take 1).map UInt8.toNat = [42] by decide +kernel)
theorem dX12_ends_27 : decode cX12_ends 27 = .ok (.getfield 95, 3) := dc_180 (show ((cX12_ends.data.toList.drop 27).take 3).map UInt8.toNat = [180, 0, 95] by decide +kernel) rfl
theorem dX12_ends_30 : decode cX12_ends 30 = .ok (.iastore, 1) := dc_79 (show ((cX12_ends.data.toList.drop 30).take 1).map UInt8.toNat = [79] by decide +kernel)
theorem dX12_ends_31 : decode cX12_ends 31 = .ok (.return_, 1) := dc_177 (show ((cX12_ends.data.toList.drop 31).take 1).map UInt8.toNat = [177] by decide +kernel)
theorem dX12_ends_7 : decode cX12_ends 7 = .ok (.return_, 1) := dc_177 (show ((cX12_ends.data.toList.drop 7).take 1).map UInt8.toNat = [177] by decide +kernel)
def ms_ends (n : Nat) (f : gb_F) (w : Int64) : gb_MR Unit := (if (f 0 8) = 0 then gb_lt (gb_u f 0 (upd (f 0) 8 1)) (fun f_2 => gb_lt (gb_u f_2 1 (upd (f_2 1) (Int32.toNatClampNeg 5) 1)) (fun f_3 => gb_lt (gb_u f_3 1 (upd (f_3 1) (Int32.toNatClampNeg 6) (f_3 0 4))) (fun f_4 => some (f_4, w, ())))) else some (f, w, ()))
set_option maxHeartbeats 8000000 in
set_option maxRecDepth 100000 in
theorem mc_ends (l : Launch) (D : va_G) (cT : Nat → ClassId) (tt : Nat → Nat) (b1 b : Nat) (hb1 : b1 ≤ b) (n : Nat) (f : gb_F) (w : Int64) (fE : gb_F) (wE : Int64) (rE : Unit) (h : ms_ends n f w = some (fE, wE, rE)) : Met l yX12_ends (.code yX12_ends cX12_ends 1 none :: gb_wA) ({ frames := 0, cells := 0, slots := 0, locals := 0 }) (gb_Pc D cT tt b1 [.ref (b + 0)] (fun h => va_P D vwCl (gb_wl b (gb_MW cT b f w)) h)) (gb_Qv (fun h => va_P D vwCl (gb_wl b (gb_MW cT b fE wE)) h) (gb_fr b 22)) 0 0 (gb_fr b 22) := by
  refine Met.ofW (cc := cX12_ends) (maxL := 1) (ret := none) (by decide) rfl ?_
  intro p e s m args below meth c s₁ B hml hv
  obtain ⟨rfl, hSt, hP⟩ := hv
  have hx := B.exec
  have hb := B.bytes
  have hr := B.returns
  have hts := atoms_spec (ws := .code yX12_ends cX12_ends 1 none :: gb_wA) B.pre
  have hq : ∀ w ∈ gb_wA, w.before _ s = true := fun w h => hts w (List.mem_cons_of_mem _ h)
  have hown : s.vm.findClass RX12 = some m.cls := findClass_of_methodNamed B.named
  have hlocks := B.notSynchronized
  clear B hts
  have hK := hSt.1
  have hS : va_S (gb_fr b 22) s.heap s.heap [] := va_S.rf
  have hl := lv_entry ([.ref (b + 0)]) (n := 1) (Nat.le_of_ble_eq_true rfl)
  rw [lg_entry_eq]
  generalize (lg_sl ([.ref (b + 0)]) ++ List.replicate (1 - (lg_sl ([.ref (b + 0)])).length) Slot.unset).toArray = ls at hl ⊢
  replace hl : lv_has ls 1 [(0, .ref (b + 0))] := hl
  unfold ms_ends at h
  refine lv_aload_n hx hb dX12_ends_0 rfl (lv_at hl 0 rfl) ?_
  refine va_get (ci := 10) (v := (.int (f 0 8))) (C := RX12) (T := TX12) (N := 44) hx hb hq i_X12 hown hK hP 0 (gb_at b rfl) rfl 8 (by decide) (hq _ w_1132) (fun _ h9 => h9) rfl dX12_ends_1 ?_
  refine lv_if_eq (tgt := 8) hx hb dX12_ends_4 (by decide) (fun c_1 => ?_) (fun c_1 => ?_)
  · rw [if_pos c_1] at h
    refine lv_aload_n hx hb dX12_ends_8 rfl (lv_at hl 0 rfl) ?_
    refine lv_iconst (v := 1) hx hb dX12_ends_9 (by decide) ?_
    refine gb_put (ci := 10) (v := (.int 1)) (ty := .boolean) (C := RX12) (T := TX12) (N := 44) hx hb hq i_X12 tyX12 tyX12_ok nmX12 hown hK hP (fun k h => ⟨Nat.le_add_right b k, Nat.add_lt_add_left h b⟩) hS rfl 0 rfl rfl 8 (by decide) (hq _ w_1132) (fun _ h9 => h9) rfl (by decide +kernel) (by decide) (by decide) (Nat.le_of_ble_eq_true rfl) dX12_ends_10 (fun H locs hP hz_ hS => ?_)
    obtain ⟨f_2, ef_2⟩ : ∃ q, q = (gb_u f 0 (upd (f 0) 8 1)) := ⟨_, rfl⟩
    replace hP : va_P D vwCl (gb_wl b (gb_MW cT b f_2 w)) H := by rw [ef_2]; exact hP
    replace h := gb_lt_s ef_2 h
    refine lv_aload_n hx hb dX12_ends_13 rfl (lv_at hl 0 rfl) ?_
    refine va_get (ci := 10) (v := (.ref (b + 1))) (C := RX12) (T := TX12) (N := 44) hx hb hq i_X12 hown hK hP 0 (gb_at b rfl) rfl 0 (by decide) (hq _ w_1124) (fun _ h9 => h9) rfl dX12_ends_14 ?_
    refine lv_iconst (v := 5) hx hb dX12_ends_17 (by decide) ?_
    refine lv_iconst (v := 1) hx hb dX12_ends_18 (by decide) ?_
    refine gb_iast (x := 1) hx hb hK hP (fun k h => ⟨Nat.le_add_right b k, Nat.add_lt_add_left h b⟩) hS rfl 1 0 rfl rfl (gb_in rfl) dX12_ends_19 (fun H locs hP hz_ hS => ?_)
    obtain ⟨f_3, ef_3⟩ : ∃ q, q = (gb_u f_2 1 (upd (f_2 1) (Int32.toNatClampNeg 5) 1)) := ⟨_, rfl⟩
    replace hP : va_P D vwCl (gb_wl b (gb_MW cT b f_3 w)) H := by rw [ef_3]; exact hP
    replace h := gb_lt_s ef_3 h
    refine lv_aload_n hx hb dX12_ends_20 rfl (lv_at hl 0 rfl) ?_
    refine va_get (ci := 10) (v := (.ref (b + 1))) (C := RX12) (T := TX12) (N := 44) hx hb hq i_X12 hown hK hP 0 (gb_at b rfl) rfl 0 (by decide) (hq _ w_1124) (fun _ h9 => h9) rfl dX12_ends_21 ?_
    refine lv_bipush (v := 6) hx hb dX12_ends_24 (by decide) ?_
    refine lv_aload_n hx hb dX12_ends_26 rfl (lv_at hl 0 rfl) ?_
    refine va_get (ci := 10) (v := (.int (f_3 0 4))) (C := RX12) (T := TX12) (N := 44) hx hb hq i_X12 hown hK hP 0 (gb_at b rfl) rfl 4 (by decide) (hq _ w_1128) (fun _ h9 => h9) rfl dX12_ends_27 ?_
    refine gb_iast (x := (f_3 0 4)) hx hb hK hP (fun k h => ⟨Nat.le_add_right b k, Nat.add_lt_add_left h b⟩) hS rfl 1 0 rfl rfl (gb_in rfl) dX12_ends_30 (fun H locs hP hz_ hS => ?_)
    obtain ⟨f_4, ef_4⟩ : ∃ q, q = (gb_u f_3 1 (upd (f_3 1) (Int32.toNatClampNeg 6) (f_3 0 4))) := ⟨_, rfl⟩
    replace hP : va_P D vwCl (gb_wl b (gb_MW cT b f_4 w)) H := by rw [ef_4]; exact hP
    replace h := gb_lt_s ef_4 h
    obtain ⟨e1, e2, -⟩ := gb_eq3 h
    exact W.vret hx hb hr (fun t ht hW => gb_rv ht (by rw [← e1, ← e2]; exact hP) hS) hS.2.2 dX12_ends_31
  · rw [if_neg c_1] at h
    obtain ⟨e1, e2, -⟩ := gb_eq3 h
    exact W.vret hx hb hr (fun t ht hW => gb_rv ht (by rw [← e1, ← e2]; exact hP) hS) hS.2.2 dX12_ends_7
theorem dX12_also_0 : decode cX12_also 0 = .ok (.aload_n 0, 1) := dc_42 (show ((cX12_also.data.toList.drop 0).take 1).map UInt8.toNat = [42] by decide +kernel)
theorem dX12_also_1 : decode cX12_also 1 = .ok (.getfield 122, 3) := dc_180 (show ((cX12_also.data.toList.drop 1).take 3).map UInt8.toNat = [180, 0, 122] by decide +kernel) rfl
theorem dX12_also_4 : decode cX12_also 4 = .ok (.ifCond .ne 44, 3) := dc_154 (show ((cX12_also.data.toList.drop 4).take 3).map UInt8.toNat = [154, 0, 44] by decide +kernel) rfl
theorem dX12_also_48 : decode cX12_also 48 = .ok (.return_, 1) := dc_177 (show ((cX12_also.data.toList.drop 48).take 1).map UInt8.toNat = [177] by decide +kernel)
theorem dX12_also_7 : decode cX12_also 7 = .ok (.aload_n 0, 1) := dc_42 (show ((cX12_also.data.toList.drop 7).take 1).map UInt8.toNat = [42] by decide +kernel)
theorem dX12_also_8 : decode cX12_also 8 = .ok (.getfield 7, 3) := dc_180 (show ((cX12_also.data.toList.drop 8).take 3).map UInt8.toNat = [180, 0, 7] by decide +kernel) rfl
theorem dX12_also_11 : decode cX12_also 11 = .ok (.iconst 5, 1) := dc_8 (show ((cX12_also.data.toList.drop 11).take 1).map UInt8.toNat = [8] by decide +kernel)
theorem dX12_also_12 : decode cX12_also 12 = .ok (.iaload, 1) := dc_46 (show ((cX12_also.data.toList.drop 12).take 1).map UInt8.toNat = [46] by decide +kernel)
theorem dX12_also_13 : decode cX12_also 13 = .ok (.ifCond .eq 36, 3) := dc_153 (show ((cX12_also.data.toList.drop 13).take 3).map UInt8.toNat = [153, 0, 36] by decide +kernel) rfl
theorem dX12_also_49 : decode cX12_also 49 = .ok (.aload_n 0, 1) := dc_42 (show ((cX12_also.data.toList.drop 49).take 1).map UInt8.toNat = [42] by decide +kernel)
theorem dX12_also_50 : decode cX12_also 50 = .ok (.getfield 7, 3) := dc_180 (show ((cX12_also.data.toList.drop 50).take 3).map UInt8.toNat = [180, 0, 7] by decide +kernel) rfl
theorem dX12_also_53 : decode cX12_also 53 = .ok (.iconst 5, 1) := dc_8 (show ((cX12_also.data.toList.drop 53).take 1).map UInt8.toNat = [8] by decide +kernel)
theorem dX12_also_54 : decode cX12_also 54 = .ok (.iload_n 1, 1) := dc_27 (show ((cX12_also.data.toList.drop 54).take 1).map UInt8.toNat = [27] by decide +kernel)
theorem dX12_also_55 : decode cX12_also 55 = .ok (.iastore, 1) := dc_79 (show ((cX12_also.data.toList.drop 55).take 1).map UInt8.toNat = [79] by decide +kernel)
theorem dX12_also_56 : decode cX12_also 56 = .ok (.aload_n 0, 1) := dc_42 (show ((cX12_also.data.toList.drop 56).take 1).map UInt8.toNat = [42] by decide +kernel)
theorem dX12_also_57 : decode cX12_also 57 = .ok (.getfield 7, 3) := dc_180 (show ((cX12_also.data.toList.drop 57).take 3).map UInt8.toNat = [180, 0, 7] by decide +kernel) rfl
theorem dX12_also_60 : decode cX12_also 60 = .ok (.bipush 6, 2) := dc_16 (show ((cX12_also.data.toList.drop 60).take 2).map UInt8.toNat = [16, 6] by decide +kernel) rfl
theorem dX12_also_62 : decode cX12_also 62 = .ok (.iload_n 2, 1) := dc_28 (show ((cX12_also.data.toList.drop 62).take 1).map UInt8.toNat = [28] by decide +kernel)
theorem dX12_also_63 : decode cX12_also 63 = .ok (.iastore, 1) := dc_79 (show ((cX12_also.data.toList.drop 63).take 1).map UInt8.toNat = [79] by decide +kernel)
theorem dX12_also_64 : decode cX12_also 64 = .ok (.return_, 1) := dc_177 (show ((cX12_also.data.toList.drop 64).take 1).map UInt8.toNat = [177] by decide +kernel)
theorem dX12_also_16 : decode cX12_also 16 = .ok (.aload_n 0, 1) := dc_42 (show ((cX12_also.data.toList.drop 16).take 1).map UInt8.toNat = [42] by decide +kernel)
theorem dX12_also_17 : decode cX12_also 17 = .ok (.getfield 7, 3) := dc_180 (show ((cX12_also.data.toList.drop 17).take 3).map UInt8.toNat = [180, 0, 7] by decide +kernel) rfl
theorem dX12_also_20 : decode cX12_also 20 = .ok (.bipush 6, 2) := dc_16 (show ((cX12_also.data.toList.drop 20).take 2).map UInt8.toNat = [16, 6] by decide +kernel) rfl
theorem dX12_also_22 : decode cX12_also 22 = .ok (.iaload, 1) := dc_46 (show ((cX12_also.data.toList.drop 22).take 1).map UInt8.toNat = [46] by decide +kernel)
theorem dX12_also_23 : decode cX12_also 23 = .ok (.iload_n 2, 1) := dc_28 (show ((cX12_also.data.toList.drop 23).take 1).map UInt8.toNat = [28] by decide +kernel)
theorem dX12_also_24 : decode cX12_also 24 = .ok (.if_icmp .lt 24, 3) := dc_161 (show ((cX12_also.data.toList.drop 24).take 3).map UInt8.toNat = [161, 0, 24] by decide +kernel) rfl
theorem dX12_also_27 : decode cX12_also 27 = .ok (.aload_n 0, 1) := dc_42 (show ((cX12_also.data.toList.drop 27).take 1).map UInt8.toNat = [42] by decide +kernel)
theorem dX12_also_28 : decode cX12_also 28 = .ok (.getfield 7, 3) := dc_180 (show ((cX12_also.data.toList.drop 28).take 3).map UInt8.toNat = [180, 0, 7] by decide +kernel) rfl
theorem dX12_also_31 : decode cX12_also 31 = .ok (.bipush 6, 2) := dc_16 (show ((cX12_also.data.toList.drop 31).take 2).map UInt8.toNat = [16, 6] by decide +kernel) rfl
theorem dX12_also_33 : decode cX12_also 33 = .ok (.iaload, 1) := dc_46 (show ((cX12_also.data.toList.drop 33).take 1).map UInt8.toNat = [46] by decide +kernel)
theorem dX12_also_34 : decode cX12_also 34 = .ok (.iload_n 2, 1) := dc_28 (show ((cX12_also.data.toList.drop 34).take 1).map UInt8.toNat = [28] by decide +kernel)
theorem dX12_also_35 : decode cX12_also 35 = .ok (.if_icmp .ne 14, 3) := dc_160 (show ((cX12_also.data.toList.drop 35).take 3).map UInt8.toNat = [160, 0, 14] by decide +kernel) rfl
theorem dX12_also_38 : decode cX12_also 38 = .ok (.aload_n 0, 1) := dc_42 (show ((cX12_also.data.toList.drop 38).take 1).map UInt8.toNat = [42] by decide +kernel)
theorem dX12_also_39 : decode cX12_also 39 = .ok (.getfield 7, 3) := dc_180 (show ((cX12_also.data.toList.drop 39).take 3).map UInt8.toNat = [180, 0, 7] by decide +kernel) rfl
theorem dX12_also_42 : decode cX12_also 42 = .ok (.iconst 5, 1) := dc_8 (show ((cX12_also.data.toList.drop 42).take 1).map UInt8.toNat = [8] by decide +kernel)
theorem dX12_also_43 : decode cX12_also 43 = .ok (.iaload, 1) := dc_46 (show ((cX12_also.data.toList.drop 43).take 1).map UInt8.toNat = [46] by decide +kernel)
theorem dX12_also_44 : decode cX12_also 44 = .ok (.iload_n 1, 1) := dc_27 (show ((cX12_also.data.toList.drop 44).take 1).map UInt8.toNat = [27] by decide +kernel)
theorem dX12_also_45 : decode cX12_also 45 = .ok (.if_icmp .gt 4, 3) := dc_163 (show ((cX12_also.data.toList.drop 45).take 3).map UInt8.toNat = [163, 0, 4] by decide +kernel) rfl
def ms_also (n : Nat) (f : gb_F) (w : Int64) (p1 : Int32) (p2 : Int32) : gb_MR Unit := (if (f 0 8) = 0 then gb_lt (f 1 (Int32.toNatClampNeg 5)) (fun x_2 => (if x_2 = 0 then gb_lt (gb_u f 1 (upd (f 1) (Int32.toNatClampNeg 5) p1)) (fun f_4 => gb_lt (gb_u f_4 1 (upd (f_4 1) (Int32.toNatClampNeg 6) p2)) (fun f_5 => some (f_5, w, ()))) else gb_lt (f 1 (Int32.toNatClampNeg 6)) (fun x_6 => (if x_6 < p2 then some (f, w, ()) else gb_lt (f 1 (Int32.toNatClampNeg 6)) (fun x_8 => (if x_8 = p2 then gb_lt (f 1 (Int32.toNatClampNeg 5)) (fun x_12 => (if p1 < x_12 then gb_lt (gb_u f 1 (upd (f 1) (Int32.toNatClampNeg 5) p1)) (fun f_14 => gb_lt (gb_u f_14 1 (upd (f_14 1) (Int32.toNatClampNeg 6) p2)) (fun f_15 => some (f_15, w, ()))) else some (f, w, ()))) else gb_lt (gb_u f 1 (upd (f 1) (Int32.toNatClampNeg 5) p1)) (fun f_10 => gb_lt (gb_u f_10 1 (upd (f_10 1) (Int32.toNatClampNeg 6) p2)) (fun f_11 => some (f_11, w, ()))))))))) else some (f, w, ()))
set_option maxHeartbeats 8000000 in
set_option maxRecDepth 100000 in
theorem mc_also (l : Launch) (D : va_G) (cT : Nat → ClassId) (tt : Nat → Nat) (b1 b : Nat) (hb1 : b1 ≤ b) (n : Nat) (f : gb_F) (w : Int64) (p1 : Int32) (p2 : Int32) (fE : gb_F) (wE : Int64) (rE : Unit) (h : ms_also n f w p1 p2 = some (fE, wE, rE)) : Met l yX12_also (.code yX12_also cX12_also 3 none :: gb_wA) ({ frames := 0, cells := 0, slots := 0, locals := 0 }) (gb_Pc D cT tt b1 [.ref (b + 0), .int p1, .int p2] (fun h => va_P D vwCl (gb_wl b (gb_MW cT b f w)) h)) (gb_Qv (fun h => va_P D vwCl (gb_wl b (gb_MW cT b fE wE)) h) (gb_fr b 22)) 0 0 (gb_fr b 22) := by
  refine Met.ofW (cc := cX12_also) (maxL := 3) (ret := none) (by decide) rfl ?_
  intro p e s m args below meth c s₁ B hml hv
  obtain ⟨rfl, hSt, hP⟩ := hv
  have hx := B.exec
  have hb := B.bytes
  have hr := B.returns
  have hts := atoms_spec (ws := .code yX12_also cX12_also 3 none :: gb_wA) B.pre
  have hq : ∀ w ∈ gb_wA, w.before _ s = true := fun w h => hts w (List.mem_cons_of_mem _ h)
  have hown : s.vm.findClass RX12 = some m.cls := findClass_of_methodNamed B.named
  have hlocks := B.notSynchronized
  clear B hts
  have hK := hSt.1
  have hS : va_S (gb_fr b 22) s.heap s.heap [] := va_S.rf
  have hl := lv_entry ([.ref (b + 0), .int p1, .int p2]) (n := 3) (Nat.le_of_ble_eq_true rfl)
  rw [lg_entry_eq]
  generalize (lg_sl ([.ref (b + 0), .int p1, .int p2]) ++ List.replicate (3 - (lg_sl ([.ref (b + 0), .int p1, .int p2])).length) Slot.unset).toArray = ls at hl ⊢
  replace hl : lv_has ls 3 [(0, .ref (b + 0)), (1, .int p1), (2, .int p2)] := hl
  unfold ms_also at h
  refine lv_aload_n hx hb dX12_also_0 rfl (lv_at hl 0 rfl) ?_
  refine va_get (ci := 10) (v := (.int (f 0 8))) (C := RX12) (T := TX12) (N := 44) hx hb hq i_X12 hown hK hP 0 (gb_at b rfl) rfl 8 (by decide) (hq _ w_1132) (fun _ h9 => h9) rfl dX12_also_1 ?_
  refine lv_if_ne (tgt := 48) hx hb dX12_also_4 (by decide) (fun c_1 => ?_) (fun c_1 => ?_)
  · rw [if_neg c_1] at h
    obtain ⟨e1, e2, -⟩ := gb_eq3 h
    exact W.vret hx hb hr (fun t ht hW => gb_rv ht (by rw [← e1, ← e2]; exact hP) hS) hS.2.2 dX12_also_48
  · rw [if_pos c_1] at h
    refine lv_aload_n hx hb dX12_also_7 rfl (lv_at hl 0 rfl) ?_
    refine va_get (ci := 10) (v := (.ref (b + 1))) (C := RX12) (T := TX12) (N := 44) hx hb hq i_X12 hown hK hP 0 (gb_at b rfl) rfl 0 (by decide) (hq _ w_1124) (fun _ h9 => h9) rfl dX12_also_8 ?_
    refine lv_iconst (v := 5) hx hb dX12_also_11 (by decide) ?_
    refine va_iald hx hb hK hP 1 0 (gb_at b rfl) rfl (gb_in rfl) dX12_also_12 ?_
    refine lv_topi (fun x_2 ex_2 => ?_)
    replace h := gb_lt_s ex_2 h
    refine lv_if_eq (tgt := 49) hx hb dX12_also_13 (by decide) (fun c_3 => ?_) (fun c_3 => ?_)
    · rw [if_pos c_3] at h
      refine lv_aload_n hx hb dX12_also_49 rfl (lv_at hl 0 rfl) ?_
      refine va_get (ci := 10) (v := (.ref (b + 1))) (C := RX12) (T := TX12) (N := 44) hx hb hq i_X12 hown hK hP 0 (gb_at b rfl) rfl 0 (by decide) (hq _ w_1124) (fun _ h9 => h9) rfl dX12_also_50 ?_
      refine lv_iconst (v := 5) hx hb dX12_also_53 (by decide) ?_
      refine lv_iload_n hx hb dX12_also_54 rfl (lv_at hl 1 rfl) ?_
      refine gb_iast (x := p1) hx hb hK hP (fun k h => ⟨Nat.le_add_right b k, Nat.add_lt_add_left h b⟩) hS rfl 1 0 rfl rfl (gb_in rfl) dX12_also_55 (fun H locs hP hz_ hS => ?_)
      obtain ⟨f_4, ef_4⟩ : ∃ q, q = (gb_u f 1 (upd (f 1) (Int32.toNatClampNeg 5) p1)) := ⟨_, rfl⟩
      replace hP : va_P D vwCl (gb_wl b (gb_MW cT b f_4 w)) H := by rw [ef_4]; exact hP
      replace h := gb_lt_s ef_4 h
      refine lv_aload_n hx hb dX12_also_56 rfl (lv_at hl 0 rfl) ?_
      refine va_get (ci := 10) (v := (.ref (b + 1))) (C := RX12) (T := TX12) (N := 44) hx hb hq i_X12 hown hK hP 0 (gb_at b rfl) rfl 0 (by decide) (hq _ w_1124) (fun _ h9 => h9) rfl dX12_also_57 ?_
      refine lv_bipush (v := 6) hx hb dX12_also_60 (by decide) ?_
      refine lv_iload_n hx hb dX12_also_62 rfl (lv_at hl 2 rfl) ?_
      refine gb_iast (x := p2) hx hb hK hP (fun k h => ⟨Nat.le_add_right b k, Nat.add_lt_add_left h b⟩) hS rfl 1 0 rfl rfl (gb_in rfl) dX12_also_63 (fun H locs hP hz_ hS => ?_)
      obtain ⟨f_5, ef_5⟩ : ∃ q, q = (gb_u f_4 1 (upd (f_4 1) (Int32.toNatClampNeg 6) p2)) := ⟨_, rfl⟩
      replace hP : va_P D vwCl (gb_wl b (gb_MW cT b f_5 w)) H := by rw [ef_5]; exact hP
      replace h := gb_lt_s ef_5 h
      obtain ⟨e1, e2, -⟩ := gb_eq3 h
      exact W.vret hx hb hr (fun t ht hW => gb_rv ht (by rw [← e1, ← e2]; exact hP) hS) hS.2.2 dX12_also_64
    · rw [if_neg c_3] at h
      refine lv_aload_n hx hb dX12_also_16 rfl (lv_at hl 0 rfl) ?_
      refine va_get (ci := 10) (v := (.ref (b + 1))) (C := RX12) (T := TX12) (N := 44) hx hb hq i_X12 hown hK hP 0 (gb_at b rfl) rfl 0 (by decide) (hq _ w_1124) (fun _ h9 => h9) rfl dX12_also_17 ?_
      refine lv_bipush (v := 6) hx hb dX12_also_20 (by decide) ?_
      refine va_iald hx hb hK hP 1 0 (gb_at b rfl) rfl (gb_in rfl) dX12_also_22 ?_
      refine lv_topi (fun x_6 ex_6 => ?_)
      replace h := gb_lt_s ex_6 h
      refine lv_iload_n hx hb dX12_also_23 rfl (lv_at hl 2 rfl) ?_
      refine lv_icmp_lt (tgt := 48) hx hb dX12_also_24 (by decide) (fun c_7 => ?_) (fun c_7 => ?_)
      · rw [if_pos c_7] at h
        obtain ⟨e1, e2, -⟩ := gb_eq3 h
        exact W.vret hx hb hr (fun t ht hW => gb_rv ht (by rw [← e1, ← e2]; exact hP) hS) hS.2.2 dX12_also_48
      · rw [if_neg c_7] at h
        refine lv_aload_n hx hb dX12_also_27 rfl (lv_at hl 0 rfl) ?_
        refine va_get (ci := 10) (v := (.ref (b + 1))) (C := RX12) (T := TX12) (N := 44) hx hb hq i_X12 hown hK hP 0 (gb_at b rfl) rfl 0 (by decide) (hq _ w_1124) (fun _ h9 => h9) rfl dX12_also_28 ?_
        refine lv_bipush (v := 6) hx hb dX12_also_31 (by decide) ?_
        refine va_iald hx hb hK hP 1 0 (gb_at b rfl) rfl (gb_in rfl) dX12_also_33 ?_
        refine lv_topi (fun x_8 ex_8 => ?_)
        replace h := gb_lt_s ex_8 h
        refine lv_iload_n hx hb dX12_also_34 rfl (lv_at hl 2 rfl) ?_
        refine lv_icmp_ne (tgt := 49) hx hb dX12_also_35 (by decide) (fun c_9 => ?_) (fun c_9 => ?_)
        · rw [if_neg c_9] at h
          refine lv_aload_n hx hb dX12_also_49 rfl (lv_at hl 0 rfl) ?_
          refine va_get (ci := 10) (v := (.ref (b + 1))) (C := RX12) (T := TX12) (N := 44) hx hb hq i_X12 hown hK hP 0 (gb_at b rfl) rfl 0 (by decide) (hq _ w_1124) (fun _ h9 => h9) rfl dX12_also_50 ?_
          refine lv_iconst (v := 5) hx hb dX12_also_53 (by decide) ?_
          refine lv_iload_n hx hb dX12_also_54 rfl (lv_at hl 1 rfl) ?_
          refine gb_iast (x := p1) hx hb hK hP (fun k h => ⟨Nat.le_add_right b k, Nat.add_lt_add_left h b⟩) hS rfl 1 0 rfl rfl (gb_in rfl) dX12_also_55 (fun H locs hP hz_ hS => ?_)
          obtain ⟨f_10, ef_10⟩ : ∃ q, q = (gb_u f 1 (upd (f 1) (Int32.toNatClampNeg 5) p1)) := ⟨_, rfl⟩
          replace hP : va_P D vwCl (gb_wl b (gb_MW cT b f_10 w)) H := by rw [ef_10]; exact hP
          replace h := gb_lt_s ef_10 h
          refine lv_aload_n hx hb dX12_also_56 rfl (lv_at hl 0 rfl) ?_
          refine va_get (ci := 10) (v := (.ref (b + 1))) (C := RX12) (T := TX12) (N := 44) hx hb hq i_X12 hown hK hP 0 (gb_at b rfl) rfl 0 (by decide) (hq _ w_1124) (fun _ h9 => h9) rfl dX12_also_57 ?_
          refine lv_bipush (v := 6) hx hb dX12_also_60 (by decide) ?_
          refine lv_iload_n hx hb dX12_also_62 rfl (lv_at hl 2 rfl) ?_
          refine gb_iast (x := p2) hx hb hK hP (fun k h => ⟨Nat.le_add_right b k, Nat.add_lt_add_left h b⟩) hS rfl 1 0 rfl rfl (gb_in rfl) dX12_also_63 (fun H locs hP hz_ hS => ?_)
          obtain ⟨f_11, ef_11⟩ : ∃ q, q = (gb_u f_10 1 (upd (f_10 1) (Int32.toNatClampNeg 6) p2)) := ⟨_, rfl⟩
          replace hP : va_P D vwCl (gb_wl b (gb_MW cT b f_11 w)) H := by rw [ef_11]; exact hP
          replace h := gb_lt_s ef_11 h
          obtain ⟨e1, e2, -⟩ := gb_eq3 h
          exact W.vret hx hb hr (fun t ht hW => gb_rv ht (by rw [← e1, ← e2]; exact hP) hS) hS.2.2 dX12_also_64
        · rw [if_pos c_9] at h
          refine lv_aload_n hx hb dX12_also_38 rfl (lv_at hl 0 rfl) ?_
          refine va_get (ci := 10) (v := (.ref (b + 1))) (C := RX12) (T := TX12) (N := 44) hx hb hq i_X12 hown hK hP 0 (gb_at b rfl) rfl 0 (by decide) (hq _ w_1124) (fun _ h9 => h9) rfl dX12_also_39 ?_
          refine lv_iconst (v := 5) hx hb dX12_also_42 (by decide) ?_
          refine va_iald hx hb hK hP 1 0 (gb_at b rfl) rfl (gb_in rfl) dX12_also_43 ?_
          refine lv_topi (fun x_12 ex_12 => ?_)
          replace h := gb_lt_s ex_12 h
          refine lv_iload_n hx hb dX12_also_44 rfl (lv_at hl 1 rfl) ?_
          refine lv_icmp_gt (tgt := 49) hx hb dX12_also_45 (by decide) (fun c_13 => ?_) (fun c_13 => ?_)
          · rw [if_pos c_13] at h
            refine lv_aload_n hx hb dX12_also_49 rfl (lv_at hl 0 rfl) ?_
            refine va_get (ci := 10) (v := (.ref (b + 1))) (C := RX12) (T := TX12) (N := 44) hx hb hq i_X12 hown hK hP 0 (gb_at b rfl) rfl 0 (by decide) (hq _ w_1124) (fun _ h9 => h9) rfl dX12_also_50 ?_
            refine lv_iconst (v := 5) hx hb dX12_also_53 (by decide) ?_
            refine lv_iload_n hx hb dX12_also_54 rfl (lv_at hl 1 rfl) ?_
            refine gb_iast (x := p1) hx hb hK hP (fun k h => ⟨Nat.le_add_right b k, Nat.add_lt_add_left h b⟩) hS rfl 1 0 rfl rfl (gb_in rfl) dX12_also_55 (fun H locs hP hz_ hS => ?_)
            obtain ⟨f_14, ef_14⟩ : ∃ q, q = (gb_u f 1 (upd (f 1) (Int32.toNatClampNeg 5) p1)) := ⟨_, rfl⟩
            replace hP : va_P D vwCl (gb_wl b (gb_MW cT b f_14 w)) H := by rw [ef_14]; exact hP
            replace h := gb_lt_s ef_14 h
            refine lv_aload_n hx hb dX12_also_56 rfl (lv_at hl 0 rfl) ?_
            refine va_get (ci := 10) (v := (.ref (b + 1))) (C := RX12) (T := TX12) (N := 44) hx hb hq i_X12 hown hK hP 0 (gb_at b rfl) rfl 0 (by decide) (hq _ w_1124) (fun _ h9 => h9) rfl dX12_also_57 ?_
            refine lv_bipush (v := 6) hx hb dX12_also_60 (by decide) ?_
            refine lv_iload_n hx hb dX12_also_62 rfl (lv_at hl 2 rfl) ?_
            refine gb_iast (x := p2) hx hb hK hP (fun k h => ⟨Nat.le_add_right b k, Nat.add_lt_add_left h b⟩) hS rfl 1 0 rfl rfl (gb_in rfl) dX12_also_63 (fun H locs hP hz_ hS => ?_)
            obtain ⟨f_15, ef_15⟩ : ∃ q, q = (gb_u f_14 1 (upd (f_14 1) (Int32.toNatClampNeg 6) p2)) := ⟨_, rfl⟩
            replace hP : va_P D vwCl (gb_wl b (gb_MW cT b f_15 w)) H := by rw [ef_15]; exact hP
            replace h := gb_lt_s ef_15 h
            obtain ⟨e1, e2, -⟩ := gb_eq3 h
            exact W.vret hx hb hr (fun t ht hW => gb_rv ht (by rw [← e1, ← e2]; exact hP) hS) hS.2.2 dX12_also_64
          · rw [if_neg c_13] at h
            obtain ⟨e1, e2, -⟩ := gb_eq3 h
            exact W.vret hx hb hr (fun t ht hW => gb_rv ht (by rw [← e1, ← e2]; exact hP) hS) hS.2.2 dX12_also_48
theorem dX12_numbered_0 : decode cX12_numbered 0 = .ok (.aload_n 0, 1) := dc_42 (show ((cX12_numbered.data.toList.drop 0).take 1).map UInt8.toNat = [42] by decide +kernel)
theorem dX12_numbered_1 : decode cX12_numbered 1 = .ok (.getfield 122, 3) := dc_180 (show ((cX12_numbered.data.toList.drop 1).take 3).map UInt8.toNat = [180, 0, 122] by decide +kernel) rfl
theorem dX12_numbered_4 : decode cX12_numbered 4 = .ok (.ifCond .ne 11, 3) := dc_154 (show ((cX12_numbered.data.toList.drop 4).take 3).map UInt8.toNat = [154, 0, 11] by decide +kernel) rfl
theorem dX12_numbered_15 : decode cX12_numbered 15 = .ok (.aload_n 0, 1) := dc_42 (show ((cX12_numbered.data.toList.drop 15).take 1).map UInt8.toNat = [42] by decide +kernel)
theorem dX12_numbered_16 : decode cX12_numbered 16 = .ok (.invokevirtual 126, 3) := dc_182 (show ((cX12_numbered.data.toList.drop 16).take 3).map UInt8.toNat = [182, 0, 126] by decide +kernel) rfl
theorem w_1313 : (Cond.code ({ cls := "GooseBorderModel", name := "ends", desc := "()V" } : MethodName) prog_14_method_12_code (1 : Nat) (Option.none : Option FieldType)) ∈ gb_wA := gb_t6 113 rfl rfl
theorem w_1310 : (Cond.methodLink "GooseBorderModel" (126 : Nat) ({ cls := "GooseBorderModel", name := "ends", desc := "()V" } : MethodName)) ∈ gb_wA := gb_t6 110 rfl rfl
theorem w_1312 : (Cond.instanceMethod ({ cls := "GooseBorderModel", name := "ends", desc := "()V" } : MethodName)) ∈ gb_wA := gb_t6 112 rfl rfl
theorem s_3_5 : Cond.selects "GooseBorderModel" (⟨"GooseBorderModel", "ends", "()V"⟩ : MethodName) (⟨"GooseBorderModel", "ends", "()V"⟩ : MethodName) ∈ gb_wA := gb_s3 5 rfl rfl
theorem dX12_numbered_19 : decode cX12_numbered 19 = .ok (.iload_n 1, 1) := dc_27 (show ((cX12_numbered.data.toList.drop 19).take 1).map UInt8.toNat = [27] by decide +kernel)
theorem dX12_numbered_20 : decode cX12_numbered 20 = .ok (.ireturn, 1) := dc_172 (show ((cX12_numbered.data.toList.drop 20).take 1).map UInt8.toNat = [172] by decide +kernel)
theorem dX12_numbered_7 : decode cX12_numbered 7 = .ok (.aload_n 0, 1) := dc_42 (show ((cX12_numbered.data.toList.drop 7).take 1).map UInt8.toNat = [42] by decide +kernel)
theorem dX12_numbered_8 : decode cX12_numbered 8 = .ok (.getfield 98, 3) := dc_180 (show ((cX12_numbered.data.toList.drop 8).take 3).map UInt8.toNat = [180, 0, 98] by decide +kernel) rfl
theorem dX12_numbered_11 : decode cX12_numbered 11 = .ok (.iconst 1, 1) := dc_4 (show ((cX12_numbered.data.toList.drop 11).take 1).map UInt8.toNat = [4] by decide +kernel)
theorem dX12_numbered_12 : decode cX12_numbered 12 = .ok (.if_icmp .eq 9, 3) := dc_159 (show ((cX12_numbered.data.toList.drop 12).take 3).map UInt8.toNat = [159, 0, 9] by decide +kernel) rfl
theorem dX12_numbered_21 : decode cX12_numbered 21 = .ok (.aload_n 0, 1) := dc_42 (show ((cX12_numbered.data.toList.drop 21).take 1).map UInt8.toNat = [42] by decide +kernel)
theorem dX12_numbered_22 : decode cX12_numbered 22 = .ok (.getfield 119, 3) := dc_180 (show ((cX12_numbered.data.toList.drop 22).take 3).map UInt8.toNat = [180, 0, 119] by decide +kernel) rfl
theorem dX12_numbered_25 : decode cX12_numbered 25 = .ok (.istore_n 3, 1) := dc_62 (show ((cX12_numbered.data.toList.drop 25).take 1).map UInt8.toNat = [62] by decide +kernel)
theorem dX12_numbered_26 : decode cX12_numbered 26 = .ok (.iload_n 3, 1) := dc_29 (show ((cX12_numbered.data.toList.drop 26).take 1).map UInt8.toNat = [29] by decide +kernel)
theorem dX12_numbered_27 : decode cX12_numbered 27 = .ok (.iload_n 1, 1) := dc_27 (show ((cX12_numbered.data.toList.drop 27).take 1).map UInt8.toNat = [27] by decide +kernel)
theorem dX12_numbered_28 : decode cX12_numbered 28 = .ok (.iload_n 2, 1) := dc_28 (show ((cX12_numbered.data.toList.drop 28).take 1).map UInt8.toNat = [28] by decide +kernel)
theorem dX12_numbered_29 : decode cX12_numbered 29 = .ok (.invokestatic 129, 3) := dc_184 (show ((cX12_numbered.data.toList.drop 29).take 3).map UInt8.toNat = [184, 0, 129] by decide +kernel) rfl
theorem w_1271 : (Cond.code ({ cls := "GooseBorderModel", name := "isIn", desc := "(III)Z" } : MethodName) prog_14_method_2_code (3 : Nat) (Option.some FieldType.boolean)) ∈ gb_wA := gb_t6 71 rfl rfl
theorem w_1269 : (Cond.methodLink "GooseBorderModel" (129 : Nat) ({ cls := "GooseBorderModel", name := "isIn", desc := "(III)Z" } : MethodName)) ∈ gb_wA := gb_t6 69 rfl rfl
theorem w_1270 : (Cond.static ({ cls := "GooseBorderModel", name := "isIn", desc := "(III)Z" } : MethodName)) ∈ gb_wA := gb_t6 70 rfl rfl
theorem dX12_numbered_32 : decode cX12_numbered 32 = .ok (.ifCond .ne 12, 3) := dc_154 (show ((cX12_numbered.data.toList.drop 32).take 3).map UInt8.toNat = [154, 0, 12] by decide +kernel) rfl
theorem dX12_numbered_44 : decode cX12_numbered 44 = .ok (.aload_n 0, 1) := dc_42 (show ((cX12_numbered.data.toList.drop 44).take 1).map UInt8.toNat = [42] by decide +kernel)
theorem dX12_numbered_45 : decode cX12_numbered 45 = .ok (.invokevirtual 137, 3) := dc_182 (show ((cX12_numbered.data.toList.drop 45).take 3).map UInt8.toNat = [182, 0, 137] by decide +kernel) rfl
theorem w_1279 : (Cond.code ({ cls := "GooseBorderModel", name := "advance", desc := "()V" } : MethodName) prog_14_method_11_code (4 : Nat) (Option.none : Option FieldType)) ∈ gb_wA := gb_t6 79 rfl rfl
theorem w_1276 : (Cond.methodLink "GooseBorderModel" (137 : Nat) ({ cls := "GooseBorderModel", name := "advance", desc := "()V" } : MethodName)) ∈ gb_wA := gb_t6 76 rfl rfl
theorem w_1278 : (Cond.instanceMethod ({ cls := "GooseBorderModel", name := "advance", desc := "()V" } : MethodName)) ∈ gb_wA := gb_t6 78 rfl rfl
theorem s_3_1 : Cond.selects "GooseBorderModel" (⟨"GooseBorderModel", "advance", "()V"⟩ : MethodName) (⟨"GooseBorderModel", "advance", "()V"⟩ : MethodName) ∈ gb_wA := gb_s3 1 rfl rfl
theorem dX12_numbered_48 : decode cX12_numbered 48 = .ok (.iload_n 3, 1) := dc_29 (show ((cX12_numbered.data.toList.drop 48).take 1).map UInt8.toNat = [29] by decide +kernel)
theorem dX12_numbered_49 : decode cX12_numbered 49 = .ok (.iload_n 1, 1) := dc_27 (show ((cX12_numbered.data.toList.drop 49).take 1).map UInt8.toNat = [27] by decide +kernel)
theorem dX12_numbered_50 : decode cX12_numbered 50 = .ok (.iload_n 2, 1) := dc_28 (show ((cX12_numbered.data.toList.drop 50).take 1).map UInt8.toNat = [28] by decide +kernel)
theorem dX12_numbered_51 : decode cX12_numbered 51 = .ok (.invokestatic 129, 3) := dc_184 (show ((cX12_numbered.data.toList.drop 51).take 3).map UInt8.toNat = [184, 0, 129] by decide +kernel) rfl
theorem dX12_numbered_54 : decode cX12_numbered 54 = .ok (.ifCond .eq 7, 3) := dc_153 (show ((cX12_numbered.data.toList.drop 54).take 3).map UInt8.toNat = [153, 0, 7] by decide +kernel) rfl
theorem dX12_numbered_61 : decode cX12_numbered 61 = .ok (.iload_n 1, 1) := dc_27 (show ((cX12_numbered.data.toList.drop 61).take 1).map UInt8.toNat = [27] by decide +kernel)
theorem dX12_numbered_62 : decode cX12_numbered 62 = .ok (.ireturn, 1) := dc_172 (show ((cX12_numbered.data.toList.drop 62).take 1).map UInt8.toNat = [172] by decide +kernel)
theorem dX12_numbered_57 : decode cX12_numbered 57 = .ok (.iload_n 3, 1) := dc_29 (show ((cX12_numbered.data.toList.drop 57).take 1).map UInt8.toNat = [29] by decide +kernel)
theorem dX12_numbered_58 : decode cX12_numbered 58 = .ok (.goto 4, 3) := dc_167 (show ((cX12_numbered.data.toList.drop 58).take 3).map UInt8.toNat = [167, 0, 4] by decide +kernel) rfl
theorem dX12_numbered_35 : decode cX12_numbered 35 = .ok (.aload_n 0, 1) := dc_42 (show ((cX12_numbered.data.toList.drop 35).take 1).map UInt8.toNat = [42] by decide +kernel)
theorem dX12_numbered_36 : decode cX12_numbered 36 = .ok (.iconst 2, 1) := dc_5 (show ((cX12_numbered.data.toList.drop 36).take 1).map UInt8.toNat = [5] by decide +kernel)
theorem dX12_numbered_37 : decode cX12_numbered 37 = .ok (.aload_n 0, 1) := dc_42 (show ((cX12_numbered.data.toList.drop 37).take 1).map UInt8.toNat = [42] by decide +kernel)
theorem dX12_numbered_38 : decode cX12_numbered 38 = .ok (.getfield 95, 3) := dc_180 (show ((cX12_numbered.data.toList.drop 38).take 3).map UInt8.toNat = [180, 0, 95] by decide +kernel) rfl
theorem dX12_numbered_41 : decode cX12_numbered 41 = .ok (.invokevirtual 133, 3) := dc_182 (show ((cX12_numbered.data.toList.drop 41).take 3).map UInt8.toNat = [182, 0, 133] by decide +kernel) rfl
theorem w_1321 : (Cond.code ({ cls := "GooseBorderModel", name := "also", desc := "(II)V" } : MethodName) prog_14_method_13_code (3 : Nat) (Option.none : Option FieldType)) ∈ gb_wA := gb_t6 121 rfl rfl
theorem w_1318 : (Cond.methodLink "GooseBorderModel" (133 : Nat) ({ cls := "GooseBorderModel", name := "also", desc := "(II)V" } : MethodName)) ∈ gb_wA := gb_t6 118 rfl rfl
theorem w_1320 : (Cond.instanceMethod ({ cls := "GooseBorderModel", name := "also", desc := "(II)V" } : MethodName)) ∈ gb_wA := gb_t6 120 rfl rfl
theorem s_3_7 : Cond.selects "GooseBorderModel" (⟨"GooseBorderModel", "also", "(II)V"⟩ : MethodName) (⟨"GooseBorderModel", "also", "(II)V"⟩ : MethodName) ∈ gb_wA := gb_s3 7 rfl rfl
def ms_numbered (n : Nat) (f : gb_F) (w : Int64) (p1 : Int32) (p2 : Int32) : gb_MR Int32 := (if (f 0 8) = 0 then (if (f 0 5) = 1 then gb_lt (f 0 6) (fun x_8 => gb_bd (ms_isIn n f w x_8 p1 p2) (fun f_9 wl_10 r_11 => (if r_11 = 0 then gb_bd (ms_also n f_9 wl_10 2 (f_9 0 4)) (fun f_26 wl_27 _ => gb_bd (ms_advance n f_26 wl_27) (fun f_31 wl_32 _ => gb_bd (ms_isIn n f_31 wl_32 x_8 p1 p2) (fun f_36 wl_37 r_38 => (if r_38 = 0 then some (f_36, wl_37, p1) else some (f_36, wl_37, x_8))))) else gb_bd (ms_advance n f_9 wl_10) (fun f_15 wl_16 _ => gb_bd (ms_isIn n f_15 wl_16 x_8 p1 p2) (fun f_20 wl_21 r_22 => (if r_22 = 0 then some (f_20, wl_21, p1) else some (f_20, wl_21, x_8))))))) else gb_bd (ms_ends n f w) (fun f_42 wl_43 _ => some (f_42, wl_43, p1))) else gb_bd (ms_ends n f w) (fun f_2 wl_3 _ => some (f_2, wl_3, p1)))
set_option maxHeartbeats 8000000 in
set_option maxRecDepth 100000 in
theorem mc_numbered (l : Launch) (D : va_G) (cT : Nat → ClassId) (tt : Nat → Nat) (b1 b : Nat) (hb1 : b1 ≤ b) (n : Nat) (f : gb_F) (w : Int64) (p1 : Int32) (p2 : Int32) (fE : gb_F) (wE : Int64) (rE : Int32) (h : ms_numbered n f w p1 p2 = some (fE, wE, rE)) : Met l yX12_numbered (.code yX12_numbered cX12_numbered 4 (some FieldType.int) :: gb_wA) ({ frames := 4, cells := 0, slots := 0, locals := 94 }) (gb_Pc D cT tt b1 [.ref (b + 0), .int p1, .int p2] (fun h => va_P D vwCl (gb_wl b (gb_MW cT b f w)) h)) (gb_Qi (fun r h => r = rE ∧ va_P D vwCl (gb_wl b (gb_MW cT b fE wE)) h) (gb_fr b 22)) 0 0 (gb_fr b 22) := by
  refine Met.ofW (cc := cX12_numbered) (maxL := 4) (ret := (some FieldType.int)) (by decide) rfl ?_
  intro p e s m args below meth c s₁ B hml hv
  obtain ⟨rfl, hSt, hP⟩ := hv
  have hx := B.exec
  have hb := B.bytes
  have hr := B.returns
  have hts := atoms_spec (ws := .code yX12_numbered cX12_numbered 4 (some FieldType.int) :: gb_wA) B.pre
  have hq : ∀ w ∈ gb_wA, w.before _ s = true := fun w h => hts w (List.mem_cons_of_mem _ h)
  have hown : s.vm.findClass RX12 = some m.cls := findClass_of_methodNamed B.named
  have hlocks := B.notSynchronized
  clear B hts
  have hK := hSt.1
  have hS : va_S (gb_fr b 22) s.heap s.heap [] := va_S.rf
  have hl := lv_entry ([.ref (b + 0), .int p1, .int p2]) (n := 4) (Nat.le_of_ble_eq_true rfl)
  rw [lg_entry_eq]
  generalize (lg_sl ([.ref (b + 0), .int p1, .int p2]) ++ List.replicate (4 - (lg_sl ([.ref (b + 0), .int p1, .int p2])).length) Slot.unset).toArray = ls at hl ⊢
  replace hl : lv_has ls 4 [(0, .ref (b + 0)), (1, .int p1), (2, .int p2)] := hl
  unfold ms_numbered at h
  refine lv_aload_n hx hb dX12_numbered_0 rfl (lv_at hl 0 rfl) ?_
  refine va_get (ci := 10) (v := (.int (f 0 8))) (C := RX12) (T := TX12) (N := 44) hx hb hq i_X12 hown hK hP 0 (gb_at b rfl) rfl 8 (by decide) (hq _ w_1132) (fun _ h9 => h9) rfl dX12_numbered_1 ?_
  refine lv_if_ne (tgt := 15) hx hb dX12_numbered_4 (by decide) (fun c_1 => ?_) (fun c_1 => ?_)
  · rw [if_neg c_1] at h
    refine lv_aload_n hx hb dX12_numbered_15 rfl (lv_at hl 0 rfl) ?_
    obtain ⟨f_2, wl_3, r_4, z_5, h⟩ := gb_bd_s h
    refine gb_callv (va_runV (C := RX12) (As := []) (rest := []) ⟨hx, hb, hml, hown, hq⟩ (mc_ends l D cT tt b1 b hb1 n f w f_2 wl_3 r_4 z_5) (cwV 0 hq (gb_gV w_1310 w_1312 s_3_5 w_14 w_1313) rfl rfl rfl (by decide +kernel) ⟨Nat.le_of_ble_eq_true rfl, Nat.le_of_ble_eq_true rfl⟩) (gb_preV (r := (RX12, TX12, 44)) (ci := 10) (q0 := 0) hSt hP rfl (gb_at b rfl) hS (fun q h => Nat.le_trans hb1 h.1) hP) rfl rfl hl.1 rfl (lv_room (Nat.le_of_ble_eq_true rfl)) dX12_numbered_16 ⟨Nat.le_of_ble_eq_true rfl, Nat.le_of_ble_eq_true rfl⟩) hS (fun _ h => h) (fun _ h => h) (fun H locs hY hk hS => ?_)
    have hP := hY
    refine lv_iload_n hx hb dX12_numbered_19 rfl (lv_at hl 1 rfl) ?_
    obtain ⟨e1, e2, e3⟩ := gb_eq3 h
    exact W.iret (v := p1) hx hb hr (fun t ht hW => gb_ri ht ⟨e3, by rw [← e1, ← e2]; exact hP⟩ hS) hS.2.2 dX12_numbered_20
  · rw [if_pos c_1] at h
    refine lv_aload_n hx hb dX12_numbered_7 rfl (lv_at hl 0 rfl) ?_
    refine va_get (ci := 10) (v := (.int (f 0 5))) (C := RX12) (T := TX12) (N := 44) hx hb hq i_X12 hown hK hP 0 (gb_at b rfl) rfl 5 (by decide) (hq _ w_1129) (fun _ h9 => h9) rfl dX12_numbered_8 ?_
    refine lv_iconst (v := 1) hx hb dX12_numbered_11 (by decide) ?_
    refine lv_icmp_eq (tgt := 21) hx hb dX12_numbered_12 (by decide) (fun c_7 => ?_) (fun c_7 => ?_)
    · rw [if_pos c_7] at h
      refine lv_aload_n hx hb dX12_numbered_21 rfl (lv_at hl 0 rfl) ?_
      refine va_get (ci := 10) (v := (.int (f 0 6))) (C := RX12) (T := TX12) (N := 44) hx hb hq i_X12 hown hK hP 0 (gb_at b rfl) rfl 6 (by decide) (hq _ w_1130) (fun _ h9 => h9) rfl dX12_numbered_22 ?_
      refine lv_topi (fun x_8 ex_8 => ?_)
      replace h := gb_lt_s ex_8 h
      refine lv_istore_n (lv' := [(3, .int x_8), (0, .ref (b + 0)), (1, .int p1), (2, .int p2)]) hx hb dX12_numbered_25 rfl hl (by decide) rfl (fun ls hl => ?_)
      refine lv_iload_n hx hb dX12_numbered_26 rfl (lv_at hl 0 rfl) ?_
      refine lv_iload_n hx hb dX12_numbered_27 rfl (lv_at hl 2 rfl) ?_
      refine lv_iload_n hx hb dX12_numbered_28 rfl (lv_at hl 3 rfl) ?_
      obtain ⟨f_9, wl_10, r_11, z_12, h⟩ := gb_bd_s h
      refine gb_calli (va_runS (As := [.int x_8, .int p1, .int p2]) (rest := []) ⟨hx, hb, hml, hown, hq⟩ (mc_isIn l D cT tt b1 b hb1 n f w x_8 p1 p2 f_9 wl_10 r_11 z_12) (va_cwS 3 hq (gb_gS w_1269 w_1270 w_14 w_1271) rfl rfl rfl (by decide +kernel) ⟨Nat.le_of_ble_eq_true rfl, Nat.le_of_ble_eq_true rfl⟩) (gb_preS hSt hS (fun q h => Nat.le_trans hb1 h.1) hP) rfl rfl hl.1 rfl (lv_room (Nat.le_of_ble_eq_true rfl)) dX12_numbered_29 ⟨Nat.le_of_ble_eq_true rfl, Nat.le_of_ble_eq_true rfl⟩) hS (fun _ h => h) (fun _ h => h) (fun q_13 H locs hY hk hS => ?_)
      obtain ⟨hq_13, hP⟩ := hY
      replace hq_13 := hq_13.symm
      subst hq_13
      refine lv_if_ne (tgt := 44) hx hb dX12_numbered_32 (by decide) (fun c_14 => ?_) (fun c_14 => ?_)
      · rw [if_neg c_14] at h
        refine lv_aload_n hx hb dX12_numbered_44 rfl (lv_at hl 1 rfl) ?_
        obtain ⟨f_15, wl_16, r_17, z_18, h⟩ := gb_bd_s h
        refine gb_callv (va_runV (C := RX12) (As := []) (rest := []) ⟨hx, hb, hml, hown, hq⟩ (mc_advance l D cT tt b1 b hb1 n f_9 wl_10 f_15 wl_16 r_17 z_18) (cwV 0 hq (gb_gV w_1276 w_1278 s_3_1 w_14 w_1279) rfl rfl rfl (by decide +kernel) ⟨Nat.le_of_ble_eq_true rfl, Nat.le_of_ble_eq_true rfl⟩) (gb_preV (r := (RX12, TX12, 44)) (ci := 10) (q0 := 0) hSt hP rfl (gb_at b rfl) hS (fun q h => Nat.le_trans hb1 h.1) hP) rfl rfl hl.1 rfl (lv_room (Nat.le_of_ble_eq_true rfl)) dX12_numbered_45 ⟨Nat.le_of_ble_eq_true rfl, Nat.le_of_ble_eq_true rfl⟩) hS (fun _ h => h) (fun _ h => h) (fun H locs hY hk hS => ?_)
        have hP := hY
        refine lv_iload_n hx hb dX12_numbered_48 rfl (lv_at hl 0 rfl) ?_
        refine lv_iload_n hx hb dX12_numbered_49 rfl (lv_at hl 2 rfl) ?_
        refine lv_iload_n hx hb dX12_numbered_50 rfl (lv_at hl 3 rfl) ?_
        obtain ⟨f_20, wl_21, r_22, z_23, h⟩ := gb_bd_s h
        refine gb_calli (va_runS (As := [.int x_8, .int p1, .int p2]) (rest := []) ⟨hx, hb, hml, hown, hq⟩ (mc_isIn l D cT tt b1 b hb1 n f_15 wl_16 x_8 p1 p2 f_20 wl_21 r_22 z_23) (va_cwS 3 hq (gb_gS w_1269 w_1270 w_14 w_1271) rfl rfl rfl (by decide +kernel) ⟨Nat.le_of_ble_eq_true rfl, Nat.le_of_ble_eq_true rfl⟩) (gb_preS hSt hS (fun q h => Nat.le_trans hb1 h.1) hP) rfl rfl hl.1 rfl (lv_room (Nat.le_of_ble_eq_true rfl)) dX12_numbered_51 ⟨Nat.le_of_ble_eq_true rfl, Nat.le_of_ble_eq_true rfl⟩) hS (fun _ h => h) (fun _ h => h) (fun q_24 H locs hY hk hS => ?_)
        obtain ⟨hq_24, hP⟩ := hY
        replace hq_24 := hq_24.symm
        subst hq_24
        refine lv_if_eq (tgt := 61) hx hb dX12_numbered_54 (by decide) (fun c_25 => ?_) (fun c_25 => ?_)
        · rw [if_pos c_25] at h
          refine lv_iload_n hx hb dX12_numbered_61 rfl (lv_at hl 2 rfl) ?_
          obtain ⟨e1, e2, e3⟩ := gb_eq3 h
          exact W.iret (v := p1) hx hb hr (fun t ht hW => gb_ri ht ⟨e3, by rw [← e1, ← e2]; exact hP⟩ hS) hS.2.2 dX12_numbered_62
        · rw [if_neg c_25] at h
          refine lv_iload_n hx hb dX12_numbered_57 rfl (lv_at hl 0 rfl) ?_
          refine lv_goto (tgt := 62) hx hb dX12_numbered_58 (by decide) ?_
          obtain ⟨e1, e2, e3⟩ := gb_eq3 h
          exact W.iret (v := x_8) hx hb hr (fun t ht hW => gb_ri ht ⟨e3, by rw [← e1, ← e2]; exact hP⟩ hS) hS.2.2 dX12_numbered_62
      · rw [if_pos c_14] at h
        refine lv_aload_n hx hb dX12_numbered_35 rfl (lv_at hl 1 rfl) ?_
        refine lv_iconst (v := 2) hx hb dX12_numbered_36 (by decide) ?_
        refine lv_aload_n hx hb dX12_numbered_37 rfl (lv_at hl 1 rfl) ?_
        refine va_get (ci := 10) (v := (.int (f_9 0 4))) (C := RX12) (T := TX12) (N := 44) hx hb hq i_X12 hown hK hP 0 (gb_at b rfl) rfl 4 (by decide) (hq _ w_1128) (fun _ h9 => h9) rfl dX12_numbered_38 ?_
        obtain ⟨f_26, wl_27, r_28, z_29, h⟩ := gb_bd_s h
        refine gb_callv (va_runV (C := RX12) (As := [.int 2, .int (f_9 0 4)]) (rest := []) ⟨hx, hb, hml, hown, hq⟩ (mc_also l D cT tt b1 b hb1 n f_9 wl_10 2 (f_9 0 4) f_26 wl_27 r_28 z_29) (cwV 2 hq (gb_gV w_1318 w_1320 s_3_7 w_14 w_1321) rfl rfl rfl (by decide +kernel) ⟨Nat.le_of_ble_eq_true rfl, Nat.le_of_ble_eq_true rfl⟩) (gb_preV (r := (RX12, TX12, 44)) (ci := 10) (q0 := 0) hSt hP rfl (gb_at b rfl) hS (fun q h => Nat.le_trans hb1 h.1) hP) rfl rfl hl.1 rfl (lv_room (Nat.le_of_ble_eq_true rfl)) dX12_numbered_41 ⟨Nat.le_of_ble_eq_true rfl, Nat.le_of_ble_eq_true rfl⟩) hS (fun _ h => h) (fun _ h => h) (fun H locs hY hk hS => ?_)
        have hP := hY
        refine lv_aload_n hx hb dX12_numbered_44 rfl (lv_at hl 1 rfl) ?_
        obtain ⟨f_31, wl_32, r_33, z_34, h⟩ := gb_bd_s h
        refine gb_callv (va_runV (C := RX12) (As := []) (rest := []) ⟨hx, hb, hml, hown, hq⟩ (mc_advance l D cT tt b1 b hb1 n f_26 wl_27 f_31 wl_32 r_33 z_34) (cwV 0 hq (gb_gV w_1276 w_1278 s_3_1 w_14 w_1279) rfl rfl rfl (by decide +kernel) ⟨Nat.le_of_ble_eq_true rfl, Nat.le_of_ble_eq_true rfl⟩) (gb_preV (r := (RX12, TX12, 44)) (ci := 10) (q0 := 0) hSt hP rfl (gb_at b rfl) hS (fun q h => Nat.le_trans hb1 h.1) hP) rfl rfl hl.1 rfl (lv_room (Nat.le_of_ble_eq_true rfl)) dX12_numbered_45 ⟨Nat.le_of_ble_eq_true rfl, Nat.le_of_ble_eq_true rfl⟩) hS (fun _ h => h) (fun _ h => h) (fun H locs hY hk hS => ?_)
        have hP := hY
        refine lv_iload_n hx hb dX12_numbered_48 rfl (lv_at hl 0 rfl) ?_
        refine lv_iload_n hx hb dX12_numbered_49 rfl (lv_at hl 2 rfl) ?_
        refine lv_iload_n hx hb dX12_numbered_50 rfl (lv_at hl 3 rfl) ?_
        obtain ⟨f_36, wl_37, r_38, z_39, h⟩ := gb_bd_s h
        refine gb_calli (va_runS (As := [.int x_8, .int p1, .int p2]) (rest := []) ⟨hx, hb, hml, hown, hq⟩ (mc_isIn l D cT tt b1 b hb1 n f_31 wl_32 x_8 p1 p2 f_36 wl_37 r_38 z_39) (va_cwS 3 hq (gb_gS w_1269 w_1270 w_14 w_1271) rfl rfl rfl (by decide +kernel) ⟨Nat.le_of_ble_eq_true rfl, Nat.le_of_ble_eq_true rfl⟩) (gb_preS hSt hS (fun q h => Nat.le_trans hb1 h.1) hP) rfl rfl hl.1 rfl (lv_room (Nat.le_of_ble_eq_true rfl)) dX12_numbered_51 ⟨Nat.le_of_ble_eq_true rfl, Nat.le_of_ble_eq_true rfl⟩) hS (fun _ h => h) (fun _ h => h) (fun q_40 H locs hY hk hS => ?_)
        obtain ⟨hq_40, hP⟩ := hY
        replace hq_40 := hq_40.symm
        subst hq_40
        refine lv_if_eq (tgt := 61) hx hb dX12_numbered_54 (by decide) (fun c_41 => ?_) (fun c_41 => ?_)
        · rw [if_pos c_41] at h
          refine lv_iload_n hx hb dX12_numbered_61 rfl (lv_at hl 2 rfl) ?_
          obtain ⟨e1, e2, e3⟩ := gb_eq3 h
          exact W.iret (v := p1) hx hb hr (fun t ht hW => gb_ri ht ⟨e3, by rw [← e1, ← e2]; exact hP⟩ hS) hS.2.2 dX12_numbered_62
        · rw [if_neg c_41] at h
          refine lv_iload_n hx hb dX12_numbered_57 rfl (lv_at hl 0 rfl) ?_
          refine lv_goto (tgt := 62) hx hb dX12_numbered_58 (by decide) ?_
          obtain ⟨e1, e2, e3⟩ := gb_eq3 h
          exact W.iret (v := x_8) hx hb hr (fun t ht hW => gb_ri ht ⟨e3, by rw [← e1, ← e2]; exact hP⟩ hS) hS.2.2 dX12_numbered_62
    · rw [if_neg c_7] at h
      refine lv_aload_n hx hb dX12_numbered_15 rfl (lv_at hl 0 rfl) ?_
      obtain ⟨f_42, wl_43, r_44, z_45, h⟩ := gb_bd_s h
      refine gb_callv (va_runV (C := RX12) (As := []) (rest := []) ⟨hx, hb, hml, hown, hq⟩ (mc_ends l D cT tt b1 b hb1 n f w f_42 wl_43 r_44 z_45) (cwV 0 hq (gb_gV w_1310 w_1312 s_3_5 w_14 w_1313) rfl rfl rfl (by decide +kernel) ⟨Nat.le_of_ble_eq_true rfl, Nat.le_of_ble_eq_true rfl⟩) (gb_preV (r := (RX12, TX12, 44)) (ci := 10) (q0 := 0) hSt hP rfl (gb_at b rfl) hS (fun q h => Nat.le_trans hb1 h.1) hP) rfl rfl hl.1 rfl (lv_room (Nat.le_of_ble_eq_true rfl)) dX12_numbered_16 ⟨Nat.le_of_ble_eq_true rfl, Nat.le_of_ble_eq_true rfl⟩) hS (fun _ h => h) (fun _ h => h) (fun H locs hY hk hS => ?_)
      have hP := hY
      refine lv_iload_n hx hb dX12_numbered_19 rfl (lv_at hl 1 rfl) ?_
      obtain ⟨e1, e2, e3⟩ := gb_eq3 h
      exact W.iret (v := p1) hx hb hr (fun t ht hW => gb_ri ht ⟨e3, by rw [← e1, ← e2]; exact hP⟩ hS) hS.2.2 dX12_numbered_20
theorem dX12_takes_0 : decode cX12_takes 0 = .ok (.aload_n 0, 1) := dc_42 (show ((cX12_takes.data.toList.drop 0).take 1).map UInt8.toNat = [42] by decide +kernel)
theorem dX12_takes_1 : decode cX12_takes 1 = .ok (.getfield 122, 3) := dc_180 (show ((cX12_takes.data.toList.drop 1).take 3).map UInt8.toNat = [180, 0, 122] by decide +kernel) rfl
theorem dX12_takes_4 : decode cX12_takes 4 = .ok (.ifCond .ne 23, 3) := dc_154 (show ((cX12_takes.data.toList.drop 4).take 3).map UInt8.toNat = [154, 0, 23] by decide +kernel) rfl
theorem dX12_takes_27 : decode cX12_takes 27 = .ok (.aload_n 0, 1) := dc_42 (show ((cX12_takes.data.toList.drop 27).take 1).map UInt8.toNat = [42] by decide +kernel)
theorem dX12_takes_28 : decode cX12_takes 28 = .ok (.invokevirtual 126, 3) := dc_182 (show ((cX12_takes.data.toList.drop 28).take 3).map UInt8.toNat = [182, 0, 126] by decide +kernel) rfl
theorem dX12_takes_31 : decode cX12_takes 31 = .ok (.iconst 0, 1) := dc_3 (show ((cX12_takes.data.toList.drop 31).take 1).map UInt8.toNat = [3] by decide +kernel)
theorem dX12_takes_32 : decode cX12_takes 32 = .ok (.ireturn, 1) := dc_172 (show ((cX12_takes.data.toList.drop 32).take 1).map UInt8.toNat = [172] by decide +kernel)
theorem dX12_takes_7 : decode cX12_takes 7 = .ok (.aload_n 0, 1) := dc_42 (show ((cX12_takes.data.toList.drop 7).take 1).map UInt8.toNat = [42] by decide +kernel)
theorem dX12_takes_8 : decode cX12_takes 8 = .ok (.getfield 98, 3) := dc_180 (show ((cX12_takes.data.toList.drop 8).take 3).map UInt8.toNat = [180, 0, 98] by decide +kernel) rfl
theorem dX12_takes_11 : decode cX12_takes 11 = .ok (.iconst 3, 1) := dc_6 (show ((cX12_takes.data.toList.drop 11).take 1).map UInt8.toNat = [6] by decide +kernel)
theorem dX12_takes_12 : decode cX12_takes 12 = .ok (.if_icmp .ne 15, 3) := dc_160 (show ((cX12_takes.data.toList.drop 12).take 3).map UInt8.toNat = [160, 0, 15] by decide +kernel) rfl
theorem dX12_takes_15 : decode cX12_takes 15 = .ok (.aload_n 0, 1) := dc_42 (show ((cX12_takes.data.toList.drop 15).take 1).map UInt8.toNat = [42] by decide +kernel)
theorem dX12_takes_16 : decode cX12_takes 16 = .ok (.getfield 113, 3) := dc_180 (show ((cX12_takes.data.toList.drop 16).take 3).map UInt8.toNat = [180, 0, 113] by decide +kernel) rfl
theorem dX12_takes_19 : decode cX12_takes 19 = .ok (.iload_n 1, 1) := dc_27 (show ((cX12_takes.data.toList.drop 19).take 1).map UInt8.toNat = [27] by decide +kernel)
theorem dX12_takes_20 : decode cX12_takes 20 = .ok (.iload_n 2, 1) := dc_28 (show ((cX12_takes.data.toList.drop 20).take 1).map UInt8.toNat = [28] by decide +kernel)
theorem dX12_takes_21 : decode cX12_takes 21 = .ok (.invokestatic 129, 3) := dc_184 (show ((cX12_takes.data.toList.drop 21).take 3).map UInt8.toNat = [184, 0, 129] by decide +kernel) rfl
theorem dX12_takes_24 : decode cX12_takes 24 = .ok (.ifCond .ne 9, 3) := dc_154 (show ((cX12_takes.data.toList.drop 24).take 3).map UInt8.toNat = [154, 0, 9] by decide +kernel) rfl
theorem dX12_takes_33 : decode cX12_takes 33 = .ok (.aload_n 0, 1) := dc_42 (show ((cX12_takes.data.toList.drop 33).take 1).map UInt8.toNat = [42] by decide +kernel)
theorem dX12_takes_34 : decode cX12_takes 34 = .ok (.getfield 113, 3) := dc_180 (show ((cX12_takes.data.toList.drop 34).take 3).map UInt8.toNat = [180, 0, 113] by decide +kernel) rfl
theorem dX12_takes_37 : decode cX12_takes 37 = .ok (.istore_n 3, 1) := dc_62 (show ((cX12_takes.data.toList.drop 37).take 1).map UInt8.toNat = [62] by decide +kernel)
theorem dX12_takes_38 : decode cX12_takes 38 = .ok (.aload_n 0, 1) := dc_42 (show ((cX12_takes.data.toList.drop 38).take 1).map UInt8.toNat = [42] by decide +kernel)
theorem dX12_takes_39 : decode cX12_takes 39 = .ok (.invokevirtual 137, 3) := dc_182 (show ((cX12_takes.data.toList.drop 39).take 3).map UInt8.toNat = [182, 0, 137] by decide +kernel) rfl
theorem dX12_takes_42 : decode cX12_takes 42 = .ok (.iload_n 3, 1) := dc_29 (show ((cX12_takes.data.toList.drop 42).take 1).map UInt8.toNat = [29] by decide +kernel)
theorem dX12_takes_43 : decode cX12_takes 43 = .ok (.ireturn, 1) := dc_172 (show ((cX12_takes.data.toList.drop 43).take 1).map UInt8.toNat = [172] by decide +kernel)
def ms_takes (n : Nat) (f : gb_F) (w : Int64) (p1 : Int32) (p2 : Int32) : gb_MR Int32 := (if (f 0 8) = 0 then (if (f 0 5) = 3 then gb_bd (ms_isIn n f w (f 0 7) p1 p2) (fun f_13 wl_14 r_15 => (if r_15 = 0 then gb_bd (ms_ends n f_13 wl_14) (fun f_25 wl_26 _ => some (f_25, wl_26, 0)) else gb_lt (f_13 0 7) (fun x_19 => gb_bd (ms_advance n f_13 wl_14) (fun f_20 wl_21 _ => some (f_20, wl_21, x_19))))) else gb_bd (ms_ends n f w) (fun f_8 wl_9 _ => some (f_8, wl_9, 0))) else gb_bd (ms_ends n f w) (fun f_2 wl_3 _ => some (f_2, wl_3, 0)))
set_option maxHeartbeats 8000000 in
set_option maxRecDepth 100000 in
theorem mc_takes (l : Launch) (D : va_G) (cT : Nat → ClassId) (tt : Nat → Nat) (b1 b : Nat) (hb1 : b1 ≤ b) (n : Nat) (f : gb_F) (w : Int64) (p1 : Int32) (p2 : Int32) (fE : gb_F) (wE : Int64) (rE : Int32) (h : ms_takes n f w p1 p2 = some (fE, wE, rE)) : Met l yX12_takes (.code yX12_takes cX12_takes 4 (some FieldType.int) :: gb_wA) ({ frames := 4, cells := 0, slots := 0, locals := 94 }) (gb_Pc D cT tt b1 [.ref (b + 0), .int p1, .int p2] (fun h => va_P D vwCl (gb_wl b (gb_MW cT b f w)) h)) (gb_Qi (fun r h => r = rE ∧ va_P D vwCl (gb_wl b (gb_MW cT b fE wE)) h) (gb_fr b 22)) 0 0 (gb_fr b 22) := by
  refine Met.ofW (cc := cX12_takes) (maxL := 4) (ret := (some FieldType.int)) (by decide) rfl ?_
  intro p e s m args below meth c s₁ B hml hv
  obtain ⟨rfl, hSt, hP⟩ := hv
  have hx := B.exec
  have hb := B.bytes
  have hr := B.returns
  have hts := atoms_spec (ws := .code yX12_takes cX12_takes 4 (some FieldType.int) :: gb_wA) B.pre
  have hq : ∀ w ∈ gb_wA, w.before _ s = true := fun w h => hts w (List.mem_cons_of_mem _ h)
  have hown : s.vm.findClass RX12 = some m.cls := findClass_of_methodNamed B.named
  have hlocks := B.notSynchronized
  clear B hts
  have hK := hSt.1
  have hS : va_S (gb_fr b 22) s.heap s.heap [] := va_S.rf
  have hl := lv_entry ([.ref (b + 0), .int p1, .int p2]) (n := 4) (Nat.le_of_ble_eq_true rfl)
  rw [lg_entry_eq]
  generalize (lg_sl ([.ref (b + 0), .int p1, .int p2]) ++ List.replicate (4 - (lg_sl ([.ref (b + 0), .int p1, .int p2])).length) Slot.unset).toArray = ls at hl ⊢
  replace hl : lv_has ls 4 [(0, .ref (b + 0)), (1, .int p1), (2, .int p2)] := hl
  unfold ms_takes at h
  refine lv_aload_n hx hb dX12_takes_0 rfl (lv_at hl 0 rfl) ?_
  refine va_get (ci := 10) (v := (.int (f 0 8))) (C := RX12) (T := TX12) (N := 44) hx hb hq i_X12 hown hK hP 0 (gb_at b rfl) rfl 8 (by decide) (hq _ w_1132) (fun _ h9 => h9) rfl dX12_takes_1 ?_
  refine lv_if_ne (tgt := 27) hx hb dX12_takes_4 (by decide) (fun c_1 => ?_) (fun c_1 => ?_)
  · rw [if_neg c_1] at h
    refine lv_aload_n hx hb dX12_takes_27 rfl (lv_at hl 0 rfl) ?_
    obtain ⟨f_2, wl_3, r_4, z_5, h⟩ := gb_bd_s h
    refine gb_callv (va_runV (C := RX12) (As := []) (rest := []) ⟨hx, hb, hml, hown, hq⟩ (mc_ends l D cT tt b1 b hb1 n f w f_2 wl_3 r_4 z_5) (cwV 0 hq (gb_gV w_1310 w_1312 s_3_5 w_14 w_1313) rfl rfl rfl (by decide +kernel) ⟨Nat.le_of_ble_eq_true rfl, Nat.le_of_ble_eq_true rfl⟩) (gb_preV (r := (RX12, TX12, 44)) (ci := 10) (q0 := 0) hSt hP rfl (gb_at b rfl) hS (fun q h => Nat.le_trans hb1 h.1) hP) rfl rfl hl.1 rfl (lv_room (Nat.le_of_ble_eq_true rfl)) dX12_takes_28 ⟨Nat.le_of_ble_eq_true rfl, Nat.le_of_ble_eq_true rfl⟩) hS (fun _ h => h) (fun _ h => h) (fun H locs hY hk hS => ?_)
    have hP := hY
    refine lv_iconst (v := 0) hx hb dX12_takes_31 (by decide) ?_
    obtain ⟨e1, e2, e3⟩ := gb_eq3 h
    exact W.iret (v := 0) hx hb hr (fun t ht hW => gb_ri ht ⟨e3, by rw [← e1, ← e2]; exact hP⟩ hS) hS.2.2 dX12_takes_32
  · rw [if_pos c_1] at h
    refine lv_aload_n hx hb dX12_takes_7 rfl (lv_at hl 0 rfl) ?_
    refine va_get (ci := 10) (v := (.int (f 0 5))) (C := RX12) (T := TX12) (N := 44) hx hb hq i_X12 hown hK hP 0 (gb_at b rfl) rfl 5 (by decide) (hq _ w_1129) (fun _ h9 => h9) rfl dX12_takes_8 ?_
    refine lv_iconst (v := 3) hx hb dX12_takes_11 (by decide) ?_
    refine lv_icmp_ne (tgt := 27) hx hb dX12_takes_12 (by decide) (fun c_7 => ?_) (fun c_7 => ?_)
    · rw [if_neg c_7] at h
      refine lv_aload_n hx hb dX12_takes_27 rfl (lv_at hl 0 rfl) ?_
      obtain ⟨f_8, wl_9, r_10, z_11, h⟩ := gb_bd_s h
      refine gb_callv (va_runV (C := RX12) (As := []) (rest := []) ⟨hx, hb, hml, hown, hq⟩ (mc_ends l D cT tt b1 b hb1 n f w f_8 wl_9 r_10 z_11) (cwV 0 hq (gb_gV w_1310 w_1312 s_3_5 w_14 w_1313) rfl rfl rfl (by decide +kernel) ⟨Nat.le_of_ble_eq_true rfl, Nat.le_of_ble_eq_true rfl⟩) (gb_preV (r := (RX12, TX12, 44)) (ci := 10) (q0 := 0) hSt hP rfl (gb_at b rfl) hS (fun q h => Nat.le_trans hb1 h.1) hP) rfl rfl hl.1 rfl (lv_room (Nat.le_of_ble_eq_true rfl)) dX12_takes_28 ⟨Nat.le_of_ble_eq_true rfl, Nat.le_of_ble_eq_true rfl⟩) hS (fun _ h => h) (fun _ h => h) (fun H locs hY hk hS => ?_)
      have hP := hY
      refine lv_iconst (v := 0) hx hb dX12_takes_31 (by decide) ?_
      obtain ⟨e1, e2, e3⟩ := gb_eq3 h
      exact W.iret (v := 0) hx hb hr (fun t ht hW => gb_ri ht ⟨e3, by rw [← e1, ← e2]; exact hP⟩ hS) hS.2.2 dX12_takes_32
    · rw [if_pos c_7] at h
      refine lv_aload_n hx hb dX12_takes_15 rfl (lv_at hl 0 rfl) ?_
      refine va_get (ci := 10) (v := (.int (f 0 7))) (C := RX12) (T := TX12) (N := 44) hx hb hq i_X12 hown hK hP 0 (gb_at b rfl) rfl 7 (by decide) (hq _ w_1131) (fun _ h9 => h9) rfl dX12_takes_16 ?_
      refine lv_iload_n hx hb dX12_takes_19 rfl (lv_at hl 1 rfl) ?_
      refine lv_iload_n hx hb dX12_takes_20 rfl (lv_at hl 2 rfl) ?_
      obtain ⟨f_13, wl_14, r_15, z_16, h⟩ := gb_bd_s h
      refine gb_calli (va_runS (As := [.int (f 0 7), .int p1, .int p2]) (rest := []) ⟨hx, hb, hml, hown, hq⟩ (mc_isIn l D cT tt b1 b hb1 n f w (f 0 7) p1 p2 f_13 wl_14 r_15 z_16) (va_cwS 3 hq (gb_gS w_1269 w_1270 w_14 w_1271) rfl rfl rfl (by decide +kernel) ⟨Nat.le_of_ble_eq_true rfl, Nat.le_of_ble_eq_true rfl⟩) (gb_preS hSt hS (fun q h => Nat.le_trans hb1 h.1) hP) rfl rfl hl.1 rfl (lv_room (Nat.le_of_ble_eq_true rfl)) dX12_takes_21 ⟨Nat.le_of_ble_eq_true rfl, Nat.le_of_ble_eq_true rfl⟩) hS (fun _ h => h) (fun _ h => h) (fun q_17 H locs hY hk hS => ?_)
      obtain ⟨hq_17, hP⟩ := hY
      replace hq_17 := hq_17.symm
      subst hq_17
      refine lv_if_ne (tgt := 33) hx hb dX12_takes_24 (by decide) (fun c_18 => ?_) (fun c_18 => ?_)
      · rw [if_neg c_18] at h
        refine lv_aload_n hx hb dX12_takes_33 rfl (lv_at hl 0 rfl) ?_
        refine va_get (ci := 10) (v := (.int (f_13 0 7))) (C := RX12) (T := TX12) (N := 44) hx hb hq i_X12 hown hK hP 0 (gb_at b rfl) rfl 7 (by decide) (hq _ w_1131) (fun _ h9 => h9) rfl dX12_takes_34 ?_
        refine lv_topi (fun x_19 ex_19 => ?_)
        replace h := gb_lt_s ex_19 h
        refine lv_istore_n (lv' := [(3, .int x_19), (0, .ref (b + 0)), (1, .int p1), (2, .int p2)]) hx hb dX12_takes_37 rfl hl (by decide) rfl (fun ls hl => ?_)
        refine lv_aload_n hx hb dX12_takes_38 rfl (lv_at hl 1 rfl) ?_
        obtain ⟨f_20, wl_21, r_22, z_23, h⟩ := gb_bd_s h
        refine gb_callv (va_runV (C := RX12) (As := []) (rest := []) ⟨hx, hb, hml, hown, hq⟩ (mc_advance l D cT tt b1 b hb1 n f_13 wl_14 f_20 wl_21 r_22 z_23) (cwV 0 hq (gb_gV w_1276 w_1278 s_3_1 w_14 w_1279) rfl rfl rfl (by decide +kernel) ⟨Nat.le_of_ble_eq_true rfl, Nat.le_of_ble_eq_true rfl⟩) (gb_preV (r := (RX12, TX12, 44)) (ci := 10) (q0 := 0) hSt hP rfl (gb_at b rfl) hS (fun q h => Nat.le_trans hb1 h.1) hP) rfl rfl hl.1 rfl (lv_room (Nat.le_of_ble_eq_true rfl)) dX12_takes_39 ⟨Nat.le_of_ble_eq_true rfl, Nat.le_of_ble_eq_true rfl⟩) hS (fun _ h => h) (fun _ h => h) (fun H locs hY hk hS => ?_)
        have hP := hY
        refine lv_iload_n hx hb dX12_takes_42 rfl (lv_at hl 0 rfl) ?_
        obtain ⟨e1, e2, e3⟩ := gb_eq3 h
        exact W.iret (v := x_19) hx hb hr (fun t ht hW => gb_ri ht ⟨e3, by rw [← e1, ← e2]; exact hP⟩ hS) hS.2.2 dX12_takes_43
      · rw [if_pos c_18] at h
        refine lv_aload_n hx hb dX12_takes_27 rfl (lv_at hl 0 rfl) ?_
        obtain ⟨f_25, wl_26, r_27, z_28, h⟩ := gb_bd_s h
        refine gb_callv (va_runV (C := RX12) (As := []) (rest := []) ⟨hx, hb, hml, hown, hq⟩ (mc_ends l D cT tt b1 b hb1 n f_13 wl_14 f_25 wl_26 r_27 z_28) (cwV 0 hq (gb_gV w_1310 w_1312 s_3_5 w_14 w_1313) rfl rfl rfl (by decide +kernel) ⟨Nat.le_of_ble_eq_true rfl, Nat.le_of_ble_eq_true rfl⟩) (gb_preV (r := (RX12, TX12, 44)) (ci := 10) (q0 := 0) hSt hP rfl (gb_at b rfl) hS (fun q h => Nat.le_trans hb1 h.1) hP) rfl rfl hl.1 rfl (lv_room (Nat.le_of_ble_eq_true rfl)) dX12_takes_28 ⟨Nat.le_of_ble_eq_true rfl, Nat.le_of_ble_eq_true rfl⟩) hS (fun _ h => h) (fun _ h => h) (fun H locs hY hk hS => ?_)
        have hP := hY
        refine lv_iconst (v := 0) hx hb dX12_takes_31 (by decide) ?_
        obtain ⟨e1, e2, e3⟩ := gb_eq3 h
        exact W.iret (v := 0) hx hb hr (fun t ht hW => gb_ri ht ⟨e3, by rw [← e1, ← e2]; exact hP⟩ hS) hS.2.2 dX12_takes_32
theorem dX12_endsLine_0 : decode cX12_endsLine 0 = .ok (.aload_n 0, 1) := dc_42 (show ((cX12_endsLine.data.toList.drop 0).take 1).map UInt8.toNat = [42] by decide +kernel)
theorem dX12_endsLine_1 : decode cX12_endsLine 1 = .ok (.getfield 122, 3) := dc_180 (show ((cX12_endsLine.data.toList.drop 1).take 3).map UInt8.toNat = [180, 0, 122] by decide +kernel) rfl
theorem dX12_endsLine_4 : decode cX12_endsLine 4 = .ok (.ifCond .ne 18, 3) := dc_154 (show ((cX12_endsLine.data.toList.drop 4).take 3).map UInt8.toNat = [154, 0, 18] by decide +kernel) rfl
theorem dX12_endsLine_22 : decode cX12_endsLine 22 = .ok (.aload_n 0, 1) := dc_42 (show ((cX12_endsLine.data.toList.drop 22).take 1).map UInt8.toNat = [42] by decide +kernel)
theorem dX12_endsLine_23 : decode cX12_endsLine 23 = .ok (.invokevirtual 126, 3) := dc_182 (show ((cX12_endsLine.data.toList.drop 23).take 3).map UInt8.toNat = [182, 0, 126] by decide +kernel) rfl
theorem dX12_endsLine_26 : decode cX12_endsLine 26 = .ok (.return_, 1) := dc_177 (show ((cX12_endsLine.data.toList.drop 26).take 1).map UInt8.toNat = [177] by decide +kernel)
theorem dX12_endsLine_7 : decode cX12_endsLine 7 = .ok (.aload_n 0, 1) := dc_42 (show ((cX12_endsLine.data.toList.drop 7).take 1).map UInt8.toNat = [42] by decide +kernel)
theorem dX12_endsLine_8 : decode cX12_endsLine 8 = .ok (.getfield 98, 3) := dc_180 (show ((cX12_endsLine.data.toList.drop 8).take 3).map UInt8.toNat = [180, 0, 98] by decide +kernel) rfl
theorem dX12_endsLine_11 : decode cX12_endsLine 11 = .ok (.iconst 2, 1) := dc_5 (show ((cX12_endsLine.data.toList.drop 11).take 1).map UInt8.toNat = [5] by decide +kernel)
theorem dX12_endsLine_12 : decode cX12_endsLine 12 = .ok (.if_icmp .ne 10, 3) := dc_160 (show ((cX12_endsLine.data.toList.drop 12).take 3).map UInt8.toNat = [160, 0, 10] by decide +kernel) rfl
theorem dX12_endsLine_15 : decode cX12_endsLine 15 = .ok (.aload_n 0, 1) := dc_42 (show ((cX12_endsLine.data.toList.drop 15).take 1).map UInt8.toNat = [42] by decide +kernel)
theorem dX12_endsLine_16 : decode cX12_endsLine 16 = .ok (.invokevirtual 137, 3) := dc_182 (show ((cX12_endsLine.data.toList.drop 16).take 3).map UInt8.toNat = [182, 0, 137] by decide +kernel) rfl
theorem dX12_endsLine_19 : decode cX12_endsLine 19 = .ok (.goto 7, 3) := dc_167 (show ((cX12_endsLine.data.toList.drop 19).take 3).map UInt8.toNat = [167, 0, 7] by decide +kernel) rfl
def ms_endsLine (n : Nat) (f : gb_F) (w : Int64) : gb_MR Unit := (if (f 0 8) = 0 then (if (f 0 5) = 2 then gb_bd (ms_advance n f w) (fun f_13 wl_14 _ => some (f_13, wl_14, ())) else gb_bd (ms_ends n f w) (fun f_8 wl_9 _ => some (f_8, wl_9, ()))) else gb_bd (ms_ends n f w) (fun f_2 wl_3 _ => some (f_2, wl_3, ())))
set_option maxHeartbeats 8000000 in
set_option maxRecDepth 100000 in
theorem mc_endsLine (l : Launch) (D : va_G) (cT : Nat → ClassId) (tt : Nat → Nat) (b1 b : Nat) (hb1 : b1 ≤ b) (n : Nat) (f : gb_F) (w : Int64) (fE : gb_F) (wE : Int64) (rE : Unit) (h : ms_endsLine n f w = some (fE, wE, rE)) : Met l yX12_endsLine (.code yX12_endsLine cX12_endsLine 1 none :: gb_wA) ({ frames := 4, cells := 0, slots := 0, locals := 94 }) (gb_Pc D cT tt b1 [.ref (b + 0)] (fun h => va_P D vwCl (gb_wl b (gb_MW cT b f w)) h)) (gb_Qv (fun h => va_P D vwCl (gb_wl b (gb_MW cT b fE wE)) h) (gb_fr b 22)) 0 0 (gb_fr b 22) := by
  refine Met.ofW (cc := cX12_endsLine) (maxL := 1) (ret := none) (by decide) rfl ?_
  intro p e s m args below meth c s₁ B hml hv
  obtain ⟨rfl, hSt, hP⟩ := hv
  have hx := B.exec
  have hb := B.bytes
  have hr := B.returns
  have hts := atoms_spec (ws := .code yX12_endsLine cX12_endsLine 1 none :: gb_wA) B.pre
  have hq : ∀ w ∈ gb_wA, w.before _ s = true := fun w h => hts w (List.mem_cons_of_mem _ h)
  have hown : s.vm.findClass RX12 = some m.cls := findClass_of_methodNamed B.named
  have hlocks := B.notSynchronized
  clear B hts
  have hK := hSt.1
  have hS : va_S (gb_fr b 22) s.heap s.heap [] := va_S.rf
  have hl := lv_entry ([.ref (b + 0)]) (n := 1) (Nat.le_of_ble_eq_true rfl)
  rw [lg_entry_eq]
  generalize (lg_sl ([.ref (b + 0)]) ++ List.replicate (1 - (lg_sl ([.ref (b + 0)])).length) Slot.unset).toArray = ls at hl ⊢
  replace hl : lv_has ls 1 [(0, .ref (b + 0))] := hl
  unfold ms_endsLine at h
  refine lv_aload_n hx hb dX12_endsLine_0 rfl (lv_at hl 0 rfl) ?_
  refine va_get (ci := 10) (v := (.int (f 0 8))) (C := RX12) (T := TX12) (N := 44) hx hb hq i_X12 hown hK hP 0 (gb_at b rfl) rfl 8 (by decide) (hq _ w_1132) (fun _ h9 => h9) rfl dX12_endsLine_1 ?_
  refine lv_if_ne (tgt := 22) hx hb dX12_endsLine_4 (by decide) (fun c_1 => ?_) (fun c_1 => ?_)
  · rw [if_neg c_1] at h
    refine lv_aload_n hx hb dX12_endsLine_22 rfl (lv_at hl 0 rfl) ?_
    obtain ⟨f_2, wl_3, r_4, z_5, h⟩ := gb_bd_s h
    refine gb_callv (va_runV (C := RX12) (As := []) (rest := []) ⟨hx, hb, hml, hown, hq⟩ (mc_ends l D cT tt b1 b hb1 n f w f_2 wl_3 r_4 z_5) (cwV 0 hq (gb_gV w_1310 w_1312 s_3_5 w_14 w_1313) rfl rfl rfl (by decide +kernel) ⟨Nat.le_of_ble_eq_true rfl, Nat.le_of_ble_eq_true rfl⟩) (gb_preV (r := (RX12, TX12, 44)) (ci := 10) (q0 := 0) hSt hP rfl (gb_at b rfl) hS (fun q h => Nat.le_trans hb1 h.1) hP) rfl rfl hl.1 rfl (lv_room (Nat.le_of_ble_eq_true rfl)) dX12_endsLine_23 ⟨Nat.le_of_ble_eq_true rfl, Nat.le_of_ble_eq_true rfl⟩) hS (fun _ h => h) (fun _ h => h) (fun H locs hY hk hS => ?_)
    have hP := hY
    obtain ⟨e1, e2, -⟩ := gb_eq3 h
    exact W.vret hx hb hr (fun t ht hW => gb_rv ht (by rw [← e1, ← e2]; exact hP) hS) hS.2.2 dX12_endsLine_26
  · rw [if_pos c_1] at h
    refine lv_aload_n hx hb dX12_endsLine_7 rfl (lv_at hl 0 rfl) ?_
    refine va_get (ci := 10) (v := (.int (f 0 5))) (C := RX12) (T := TX12) (N := 44) hx hb hq i_X12 hown hK hP 0 (gb_at b rfl) rfl 5 (by decide) (hq _ w_1129) (fun _ h9 => h9) rfl dX12_endsLine_8 ?_
    refine lv_iconst (v := 2) hx hb dX12_endsLine_11 (by decide) ?_
    refine lv_icmp_ne (tgt := 22) hx hb dX12_endsLine_12 (by decide) (fun c_7 => ?_) (fun c_7 => ?_)
    · rw [if_neg c_7] at h
      refine lv_aload_n hx hb dX12_endsLine_22 rfl (lv_at hl 0 rfl) ?_
      obtain ⟨f_8, wl_9, r_10, z_11, h⟩ := gb_bd_s h
      refine gb_callv (va_runV (C := RX12) (As := []) (rest := []) ⟨hx, hb, hml, hown, hq⟩ (mc_ends l D cT tt b1 b hb1 n f w f_8 wl_9 r_10 z_11) (cwV 0 hq (gb_gV w_1310 w_1312 s_3_5 w_14 w_1313) rfl rfl rfl (by decide +kernel) ⟨Nat.le_of_ble_eq_true rfl, Nat.le_of_ble_eq_true rfl⟩) (gb_preV (r := (RX12, TX12, 44)) (ci := 10) (q0 := 0) hSt hP rfl (gb_at b rfl) hS (fun q h => Nat.le_trans hb1 h.1) hP) rfl rfl hl.1 rfl (lv_room (Nat.le_of_ble_eq_true rfl)) dX12_endsLine_23 ⟨Nat.le_of_ble_eq_true rfl, Nat.le_of_ble_eq_true rfl⟩) hS (fun _ h => h) (fun _ h => h) (fun H locs hY hk hS => ?_)
      have hP := hY
      obtain ⟨e1, e2, -⟩ := gb_eq3 h
      exact W.vret hx hb hr (fun t ht hW => gb_rv ht (by rw [← e1, ← e2]; exact hP) hS) hS.2.2 dX12_endsLine_26
    · rw [if_pos c_7] at h
      refine lv_aload_n hx hb dX12_endsLine_15 rfl (lv_at hl 0 rfl) ?_
      obtain ⟨f_13, wl_14, r_15, z_16, h⟩ := gb_bd_s h
      refine gb_callv (va_runV (C := RX12) (As := []) (rest := []) ⟨hx, hb, hml, hown, hq⟩ (mc_advance l D cT tt b1 b hb1 n f w f_13 wl_14 r_15 z_16) (cwV 0 hq (gb_gV w_1276 w_1278 s_3_1 w_14 w_1279) rfl rfl rfl (by decide +kernel) ⟨Nat.le_of_ble_eq_true rfl, Nat.le_of_ble_eq_true rfl⟩) (gb_preV (r := (RX12, TX12, 44)) (ci := 10) (q0 := 0) hSt hP rfl (gb_at b rfl) hS (fun q h => Nat.le_trans hb1 h.1) hP) rfl rfl hl.1 rfl (lv_room (Nat.le_of_ble_eq_true rfl)) dX12_endsLine_16 ⟨Nat.le_of_ble_eq_true rfl, Nat.le_of_ble_eq_true rfl⟩) hS (fun _ h => h) (fun _ h => h) (fun H locs hY hk hS => ?_)
      have hP := hY
      refine lv_goto (tgt := 26) hx hb dX12_endsLine_19 (by decide) ?_
      obtain ⟨e1, e2, -⟩ := gb_eq3 h
      exact W.vret hx hb hr (fun t ht hW => gb_rv ht (by rw [← e1, ← e2]; exact hP) hS) hS.2.2 dX12_endsLine_26
theorem dX12_pathLine_0 : decode cX12_pathLine 0 = .ok (.aload_n 0, 1) := dc_42 (show ((cX12_pathLine.data.toList.drop 0).take 1).map UInt8.toNat = [42] by decide +kernel)
theorem dX12_pathLine_1 : decode cX12_pathLine 1 = .ok (.getfield 17, 3) := dc_180 (show ((cX12_pathLine.data.toList.drop 1).take 3).map UInt8.toNat = [180, 0, 17] by decide +kernel) rfl
theorem dX12_pathLine_4 : decode cX12_pathLine 4 = .ok (.iconst 0, 1) := dc_3 (show ((cX12_pathLine.data.toList.drop 4).take 1).map UInt8.toNat = [3] by decide +kernel)
theorem dX12_pathLine_5 : decode cX12_pathLine 5 = .ok (.iaload, 1) := dc_46 (show ((cX12_pathLine.data.toList.drop 5).take 1).map UInt8.toNat = [46] by decide +kernel)
theorem dX12_pathLine_6 : decode cX12_pathLine 6 = .ok (.iconst 5, 1) := dc_8 (show ((cX12_pathLine.data.toList.drop 6).take 1).map UInt8.toNat = [8] by decide +kernel)
theorem dX12_pathLine_7 : decode cX12_pathLine 7 = .ok (.if_icmp .ge 7, 3) := dc_162 (show ((cX12_pathLine.data.toList.drop 7).take 3).map UInt8.toNat = [162, 0, 7] by decide +kernel) rfl
theorem dX12_pathLine_14 : decode cX12_pathLine 14 = .ok (.iconst 0, 1) := dc_3 (show ((cX12_pathLine.data.toList.drop 14).take 1).map UInt8.toNat = [3] by decide +kernel)
theorem dX12_pathLine_15 : decode cX12_pathLine 15 = .ok (.istore_n 2, 1) := dc_61 (show ((cX12_pathLine.data.toList.drop 15).take 1).map UInt8.toNat = [61] by decide +kernel)
theorem dX12_pathLine_16 : decode cX12_pathLine 16 = .ok (.iload_n 2, 1) := dc_28 (show ((cX12_pathLine.data.toList.drop 16).take 1).map UInt8.toNat = [28] by decide +kernel)
theorem dX12_pathLine_17 : decode cX12_pathLine 17 = .ok (.ifCond .ne 9, 3) := dc_154 (show ((cX12_pathLine.data.toList.drop 17).take 3).map UInt8.toNat = [154, 0, 9] by decide +kernel) rfl
theorem dX12_pathLine_26 : decode cX12_pathLine 26 = .ok (.aload_n 0, 1) := dc_42 (show ((cX12_pathLine.data.toList.drop 26).take 1).map UInt8.toNat = [42] by decide +kernel)
theorem dX12_pathLine_27 : decode cX12_pathLine 27 = .ok (.iconst 1, 1) := dc_4 (show ((cX12_pathLine.data.toList.drop 27).take 1).map UInt8.toNat = [4] by decide +kernel)
theorem dX12_pathLine_28 : decode cX12_pathLine 28 = .ok (.bipush 20, 2) := dc_16 (show ((cX12_pathLine.data.toList.drop 28).take 2).map UInt8.toNat = [16, 20] by decide +kernel) rfl
theorem dX12_pathLine_30 : decode cX12_pathLine 30 = .ok (.invokevirtual 140, 3) := dc_182 (show ((cX12_pathLine.data.toList.drop 30).take 3).map UInt8.toNat = [182, 0, 140] by decide +kernel) rfl
theorem w_1325 : (Cond.code ({ cls := "GooseBorderModel", name := "numbered", desc := "(II)I" } : MethodName) prog_14_method_14_code (4 : Nat) (Option.some FieldType.int)) ∈ gb_wA := gb_t6 125 rfl rfl
theorem w_1322 : (Cond.methodLink "GooseBorderModel" (140 : Nat) ({ cls := "GooseBorderModel", name := "numbered", desc := "(II)I" } : MethodName)) ∈ gb_wA := gb_t6 122 rfl rfl
theorem w_1324 : (Cond.instanceMethod ({ cls := "GooseBorderModel", name := "numbered", desc := "(II)I" } : MethodName)) ∈ gb_wA := gb_t6 124 rfl rfl
theorem s_3_8 : Cond.selects "GooseBorderModel" (⟨"GooseBorderModel", "numbered", "(II)I"⟩ : MethodName) (⟨"GooseBorderModel", "numbered", "(II)I"⟩ : MethodName) ∈ gb_wA := gb_s3 8 rfl rfl
theorem dX12_pathLine_33 : decode cX12_pathLine 33 = .ok (.istore_n 3, 1) := dc_62 (show ((cX12_pathLine.data.toList.drop 33).take 1).map UInt8.toNat = [62] by decide +kernel)
theorem dX12_pathLine_34 : decode cX12_pathLine 34 = .ok (.aload_n 0, 1) := dc_42 (show ((cX12_pathLine.data.toList.drop 34).take 1).map UInt8.toNat = [42] by decide +kernel)
theorem dX12_pathLine_35 : decode cX12_pathLine 35 = .ok (.iconst 0, 1) := dc_3 (show ((cX12_pathLine.data.toList.drop 35).take 1).map UInt8.toNat = [3] by decide +kernel)
theorem dX12_pathLine_36 : decode cX12_pathLine 36 = .ok (.bipush 9, 2) := dc_16 (show ((cX12_pathLine.data.toList.drop 36).take 2).map UInt8.toNat = [16, 9] by decide +kernel) rfl
theorem dX12_pathLine_38 : decode cX12_pathLine 38 = .ok (.invokevirtual 140, 3) := dc_182 (show ((cX12_pathLine.data.toList.drop 38).take 3).map UInt8.toNat = [182, 0, 140] by decide +kernel) rfl
theorem dX12_pathLine_41 : decode cX12_pathLine 41 = .ok (.istore 4, 2) := dc_54 (show ((cX12_pathLine.data.toList.drop 41).take 2).map UInt8.toNat = [54, 4] by decide +kernel) rfl
theorem dX12_pathLine_43 : decode cX12_pathLine 43 = .ok (.aload_n 0, 1) := dc_42 (show ((cX12_pathLine.data.toList.drop 43).take 1).map UInt8.toNat = [42] by decide +kernel)
theorem dX12_pathLine_44 : decode cX12_pathLine 44 = .ok (.iconst 0, 1) := dc_3 (show ((cX12_pathLine.data.toList.drop 44).take 1).map UInt8.toNat = [3] by decide +kernel)
theorem dX12_pathLine_45 : decode cX12_pathLine 45 = .ok (.bipush 9, 2) := dc_16 (show ((cX12_pathLine.data.toList.drop 45).take 2).map UInt8.toNat = [16, 9] by decide +kernel) rfl
theorem dX12_pathLine_47 : decode cX12_pathLine 47 = .ok (.invokevirtual 140, 3) := dc_182 (show ((cX12_pathLine.data.toList.drop 47).take 3).map UInt8.toNat = [182, 0, 140] by decide +kernel) rfl
theorem dX12_pathLine_50 : decode cX12_pathLine 50 = .ok (.istore 5, 2) := dc_54 (show ((cX12_pathLine.data.toList.drop 50).take 2).map UInt8.toNat = [54, 5] by decide +kernel) rfl
theorem dX12_pathLine_52 : decode cX12_pathLine 52 = .ok (.iload_n 2, 1) := dc_28 (show ((cX12_pathLine.data.toList.drop 52).take 1).map UInt8.toNat = [28] by decide +kernel)
theorem dX12_pathLine_53 : decode cX12_pathLine 53 = .ok (.ifCond .ne 4, 3) := dc_154 (show ((cX12_pathLine.data.toList.drop 53).take 3).map UInt8.toNat = [154, 0, 4] by decide +kernel) rfl
theorem dX12_pathLine_57 : decode cX12_pathLine 57 = .ok (.iconst 3, 1) := dc_6 (show ((cX12_pathLine.data.toList.drop 57).take 1).map UInt8.toNat = [6] by decide +kernel)
theorem dX12_pathLine_58 : decode cX12_pathLine 58 = .ok (.iconst 3, 1) := dc_6 (show ((cX12_pathLine.data.toList.drop 58).take 1).map UInt8.toNat = [6] by decide +kernel)
theorem dX12_pathLine_59 : decode cX12_pathLine 59 = .ok (.aload_n 0, 1) := dc_42 (show ((cX12_pathLine.data.toList.drop 59).take 1).map UInt8.toNat = [42] by decide +kernel)
theorem dX12_pathLine_60 : decode cX12_pathLine 60 = .ok (.getfield 17, 3) := dc_180 (show ((cX12_pathLine.data.toList.drop 60).take 3).map UInt8.toNat = [180, 0, 17] by decide +kernel) rfl
theorem dX12_pathLine_63 : decode cX12_pathLine 63 = .ok (.iconst 0, 1) := dc_3 (show ((cX12_pathLine.data.toList.drop 63).take 1).map UInt8.toNat = [3] by decide +kernel)
theorem dX12_pathLine_64 : decode cX12_pathLine 64 = .ok (.iaload, 1) := dc_46 (show ((cX12_pathLine.data.toList.drop 64).take 1).map UInt8.toNat = [46] by decide +kernel)
theorem dX12_pathLine_65 : decode cX12_pathLine 65 = .ok (.imul, 1) := dc_104 (show ((cX12_pathLine.data.toList.drop 65).take 1).map UInt8.toNat = [104] by decide +kernel)
theorem dX12_pathLine_66 : decode cX12_pathLine 66 = .ok (.iadd, 1) := dc_96 (show ((cX12_pathLine.data.toList.drop 66).take 1).map UInt8.toNat = [96] by decide +kernel)
theorem dX12_pathLine_67 : decode cX12_pathLine 67 = .ok (.istore 6, 2) := dc_54 (show ((cX12_pathLine.data.toList.drop 67).take 2).map UInt8.toNat = [54, 6] by decide +kernel) rfl
theorem dX12_pathLine_69 : decode cX12_pathLine 69 = .ok (.aload_n 0, 1) := dc_42 (show ((cX12_pathLine.data.toList.drop 69).take 1).map UInt8.toNat = [42] by decide +kernel)
theorem dX12_pathLine_70 : decode cX12_pathLine 70 = .ok (.getfield 17, 3) := dc_180 (show ((cX12_pathLine.data.toList.drop 70).take 3).map UInt8.toNat = [180, 0, 17] by decide +kernel) rfl
theorem dX12_pathLine_73 : decode cX12_pathLine 73 = .ok (.iload 6, 2) := dc_21 (show ((cX12_pathLine.data.toList.drop 73).take 2).map UInt8.toNat = [21, 6] by decide +kernel) rfl
theorem dX12_pathLine_75 : decode cX12_pathLine 75 = .ok (.iconst 0, 1) := dc_3 (show ((cX12_pathLine.data.toList.drop 75).take 1).map UInt8.toNat = [3] by decide +kernel)
theorem dX12_pathLine_76 : decode cX12_pathLine 76 = .ok (.iadd, 1) := dc_96 (show ((cX12_pathLine.data.toList.drop 76).take 1).map UInt8.toNat = [96] by decide +kernel)
theorem dX12_pathLine_77 : decode cX12_pathLine 77 = .ok (.iload_n 3, 1) := dc_29 (show ((cX12_pathLine.data.toList.drop 77).take 1).map UInt8.toNat = [29] by decide +kernel)
theorem dX12_pathLine_78 : decode cX12_pathLine 78 = .ok (.iastore, 1) := dc_79 (show ((cX12_pathLine.data.toList.drop 78).take 1).map UInt8.toNat = [79] by decide +kernel)
theorem dX12_pathLine_79 : decode cX12_pathLine 79 = .ok (.aload_n 0, 1) := dc_42 (show ((cX12_pathLine.data.toList.drop 79).take 1).map UInt8.toNat = [42] by decide +kernel)
theorem dX12_pathLine_80 : decode cX12_pathLine 80 = .ok (.getfield 17, 3) := dc_180 (show ((cX12_pathLine.data.toList.drop 80).take 3).map UInt8.toNat = [180, 0, 17] by decide +kernel) rfl
theorem dX12_pathLine_83 : decode cX12_pathLine 83 = .ok (.iload 6, 2) := dc_21 (show ((cX12_pathLine.data.toList.drop 83).take 2).map UInt8.toNat = [21, 6] by decide +kernel) rfl
theorem dX12_pathLine_85 : decode cX12_pathLine 85 = .ok (.iconst 1, 1) := dc_4 (show ((cX12_pathLine.data.toList.drop 85).take 1).map UInt8.toNat = [4] by decide +kernel)
theorem dX12_pathLine_86 : decode cX12_pathLine 86 = .ok (.iadd, 1) := dc_96 (show ((cX12_pathLine.data.toList.drop 86).take 1).map UInt8.toNat = [96] by decide +kernel)
theorem dX12_pathLine_87 : decode cX12_pathLine 87 = .ok (.iload 4, 2) := dc_21 (show ((cX12_pathLine.data.toList.drop 87).take 2).map UInt8.toNat = [21, 4] by decide +kernel) rfl
theorem dX12_pathLine_89 : decode cX12_pathLine 89 = .ok (.iastore, 1) := dc_79 (show ((cX12_pathLine.data.toList.drop 89).take 1).map UInt8.toNat = [79] by decide +kernel)
theorem dX12_pathLine_90 : decode cX12_pathLine 90 = .ok (.aload_n 0, 1) := dc_42 (show ((cX12_pathLine.data.toList.drop 90).take 1).map UInt8.toNat = [42] by decide +kernel)
theorem dX12_pathLine_91 : decode cX12_pathLine 91 = .ok (.getfield 17, 3) := dc_180 (show ((cX12_pathLine.data.toList.drop 91).take 3).map UInt8.toNat = [180, 0, 17] by decide +kernel) rfl
theorem dX12_pathLine_94 : decode cX12_pathLine 94 = .ok (.iload 6, 2) := dc_21 (show ((cX12_pathLine.data.toList.drop 94).take 2).map UInt8.toNat = [21, 6] by decide +kernel) rfl
theorem dX12_pathLine_96 : decode cX12_pathLine 96 = .ok (.iconst 2, 1) := dc_5 (show ((cX12_pathLine.data.toList.drop 96).take 1).map UInt8.toNat = [5] by decide +kernel)
theorem dX12_pathLine_97 : decode cX12_pathLine 97 = .ok (.iadd, 1) := dc_96 (show ((cX12_pathLine.data.toList.drop 97).take 1).map UInt8.toNat = [96] by decide +kernel)
theorem dX12_pathLine_98 : decode cX12_pathLine 98 = .ok (.iload 5, 2) := dc_21 (show ((cX12_pathLine.data.toList.drop 98).take 2).map UInt8.toNat = [21, 5] by decide +kernel) rfl
theorem dX12_pathLine_100 : decode cX12_pathLine 100 = .ok (.iastore, 1) := dc_79 (show ((cX12_pathLine.data.toList.drop 100).take 1).map UInt8.toNat = [79] by decide +kernel)
theorem dX12_pathLine_101 : decode cX12_pathLine 101 = .ok (.aload_n 0, 1) := dc_42 (show ((cX12_pathLine.data.toList.drop 101).take 1).map UInt8.toNat = [42] by decide +kernel)
theorem dX12_pathLine_102 : decode cX12_pathLine 102 = .ok (.getfield 17, 3) := dc_180 (show ((cX12_pathLine.data.toList.drop 102).take 3).map UInt8.toNat = [180, 0, 17] by decide +kernel) rfl
theorem dX12_pathLine_105 : decode cX12_pathLine 105 = .ok (.iconst 0, 1) := dc_3 (show ((cX12_pathLine.data.toList.drop 105).take 1).map UInt8.toNat = [3] by decide +kernel)
theorem dX12_pathLine_106 : decode cX12_pathLine 106 = .ok (.dup2, 1) := dc_92 (show ((cX12_pathLine.data.toList.drop 106).take 1).map UInt8.toNat = [92] by decide +kernel)
theorem dX12_pathLine_107 : decode cX12_pathLine 107 = .ok (.iaload, 1) := dc_46 (show ((cX12_pathLine.data.toList.drop 107).take 1).map UInt8.toNat = [46] by decide +kernel)
theorem dX12_pathLine_108 : decode cX12_pathLine 108 = .ok (.iconst 1, 1) := dc_4 (show ((cX12_pathLine.data.toList.drop 108).take 1).map UInt8.toNat = [4] by decide +kernel)
theorem dX12_pathLine_109 : decode cX12_pathLine 109 = .ok (.iadd, 1) := dc_96 (show ((cX12_pathLine.data.toList.drop 109).take 1).map UInt8.toNat = [96] by decide +kernel)
theorem dX12_pathLine_110 : decode cX12_pathLine 110 = .ok (.iastore, 1) := dc_79 (show ((cX12_pathLine.data.toList.drop 110).take 1).map UInt8.toNat = [79] by decide +kernel)
theorem dX12_pathLine_111 : decode cX12_pathLine 111 = .ok (.return_, 1) := dc_177 (show ((cX12_pathLine.data.toList.drop 111).take 1).map UInt8.toNat = [177] by decide +kernel)
theorem dX12_pathLine_56 : decode cX12_pathLine 56 = .ok (.return_, 1) := dc_177 (show ((cX12_pathLine.data.toList.drop 56).take 1).map UInt8.toNat = [177] by decide +kernel)
theorem dX12_pathLine_20 : decode cX12_pathLine 20 = .ok (.aload_n 0, 1) := dc_42 (show ((cX12_pathLine.data.toList.drop 20).take 1).map UInt8.toNat = [42] by decide +kernel)
theorem dX12_pathLine_21 : decode cX12_pathLine 21 = .ok (.iconst 3, 1) := dc_6 (show ((cX12_pathLine.data.toList.drop 21).take 1).map UInt8.toNat = [6] by decide +kernel)
theorem dX12_pathLine_22 : decode cX12_pathLine 22 = .ok (.iload_n 1, 1) := dc_27 (show ((cX12_pathLine.data.toList.drop 22).take 1).map UInt8.toNat = [27] by decide +kernel)
theorem dX12_pathLine_23 : decode cX12_pathLine 23 = .ok (.invokevirtual 133, 3) := dc_182 (show ((cX12_pathLine.data.toList.drop 23).take 3).map UInt8.toNat = [182, 0, 133] by decide +kernel) rfl
theorem dX12_pathLine_10 : decode cX12_pathLine 10 = .ok (.iconst 1, 1) := dc_4 (show ((cX12_pathLine.data.toList.drop 10).take 1).map UInt8.toNat = [4] by decide +kernel)
theorem dX12_pathLine_11 : decode cX12_pathLine 11 = .ok (.goto 4, 3) := dc_167 (show ((cX12_pathLine.data.toList.drop 11).take 3).map UInt8.toNat = [167, 0, 4] by decide +kernel) rfl
def ms_pathLine_26 (n : Nat) (f : gb_F) (w : Int64) (v2 : Int32) : gb_MR Unit := gb_bd (ms_numbered n f w 1 20) (fun f_4 wl_5 r_6 => gb_bd (ms_numbered n f_4 wl_5 0 9) (fun f_9 wl_10 r_11 => gb_bd (ms_numbered n f_9 wl_10 0 9) (fun f_14 wl_15 r_16 => (if v2 = 0 then some (f_14, wl_15, ()) else gb_lt (f_14 3 (Int32.toNatClampNeg 0)) (fun x_20 => gb_lt (3 + (3 * x_20)) (fun x_21 => gb_ck (x_21 + 0) 97 (gb_lt (gb_u f_14 3 (upd (f_14 3) (Int32.toNatClampNeg (x_21 + 0)) r_6)) (fun f_23 => gb_ck (x_21 + 1) 97 (gb_lt (gb_u f_23 3 (upd (f_23 3) (Int32.toNatClampNeg (x_21 + 1)) r_11)) (fun f_25 => gb_ck (x_21 + 2) 97 (gb_lt (gb_u f_25 3 (upd (f_25 3) (Int32.toNatClampNeg (x_21 + 2)) r_16)) (fun f_27 => gb_lt (f_27 3 (Int32.toNatClampNeg 0)) (fun x_28 => gb_lt (gb_u f_27 3 (upd (f_27 3) (Int32.toNatClampNeg 0) (x_28 + 1))) (fun f_29 => some (f_29, wl_15, ())))))))))))))))
def ms_pathLine_15 (n : Nat) (f : gb_F) (w : Int64) (v1 : Int32) (t0 : Int32) : gb_MR Unit := (if t0 = 0 then gb_bd (ms_also n f w 3 v1) (fun f_30 wl_31 _ => ms_pathLine_26 n f_30 wl_31 t0) else ms_pathLine_26 n f w t0)
def ms_pathLine (n : Nat) (f : gb_F) (w : Int64) (p1 : Int32) : gb_MR Unit := gb_lt (f 3 (Int32.toNatClampNeg 0)) (fun x_1 => (if (5 : Int32) ≤ x_1 then ms_pathLine_15 n f w p1 0 else ms_pathLine_15 n f w p1 1))
set_option maxHeartbeats 8000000 in
set_option maxRecDepth 100000 in
theorem mc_pathLine (l : Launch) (D : va_G) (cT : Nat → ClassId) (tt : Nat → Nat) (b1 b : Nat) (hb1 : b1 ≤ b) (n : Nat) (f : gb_F) (w : Int64) (p1 : Int32) (fE : gb_F) (wE : Int64) (rE : Unit) (h : ms_pathLine n f w p1 = some (fE, wE, rE)) : Met l yX12_pathLine (.code yX12_pathLine cX12_pathLine 7 none :: gb_wA) ({ frames := 5, cells := 0, slots := 0, locals := 117 }) (gb_Pc D cT tt b1 [.ref (b + 0), .int p1] (fun h => va_P D vwCl (gb_wl b (gb_MW cT b f w)) h)) (gb_Qv (fun h => va_P D vwCl (gb_wl b (gb_MW cT b fE wE)) h) (gb_fr b 22)) 0 0 (gb_fr b 22) := by
  refine Met.ofW (cc := cX12_pathLine) (maxL := 7) (ret := none) (by decide) rfl ?_
  intro p e s m args below meth c s₁ B hml hv
  obtain ⟨rfl, hSt, hP⟩ := hv
  have hx := B.exec
  have hb := B.bytes
  have hr := B.returns
  have hts := atoms_spec (ws := .code yX12_pathLine cX12_pathLine 7 none :: gb_wA) B.pre
  have hq : ∀ w ∈ gb_wA, w.before _ s = true := fun w h => hts w (List.mem_cons_of_mem _ h)
  have hown : s.vm.findClass RX12 = some m.cls := findClass_of_methodNamed B.named
  have hlocks := B.notSynchronized
  clear B hts
  have hK := hSt.1
  have hS : va_S (gb_fr b 22) s.heap s.heap [] := va_S.rf
  have hl := lv_entry ([.ref (b + 0), .int p1]) (n := 7) (Nat.le_of_ble_eq_true rfl)
  rw [lg_entry_eq]
  generalize (lg_sl ([.ref (b + 0), .int p1]) ++ List.replicate (7 - (lg_sl ([.ref (b + 0), .int p1])).length) Slot.unset).toArray = ls at hl ⊢
  replace hl : lv_has ls 7 [(0, .ref (b + 0)), (1, .int p1)] := hl
  have L26 : ∀ (f : gb_F) (w : Int64) (v2 : Int32) (H : Heap) (locs : List Loc) (ls : Array Slot), ms_pathLine_26 n f w v2 = some (fE, wE, rE) → va_P D vwCl (gb_wl b (gb_MW cT b f w)) H → va_S (gb_fr b 22) s.heap H locs → lv_has ls 7 [(0, .ref (b + 0)), (2, .int v2)] → W p l e (headSpec (.code yX12_pathLine cX12_pathLine 7 none :: gb_wA) ({ frames := 5, cells := 0, slots := 0, locals := 117 })).room s m ([.ref (b + 0), .int p1]).toArray below meth c H locs 0 0 (MQ below (gb_Qv (fun h => va_P D vwCl (gb_wl b (gb_MW cT b fE wE)) h) (gb_fr b 22)) ([.ref (b + 0), .int p1]).toArray s 0 0 (gb_fr b 22)) (F0 m 26 ls []) := by
    clear h hP hS hl ls f w
    intro f w v2 H locs ls h hP hS hl
    unfold ms_pathLine_26 at h
    refine lv_aload_n hx hb dX12_pathLine_26 rfl (lv_at hl 0 rfl) ?_
    refine lv_iconst (v := 1) hx hb dX12_pathLine_27 (by decide) ?_
    refine lv_bipush (v := 20) hx hb dX12_pathLine_28 (by decide) ?_
    obtain ⟨f_4, wl_5, r_6, z_7, h⟩ := gb_bd_s h
    refine gb_calli (va_runV (C := RX12) (As := [.int 1, .int 20]) (rest := []) ⟨hx, hb, hml, hown, hq⟩ (mc_numbered l D cT tt b1 b hb1 n f w 1 20 f_4 wl_5 r_6 z_7) (cwV 2 hq (gb_gV w_1322 w_1324 s_3_8 w_14 w_1325) rfl rfl rfl (by decide +kernel) ⟨Nat.le_of_ble_eq_true rfl, Nat.le_of_ble_eq_true rfl⟩) (gb_preV (r := (RX12, TX12, 44)) (ci := 10) (q0 := 0) hSt hP rfl (gb_at b rfl) hS (fun q h => Nat.le_trans hb1 h.1) hP) rfl rfl hl.1 rfl (lv_room (Nat.le_of_ble_eq_true rfl)) dX12_pathLine_30 ⟨Nat.le_of_ble_eq_true rfl, Nat.le_of_ble_eq_true rfl⟩) hS (fun _ h => h) (fun _ h => h) (fun q_8 H locs hY hk hS => ?_)
    obtain ⟨hq_8, hP⟩ := hY
    replace hq_8 := hq_8.symm
    subst hq_8
    refine lv_istore_n (lv' := [(3, .int r_6), (0, .ref (b + 0)), (2, .int v2)]) hx hb dX12_pathLine_33 rfl hl (by decide) rfl (fun ls hl => ?_)
    refine lv_aload_n hx hb dX12_pathLine_34 rfl (lv_at hl 1 rfl) ?_
    refine lv_iconst (v := 0) hx hb dX12_pathLine_35 (by decide) ?_
    refine lv_bipush (v := 9) hx hb dX12_pathLine_36 (by decide) ?_
    obtain ⟨f_9, wl_10, r_11, z_12, h⟩ := gb_bd_s h
    refine gb_calli (va_runV (C := RX12) (As := [.int 0, .int 9]) (rest := []) ⟨hx, hb, hml, hown, hq⟩ (mc_numbered l D cT tt b1 b hb1 n f_4 wl_5 0 9 f_9 wl_10 r_11 z_12) (cwV 2 hq (gb_gV w_1322 w_1324 s_3_8 w_14 w_1325) rfl rfl rfl (by decide +kernel) ⟨Nat.le_of_ble_eq_true rfl, Nat.le_of_ble_eq_true rfl⟩) (gb_preV (r := (RX12, TX12, 44)) (ci := 10) (q0 := 0) hSt hP rfl (gb_at b rfl) hS (fun q h => Nat.le_trans hb1 h.1) hP) rfl rfl hl.1 rfl (lv_room (Nat.le_of_ble_eq_true rfl)) dX12_pathLine_38 ⟨Nat.le_of_ble_eq_true rfl, Nat.le_of_ble_eq_true rfl⟩) hS (fun _ h => h) (fun _ h => h) (fun q_13 H locs hY hk hS => ?_)
    obtain ⟨hq_13, hP⟩ := hY
    replace hq_13 := hq_13.symm
    subst hq_13
    refine lv_istore (lv' := [(4, .int r_11), (3, .int r_6), (0, .ref (b + 0)), (2, .int v2)]) hx hb dX12_pathLine_41 hl (by decide) rfl (fun ls hl => ?_)
    refine lv_aload_n hx hb dX12_pathLine_43 rfl (lv_at hl 2 rfl) ?_
    refine lv_iconst (v := 0) hx hb dX12_pathLine_44 (by decide) ?_
    refine lv_bipush (v := 9) hx hb dX12_pathLine_45 (by decide) ?_
    obtain ⟨f_14, wl_15, r_16, z_17, h⟩ := gb_bd_s h
    refine gb_calli (va_runV (C := RX12) (As := [.int 0, .int 9]) (rest := []) ⟨hx, hb, hml, hown, hq⟩ (mc_numbered l D cT tt b1 b hb1 n f_9 wl_10 0 9 f_14 wl_15 r_16 z_17) (cwV 2 hq (gb_gV w_1322 w_1324 s_3_8 w_14 w_1325) rfl rfl rfl (by decide +kernel) ⟨Nat.le_of_ble_eq_true rfl, Nat.le_of_ble_eq_true rfl⟩) (gb_preV (r := (RX12, TX12, 44)) (ci := 10) (q0 := 0) hSt hP rfl (gb_at b rfl) hS (fun q h => Nat.le_trans hb1 h.1) hP) rfl rfl hl.1 rfl (lv_room (Nat.le_of_ble_eq_true rfl)) dX12_pathLine_47 ⟨Nat.le_of_ble_eq_true rfl, Nat.le_of_ble_eq_true rfl⟩) hS (fun _ h => h) (fun _ h => h) (fun q_18 H locs hY hk hS => ?_)
    obtain ⟨hq_18, hP⟩ := hY
    replace hq_18 := hq_18.symm
    subst hq_18
    refine lv_istore (lv' := [(5, .int r_16), (4, .int r_11), (3, .int r_6), (0, .ref (b + 0)), (2, .int v2)]) hx hb dX12_pathLine_50 hl (by decide) rfl (fun ls hl => ?_)
    refine lv_iload_n hx hb dX12_pathLine_52 rfl (lv_at hl 4 rfl) ?_
    refine lv_if_ne (tgt := 57) hx hb dX12_pathLine_53 (by decide) (fun c_19 => ?_) (fun c_19 => ?_)
    · rw [if_neg c_19] at h
      refine lv_iconst (v := 3) hx hb dX12_pathLine_57 (by decide) ?_
      refine lv_iconst (v := 3) hx hb dX12_pathLine_58 (by decide) ?_
      refine lv_aload_n hx hb dX12_pathLine_59 rfl (lv_at hl 3 rfl) ?_
      refine va_get (ci := 10) (v := (.ref (b + 3))) (C := RX12) (T := TX12) (N := 44) hx hb hq i_X12 hown hK hP 0 (gb_at b rfl) rfl 10 (by decide) (hq _ w_1134) (fun _ h9 => h9) rfl dX12_pathLine_60 ?_
      refine lv_iconst (v := 0) hx hb dX12_pathLine_63 (by decide) ?_
      refine va_iald hx hb hK hP 3 0 (gb_at b rfl) rfl (gb_in rfl) dX12_pathLine_64 ?_
      refine lv_topi (fun x_20 ex_20 => ?_)
      replace h := gb_lt_s ex_20 h
      refine lv_imul hx hb dX12_pathLine_65 ?_
      refine lv_iadd hx hb dX12_pathLine_66 ?_
      refine lv_topi (fun x_21 ex_21 => ?_)
      replace h := gb_lt_s ex_21 h
      refine lv_istore (lv' := [(6, .int x_21), (5, .int r_16), (4, .int r_11), (3, .int r_6), (0, .ref (b + 0)), (2, .int v2)]) hx hb dX12_pathLine_67 hl (by decide) rfl (fun ls hl => ?_)
      refine lv_aload_n hx hb dX12_pathLine_69 rfl (lv_at hl 4 rfl) ?_
      refine va_get (ci := 10) (v := (.ref (b + 3))) (C := RX12) (T := TX12) (N := 44) hx hb hq i_X12 hown hK hP 0 (gb_at b rfl) rfl 10 (by decide) (hq _ w_1134) (fun _ h9 => h9) rfl dX12_pathLine_70 ?_
      refine lv_iload hx hb dX12_pathLine_73 (lv_at hl 0 rfl) ?_
      refine lv_iconst (v := 0) hx hb dX12_pathLine_75 (by decide) ?_
      refine lv_iadd hx hb dX12_pathLine_76 ?_
      refine lv_iload_n hx hb dX12_pathLine_77 rfl (lv_at hl 3 rfl) ?_
      obtain ⟨z_22, h⟩ := gb_ck_s h
      refine gb_iast (x := r_6) hx hb hK hP (fun k h => ⟨Nat.le_add_right b k, Nat.add_lt_add_left h b⟩) hS rfl 3 0 rfl rfl z_22 dX12_pathLine_78 (fun H locs hP hz_ hS => ?_)
      obtain ⟨f_23, ef_23⟩ : ∃ q, q = (gb_u f_14 3 (upd (f_14 3) (Int32.toNatClampNeg (x_21 + 0)) r_6)) := ⟨_, rfl⟩
      replace hP : va_P D vwCl (gb_wl b (gb_MW cT b f_23 wl_15)) H := by rw [ef_23]; exact hP
      replace h := gb_lt_s ef_23 h
      refine lv_aload_n hx hb dX12_pathLine_79 rfl (lv_at hl 4 rfl) ?_
      refine va_get (ci := 10) (v := (.ref (b + 3))) (C := RX12) (T := TX12) (N := 44) hx hb hq i_X12 hown hK hP 0 (gb_at b rfl) rfl 10 (by decide) (hq _ w_1134) (fun _ h9 => h9) rfl dX12_pathLine_80 ?_
      refine lv_iload hx hb dX12_pathLine_83 (lv_at hl 0 rfl) ?_
      refine lv_iconst (v := 1) hx hb dX12_pathLine_85 (by decide) ?_
      refine lv_iadd hx hb dX12_pathLine_86 ?_
      refine lv_iload hx hb dX12_pathLine_87 (lv_at hl 2 rfl) ?_
      obtain ⟨z_24, h⟩ := gb_ck_s h
      refine gb_iast (x := r_11) hx hb hK hP (fun k h => ⟨Nat.le_add_right b k, Nat.add_lt_add_left h b⟩) hS rfl 3 0 rfl rfl z_24 dX12_pathLine_89 (fun H locs hP hz_ hS => ?_)
      obtain ⟨f_25, ef_25⟩ : ∃ q, q = (gb_u f_23 3 (upd (f_23 3) (Int32.toNatClampNeg (x_21 + 1)) r_11)) := ⟨_, rfl⟩
      replace hP : va_P D vwCl (gb_wl b (gb_MW cT b f_25 wl_15)) H := by rw [ef_25]; exact hP
      replace h := gb_lt_s ef_25 h
      refine lv_aload_n hx hb dX12_pathLine_90 rfl (lv_at hl 4 rfl) ?_
      refine va_get (ci := 10) (v := (.ref (b + 3))) (C := RX12) (T := TX12) (N := 44) hx hb hq i_X12 hown hK hP 0 (gb_at b rfl) rfl 10 (by decide) (hq _ w_1134) (fun _ h9 => h9) rfl dX12_pathLine_91 ?_
      refine lv_iload hx hb dX12_pathLine_94 (lv_at hl 0 rfl) ?_
      refine lv_iconst (v := 2) hx hb dX12_pathLine_96 (by decide) ?_
      refine lv_iadd hx hb dX12_pathLine_97 ?_
      refine lv_iload hx hb dX12_pathLine_98 (lv_at hl 1 rfl) ?_
      obtain ⟨z_26, h⟩ := gb_ck_s h
      refine gb_iast (x := r_16) hx hb hK hP (fun k h => ⟨Nat.le_add_right b k, Nat.add_lt_add_left h b⟩) hS rfl 3 0 rfl rfl z_26 dX12_pathLine_100 (fun H locs hP hz_ hS => ?_)
      obtain ⟨f_27, ef_27⟩ : ∃ q, q = (gb_u f_25 3 (upd (f_25 3) (Int32.toNatClampNeg (x_21 + 2)) r_16)) := ⟨_, rfl⟩
      replace hP : va_P D vwCl (gb_wl b (gb_MW cT b f_27 wl_15)) H := by rw [ef_27]; exact hP
      replace h := gb_lt_s ef_27 h
      refine lv_aload_n hx hb dX12_pathLine_101 rfl (lv_at hl 4 rfl) ?_
      refine va_get (ci := 10) (v := (.ref (b + 3))) (C := RX12) (T := TX12) (N := 44) hx hb hq i_X12 hown hK hP 0 (gb_at b rfl) rfl 10 (by decide) (hq _ w_1134) (fun _ h9 => h9) rfl dX12_pathLine_102 ?_
      refine lv_iconst (v := 0) hx hb dX12_pathLine_105 (by decide) ?_
      refine lv_dup2_11 hx hb dX12_pathLine_106 rfl rfl ?_
      refine va_iald hx hb hK hP 3 0 (gb_at b rfl) rfl (gb_in rfl) dX12_pathLine_107 ?_
      refine lv_topi (fun x_28 ex_28 => ?_)
      replace h := gb_lt_s ex_28 h
      refine lv_iconst (v := 1) hx hb dX12_pathLine_108 (by decide) ?_
      refine lv_iadd hx hb dX12_pathLine_109 ?_
      refine gb_iast (x := (x_28 + 1)) hx hb hK hP (fun k h => ⟨Nat.le_add_right b k, Nat.add_lt_add_left h b⟩) hS rfl 3 0 rfl rfl (gb_in rfl) dX12_pathLine_110 (fun H locs hP hz_ hS => ?_)
      obtain ⟨f_29, ef_29⟩ : ∃ q, q = (gb_u f_27 3 (upd (f_27 3) (Int32.toNatClampNeg 0) (x_28 + 1))) := ⟨_, rfl⟩
      replace hP : va_P D vwCl (gb_wl b (gb_MW cT b f_29 wl_15)) H := by rw [ef_29]; exact hP
      replace h := gb_lt_s ef_29 h
      obtain ⟨e1, e2, -⟩ := gb_eq3 h
      exact W.vret hx hb hr (fun t ht hW => gb_rv ht (by rw [← e1, ← e2]; exact hP) hS) hS.2.2 dX12_pathLine_111
    · rw [if_pos c_19] at h
      obtain ⟨e1, e2, -⟩ := gb_eq3 h
      exact W.vret hx hb hr (fun t ht hW => gb_rv ht (by rw [← e1, ← e2]; exact hP) hS) hS.2.2 dX12_pathLine_56
  have L15 : ∀ (f : gb_F) (w : Int64) (v1 : Int32) (t0 : Int32) (H : Heap) (locs : List Loc) (ls : Array Slot), ms_pathLine_15 n f w v1 t0 = some (fE, wE, rE) → va_P D vwCl (gb_wl b (gb_MW cT b f w)) H → va_S (gb_fr b 22) s.heap H locs → lv_has ls 7 [(0, .ref (b + 0)), (1, .int v1)] → W p l e (headSpec (.code yX12_pathLine cX12_pathLine 7 none :: gb_wA) ({ frames := 5, cells := 0, slots := 0, locals := 117 })).room s m ([.ref (b + 0), .int p1]).toArray below meth c H locs 0 0 (MQ below (gb_Qv (fun h => va_P D vwCl (gb_wl b (gb_MW cT b fE wE)) h) (gb_fr b 22)) ([.ref (b + 0), .int p1]).toArray s 0 0 (gb_fr b 22)) (F0 m 15 ls [.int t0]) := by
    clear h hP hS hl ls f w
    intro f w v1 t0 H locs ls h hP hS hl
    unfold ms_pathLine_15 at h
    refine lv_istore_n (lv' := [(2, .int t0), (0, .ref (b + 0)), (1, .int v1)]) hx hb dX12_pathLine_15 rfl hl (by decide) rfl (fun ls hl => ?_)
    refine lv_iload_n hx hb dX12_pathLine_16 rfl (lv_at hl 0 rfl) ?_
    refine lv_if_ne (tgt := 26) hx hb dX12_pathLine_17 (by decide) (fun c_3 => ?_) (fun c_3 => ?_)
    · rw [if_neg c_3] at h
      exact L26 _ _ _ _ _ _ h hP hS (lv_sub hl [1, 0] rfl)
    · rw [if_pos c_3] at h
      refine lv_aload_n hx hb dX12_pathLine_20 rfl (lv_at hl 1 rfl) ?_
      refine lv_iconst (v := 3) hx hb dX12_pathLine_21 (by decide) ?_
      refine lv_iload_n hx hb dX12_pathLine_22 rfl (lv_at hl 2 rfl) ?_
      obtain ⟨f_30, wl_31, r_32, z_33, h⟩ := gb_bd_s h
      refine gb_callv (va_runV (C := RX12) (As := [.int 3, .int v1]) (rest := []) ⟨hx, hb, hml, hown, hq⟩ (mc_also l D cT tt b1 b hb1 n f w 3 v1 f_30 wl_31 r_32 z_33) (cwV 2 hq (gb_gV w_1318 w_1320 s_3_7 w_14 w_1321) rfl rfl rfl (by decide +kernel) ⟨Nat.le_of_ble_eq_true rfl, Nat.le_of_ble_eq_true rfl⟩) (gb_preV (r := (RX12, TX12, 44)) (ci := 10) (q0 := 0) hSt hP rfl (gb_at b rfl) hS (fun q h => Nat.le_trans hb1 h.1) hP) rfl rfl hl.1 rfl (lv_room (Nat.le_of_ble_eq_true rfl)) dX12_pathLine_23 ⟨Nat.le_of_ble_eq_true rfl, Nat.le_of_ble_eq_true rfl⟩) hS (fun _ h => h) (fun _ h => h) (fun H locs hY hk hS => ?_)
      have hP := hY
      exact L26 _ _ _ _ _ _ h hP hS (lv_sub hl [1, 0] rfl)
  unfold ms_pathLine at h
  refine lv_aload_n hx hb dX12_pathLine_0 rfl (lv_at hl 0 rfl) ?_
  refine va_get (ci := 10) (v := (.ref (b + 3))) (C := RX12) (T := TX12) (N := 44) hx hb hq i_X12 hown hK hP 0 (gb_at b rfl) rfl 10 (by decide) (hq _ w_1134) (fun _ h9 => h9) rfl dX12_pathLine_1 ?_
  refine lv_iconst (v := 0) hx hb dX12_pathLine_4 (by decide) ?_
  refine va_iald hx hb hK hP 3 0 (gb_at b rfl) rfl (gb_in rfl) dX12_pathLine_5 ?_
  refine lv_topi (fun x_1 ex_1 => ?_)
  replace h := gb_lt_s ex_1 h
  refine lv_iconst (v := 5) hx hb dX12_pathLine_6 (by decide) ?_
  refine lv_icmp_ge (tgt := 14) hx hb dX12_pathLine_7 (by decide) (fun c_2 => ?_) (fun c_2 => ?_)
  · rw [if_pos c_2] at h
    refine lv_iconst (v := 0) hx hb dX12_pathLine_14 (by decide) ?_
    exact L15 _ _ _ _ _ _ _ h hP hS (lv_sub hl [0, 1] rfl)
  · rw [if_neg c_2] at h
    refine lv_iconst (v := 1) hx hb dX12_pathLine_10 (by decide) ?_
    refine lv_goto (tgt := 15) hx hb dX12_pathLine_11 (by decide) ?_
    exact L15 _ _ _ _ _ _ _ h hP hS (lv_sub hl [0, 1] rfl)
theorem dX12_gooseLine_0 : decode cX12_gooseLine 0 = .ok (.aload_n 0, 1) := dc_42 (show ((cX12_gooseLine.data.toList.drop 0).take 1).map UInt8.toNat = [42] by decide +kernel)
theorem dX12_gooseLine_1 : decode cX12_gooseLine 1 = .ok (.getfield 17, 3) := dc_180 (show ((cX12_gooseLine.data.toList.drop 1).take 3).map UInt8.toNat = [180, 0, 17] by decide +kernel) rfl
theorem dX12_gooseLine_4 : decode cX12_gooseLine 4 = .ok (.iconst 1, 1) := dc_4 (show ((cX12_gooseLine.data.toList.drop 4).take 1).map UInt8.toNat = [4] by decide +kernel)
theorem dX12_gooseLine_5 : decode cX12_gooseLine 5 = .ok (.iaload, 1) := dc_46 (show ((cX12_gooseLine.data.toList.drop 5).take 1).map UInt8.toNat = [46] by decide +kernel)
theorem dX12_gooseLine_6 : decode cX12_gooseLine 6 = .ok (.bipush 8, 2) := dc_16 (show ((cX12_gooseLine.data.toList.drop 6).take 2).map UInt8.toNat = [16, 8] by decide +kernel) rfl
theorem dX12_gooseLine_8 : decode cX12_gooseLine 8 = .ok (.if_icmp .ge 7, 3) := dc_162 (show ((cX12_gooseLine.data.toList.drop 8).take 3).map UInt8.toNat = [162, 0, 7] by decide +kernel) rfl
theorem dX12_gooseLine_15 : decode cX12_gooseLine 15 = .ok (.iconst 0, 1) := dc_3 (show ((cX12_gooseLine.data.toList.drop 15).take 1).map UInt8.toNat = [3] by decide +kernel)
theorem dX12_gooseLine_16 : decode cX12_gooseLine 16 = .ok (.istore_n 2, 1) := dc_61 (show ((cX12_gooseLine.data.toList.drop 16).take 1).map UInt8.toNat = [61] by decide +kernel)
theorem dX12_gooseLine_17 : decode cX12_gooseLine 17 = .ok (.iload_n 2, 1) := dc_28 (show ((cX12_gooseLine.data.toList.drop 17).take 1).map UInt8.toNat = [28] by decide +kernel)
theorem dX12_gooseLine_18 : decode cX12_gooseLine 18 = .ok (.ifCond .ne 9, 3) := dc_154 (show ((cX12_gooseLine.data.toList.drop 18).take 3).map UInt8.toNat = [154, 0, 9] by decide +kernel) rfl
theorem dX12_gooseLine_27 : decode cX12_gooseLine 27 = .ok (.aload_n 0, 1) := dc_42 (show ((cX12_gooseLine.data.toList.drop 27).take 1).map UInt8.toNat = [42] by decide +kernel)
theorem dX12_gooseLine_28 : decode cX12_gooseLine 28 = .ok (.iconst 0, 1) := dc_3 (show ((cX12_gooseLine.data.toList.drop 28).take 1).map UInt8.toNat = [3] by decide +kernel)
theorem dX12_gooseLine_29 : decode cX12_gooseLine 29 = .ok (.iconst 4, 1) := dc_7 (show ((cX12_gooseLine.data.toList.drop 29).take 1).map UInt8.toNat = [7] by decide +kernel)
theorem dX12_gooseLine_30 : decode cX12_gooseLine 30 = .ok (.invokevirtual 140, 3) := dc_182 (show ((cX12_gooseLine.data.toList.drop 30).take 3).map UInt8.toNat = [182, 0, 140] by decide +kernel) rfl
theorem dX12_gooseLine_33 : decode cX12_gooseLine 33 = .ok (.istore_n 3, 1) := dc_62 (show ((cX12_gooseLine.data.toList.drop 33).take 1).map UInt8.toNat = [62] by decide +kernel)
theorem dX12_gooseLine_34 : decode cX12_gooseLine 34 = .ok (.aload_n 0, 1) := dc_42 (show ((cX12_gooseLine.data.toList.drop 34).take 1).map UInt8.toNat = [42] by decide +kernel)
theorem dX12_gooseLine_35 : decode cX12_gooseLine 35 = .ok (.iconst 0, 1) := dc_3 (show ((cX12_gooseLine.data.toList.drop 35).take 1).map UInt8.toNat = [3] by decide +kernel)
theorem dX12_gooseLine_36 : decode cX12_gooseLine 36 = .ok (.iconst 4, 1) := dc_7 (show ((cX12_gooseLine.data.toList.drop 36).take 1).map UInt8.toNat = [7] by decide +kernel)
theorem dX12_gooseLine_37 : decode cX12_gooseLine 37 = .ok (.invokevirtual 140, 3) := dc_182 (show ((cX12_gooseLine.data.toList.drop 37).take 3).map UInt8.toNat = [182, 0, 140] by decide +kernel) rfl
theorem dX12_gooseLine_40 : decode cX12_gooseLine 40 = .ok (.istore 4, 2) := dc_54 (show ((cX12_gooseLine.data.toList.drop 40).take 2).map UInt8.toNat = [54, 4] by decide +kernel) rfl
theorem dX12_gooseLine_42 : decode cX12_gooseLine 42 = .ok (.aload_n 0, 1) := dc_42 (show ((cX12_gooseLine.data.toList.drop 42).take 1).map UInt8.toNat = [42] by decide +kernel)
theorem dX12_gooseLine_43 : decode cX12_gooseLine 43 = .ok (.iconst 0, 1) := dc_3 (show ((cX12_gooseLine.data.toList.drop 43).take 1).map UInt8.toNat = [3] by decide +kernel)
theorem dX12_gooseLine_44 : decode cX12_gooseLine 44 = .ok (.bipush 60, 2) := dc_16 (show ((cX12_gooseLine.data.toList.drop 44).take 2).map UInt8.toNat = [16, 60] by decide +kernel) rfl
theorem dX12_gooseLine_46 : decode cX12_gooseLine 46 = .ok (.invokevirtual 140, 3) := dc_182 (show ((cX12_gooseLine.data.toList.drop 46).take 3).map UInt8.toNat = [182, 0, 140] by decide +kernel) rfl
theorem dX12_gooseLine_49 : decode cX12_gooseLine 49 = .ok (.istore 5, 2) := dc_54 (show ((cX12_gooseLine.data.toList.drop 49).take 2).map UInt8.toNat = [54, 5] by decide +kernel) rfl
theorem dX12_gooseLine_51 : decode cX12_gooseLine 51 = .ok (.aload_n 0, 1) := dc_42 (show ((cX12_gooseLine.data.toList.drop 51).take 1).map UInt8.toNat = [42] by decide +kernel)
theorem dX12_gooseLine_52 : decode cX12_gooseLine 52 = .ok (.iconst 0, 1) := dc_3 (show ((cX12_gooseLine.data.toList.drop 52).take 1).map UInt8.toNat = [3] by decide +kernel)
theorem dX12_gooseLine_53 : decode cX12_gooseLine 53 = .ok (.iconst 1, 1) := dc_4 (show ((cX12_gooseLine.data.toList.drop 53).take 1).map UInt8.toNat = [4] by decide +kernel)
theorem dX12_gooseLine_54 : decode cX12_gooseLine 54 = .ok (.invokevirtual 140, 3) := dc_182 (show ((cX12_gooseLine.data.toList.drop 54).take 3).map UInt8.toNat = [182, 0, 140] by decide +kernel) rfl
theorem dX12_gooseLine_57 : decode cX12_gooseLine 57 = .ok (.istore 6, 2) := dc_54 (show ((cX12_gooseLine.data.toList.drop 57).take 2).map UInt8.toNat = [54, 6] by decide +kernel) rfl
theorem dX12_gooseLine_59 : decode cX12_gooseLine 59 = .ok (.aload_n 0, 1) := dc_42 (show ((cX12_gooseLine.data.toList.drop 59).take 1).map UInt8.toNat = [42] by decide +kernel)
theorem dX12_gooseLine_60 : decode cX12_gooseLine 60 = .ok (.iconst 0, 1) := dc_3 (show ((cX12_gooseLine.data.toList.drop 60).take 1).map UInt8.toNat = [3] by decide +kernel)
theorem dX12_gooseLine_61 : decode cX12_gooseLine 61 = .ok (.bipush 99, 2) := dc_16 (show ((cX12_gooseLine.data.toList.drop 61).take 2).map UInt8.toNat = [16, 99] by decide +kernel) rfl
theorem dX12_gooseLine_63 : decode cX12_gooseLine 63 = .ok (.invokevirtual 140, 3) := dc_182 (show ((cX12_gooseLine.data.toList.drop 63).take 3).map UInt8.toNat = [182, 0, 140] by decide +kernel) rfl
theorem dX12_gooseLine_66 : decode cX12_gooseLine 66 = .ok (.istore 7, 2) := dc_54 (show ((cX12_gooseLine.data.toList.drop 66).take 2).map UInt8.toNat = [54, 7] by decide +kernel) rfl
theorem dX12_gooseLine_68 : decode cX12_gooseLine 68 = .ok (.iload_n 2, 1) := dc_28 (show ((cX12_gooseLine.data.toList.drop 68).take 1).map UInt8.toNat = [28] by decide +kernel)
theorem dX12_gooseLine_69 : decode cX12_gooseLine 69 = .ok (.ifCond .ne 4, 3) := dc_154 (show ((cX12_gooseLine.data.toList.drop 69).take 3).map UInt8.toNat = [154, 0, 4] by decide +kernel) rfl
theorem dX12_gooseLine_73 : decode cX12_gooseLine 73 = .ok (.bipush 18, 2) := dc_16 (show ((cX12_gooseLine.data.toList.drop 73).take 2).map UInt8.toNat = [16, 18] by decide +kernel) rfl
theorem dX12_gooseLine_75 : decode cX12_gooseLine 75 = .ok (.iconst 5, 1) := dc_8 (show ((cX12_gooseLine.data.toList.drop 75).take 1).map UInt8.toNat = [8] by decide +kernel)
theorem dX12_gooseLine_76 : decode cX12_gooseLine 76 = .ok (.aload_n 0, 1) := dc_42 (show ((cX12_gooseLine.data.toList.drop 76).take 1).map UInt8.toNat = [42] by decide +kernel)
theorem dX12_gooseLine_77 : decode cX12_gooseLine 77 = .ok (.getfield 17, 3) := dc_180 (show ((cX12_gooseLine.data.toList.drop 77).take 3).map UInt8.toNat = [180, 0, 17] by decide +kernel) rfl
theorem dX12_gooseLine_80 : decode cX12_gooseLine 80 = .ok (.iconst 1, 1) := dc_4 (show ((cX12_gooseLine.data.toList.drop 80).take 1).map UInt8.toNat = [4] by decide +kernel)
theorem dX12_gooseLine_81 : decode cX12_gooseLine 81 = .ok (.iaload, 1) := dc_46 (show ((cX12_gooseLine.data.toList.drop 81).take 1).map UInt8.toNat = [46] by decide +kernel)
theorem dX12_gooseLine_82 : decode cX12_gooseLine 82 = .ok (.imul, 1) := dc_104 (show ((cX12_gooseLine.data.toList.drop 82).take 1).map UInt8.toNat = [104] by decide +kernel)
theorem dX12_gooseLine_83 : decode cX12_gooseLine 83 = .ok (.iadd, 1) := dc_96 (show ((cX12_gooseLine.data.toList.drop 83).take 1).map UInt8.toNat = [96] by decide +kernel)
theorem dX12_gooseLine_84 : decode cX12_gooseLine 84 = .ok (.istore 8, 2) := dc_54 (show ((cX12_gooseLine.data.toList.drop 84).take 2).map UInt8.toNat = [54, 8] by decide +kernel) rfl
theorem dX12_gooseLine_86 : decode cX12_gooseLine 86 = .ok (.aload_n 0, 1) := dc_42 (show ((cX12_gooseLine.data.toList.drop 86).take 1).map UInt8.toNat = [42] by decide +kernel)
theorem dX12_gooseLine_87 : decode cX12_gooseLine 87 = .ok (.getfield 17, 3) := dc_180 (show ((cX12_gooseLine.data.toList.drop 87).take 3).map UInt8.toNat = [180, 0, 17] by decide +kernel) rfl
theorem dX12_gooseLine_90 : decode cX12_gooseLine 90 = .ok (.iload 8, 2) := dc_21 (show ((cX12_gooseLine.data.toList.drop 90).take 2).map UInt8.toNat = [21, 8] by decide +kernel) rfl
theorem dX12_gooseLine_92 : decode cX12_gooseLine 92 = .ok (.iload_n 3, 1) := dc_29 (show ((cX12_gooseLine.data.toList.drop 92).take 1).map UInt8.toNat = [29] by decide +kernel)
theorem dX12_gooseLine_93 : decode cX12_gooseLine 93 = .ok (.iastore, 1) := dc_79 (show ((cX12_gooseLine.data.toList.drop 93).take 1).map UInt8.toNat = [79] by decide +kernel)
theorem dX12_gooseLine_94 : decode cX12_gooseLine 94 = .ok (.aload_n 0, 1) := dc_42 (show ((cX12_gooseLine.data.toList.drop 94).take 1).map UInt8.toNat = [42] by decide +kernel)
theorem dX12_gooseLine_95 : decode cX12_gooseLine 95 = .ok (.getfield 17, 3) := dc_180 (show ((cX12_gooseLine.data.toList.drop 95).take 3).map UInt8.toNat = [180, 0, 17] by decide +kernel) rfl
theorem dX12_gooseLine_98 : decode cX12_gooseLine 98 = .ok (.iload 8, 2) := dc_21 (show ((cX12_gooseLine.data.toList.drop 98).take 2).map UInt8.toNat = [21, 8] by decide +kernel) rfl
theorem dX12_gooseLine_100 : decode cX12_gooseLine 100 = .ok (.iconst 1, 1) := dc_4 (show ((cX12_gooseLine.data.toList.drop 100).take 1).map UInt8.toNat = [4] by decide +kernel)
theorem dX12_gooseLine_101 : decode cX12_gooseLine 101 = .ok (.iadd, 1) := dc_96 (show ((cX12_gooseLine.data.toList.drop 101).take 1).map UInt8.toNat = [96] by decide +kernel)
theorem dX12_gooseLine_102 : decode cX12_gooseLine 102 = .ok (.iload 4, 2) := dc_21 (show ((cX12_gooseLine.data.toList.drop 102).take 2).map UInt8.toNat = [21, 4] by decide +kernel) rfl
theorem dX12_gooseLine_104 : decode cX12_gooseLine 104 = .ok (.iastore, 1) := dc_79 (show ((cX12_gooseLine.data.toList.drop 104).take 1).map UInt8.toNat = [79] by decide +kernel)
theorem dX12_gooseLine_105 : decode cX12_gooseLine 105 = .ok (.aload_n 0, 1) := dc_42 (show ((cX12_gooseLine.data.toList.drop 105).take 1).map UInt8.toNat = [42] by decide +kernel)
theorem dX12_gooseLine_106 : decode cX12_gooseLine 106 = .ok (.getfield 17, 3) := dc_180 (show ((cX12_gooseLine.data.toList.drop 106).take 3).map UInt8.toNat = [180, 0, 17] by decide +kernel) rfl
theorem dX12_gooseLine_109 : decode cX12_gooseLine 109 = .ok (.iload 8, 2) := dc_21 (show ((cX12_gooseLine.data.toList.drop 109).take 2).map UInt8.toNat = [21, 8] by decide +kernel) rfl
theorem dX12_gooseLine_111 : decode cX12_gooseLine 111 = .ok (.iconst 2, 1) := dc_5 (show ((cX12_gooseLine.data.toList.drop 111).take 1).map UInt8.toNat = [5] by decide +kernel)
theorem dX12_gooseLine_112 : decode cX12_gooseLine 112 = .ok (.iadd, 1) := dc_96 (show ((cX12_gooseLine.data.toList.drop 112).take 1).map UInt8.toNat = [96] by decide +kernel)
theorem dX12_gooseLine_113 : decode cX12_gooseLine 113 = .ok (.iload 5, 2) := dc_21 (show ((cX12_gooseLine.data.toList.drop 113).take 2).map UInt8.toNat = [21, 5] by decide +kernel) rfl
theorem dX12_gooseLine_115 : decode cX12_gooseLine 115 = .ok (.iastore, 1) := dc_79 (show ((cX12_gooseLine.data.toList.drop 115).take 1).map UInt8.toNat = [79] by decide +kernel)
theorem dX12_gooseLine_116 : decode cX12_gooseLine 116 = .ok (.aload_n 0, 1) := dc_42 (show ((cX12_gooseLine.data.toList.drop 116).take 1).map UInt8.toNat = [42] by decide +kernel)
theorem dX12_gooseLine_117 : decode cX12_gooseLine 117 = .ok (.getfield 17, 3) := dc_180 (show ((cX12_gooseLine.data.toList.drop 117).take 3).map UInt8.toNat = [180, 0, 17] by decide +kernel) rfl
theorem dX12_gooseLine_120 : decode cX12_gooseLine 120 = .ok (.iload 8, 2) := dc_21 (show ((cX12_gooseLine.data.toList.drop 120).take 2).map UInt8.toNat = [21, 8] by decide +kernel) rfl
theorem dX12_gooseLine_122 : decode cX12_gooseLine 122 = .ok (.iconst 3, 1) := dc_6 (show ((cX12_gooseLine.data.toList.drop 122).take 1).map UInt8.toNat = [6] by decide +kernel)
theorem dX12_gooseLine_123 : decode cX12_gooseLine 123 = .ok (.iadd, 1) := dc_96 (show ((cX12_gooseLine.data.toList.drop 123).take 1).map UInt8.toNat = [96] by decide +kernel)
theorem dX12_gooseLine_124 : decode cX12_gooseLine 124 = .ok (.iload 6, 2) := dc_21 (show ((cX12_gooseLine.data.toList.drop 124).take 2).map UInt8.toNat = [21, 6] by decide +kernel) rfl
theorem dX12_gooseLine_126 : decode cX12_gooseLine 126 = .ok (.iastore, 1) := dc_79 (show ((cX12_gooseLine.data.toList.drop 126).take 1).map UInt8.toNat = [79] by decide +kernel)
theorem dX12_gooseLine_127 : decode cX12_gooseLine 127 = .ok (.aload_n 0, 1) := dc_42 (show ((cX12_gooseLine.data.toList.drop 127).take 1).map UInt8.toNat = [42] by decide +kernel)
theorem dX12_gooseLine_128 : decode cX12_gooseLine 128 = .ok (.getfield 17, 3) := dc_180 (show ((cX12_gooseLine.data.toList.drop 128).take 3).map UInt8.toNat = [180, 0, 17] by decide +kernel) rfl
theorem dX12_gooseLine_131 : decode cX12_gooseLine 131 = .ok (.iload 8, 2) := dc_21 (show ((cX12_gooseLine.data.toList.drop 131).take 2).map UInt8.toNat = [21, 8] by decide +kernel) rfl
theorem dX12_gooseLine_133 : decode cX12_gooseLine 133 = .ok (.iconst 4, 1) := dc_7 (show ((cX12_gooseLine.data.toList.drop 133).take 1).map UInt8.toNat = [7] by decide +kernel)
theorem dX12_gooseLine_134 : decode cX12_gooseLine 134 = .ok (.iadd, 1) := dc_96 (show ((cX12_gooseLine.data.toList.drop 134).take 1).map UInt8.toNat = [96] by decide +kernel)
theorem dX12_gooseLine_135 : decode cX12_gooseLine 135 = .ok (.iload 7, 2) := dc_21 (show ((cX12_gooseLine.data.toList.drop 135).take 2).map UInt8.toNat = [21, 7] by decide +kernel) rfl
theorem dX12_gooseLine_137 : decode cX12_gooseLine 137 = .ok (.iastore, 1) := dc_79 (show ((cX12_gooseLine.data.toList.drop 137).take 1).map UInt8.toNat = [79] by decide +kernel)
theorem dX12_gooseLine_138 : decode cX12_gooseLine 138 = .ok (.aload_n 0, 1) := dc_42 (show ((cX12_gooseLine.data.toList.drop 138).take 1).map UInt8.toNat = [42] by decide +kernel)
theorem dX12_gooseLine_139 : decode cX12_gooseLine 139 = .ok (.getfield 17, 3) := dc_180 (show ((cX12_gooseLine.data.toList.drop 139).take 3).map UInt8.toNat = [180, 0, 17] by decide +kernel) rfl
theorem dX12_gooseLine_142 : decode cX12_gooseLine 142 = .ok (.iconst 1, 1) := dc_4 (show ((cX12_gooseLine.data.toList.drop 142).take 1).map UInt8.toNat = [4] by decide +kernel)
theorem dX12_gooseLine_143 : decode cX12_gooseLine 143 = .ok (.dup2, 1) := dc_92 (show ((cX12_gooseLine.data.toList.drop 143).take 1).map UInt8.toNat = [92] by decide +kernel)
theorem dX12_gooseLine_144 : decode cX12_gooseLine 144 = .ok (.iaload, 1) := dc_46 (show ((cX12_gooseLine.data.toList.drop 144).take 1).map UInt8.toNat = [46] by decide +kernel)
theorem dX12_gooseLine_145 : decode cX12_gooseLine 145 = .ok (.iconst 1, 1) := dc_4 (show ((cX12_gooseLine.data.toList.drop 145).take 1).map UInt8.toNat = [4] by decide +kernel)
theorem dX12_gooseLine_146 : decode cX12_gooseLine 146 = .ok (.iadd, 1) := dc_96 (show ((cX12_gooseLine.data.toList.drop 146).take 1).map UInt8.toNat = [96] by decide +kernel)
theorem dX12_gooseLine_147 : decode cX12_gooseLine 147 = .ok (.iastore, 1) := dc_79 (show ((cX12_gooseLine.data.toList.drop 147).take 1).map UInt8.toNat = [79] by decide +kernel)
theorem dX12_gooseLine_148 : decode cX12_gooseLine 148 = .ok (.return_, 1) := dc_177 (show ((cX12_gooseLine.data.toList.drop 148).take 1).map UInt8.toNat = [177] by decide +kernel)
theorem dX12_gooseLine_72 : decode cX12_gooseLine 72 = .ok (.return_, 1) := dc_177 (show ((cX12_gooseLine.data.toList.drop 72).take 1).map UInt8.toNat = [177] by decide +kernel)
theorem dX12_gooseLine_21 : decode cX12_gooseLine 21 = .ok (.aload_n 0, 1) := dc_42 (show ((cX12_gooseLine.data.toList.drop 21).take 1).map UInt8.toNat = [42] by decide +kernel)
theorem dX12_gooseLine_22 : decode cX12_gooseLine 22 = .ok (.iconst 3, 1) := dc_6 (show ((cX12_gooseLine.data.toList.drop 22).take 1).map UInt8.toNat = [6] by decide +kernel)
theorem dX12_gooseLine_23 : decode cX12_gooseLine 23 = .ok (.iload_n 1, 1) := dc_27 (show ((cX12_gooseLine.data.toList.drop 23).take 1).map UInt8.toNat = [27] by decide +kernel)
theorem dX12_gooseLine_24 : decode cX12_gooseLine 24 = .ok (.invokevirtual 133, 3) := dc_182 (show ((cX12_gooseLine.data.toList.drop 24).take 3).map UInt8.toNat = [182, 0, 133] by decide +kernel) rfl
theorem dX12_gooseLine_11 : decode cX12_gooseLine 11 = .ok (.iconst 1, 1) := dc_4 (show ((cX12_gooseLine.data.toList.drop 11).take 1).map UInt8.toNat = [4] by decide +kernel)
theorem dX12_gooseLine_12 : decode cX12_gooseLine 12 = .ok (.goto 4, 3) := dc_167 (show ((cX12_gooseLine.data.toList.drop 12).take 3).map UInt8.toNat = [167, 0, 4] by decide +kernel) rfl
def ms_gooseLine_27 (n : Nat) (f : gb_F) (w : Int64) (v2 : Int32) : gb_MR Unit := gb_bd (ms_numbered n f w 0 4) (fun f_4 wl_5 r_6 => gb_bd (ms_numbered n f_4 wl_5 0 4) (fun f_9 wl_10 r_11 => gb_bd (ms_numbered n f_9 wl_10 0 60) (fun f_14 wl_15 r_16 => gb_bd (ms_numbered n f_14 wl_15 0 1) (fun f_19 wl_20 r_21 => gb_bd (ms_numbered n f_19 wl_20 0 99) (fun f_24 wl_25 r_26 => (if v2 = 0 then some (f_24, wl_25, ()) else gb_lt (f_24 3 (Int32.toNatClampNeg 1)) (fun x_30 => gb_lt (18 + (5 * x_30)) (fun x_31 => gb_ck x_31 97 (gb_lt (gb_u f_24 3 (upd (f_24 3) (Int32.toNatClampNeg x_31) r_6)) (fun f_33 => gb_ck (x_31 + 1) 97 (gb_lt (gb_u f_33 3 (upd (f_33 3) (Int32.toNatClampNeg (x_31 + 1)) r_11)) (fun f_35 => gb_ck (x_31 + 2) 97 (gb_lt (gb_u f_35 3 (upd (f_35 3) (Int32.toNatClampNeg (x_31 + 2)) r_16)) (fun f_37 => gb_ck (x_31 + 3) 97 (gb_lt (gb_u f_37 3 (upd (f_37 3) (Int32.toNatClampNeg (x_31 + 3)) r_21)) (fun f_39 => gb_ck (x_31 + 4) 97 (gb_lt (gb_u f_39 3 (upd (f_39 3) (Int32.toNatClampNeg (x_31 + 4)) r_26)) (fun f_41 => gb_lt (f_41 3 (Int32.toNatClampNeg 1)) (fun x_42 => gb_lt (gb_u f_41 3 (upd (f_41 3) (Int32.toNatClampNeg 1) (x_42 + 1))) (fun f_43 => some (f_43, wl_25, ())))))))))))))))))))))
def ms_gooseLine_16 (n : Nat) (f : gb_F) (w : Int64) (v1 : Int32) (t0 : Int32) : gb_MR Unit := (if t0 = 0 then gb_bd (ms_also n f w 3 v1) (fun f_44 wl_45 _ => ms_gooseLine_27 n f_44 wl_45 t0) else ms_gooseLine_27 n f w t0)
def ms_gooseLine (n : Nat) (f : gb_F) (w : Int64) (p1 : Int32) : gb_MR Unit := gb_lt (f 3 (Int32.toNatClampNeg 1)) (fun x_1 => (if (8 : Int32) ≤ x_1 then ms_gooseLine_16 n f w p1 0 else ms_gooseLine_16 n f w p1 1))
set_option maxHeartbeats 8000000 in
set_option maxRecDepth 100000 in
theorem mc_gooseLine (l : Launch) (D : va_G) (cT : Nat → ClassId) (tt : Nat → Nat) (b1 b : Nat) (hb1 : b1 ≤ b) (n : Nat) (f : gb_F) (w : Int64) (p1 : Int32) (fE : gb_F) (wE : Int64) (rE : Unit) (h : ms_gooseLine n f w p1 = some (fE, wE, rE)) : Met l yX12_gooseLine (.code yX12_gooseLine cX12_gooseLine 9 none :: gb_wA) ({ frames := 5, cells := 0, slots := 0, locals := 117 }) (gb_Pc D cT tt b1 [.ref (b + 0), .int p1] (fun h => va_P D vwCl (gb_wl b (gb_MW cT b f w)) h)) (gb_Qv (fun h => va_P D vwCl (gb_wl b (gb_MW cT b fE wE)) h) (gb_fr b 22)) 0 0 (gb_fr b 22) := by
  refine Met.ofW (cc := cX12_gooseLine) (maxL := 9) (ret := none) (by decide) rfl ?_
  intro p e s m args below meth c s₁ B hml hv
  obtain ⟨rfl, hSt, hP⟩ := hv
  have hx := B.exec
  have hb := B.bytes
  have hr := B.returns
  have hts := atoms_spec (ws := .code yX12_gooseLine cX12_gooseLine 9 none :: gb_wA) B.pre
  have hq : ∀ w ∈ gb_wA, w.before _ s = true := fun w h => hts w (List.mem_cons_of_mem _ h)
  have hown : s.vm.findClass RX12 = some m.cls := findClass_of_methodNamed B.named
  have hlocks := B.notSynchronized
  clear B hts
  have hK := hSt.1
  have hS : va_S (gb_fr b 22) s.heap s.heap [] := va_S.rf
  have hl := lv_entry ([.ref (b + 0), .int p1]) (n := 9) (Nat.le_of_ble_eq_true rfl)
  rw [lg_entry_eq]
  generalize (lg_sl ([.ref (b + 0), .int p1]) ++ List.replicate (9 - (lg_sl ([.ref (b + 0), .int p1])).length) Slot.unset).toArray = ls at hl ⊢
  replace hl : lv_has ls 9 [(0, .ref (b + 0)), (1, .int p1)] := hl
  have L27 : ∀ (f : gb_F) (w : Int64) (v2 : Int32) (H : Heap) (locs : List Loc) (ls : Array Slot), ms_gooseLine_27 n f w v2 = some (fE, wE, rE) → va_P D vwCl (gb_wl b (gb_MW cT b f w)) H → va_S (gb_fr b 22) s.heap H locs → lv_has ls 9 [(0, .ref (b + 0)), (2, .int v2)] → W p l e (headSpec (.code yX12_gooseLine cX12_gooseLine 9 none :: gb_wA) ({ frames := 5, cells := 0, slots := 0, locals := 117 })).room s m ([.ref (b + 0), .int p1]).toArray below meth c H locs 0 0 (MQ below (gb_Qv (fun h => va_P D vwCl (gb_wl b (gb_MW cT b fE wE)) h) (gb_fr b 22)) ([.ref (b + 0), .int p1]).toArray s 0 0 (gb_fr b 22)) (F0 m 27 ls []) := by
    clear h hP hS hl ls f w
    intro f w v2 H locs ls h hP hS hl
    unfold ms_gooseLine_27 at h
    refine lv_aload_n hx hb dX12_gooseLine_27 rfl (lv_at hl 0 rfl) ?_
    refine lv_iconst (v := 0) hx hb dX12_gooseLine_28 (by decide) ?_
    refine lv_iconst (v := 4) hx hb dX12_gooseLine_29 (by decide) ?_
    obtain ⟨f_4, wl_5, r_6, z_7, h⟩ := gb_bd_s h
    refine gb_calli (va_runV (C := RX12) (As := [.int 0, .int 4]) (rest := []) ⟨hx, hb, hml, hown, hq⟩ (mc_numbered l D cT tt b1 b hb1 n f w 0 4 f_4 wl_5 r_6 z_7) (cwV 2 hq (gb_gV w_1322 w_1324 s_3_8 w_14 w_1325) rfl rfl rfl (by decide +kernel) ⟨Nat.le_of_ble_eq_true rfl, Nat.le_of_ble_eq_true rfl⟩) (gb_preV (r := (RX12, TX12, 44)) (ci := 10) (q0 := 0) hSt hP rfl (gb_at b rfl) hS (fun q h => Nat.le_trans hb1 h.1) hP) rfl rfl hl.1 rfl (lv_room (Nat.le_of_ble_eq_true rfl)) dX12_gooseLine_30 ⟨Nat.le_of_ble_eq_true rfl, Nat.le_of_ble_eq_true rfl⟩) hS (fun _ h => h) (fun _ h => h) (fun q_8 H locs hY hk hS => ?_)
    obtain ⟨hq_8, hP⟩ := hY
    replace hq_8 := hq_8.symm
    subst hq_8
    refine lv_istore_n (lv' := [(3, .int r_6), (0, .ref (b + 0)), (2, .int v2)]) hx hb dX12_gooseLine_33 rfl hl (by decide) rfl (fun ls hl => ?_)
    refine lv_aload_n hx hb dX12_gooseLine_34 rfl (lv_at hl 1 rfl) ?_
    refine lv_iconst (v := 0) hx hb dX12_gooseLine_35 (by decide) ?_
    refine lv_iconst (v := 4) hx hb dX12_gooseLine_36 (by decide) ?_
    obtain ⟨f_9, wl_10, r_11, z_12, h⟩ := gb_bd_s h
    refine gb_calli (va_runV (C := RX12) (As := [.int 0, .int 4]) (rest := []) ⟨hx, hb, hml, hown, hq⟩ (mc_numbered l D cT tt b1 b hb1 n f_4 wl_5 0 4 f_9 wl_10 r_11 z_12) (cwV 2 hq (gb_gV w_1322 w_1324 s_3_8 w_14 w_1325) rfl rfl rfl (by decide +kernel) ⟨Nat.le_of_ble_eq_true rfl, Nat.le_of_ble_eq_true rfl⟩) (gb_preV (r := (RX12, TX12, 44)) (ci := 10) (q0 := 0) hSt hP rfl (gb_at b rfl) hS (fun q h => Nat.le_trans hb1 h.1) hP) rfl rfl hl.1 rfl (lv_room (Nat.le_of_ble_eq_true rfl)) dX12_gooseLine_37 ⟨Nat.le_of_ble_eq_true rfl, Nat.le_of_ble_eq_true rfl⟩) hS (fun _ h => h) (fun _ h => h) (fun q_13 H locs hY hk hS => ?_)
    obtain ⟨hq_13, hP⟩ := hY
    replace hq_13 := hq_13.symm
    subst hq_13
    refine lv_istore (lv' := [(4, .int r_11), (3, .int r_6), (0, .ref (b + 0)), (2, .int v2)]) hx hb dX12_gooseLine_40 hl (by decide) rfl (fun ls hl => ?_)
    refine lv_aload_n hx hb dX12_gooseLine_42 rfl (lv_at hl 2 rfl) ?_
    refine lv_iconst (v := 0) hx hb dX12_gooseLine_43 (by decide) ?_
    refine lv_bipush (v := 60) hx hb dX12_gooseLine_44 (by decide) ?_
    obtain ⟨f_14, wl_15, r_16, z_17, h⟩ := gb_bd_s h
    refine gb_calli (va_runV (C := RX12) (As := [.int 0, .int 60]) (rest := []) ⟨hx, hb, hml, hown, hq⟩ (mc_numbered l D cT tt b1 b hb1 n f_9 wl_10 0 60 f_14 wl_15 r_16 z_17) (cwV 2 hq (gb_gV w_1322 w_1324 s_3_8 w_14 w_1325) rfl rfl rfl (by decide +kernel) ⟨Nat.le_of_ble_eq_true rfl, Nat.le_of_ble_eq_true rfl⟩) (gb_preV (r := (RX12, TX12, 44)) (ci := 10) (q0 := 0) hSt hP rfl (gb_at b rfl) hS (fun q h => Nat.le_trans hb1 h.1) hP) rfl rfl hl.1 rfl (lv_room (Nat.le_of_ble_eq_true rfl)) dX12_gooseLine_46 ⟨Nat.le_of_ble_eq_true rfl, Nat.le_of_ble_eq_true rfl⟩) hS (fun _ h => h) (fun _ h => h) (fun q_18 H locs hY hk hS => ?_)
    obtain ⟨hq_18, hP⟩ := hY
    replace hq_18 := hq_18.symm
    subst hq_18
    refine lv_istore (lv' := [(5, .int r_16), (4, .int r_11), (3, .int r_6), (0, .ref (b + 0)), (2, .int v2)]) hx hb dX12_gooseLine_49 hl (by decide) rfl (fun ls hl => ?_)
    refine lv_aload_n hx hb dX12_gooseLine_51 rfl (lv_at hl 3 rfl) ?_
    refine lv_iconst (v := 0) hx hb dX12_gooseLine_52 (by decide) ?_
    refine lv_iconst (v := 1) hx hb dX12_gooseLine_53 (by decide) ?_
    obtain ⟨f_19, wl_20, r_21, z_22, h⟩ := gb_bd_s h
    refine gb_calli (va_runV (C := RX12) (As := [.int 0, .int 1]) (rest := []) ⟨hx, hb, hml, hown, hq⟩ (mc_numbered l D cT tt b1 b hb1 n f_14 wl_15 0 1 f_19 wl_20 r_21 z_22) (cwV 2 hq (gb_gV w_1322 w_1324 s_3_8 w_14 w_1325) rfl rfl rfl (by decide +kernel) ⟨Nat.le_of_ble_eq_true rfl, Nat.le_of_ble_eq_true rfl⟩) (gb_preV (r := (RX12, TX12, 44)) (ci := 10) (q0 := 0) hSt hP rfl (gb_at b rfl) hS (fun q h => Nat.le_trans hb1 h.1) hP) rfl rfl hl.1 rfl (lv_room (Nat.le_of_ble_eq_true rfl)) dX12_gooseLine_54 ⟨Nat.le_of_ble_eq_true rfl, Nat.le_of_ble_eq_true rfl⟩) hS (fun _ h => h) (fun _ h => h) (fun q_23 H locs hY hk hS => ?_)
    obtain ⟨hq_23, hP⟩ := hY
    replace hq_23 := hq_23.symm
    subst hq_23
    refine lv_istore (lv' := [(6, .int r_21), (5, .int r_16), (4, .int r_11), (3, .int r_6), (0, .ref (b + 0)), (2, .int v2)]) hx hb dX12_gooseLine_57 hl (by decide) rfl (fun ls hl => ?_)
    refine lv_aload_n hx hb dX12_gooseLine_59 rfl (lv_at hl 4 rfl) ?_
    refine lv_iconst (v := 0) hx hb dX12_gooseLine_60 (by decide) ?_
    refine lv_bipush (v := 99) hx hb dX12_gooseLine_61 (by decide) ?_
    obtain ⟨f_24, wl_25, r_26, z_27, h⟩ := gb_bd_s h
    refine gb_calli (va_runV (C := RX12) (As := [.int 0, .int 99]) (rest := []) ⟨hx, hb, hml, hown, hq⟩ (mc_numbered l D cT tt b1 b hb1 n f_19 wl_20 0 99 f_24 wl_25 r_26 z_27) (cwV 2 hq (gb_gV w_1322 w_1324 s_3_8 w_14 w_1325) rfl rfl rfl (by decide +kernel) ⟨Nat.le_of_ble_eq_true rfl, Nat.le_of_ble_eq_true rfl⟩) (gb_preV (r := (RX12, TX12, 44)) (ci := 10) (q0 := 0) hSt hP rfl (gb_at b rfl) hS (fun q h => Nat.le_trans hb1 h.1) hP) rfl rfl hl.1 rfl (lv_room (Nat.le_of_ble_eq_true rfl)) dX12_gooseLine_63 ⟨Nat.le_of_ble_eq_true rfl, Nat.le_of_ble_eq_true rfl⟩) hS (fun _ h => h) (fun _ h => h) (fun q_28 H locs hY hk hS => ?_)
    obtain ⟨hq_28, hP⟩ := hY
    replace hq_28 := hq_28.symm
    subst hq_28
    refine lv_istore (lv' := [(7, .int r_26), (6, .int r_21), (5, .int r_16), (4, .int r_11), (3, .int r_6), (0, .ref (b + 0)), (2, .int v2)]) hx hb dX12_gooseLine_66 hl (by decide) rfl (fun ls hl => ?_)
    refine lv_iload_n hx hb dX12_gooseLine_68 rfl (lv_at hl 6 rfl) ?_
    refine lv_if_ne (tgt := 73) hx hb dX12_gooseLine_69 (by decide) (fun c_29 => ?_) (fun c_29 => ?_)
    · rw [if_neg c_29] at h
      refine lv_bipush (v := 18) hx hb dX12_gooseLine_73 (by decide) ?_
      refine lv_iconst (v := 5) hx hb dX12_gooseLine_75 (by decide) ?_
      refine lv_aload_n hx hb dX12_gooseLine_76 rfl (lv_at hl 5 rfl) ?_
      refine va_get (ci := 10) (v := (.ref (b + 3))) (C := RX12) (T := TX12) (N := 44) hx hb hq i_X12 hown hK hP 0 (gb_at b rfl) rfl 10 (by decide) (hq _ w_1134) (fun _ h9 => h9) rfl dX12_gooseLine_77 ?_
      refine lv_iconst (v := 1) hx hb dX12_gooseLine_80 (by decide) ?_
      refine va_iald hx hb hK hP 3 0 (gb_at b rfl) rfl (gb_in rfl) dX12_gooseLine_81 ?_
      refine lv_topi (fun x_30 ex_30 => ?_)
      replace h := gb_lt_s ex_30 h
      refine lv_imul hx hb dX12_gooseLine_82 ?_
      refine lv_iadd hx hb dX12_gooseLine_83 ?_
      refine lv_topi (fun x_31 ex_31 => ?_)
      replace h := gb_lt_s ex_31 h
      refine lv_istore (lv' := [(8, .int x_31), (7, .int r_26), (6, .int r_21), (5, .int r_16), (4, .int r_11), (3, .int r_6), (0, .ref (b + 0)), (2, .int v2)]) hx hb dX12_gooseLine_84 hl (by decide) rfl (fun ls hl => ?_)
      refine lv_aload_n hx hb dX12_gooseLine_86 rfl (lv_at hl 6 rfl) ?_
      refine va_get (ci := 10) (v := (.ref (b + 3))) (C := RX12) (T := TX12) (N := 44) hx hb hq i_X12 hown hK hP 0 (gb_at b rfl) rfl 10 (by decide) (hq _ w_1134) (fun _ h9 => h9) rfl dX12_gooseLine_87 ?_
      refine lv_iload hx hb dX12_gooseLine_90 (lv_at hl 0 rfl) ?_
      refine lv_iload_n hx hb dX12_gooseLine_92 rfl (lv_at hl 5 rfl) ?_
      obtain ⟨z_32, h⟩ := gb_ck_s h
      refine gb_iast (x := r_6) hx hb hK hP (fun k h => ⟨Nat.le_add_right b k, Nat.add_lt_add_left h b⟩) hS rfl 3 0 rfl rfl z_32 dX12_gooseLine_93 (fun H locs hP hz_ hS => ?_)
      obtain ⟨f_33, ef_33⟩ : ∃ q, q = (gb_u f_24 3 (upd (f_24 3) (Int32.toNatClampNeg x_31) r_6)) := ⟨_, rfl⟩
      replace hP : va_P D vwCl (gb_wl b (gb_MW cT b f_33 wl_25)) H := by rw [ef_33]; exact hP
      replace h := gb_lt_s ef_33 h
      refine lv_aload_n hx hb dX12_gooseLine_94 rfl (lv_at hl 6 rfl) ?_
      refine va_get (ci := 10) (v := (.ref (b + 3))) (C := RX12) (T := TX12) (N := 44) hx hb hq i_X12 hown hK hP 0 (gb_at b rfl) rfl 10 (by decide) (hq _ w_1134) (fun _ h9 => h9) rfl dX12_gooseLine_95 ?_
      refine lv_iload hx hb dX12_gooseLine_98 (lv_at hl 0 rfl) ?_
      refine lv_iconst (v := 1) hx hb dX12_gooseLine_100 (by decide) ?_
      refine lv_iadd hx hb dX12_gooseLine_101 ?_
      refine lv_iload hx hb dX12_gooseLine_102 (lv_at hl 4 rfl) ?_
      obtain ⟨z_34, h⟩ := gb_ck_s h
      refine gb_iast (x := r_11) hx hb hK hP (fun k h => ⟨Nat.le_add_right b k, Nat.add_lt_add_left h b⟩) hS rfl 3 0 rfl rfl z_34 dX12_gooseLine_104 (fun H locs hP hz_ hS => ?_)
      obtain ⟨f_35, ef_35⟩ : ∃ q, q = (gb_u f_33 3 (upd (f_33 3) (Int32.toNatClampNeg (x_31 + 1)) r_11)) := ⟨_, rfl⟩
      replace hP : va_P D vwCl (gb_wl b (gb_MW cT b f_35 wl_25)) H := by rw [ef_35]; exact hP
      replace h := gb_lt_s ef_35 h
      refine lv_aload_n hx hb dX12_gooseLine_105 rfl (lv_at hl 6 rfl) ?_
      refine va_get (ci := 10) (v := (.ref (b + 3))) (C := RX12) (T := TX12) (N := 44) hx hb hq i_X12 hown hK hP 0 (gb_at b rfl) rfl 10 (by decide) (hq _ w_1134) (fun _ h9 => h9) rfl dX12_gooseLine_106 ?_
      refine lv_iload hx hb dX12_gooseLine_109 (lv_at hl 0 rfl) ?_
      refine lv_iconst (v := 2) hx hb dX12_gooseLine_111 (by decide) ?_
      refine lv_iadd hx hb dX12_gooseLine_112 ?_
      refine lv_iload hx hb dX12_gooseLine_113 (lv_at hl 3 rfl) ?_
      obtain ⟨z_36, h⟩ := gb_ck_s h
      refine gb_iast (x := r_16) hx hb hK hP (fun k h => ⟨Nat.le_add_right b k, Nat.add_lt_add_left h b⟩) hS rfl 3 0 rfl rfl z_36 dX12_gooseLine_115 (fun H locs hP hz_ hS => ?_)
      obtain ⟨f_37, ef_37⟩ : ∃ q, q = (gb_u f_35 3 (upd (f_35 3) (Int32.toNatClampNeg (x_31 + 2)) r_16)) := ⟨_, rfl⟩
      replace hP : va_P D vwCl (gb_wl b (gb_MW cT b f_37 wl_25)) H := by rw [ef_37]; exact hP
      replace h := gb_lt_s ef_37 h
      refine lv_aload_n hx hb dX12_gooseLine_116 rfl (lv_at hl 6 rfl) ?_
      refine va_get (ci := 10) (v := (.ref (b + 3))) (C := RX12) (T := TX12) (N := 44) hx hb hq i_X12 hown hK hP 0 (gb_at b rfl) rfl 10 (by decide) (hq _ w_1134) (fun _ h9 => h9) rfl dX12_gooseLine_117 ?_
      refine lv_iload hx hb dX12_gooseLine_120 (lv_at hl 0 rfl) ?_
      refine lv_iconst (v := 3) hx hb dX12_gooseLine_122 (by decide) ?_
      refine lv_iadd hx hb dX12_gooseLine_123 ?_
      refine lv_iload hx hb dX12_gooseLine_124 (lv_at hl 2 rfl) ?_
      obtain ⟨z_38, h⟩ := gb_ck_s h
      refine gb_iast (x := r_21) hx hb hK hP (fun k h => ⟨Nat.le_add_right b k, Nat.add_lt_add_left h b⟩) hS rfl 3 0 rfl rfl z_38 dX12_gooseLine_126 (fun H locs hP hz_ hS => ?_)
      obtain ⟨f_39, ef_39⟩ : ∃ q, q = (gb_u f_37 3 (upd (f_37 3) (Int32.toNatClampNeg (x_31 + 3)) r_21)) := ⟨_, rfl⟩
      replace hP : va_P D vwCl (gb_wl b (gb_MW cT b f_39 wl_25)) H := by rw [ef_39]; exact hP
      replace h := gb_lt_s ef_39 h
      refine lv_aload_n hx hb dX12_gooseLine_127 rfl (lv_at hl 6 rfl) ?_
      refine va_get (ci := 10) (v := (.ref (b + 3))) (C := RX12) (T := TX12) (N := 44) hx hb hq i_X12 hown hK hP 0 (gb_at b rfl) rfl 10 (by decide) (hq _ w_1134) (fun _ h9 => h9) rfl dX12_gooseLine_128 ?_
      refine lv_iload hx hb dX12_gooseLine_131 (lv_at hl 0 rfl) ?_
      refine lv_iconst (v := 4) hx hb dX12_gooseLine_133 (by decide) ?_
      refine lv_iadd hx hb dX12_gooseLine_134 ?_
      refine lv_iload hx hb dX12_gooseLine_135 (lv_at hl 1 rfl) ?_
      obtain ⟨z_40, h⟩ := gb_ck_s h
      refine gb_iast (x := r_26) hx hb hK hP (fun k h => ⟨Nat.le_add_right b k, Nat.add_lt_add_left h b⟩) hS rfl 3 0 rfl rfl z_40 dX12_gooseLine_137 (fun H locs hP hz_ hS => ?_)
      obtain ⟨f_41, ef_41⟩ : ∃ q, q = (gb_u f_39 3 (upd (f_39 3) (Int32.toNatClampNeg (x_31 + 4)) r_26)) := ⟨_, rfl⟩
      replace hP : va_P D vwCl (gb_wl b (gb_MW cT b f_41 wl_25)) H := by rw [ef_41]; exact hP
      replace h := gb_lt_s ef_41 h
      refine lv_aload_n hx hb dX12_gooseLine_138 rfl (lv_at hl 6 rfl) ?_
      refine va_get (ci := 10) (v := (.ref (b + 3))) (C := RX12) (T := TX12) (N := 44) hx hb hq i_X12 hown hK hP 0 (gb_at b rfl) rfl 10 (by decide) (hq _ w_1134) (fun _ h9 => h9) rfl dX12_gooseLine_139 ?_
      refine lv_iconst (v := 1) hx hb dX12_gooseLine_142 (by decide) ?_
      refine lv_dup2_11 hx hb dX12_gooseLine_143 rfl rfl ?_
      refine va_iald hx hb hK hP 3 0 (gb_at b rfl) rfl (gb_in rfl) dX12_gooseLine_144 ?_
      refine lv_topi (fun x_42 ex_42 => ?_)
      replace h := gb_lt_s ex_42 h
      refine lv_iconst (v := 1) hx hb dX12_gooseLine_145 (by decide) ?_
      refine lv_iadd hx hb dX12_gooseLine_146 ?_
      refine gb_iast (x := (x_42 + 1)) hx hb hK hP (fun k h => ⟨Nat.le_add_right b k, Nat.add_lt_add_left h b⟩) hS rfl 3 0 rfl rfl (gb_in rfl) dX12_gooseLine_147 (fun H locs hP hz_ hS => ?_)
      obtain ⟨f_43, ef_43⟩ : ∃ q, q = (gb_u f_41 3 (upd (f_41 3) (Int32.toNatClampNeg 1) (x_42 + 1))) := ⟨_, rfl⟩
      replace hP : va_P D vwCl (gb_wl b (gb_MW cT b f_43 wl_25)) H := by rw [ef_43]; exact hP
      replace h := gb_lt_s ef_43 h
      obtain ⟨e1, e2, -⟩ := gb_eq3 h
      exact W.vret hx hb hr (fun t ht hW => gb_rv ht (by rw [← e1, ← e2]; exact hP) hS) hS.2.2 dX12_gooseLine_148
    · rw [if_pos c_29] at h
      obtain ⟨e1, e2, -⟩ := gb_eq3 h
      exact W.vret hx hb hr (fun t ht hW => gb_rv ht (by rw [← e1, ← e2]; exact hP) hS) hS.2.2 dX12_gooseLine_72
  have L16 : ∀ (f : gb_F) (w : Int64) (v1 : Int32) (t0 : Int32) (H : Heap) (locs : List Loc) (ls : Array Slot), ms_gooseLine_16 n f w v1 t0 = some (fE, wE, rE) → va_P D vwCl (gb_wl b (gb_MW cT b f w)) H → va_S (gb_fr b 22) s.heap H locs → lv_has ls 9 [(0, .ref (b + 0)), (1, .int v1)] → W p l e (headSpec (.code yX12_gooseLine cX12_gooseLine 9 none :: gb_wA) ({ frames := 5, cells := 0, slots := 0, locals := 117 })).room s m ([.ref (b + 0), .int p1]).toArray below meth c H locs 0 0 (MQ below (gb_Qv (fun h => va_P D vwCl (gb_wl b (gb_MW cT b fE wE)) h) (gb_fr b 22)) ([.ref (b + 0), .int p1]).toArray s 0 0 (gb_fr b 22)) (F0 m 16 ls [.int t0]) := by
    clear h hP hS hl ls f w
    intro f w v1 t0 H locs ls h hP hS hl
    unfold ms_gooseLine_16 at h
    refine lv_istore_n (lv' := [(2, .int t0), (0, .ref (b + 0)), (1, .int v1)]) hx hb dX12_gooseLine_16 rfl hl (by decide) rfl (fun ls hl => ?_)
    refine lv_iload_n hx hb dX12_gooseLine_17 rfl (lv_at hl 0 rfl) ?_
    refine lv_if_ne (tgt := 27) hx hb dX12_gooseLine_18 (by decide) (fun c_3 => ?_) (fun c_3 => ?_)
    · rw [if_neg c_3] at h
      exact L27 _ _ _ _ _ _ h hP hS (lv_sub hl [1, 0] rfl)
    · rw [if_pos c_3] at h
      refine lv_aload_n hx hb dX12_gooseLine_21 rfl (lv_at hl 1 rfl) ?_
      refine lv_iconst (v := 3) hx hb dX12_gooseLine_22 (by decide) ?_
      refine lv_iload_n hx hb dX12_gooseLine_23 rfl (lv_at hl 2 rfl) ?_
      obtain ⟨f_44, wl_45, r_46, z_47, h⟩ := gb_bd_s h
      refine gb_callv (va_runV (C := RX12) (As := [.int 3, .int v1]) (rest := []) ⟨hx, hb, hml, hown, hq⟩ (mc_also l D cT tt b1 b hb1 n f w 3 v1 f_44 wl_45 r_46 z_47) (cwV 2 hq (gb_gV w_1318 w_1320 s_3_7 w_14 w_1321) rfl rfl rfl (by decide +kernel) ⟨Nat.le_of_ble_eq_true rfl, Nat.le_of_ble_eq_true rfl⟩) (gb_preV (r := (RX12, TX12, 44)) (ci := 10) (q0 := 0) hSt hP rfl (gb_at b rfl) hS (fun q h => Nat.le_trans hb1 h.1) hP) rfl rfl hl.1 rfl (lv_room (Nat.le_of_ble_eq_true rfl)) dX12_gooseLine_24 ⟨Nat.le_of_ble_eq_true rfl, Nat.le_of_ble_eq_true rfl⟩) hS (fun _ h => h) (fun _ h => h) (fun H locs hY hk hS => ?_)
      have hP := hY
      exact L27 _ _ _ _ _ _ h hP hS (lv_sub hl [1, 0] rfl)
  unfold ms_gooseLine at h
  refine lv_aload_n hx hb dX12_gooseLine_0 rfl (lv_at hl 0 rfl) ?_
  refine va_get (ci := 10) (v := (.ref (b + 3))) (C := RX12) (T := TX12) (N := 44) hx hb hq i_X12 hown hK hP 0 (gb_at b rfl) rfl 10 (by decide) (hq _ w_1134) (fun _ h9 => h9) rfl dX12_gooseLine_1 ?_
  refine lv_iconst (v := 1) hx hb dX12_gooseLine_4 (by decide) ?_
  refine va_iald hx hb hK hP 3 0 (gb_at b rfl) rfl (gb_in rfl) dX12_gooseLine_5 ?_
  refine lv_topi (fun x_1 ex_1 => ?_)
  replace h := gb_lt_s ex_1 h
  refine lv_bipush (v := 8) hx hb dX12_gooseLine_6 (by decide) ?_
  refine lv_icmp_ge (tgt := 15) hx hb dX12_gooseLine_8 (by decide) (fun c_2 => ?_) (fun c_2 => ?_)
  · rw [if_pos c_2] at h
    refine lv_iconst (v := 0) hx hb dX12_gooseLine_15 (by decide) ?_
    exact L16 _ _ _ _ _ _ _ h hP hS (lv_sub hl [0, 1] rfl)
  · rw [if_neg c_2] at h
    refine lv_iconst (v := 1) hx hb dX12_gooseLine_11 (by decide) ?_
    refine lv_goto (tgt := 16) hx hb dX12_gooseLine_12 (by decide) ?_
    exact L16 _ _ _ _ _ _ _ h hP hS (lv_sub hl [0, 1] rfl)
theorem dX12_borderLine_0 : decode cX12_borderLine 0 = .ok (.aload_n 0, 1) := dc_42 (show ((cX12_borderLine.data.toList.drop 0).take 1).map UInt8.toNat = [42] by decide +kernel)
theorem dX12_borderLine_1 : decode cX12_borderLine 1 = .ok (.getfield 95, 3) := dc_180 (show ((cX12_borderLine.data.toList.drop 1).take 3).map UInt8.toNat = [180, 0, 95] by decide +kernel) rfl
theorem dX12_borderLine_4 : decode cX12_borderLine 4 = .ok (.istore_n 1, 1) := dc_60 (show ((cX12_borderLine.data.toList.drop 4).take 1).map UInt8.toNat = [60] by decide +kernel)
theorem dX12_borderLine_5 : decode cX12_borderLine 5 = .ok (.aload_n 0, 1) := dc_42 (show ((cX12_borderLine.data.toList.drop 5).take 1).map UInt8.toNat = [42] by decide +kernel)
theorem dX12_borderLine_6 : decode cX12_borderLine 6 = .ok (.iconst 1, 1) := dc_4 (show ((cX12_borderLine.data.toList.drop 6).take 1).map UInt8.toNat = [4] by decide +kernel)
theorem dX12_borderLine_7 : decode cX12_borderLine 7 = .ok (.iconst 3, 1) := dc_6 (show ((cX12_borderLine.data.toList.drop 7).take 1).map UInt8.toNat = [6] by decide +kernel)
theorem dX12_borderLine_8 : decode cX12_borderLine 8 = .ok (.invokevirtual 144, 3) := dc_182 (show ((cX12_borderLine.data.toList.drop 8).take 3).map UInt8.toNat = [182, 0, 144] by decide +kernel) rfl
theorem w_1309 : (Cond.code ({ cls := "GooseBorderModel", name := "takes", desc := "(II)I" } : MethodName) prog_14_method_15_code (4 : Nat) (Option.some FieldType.int)) ∈ gb_wA := gb_t6 109 rfl rfl
theorem w_1306 : (Cond.methodLink "GooseBorderModel" (144 : Nat) ({ cls := "GooseBorderModel", name := "takes", desc := "(II)I" } : MethodName)) ∈ gb_wA := gb_t6 106 rfl rfl
theorem w_1308 : (Cond.instanceMethod ({ cls := "GooseBorderModel", name := "takes", desc := "(II)I" } : MethodName)) ∈ gb_wA := gb_t6 108 rfl rfl
theorem s_3_4 : Cond.selects "GooseBorderModel" (⟨"GooseBorderModel", "takes", "(II)I"⟩ : MethodName) (⟨"GooseBorderModel", "takes", "(II)I"⟩ : MethodName) ∈ gb_wA := gb_s3 4 rfl rfl
theorem dX12_borderLine_11 : decode cX12_borderLine 11 = .ok (.istore_n 2, 1) := dc_61 (show ((cX12_borderLine.data.toList.drop 11).take 1).map UInt8.toNat = [61] by decide +kernel)
theorem dX12_borderLine_12 : decode cX12_borderLine 12 = .ok (.iload_n 2, 1) := dc_28 (show ((cX12_borderLine.data.toList.drop 12).take 1).map UInt8.toNat = [28] by decide +kernel)
theorem dX12_borderLine_13 : decode cX12_borderLine 13 = .ok (.iconst 1, 1) := dc_4 (show ((cX12_borderLine.data.toList.drop 13).take 1).map UInt8.toNat = [4] by decide +kernel)
theorem dX12_borderLine_14 : decode cX12_borderLine 14 = .ok (.if_icmp .ne 8, 3) := dc_160 (show ((cX12_borderLine.data.toList.drop 14).take 3).map UInt8.toNat = [160, 0, 8] by decide +kernel) rfl
theorem dX12_borderLine_22 : decode cX12_borderLine 22 = .ok (.iload_n 2, 1) := dc_28 (show ((cX12_borderLine.data.toList.drop 22).take 1).map UInt8.toNat = [28] by decide +kernel)
theorem dX12_borderLine_23 : decode cX12_borderLine 23 = .ok (.iconst 2, 1) := dc_5 (show ((cX12_borderLine.data.toList.drop 23).take 1).map UInt8.toNat = [5] by decide +kernel)
theorem dX12_borderLine_24 : decode cX12_borderLine 24 = .ok (.if_icmp .ne 8, 3) := dc_160 (show ((cX12_borderLine.data.toList.drop 24).take 3).map UInt8.toNat = [160, 0, 8] by decide +kernel) rfl
theorem dX12_borderLine_32 : decode cX12_borderLine 32 = .ok (.iload_n 2, 1) := dc_28 (show ((cX12_borderLine.data.toList.drop 32).take 1).map UInt8.toNat = [28] by decide +kernel)
theorem dX12_borderLine_33 : decode cX12_borderLine 33 = .ok (.iconst 3, 1) := dc_6 (show ((cX12_borderLine.data.toList.drop 33).take 1).map UInt8.toNat = [6] by decide +kernel)
theorem dX12_borderLine_34 : decode cX12_borderLine 34 = .ok (.if_icmp .ne 17, 3) := dc_160 (show ((cX12_borderLine.data.toList.drop 34).take 3).map UInt8.toNat = [160, 0, 17] by decide +kernel) rfl
theorem dX12_borderLine_51 : decode cX12_borderLine 51 = .ok (.aload_n 0, 1) := dc_42 (show ((cX12_borderLine.data.toList.drop 51).take 1).map UInt8.toNat = [42] by decide +kernel)
theorem dX12_borderLine_52 : decode cX12_borderLine 52 = .ok (.invokevirtual 154, 3) := dc_182 (show ((cX12_borderLine.data.toList.drop 52).take 3).map UInt8.toNat = [182, 0, 154] by decide +kernel) rfl
theorem w_1333 : (Cond.code ({ cls := "GooseBorderModel", name := "endsLine", desc := "()V" } : MethodName) prog_14_method_16_code (1 : Nat) (Option.none : Option FieldType)) ∈ gb_wA := gb_t6 133 rfl rfl
theorem w_1330 : (Cond.methodLink "GooseBorderModel" (154 : Nat) ({ cls := "GooseBorderModel", name := "endsLine", desc := "()V" } : MethodName)) ∈ gb_wA := gb_t6 130 rfl rfl
theorem w_1332 : (Cond.instanceMethod ({ cls := "GooseBorderModel", name := "endsLine", desc := "()V" } : MethodName)) ∈ gb_wA := gb_t6 132 rfl rfl
theorem s_3_10 : Cond.selects "GooseBorderModel" (⟨"GooseBorderModel", "endsLine", "()V"⟩ : MethodName) (⟨"GooseBorderModel", "endsLine", "()V"⟩ : MethodName) ∈ gb_wA := gb_s3 10 rfl rfl
theorem dX12_borderLine_55 : decode cX12_borderLine 55 = .ok (.return_, 1) := dc_177 (show ((cX12_borderLine.data.toList.drop 55).take 1).map UInt8.toNat = [177] by decide +kernel)
theorem dX12_borderLine_37 : decode cX12_borderLine 37 = .ok (.aload_n 0, 1) := dc_42 (show ((cX12_borderLine.data.toList.drop 37).take 1).map UInt8.toNat = [42] by decide +kernel)
theorem dX12_borderLine_38 : decode cX12_borderLine 38 = .ok (.getfield 17, 3) := dc_180 (show ((cX12_borderLine.data.toList.drop 38).take 3).map UInt8.toNat = [180, 0, 17] by decide +kernel) rfl
theorem dX12_borderLine_41 : decode cX12_borderLine 41 = .ok (.iconst 2, 1) := dc_5 (show ((cX12_borderLine.data.toList.drop 41).take 1).map UInt8.toNat = [5] by decide +kernel)
theorem dX12_borderLine_42 : decode cX12_borderLine 42 = .ok (.aload_n 0, 1) := dc_42 (show ((cX12_borderLine.data.toList.drop 42).take 1).map UInt8.toNat = [42] by decide +kernel)
theorem dX12_borderLine_43 : decode cX12_borderLine 43 = .ok (.iconst 0, 1) := dc_3 (show ((cX12_borderLine.data.toList.drop 43).take 1).map UInt8.toNat = [3] by decide +kernel)
theorem dX12_borderLine_44 : decode cX12_borderLine 44 = .ok (.sipush 999, 3) := dc_17 (show ((cX12_borderLine.data.toList.drop 44).take 3).map UInt8.toNat = [17, 3, 231] by decide +kernel) rfl
theorem dX12_borderLine_47 : decode cX12_borderLine 47 = .ok (.invokevirtual 140, 3) := dc_182 (show ((cX12_borderLine.data.toList.drop 47).take 3).map UInt8.toNat = [182, 0, 140] by decide +kernel) rfl
theorem dX12_borderLine_50 : decode cX12_borderLine 50 = .ok (.iastore, 1) := dc_79 (show ((cX12_borderLine.data.toList.drop 50).take 1).map UInt8.toNat = [79] by decide +kernel)
theorem dX12_borderLine_27 : decode cX12_borderLine 27 = .ok (.aload_n 0, 1) := dc_42 (show ((cX12_borderLine.data.toList.drop 27).take 1).map UInt8.toNat = [42] by decide +kernel)
theorem dX12_borderLine_28 : decode cX12_borderLine 28 = .ok (.iload_n 1, 1) := dc_27 (show ((cX12_borderLine.data.toList.drop 28).take 1).map UInt8.toNat = [27] by decide +kernel)
theorem dX12_borderLine_29 : decode cX12_borderLine 29 = .ok (.invokevirtual 151, 3) := dc_182 (show ((cX12_borderLine.data.toList.drop 29).take 3).map UInt8.toNat = [182, 0, 151] by decide +kernel) rfl
theorem w_1329 : (Cond.code ({ cls := "GooseBorderModel", name := "gooseLine", desc := "(I)V" } : MethodName) prog_14_method_18_code (9 : Nat) (Option.none : Option FieldType)) ∈ gb_wA := gb_t6 129 rfl rfl
theorem w_1326 : (Cond.methodLink "GooseBorderModel" (151 : Nat) ({ cls := "GooseBorderModel", name := "gooseLine", desc := "(I)V" } : MethodName)) ∈ gb_wA := gb_t6 126 rfl rfl
theorem w_1328 : (Cond.instanceMethod ({ cls := "GooseBorderModel", name := "gooseLine", desc := "(I)V" } : MethodName)) ∈ gb_wA := gb_t6 128 rfl rfl
theorem s_3_9 : Cond.selects "GooseBorderModel" (⟨"GooseBorderModel", "gooseLine", "(I)V"⟩ : MethodName) (⟨"GooseBorderModel", "gooseLine", "(I)V"⟩ : MethodName) ∈ gb_wA := gb_s3 9 rfl rfl
theorem dX12_borderLine_17 : decode cX12_borderLine 17 = .ok (.aload_n 0, 1) := dc_42 (show ((cX12_borderLine.data.toList.drop 17).take 1).map UInt8.toNat = [42] by decide +kernel)
theorem dX12_borderLine_18 : decode cX12_borderLine 18 = .ok (.iload_n 1, 1) := dc_27 (show ((cX12_borderLine.data.toList.drop 18).take 1).map UInt8.toNat = [27] by decide +kernel)
theorem dX12_borderLine_19 : decode cX12_borderLine 19 = .ok (.invokevirtual 147, 3) := dc_182 (show ((cX12_borderLine.data.toList.drop 19).take 3).map UInt8.toNat = [182, 0, 147] by decide +kernel) rfl
theorem w_1317 : (Cond.code ({ cls := "GooseBorderModel", name := "pathLine", desc := "(I)V" } : MethodName) prog_14_method_17_code (7 : Nat) (Option.none : Option FieldType)) ∈ gb_wA := gb_t6 117 rfl rfl
theorem w_1314 : (Cond.methodLink "GooseBorderModel" (147 : Nat) ({ cls := "GooseBorderModel", name := "pathLine", desc := "(I)V" } : MethodName)) ∈ gb_wA := gb_t6 114 rfl rfl
theorem w_1316 : (Cond.instanceMethod ({ cls := "GooseBorderModel", name := "pathLine", desc := "(I)V" } : MethodName)) ∈ gb_wA := gb_t6 116 rfl rfl
theorem s_3_6 : Cond.selects "GooseBorderModel" (⟨"GooseBorderModel", "pathLine", "(I)V"⟩ : MethodName) (⟨"GooseBorderModel", "pathLine", "(I)V"⟩ : MethodName) ∈ gb_wA := gb_s3 6 rfl rfl
def ms_borderLine_22 (n : Nat) (f : gb_F) (w : Int64) (v1 : Int32) (v2 : Int32) : gb_MR Unit := (if v2 = 2 then gb_bd (ms_gooseLine n f w v1) (fun f_26 wl_27 _ => (if v2 = 3 then gb_bd (ms_numbered n f_26 wl_27 0 999) (fun f_37 wl_38 r_39 => gb_lt (gb_u f_37 3 (upd (f_37 3) (Int32.toNatClampNeg 2) r_39)) (fun f_42 => gb_bd (ms_endsLine n f_42 wl_38) (fun f_43 wl_44 _ => some (f_43, wl_44, ())))) else gb_bd (ms_endsLine n f_26 wl_27) (fun f_32 wl_33 _ => some (f_32, wl_33, ())))) else (if v2 = 3 then gb_bd (ms_numbered n f w 0 999) (fun f_15 wl_16 r_17 => gb_lt (gb_u f_15 3 (upd (f_15 3) (Int32.toNatClampNeg 2) r_17)) (fun f_20 => gb_bd (ms_endsLine n f_20 wl_16) (fun f_21 wl_22 _ => some (f_21, wl_22, ())))) else gb_bd (ms_endsLine n f w) (fun f_10 wl_11 _ => some (f_10, wl_11, ()))))
def ms_borderLine (n : Nat) (f : gb_F) (w : Int64) : gb_MR Unit := gb_lt (f 0 4) (fun x_1 => gb_bd (ms_takes n f w 1 3) (fun f_2 wl_3 r_4 => (if r_4 = 1 then gb_bd (ms_pathLine n f_2 wl_3 x_1) (fun f_48 wl_49 _ => ms_borderLine_22 n f_48 wl_49 x_1 r_4) else ms_borderLine_22 n f_2 wl_3 x_1 r_4)))
set_option maxHeartbeats 8000000 in
set_option maxRecDepth 100000 in
theorem mc_borderLine (l : Launch) (D : va_G) (cT : Nat → ClassId) (tt : Nat → Nat) (b1 b : Nat) (hb1 : b1 ≤ b) (n : Nat) (f : gb_F) (w : Int64) (fE : gb_F) (wE : Int64) (rE : Unit) (h : ms_borderLine n f w = some (fE, wE, rE)) : Met l yX12_borderLine (.code yX12_borderLine cX12_borderLine 3 none :: gb_wA) ({ frames := 6, cells := 0, slots := 0, locals := 145 }) (gb_Pc D cT tt b1 [.ref (b + 0)] (fun h => va_P D vwCl (gb_wl b (gb_MW cT b f w)) h)) (gb_Qv (fun h => va_P D vwCl (gb_wl b (gb_MW cT b fE wE)) h) (gb_fr b 22)) 0 0 (gb_fr b 22) := by
  refine Met.ofW (cc := cX12_borderLine) (maxL := 3) (ret := none) (by decide) rfl ?_
  intro p e s m args below meth c s₁ B hml hv
  obtain ⟨rfl, hSt, hP⟩ := hv
  have hx := B.exec
  have hb := B.bytes
  have hr := B.returns
  have hts := atoms_spec (ws := .code yX12_borderLine cX12_borderLine 3 none :: gb_wA) B.pre
  have hq : ∀ w ∈ gb_wA, w.before _ s = true := fun w h => hts w (List.mem_cons_of_mem _ h)
  have hown : s.vm.findClass RX12 = some m.cls := findClass_of_methodNamed B.named
  have hlocks := B.notSynchronized
  clear B hts
  have hK := hSt.1
  have hS : va_S (gb_fr b 22) s.heap s.heap [] := va_S.rf
  have hl := lv_entry ([.ref (b + 0)]) (n := 3) (Nat.le_of_ble_eq_true rfl)
  rw [lg_entry_eq]
  generalize (lg_sl ([.ref (b + 0)]) ++ List.replicate (3 - (lg_sl ([.ref (b + 0)])).length) Slot.unset).toArray = ls at hl ⊢
  replace hl : lv_has ls 3 [(0, .ref (b + 0))] := hl
  have L22 : ∀ (f : gb_F) (w : Int64) (v1 : Int32) (v2 : Int32) (H : Heap) (locs : List Loc) (ls : Array Slot), ms_borderLine_22 n f w v1 v2 = some (fE, wE, rE) → va_P D vwCl (gb_wl b (gb_MW cT b f w)) H → va_S (gb_fr b 22) s.heap H locs → lv_has ls 3 [(0, .ref (b + 0)), (1, .int v1), (2, .int v2)] → W p l e (headSpec (.code yX12_borderLine cX12_borderLine 3 none :: gb_wA) ({ frames := 6, cells := 0, slots := 0, locals := 145 })).room s m ([.ref (b + 0)]).toArray below meth c H locs 0 0 (MQ below (gb_Qv (fun h => va_P D vwCl (gb_wl b (gb_MW cT b fE wE)) h) (gb_fr b 22)) ([.ref (b + 0)]).toArray s 0 0 (gb_fr b 22)) (F0 m 22 ls []) := by
    clear h hP hS hl ls f w
    intro f w v1 v2 H locs ls h hP hS hl
    unfold ms_borderLine_22 at h
    refine lv_iload_n hx hb dX12_borderLine_22 rfl (lv_at hl 2 rfl) ?_
    refine lv_iconst (v := 2) hx hb dX12_borderLine_23 (by decide) ?_
    refine lv_icmp_ne (tgt := 32) hx hb dX12_borderLine_24 (by decide) (fun c_8 => ?_) (fun c_8 => ?_)
    · rw [if_neg c_8] at h
      refine lv_iload_n hx hb dX12_borderLine_32 rfl (lv_at hl 2 rfl) ?_
      refine lv_iconst (v := 3) hx hb dX12_borderLine_33 (by decide) ?_
      refine lv_icmp_ne (tgt := 51) hx hb dX12_borderLine_34 (by decide) (fun c_9 => ?_) (fun c_9 => ?_)
      · rw [if_neg c_9] at h
        refine lv_aload_n hx hb dX12_borderLine_51 rfl (lv_at hl 0 rfl) ?_
        obtain ⟨f_10, wl_11, r_12, z_13, h⟩ := gb_bd_s h
        refine gb_callv (va_runV (C := RX12) (As := []) (rest := []) ⟨hx, hb, hml, hown, hq⟩ (mc_endsLine l D cT tt b1 b hb1 n f w f_10 wl_11 r_12 z_13) (cwV 0 hq (gb_gV w_1330 w_1332 s_3_10 w_14 w_1333) rfl rfl rfl (by decide +kernel) ⟨Nat.le_of_ble_eq_true rfl, Nat.le_of_ble_eq_true rfl⟩) (gb_preV (r := (RX12, TX12, 44)) (ci := 10) (q0 := 0) hSt hP rfl (gb_at b rfl) hS (fun q h => Nat.le_trans hb1 h.1) hP) rfl rfl hl.1 rfl (lv_room (Nat.le_of_ble_eq_true rfl)) dX12_borderLine_52 ⟨Nat.le_of_ble_eq_true rfl, Nat.le_of_ble_eq_true rfl⟩) hS (fun _ h => h) (fun _ h => h) (fun H locs hY hk hS => ?_)
        have hP := hY
        obtain ⟨e1, e2, -⟩ := gb_eq3 h
        exact W.vret hx hb hr (fun t ht hW => gb_rv ht (by rw [← e1, ← e2]; exact hP) hS) hS.2.2 dX12_borderLine_55
      · rw [if_pos c_9] at h
        refine lv_aload_n hx hb dX12_borderLine_37 rfl (lv_at hl 0 rfl) ?_
        refine va_get (ci := 10) (v := (.ref (b + 3))) (C := RX12) (T := TX12) (N := 44) hx hb hq i_X12 hown hK hP 0 (gb_at b rfl) rfl 10 (by decide) (hq _ w_1134) (fun _ h9 => h9) rfl dX12_borderLine_38 ?_
        refine lv_iconst (v := 2) hx hb dX12_borderLine_41 (by decide) ?_
        refine lv_aload_n hx hb dX12_borderLine_42 rfl (lv_at hl 0 rfl) ?_
        refine lv_iconst (v := 0) hx hb dX12_borderLine_43 (by decide) ?_
        refine lv_sipush (v := 999) hx hb dX12_borderLine_44 (by decide) ?_
        obtain ⟨f_15, wl_16, r_17, z_18, h⟩ := gb_bd_s h
        refine gb_calli (va_runV (C := RX12) (As := [.int 0, .int 999]) (rest := [.int 2, .ref (b + 3)]) ⟨hx, hb, hml, hown, hq⟩ (mc_numbered l D cT tt b1 b hb1 n f w 0 999 f_15 wl_16 r_17 z_18) (cwV 2 hq (gb_gV w_1322 w_1324 s_3_8 w_14 w_1325) rfl rfl rfl (by decide +kernel) ⟨Nat.le_of_ble_eq_true rfl, Nat.le_of_ble_eq_true rfl⟩) (gb_preV (r := (RX12, TX12, 44)) (ci := 10) (q0 := 0) hSt hP rfl (gb_at b rfl) hS (fun q h => Nat.le_trans hb1 h.1) hP) rfl rfl hl.1 rfl (lv_room (Nat.le_of_ble_eq_true rfl)) dX12_borderLine_47 ⟨Nat.le_of_ble_eq_true rfl, Nat.le_of_ble_eq_true rfl⟩) hS (fun _ h => h) (fun _ h => h) (fun q_19 H locs hY hk hS => ?_)
        obtain ⟨hq_19, hP⟩ := hY
        replace hq_19 := hq_19.symm
        subst hq_19
        refine gb_iast (x := r_17) hx hb hK hP (fun k h => ⟨Nat.le_add_right b k, Nat.add_lt_add_left h b⟩) hS rfl 3 0 rfl rfl (gb_in rfl) dX12_borderLine_50 (fun H locs hP hz_ hS => ?_)
        obtain ⟨f_20, ef_20⟩ : ∃ q, q = (gb_u f_15 3 (upd (f_15 3) (Int32.toNatClampNeg 2) r_17)) := ⟨_, rfl⟩
        replace hP : va_P D vwCl (gb_wl b (gb_MW cT b f_20 wl_16)) H := by rw [ef_20]; exact hP
        replace h := gb_lt_s ef_20 h
        refine lv_aload_n hx hb dX12_borderLine_51 rfl (lv_at hl 0 rfl) ?_
        obtain ⟨f_21, wl_22, r_23, z_24, h⟩ := gb_bd_s h
        refine gb_callv (va_runV (C := RX12) (As := []) (rest := []) ⟨hx, hb, hml, hown, hq⟩ (mc_endsLine l D cT tt b1 b hb1 n f_20 wl_16 f_21 wl_22 r_23 z_24) (cwV 0 hq (gb_gV w_1330 w_1332 s_3_10 w_14 w_1333) rfl rfl rfl (by decide +kernel) ⟨Nat.le_of_ble_eq_true rfl, Nat.le_of_ble_eq_true rfl⟩) (gb_preV (r := (RX12, TX12, 44)) (ci := 10) (q0 := 0) hSt hP rfl (gb_at b rfl) hS (fun q h => Nat.le_trans hb1 h.1) hP) rfl rfl hl.1 rfl (lv_room (Nat.le_of_ble_eq_true rfl)) dX12_borderLine_52 ⟨Nat.le_of_ble_eq_true rfl, Nat.le_of_ble_eq_true rfl⟩) hS (fun _ h => h) (fun _ h => h) (fun H locs hY hk hS => ?_)
        have hP := hY
        obtain ⟨e1, e2, -⟩ := gb_eq3 h
        exact W.vret hx hb hr (fun t ht hW => gb_rv ht (by rw [← e1, ← e2]; exact hP) hS) hS.2.2 dX12_borderLine_55
    · rw [if_pos c_8] at h
      refine lv_aload_n hx hb dX12_borderLine_27 rfl (lv_at hl 0 rfl) ?_
      refine lv_iload_n hx hb dX12_borderLine_28 rfl (lv_at hl 1 rfl) ?_
      obtain ⟨f_26, wl_27, r_28, z_29, h⟩ := gb_bd_s h
      refine gb_callv (va_runV (C := RX12) (As := [.int v1]) (rest := []) ⟨hx, hb, hml, hown, hq⟩ (mc_gooseLine l D cT tt b1 b hb1 n f w v1 f_26 wl_27 r_28 z_29) (cwV 1 hq (gb_gV w_1326 w_1328 s_3_9 w_14 w_1329) rfl rfl rfl (by decide +kernel) ⟨Nat.le_of_ble_eq_true rfl, Nat.le_of_ble_eq_true rfl⟩) (gb_preV (r := (RX12, TX12, 44)) (ci := 10) (q0 := 0) hSt hP rfl (gb_at b rfl) hS (fun q h => Nat.le_trans hb1 h.1) hP) rfl rfl hl.1 rfl (lv_room (Nat.le_of_ble_eq_true rfl)) dX12_borderLine_29 ⟨Nat.le_of_ble_eq_true rfl, Nat.le_of_ble_eq_true rfl⟩) hS (fun _ h => h) (fun _ h => h) (fun H locs hY hk hS => ?_)
      have hP := hY
      refine lv_iload_n hx hb dX12_borderLine_32 rfl (lv_at hl 2 rfl) ?_
      refine lv_iconst (v := 3) hx hb dX12_borderLine_33 (by decide) ?_
      refine lv_icmp_ne (tgt := 51) hx hb dX12_borderLine_34 (by decide) (fun c_31 => ?_) (fun c_31 => ?_)
      · rw [if_neg c_31] at h
        refine lv_aload_n hx hb dX12_borderLine_51 rfl (lv_at hl 0 rfl) ?_
        obtain ⟨f_32, wl_33, r_34, z_35, h⟩ := gb_bd_s h
        refine gb_callv (va_runV (C := RX12) (As := []) (rest := []) ⟨hx, hb, hml, hown, hq⟩ (mc_endsLine l D cT tt b1 b hb1 n f_26 wl_27 f_32 wl_33 r_34 z_35) (cwV 0 hq (gb_gV w_1330 w_1332 s_3_10 w_14 w_1333) rfl rfl rfl (by decide +kernel) ⟨Nat.le_of_ble_eq_true rfl, Nat.le_of_ble_eq_true rfl⟩) (gb_preV (r := (RX12, TX12, 44)) (ci := 10) (q0 := 0) hSt hP rfl (gb_at b rfl) hS (fun q h => Nat.le_trans hb1 h.1) hP) rfl rfl hl.1 rfl (lv_room (Nat.le_of_ble_eq_true rfl)) dX12_borderLine_52 ⟨Nat.le_of_ble_eq_true rfl, Nat.le_of_ble_eq_true rfl⟩) hS (fun _ h => h) (fun _ h => h) (fun H locs hY hk hS => ?_)
        have hP := hY
        obtain ⟨e1, e2, -⟩ := gb_eq3 h
        exact W.vret hx hb hr (fun t ht hW => gb_rv ht (by rw [← e1, ← e2]; exact hP) hS) hS.2.2 dX12_borderLine_55
      · rw [if_pos c_31] at h
        refine lv_aload_n hx hb dX12_borderLine_37 rfl (lv_at hl 0 rfl) ?_
        refine va_get (ci := 10) (v := (.ref (b + 3))) (C := RX12) (T := TX12) (N := 44) hx hb hq i_X12 hown hK hP 0 (gb_at b rfl) rfl 10 (by decide) (hq _ w_1134) (fun _ h9 => h9) rfl dX12_borderLine_38 ?_
        refine lv_iconst (v := 2) hx hb dX12_borderLine_41 (by decide) ?_
        refine lv_aload_n hx hb dX12_borderLine_42 rfl (lv_at hl 0 rfl) ?_
        refine lv_iconst (v := 0) hx hb dX12_borderLine_43 (by decide) ?_
        refine lv_sipush (v := 999) hx hb dX12_borderLine_44 (by decide) ?_
        obtain ⟨f_37, wl_38, r_39, z_40, h⟩ := gb_bd_s h
        refine gb_calli (va_runV (C := RX12) (As := [.int 0, .int 999]) (rest := [.int 2, .ref (b + 3)]) ⟨hx, hb, hml, hown, hq⟩ (mc_numbered l D cT tt b1 b hb1 n f_26 wl_27 0 999 f_37 wl_38 r_39 z_40) (cwV 2 hq (gb_gV w_1322 w_1324 s_3_8 w_14 w_1325) rfl rfl rfl (by decide +kernel) ⟨Nat.le_of_ble_eq_true rfl, Nat.le_of_ble_eq_true rfl⟩) (gb_preV (r := (RX12, TX12, 44)) (ci := 10) (q0 := 0) hSt hP rfl (gb_at b rfl) hS (fun q h => Nat.le_trans hb1 h.1) hP) rfl rfl hl.1 rfl (lv_room (Nat.le_of_ble_eq_true rfl)) dX12_borderLine_47 ⟨Nat.le_of_ble_eq_true rfl, Nat.le_of_ble_eq_true rfl⟩) hS (fun _ h => h) (fun _ h => h) (fun q_41 H locs hY hk hS => ?_)
        obtain ⟨hq_41, hP⟩ := hY
        replace hq_41 := hq_41.symm
        subst hq_41
        refine gb_iast (x := r_39) hx hb hK hP (fun k h => ⟨Nat.le_add_right b k, Nat.add_lt_add_left h b⟩) hS rfl 3 0 rfl rfl (gb_in rfl) dX12_borderLine_50 (fun H locs hP hz_ hS => ?_)
        obtain ⟨f_42, ef_42⟩ : ∃ q, q = (gb_u f_37 3 (upd (f_37 3) (Int32.toNatClampNeg 2) r_39)) := ⟨_, rfl⟩
        replace hP : va_P D vwCl (gb_wl b (gb_MW cT b f_42 wl_38)) H := by rw [ef_42]; exact hP
        replace h := gb_lt_s ef_42 h
        refine lv_aload_n hx hb dX12_borderLine_51 rfl (lv_at hl 0 rfl) ?_
        obtain ⟨f_43, wl_44, r_45, z_46, h⟩ := gb_bd_s h
        refine gb_callv (va_runV (C := RX12) (As := []) (rest := []) ⟨hx, hb, hml, hown, hq⟩ (mc_endsLine l D cT tt b1 b hb1 n f_42 wl_38 f_43 wl_44 r_45 z_46) (cwV 0 hq (gb_gV w_1330 w_1332 s_3_10 w_14 w_1333) rfl rfl rfl (by decide +kernel) ⟨Nat.le_of_ble_eq_true rfl, Nat.le_of_ble_eq_true rfl⟩) (gb_preV (r := (RX12, TX12, 44)) (ci := 10) (q0 := 0) hSt hP rfl (gb_at b rfl) hS (fun q h => Nat.le_trans hb1 h.1) hP) rfl rfl hl.1 rfl (lv_room (Nat.le_of_ble_eq_true rfl)) dX12_borderLine_52 ⟨Nat.le_of_ble_eq_true rfl, Nat.le_of_ble_eq_true rfl⟩) hS (fun _ h => h) (fun _ h => h) (fun H locs hY hk hS => ?_)
        have hP := hY
        obtain ⟨e1, e2, -⟩ := gb_eq3 h
        exact W.vret hx hb hr (fun t ht hW => gb_rv ht (by rw [← e1, ← e2]; exact hP) hS) hS.2.2 dX12_borderLine_55
  unfold ms_borderLine at h
  refine lv_aload_n hx hb dX12_borderLine_0 rfl (lv_at hl 0 rfl) ?_
  refine va_get (ci := 10) (v := (.int (f 0 4))) (C := RX12) (T := TX12) (N := 44) hx hb hq i_X12 hown hK hP 0 (gb_at b rfl) rfl 4 (by decide) (hq _ w_1128) (fun _ h9 => h9) rfl dX12_borderLine_1 ?_
  refine lv_topi (fun x_1 ex_1 => ?_)
  replace h := gb_lt_s ex_1 h
  refine lv_istore_n (lv' := [(1, .int x_1), (0, .ref (b + 0))]) hx hb dX12_borderLine_4 rfl hl (by decide) rfl (fun ls hl => ?_)
  refine lv_aload_n hx hb dX12_borderLine_5 rfl (lv_at hl 1 rfl) ?_
  refine lv_iconst (v := 1) hx hb dX12_borderLine_6 (by decide) ?_
  refine lv_iconst (v := 3) hx hb dX12_borderLine_7 (by decide) ?_
  obtain ⟨f_2, wl_3, r_4, z_5, h⟩ := gb_bd_s h
  refine gb_calli (va_runV (C := RX12) (As := [.int 1, .int 3]) (rest := []) ⟨hx, hb, hml, hown, hq⟩ (mc_takes l D cT tt b1 b hb1 n f w 1 3 f_2 wl_3 r_4 z_5) (cwV 2 hq (gb_gV w_1306 w_1308 s_3_4 w_14 w_1309) rfl rfl rfl (by decide +kernel) ⟨Nat.le_of_ble_eq_true rfl, Nat.le_of_ble_eq_true rfl⟩) (gb_preV (r := (RX12, TX12, 44)) (ci := 10) (q0 := 0) hSt hP rfl (gb_at b rfl) hS (fun q h => Nat.le_trans hb1 h.1) hP) rfl rfl hl.1 rfl (lv_room (Nat.le_of_ble_eq_true rfl)) dX12_borderLine_8 ⟨Nat.le_of_ble_eq_true rfl, Nat.le_of_ble_eq_true rfl⟩) hS (fun _ h => h) (fun _ h => h) (fun q_6 H locs hY hk hS => ?_)
  obtain ⟨hq_6, hP⟩ := hY
  replace hq_6 := hq_6.symm
  subst hq_6
  refine lv_istore_n (lv' := [(2, .int r_4), (1, .int x_1), (0, .ref (b + 0))]) hx hb dX12_borderLine_11 rfl hl (by decide) rfl (fun ls hl => ?_)
  refine lv_iload_n hx hb dX12_borderLine_12 rfl (lv_at hl 0 rfl) ?_
  refine lv_iconst (v := 1) hx hb dX12_borderLine_13 (by decide) ?_
  refine lv_icmp_ne (tgt := 22) hx hb dX12_borderLine_14 (by decide) (fun c_7 => ?_) (fun c_7 => ?_)
  · rw [if_neg c_7] at h
    exact L22 _ _ _ _ _ _ _ h hP hS (lv_sub hl [2, 1, 0] rfl)
  · rw [if_pos c_7] at h
    refine lv_aload_n hx hb dX12_borderLine_17 rfl (lv_at hl 2 rfl) ?_
    refine lv_iload_n hx hb dX12_borderLine_18 rfl (lv_at hl 1 rfl) ?_
    obtain ⟨f_48, wl_49, r_50, z_51, h⟩ := gb_bd_s h
    refine gb_callv (va_runV (C := RX12) (As := [.int x_1]) (rest := []) ⟨hx, hb, hml, hown, hq⟩ (mc_pathLine l D cT tt b1 b hb1 n f_2 wl_3 x_1 f_48 wl_49 r_50 z_51) (cwV 1 hq (gb_gV w_1314 w_1316 s_3_6 w_14 w_1317) rfl rfl rfl (by decide +kernel) ⟨Nat.le_of_ble_eq_true rfl, Nat.le_of_ble_eq_true rfl⟩) (gb_preV (r := (RX12, TX12, 44)) (ci := 10) (q0 := 0) hSt hP rfl (gb_at b rfl) hS (fun q h => Nat.le_trans hb1 h.1) hP) rfl rfl hl.1 rfl (lv_room (Nat.le_of_ble_eq_true rfl)) dX12_borderLine_19 ⟨Nat.le_of_ble_eq_true rfl, Nat.le_of_ble_eq_true rfl⟩) hS (fun _ h => h) (fun _ h => h) (fun H locs hY hk hS => ?_)
    have hP := hY
    exact L22 _ _ _ _ _ _ _ h hP hS (lv_sub hl [2, 1, 0] rfl)
theorem dX12_gooseTold_0 : decode cX12_gooseTold 0 = .ok (.aload_n 0, 1) := dc_42 (show ((cX12_gooseTold.data.toList.drop 0).take 1).map UInt8.toNat = [42] by decide +kernel)
theorem dX12_gooseTold_1 : decode cX12_gooseTold 1 = .ok (.iconst 0, 1) := dc_3 (show ((cX12_gooseTold.data.toList.drop 1).take 1).map UInt8.toNat = [3] by decide +kernel)
theorem dX12_gooseTold_2 : decode cX12_gooseTold 2 = .ok (.bipush 7, 2) := dc_16 (show ((cX12_gooseTold.data.toList.drop 2).take 2).map UInt8.toNat = [16, 7] by decide +kernel) rfl
theorem dX12_gooseTold_4 : decode cX12_gooseTold 4 = .ok (.invokevirtual 140, 3) := dc_182 (show ((cX12_gooseTold.data.toList.drop 4).take 3).map UInt8.toNat = [182, 0, 140] by decide +kernel) rfl
theorem dX12_gooseTold_7 : decode cX12_gooseTold 7 = .ok (.ireturn, 1) := dc_172 (show ((cX12_gooseTold.data.toList.drop 7).take 1).map UInt8.toNat = [172] by decide +kernel)
def ms_gooseTold (n : Nat) (f : gb_F) (w : Int64) : gb_MR Int32 := gb_bd (ms_numbered n f w 0 7) (fun f_1 wl_2 r_3 => some (f_1, wl_2, r_3))
set_option maxHeartbeats 8000000 in
set_option maxRecDepth 100000 in
theorem mc_gooseTold (l : Launch) (D : va_G) (cT : Nat → ClassId) (tt : Nat → Nat) (b1 b : Nat) (hb1 : b1 ≤ b) (n : Nat) (f : gb_F) (w : Int64) (fE : gb_F) (wE : Int64) (rE : Int32) (h : ms_gooseTold n f w = some (fE, wE, rE)) : Met l yX12_gooseTold (.code yX12_gooseTold cX12_gooseTold 1 (some FieldType.int) :: gb_wA) ({ frames := 5, cells := 0, slots := 0, locals := 117 }) (gb_Pc D cT tt b1 [.ref (b + 0)] (fun h => va_P D vwCl (gb_wl b (gb_MW cT b f w)) h)) (gb_Qi (fun r h => r = rE ∧ va_P D vwCl (gb_wl b (gb_MW cT b fE wE)) h) (gb_fr b 22)) 0 0 (gb_fr b 22) := by
  refine Met.ofW (cc := cX12_gooseTold) (maxL := 1) (ret := (some FieldType.int)) (by decide) rfl ?_
  intro p e s m args below meth c s₁ B hml hv
  obtain ⟨rfl, hSt, hP⟩ := hv
  have hx := B.exec
  have hb := B.bytes
  have hr := B.returns
  have hts := atoms_spec (ws := .code yX12_gooseTold cX12_gooseTold 1 (some FieldType.int) :: gb_wA) B.pre
  have hq : ∀ w ∈ gb_wA, w.before _ s = true := fun w h => hts w (List.mem_cons_of_mem _ h)
  have hown : s.vm.findClass RX12 = some m.cls := findClass_of_methodNamed B.named
  have hlocks := B.notSynchronized
  clear B hts
  have hK := hSt.1
  have hS : va_S (gb_fr b 22) s.heap s.heap [] := va_S.rf
  have hl := lv_entry ([.ref (b + 0)]) (n := 1) (Nat.le_of_ble_eq_true rfl)
  rw [lg_entry_eq]
  generalize (lg_sl ([.ref (b + 0)]) ++ List.replicate (1 - (lg_sl ([.ref (b + 0)])).length) Slot.unset).toArray = ls at hl ⊢
  replace hl : lv_has ls 1 [(0, .ref (b + 0))] := hl
  unfold ms_gooseTold at h
  refine lv_aload_n hx hb dX12_gooseTold_0 rfl (lv_at hl 0 rfl) ?_
  refine lv_iconst (v := 0) hx hb dX12_gooseTold_1 (by decide) ?_
  refine lv_bipush (v := 7) hx hb dX12_gooseTold_2 (by decide) ?_
  obtain ⟨f_1, wl_2, r_3, z_4, h⟩ := gb_bd_s h
  refine gb_calli (va_runV (C := RX12) (As := [.int 0, .int 7]) (rest := []) ⟨hx, hb, hml, hown, hq⟩ (mc_numbered l D cT tt b1 b hb1 n f w 0 7 f_1 wl_2 r_3 z_4) (cwV 2 hq (gb_gV w_1322 w_1324 s_3_8 w_14 w_1325) rfl rfl rfl (by decide +kernel) ⟨Nat.le_of_ble_eq_true rfl, Nat.le_of_ble_eq_true rfl⟩) (gb_preV (r := (RX12, TX12, 44)) (ci := 10) (q0 := 0) hSt hP rfl (gb_at b rfl) hS (fun q h => Nat.le_trans hb1 h.1) hP) rfl rfl hl.1 rfl (lv_room (Nat.le_of_ble_eq_true rfl)) dX12_gooseTold_4 ⟨Nat.le_of_ble_eq_true rfl, Nat.le_of_ble_eq_true rfl⟩) hS (fun _ h => h) (fun _ h => h) (fun q_5 H locs hY hk hS => ?_)
  obtain ⟨hq_5, hP⟩ := hY
  replace hq_5 := hq_5.symm
  subst hq_5
  obtain ⟨e1, e2, e3⟩ := gb_eq3 h
  exact W.iret (v := r_3) hx hb hr (fun t ht hW => gb_ri ht ⟨e3, by rw [← e1, ← e2]; exact hP⟩ hS) hS.2.2 dX12_gooseTold_7
theorem dX12_pathTold_0 : decode cX12_pathTold 0 = .ok (.aload_n 0, 1) := dc_42 (show ((cX12_pathTold.data.toList.drop 0).take 1).map UInt8.toNat = [42] by decide +kernel)
theorem dX12_pathTold_1 : decode cX12_pathTold 1 = .ok (.iconst 0, 1) := dc_3 (show ((cX12_pathTold.data.toList.drop 1).take 1).map UInt8.toNat = [3] by decide +kernel)
theorem dX12_pathTold_2 : decode cX12_pathTold 2 = .ok (.iconst 4, 1) := dc_7 (show ((cX12_pathTold.data.toList.drop 2).take 1).map UInt8.toNat = [7] by decide +kernel)
theorem dX12_pathTold_3 : decode cX12_pathTold 3 = .ok (.invokevirtual 140, 3) := dc_182 (show ((cX12_pathTold.data.toList.drop 3).take 3).map UInt8.toNat = [182, 0, 140] by decide +kernel) rfl
theorem dX12_pathTold_6 : decode cX12_pathTold 6 = .ok (.ireturn, 1) := dc_172 (show ((cX12_pathTold.data.toList.drop 6).take 1).map UInt8.toNat = [172] by decide +kernel)
def ms_pathTold (n : Nat) (f : gb_F) (w : Int64) : gb_MR Int32 := gb_bd (ms_numbered n f w 0 4) (fun f_1 wl_2 r_3 => some (f_1, wl_2, r_3))
set_option maxHeartbeats 8000000 in
set_option maxRecDepth 100000 in
theorem mc_pathTold (l : Launch) (D : va_G) (cT : Nat → ClassId) (tt : Nat → Nat) (b1 b : Nat) (hb1 : b1 ≤ b) (n : Nat) (f : gb_F) (w : Int64) (fE : gb_F) (wE : Int64) (rE : Int32) (h : ms_pathTold n f w = some (fE, wE, rE)) : Met l yX12_pathTold (.code yX12_pathTold cX12_pathTold 1 (some FieldType.int) :: gb_wA) ({ frames := 5, cells := 0, slots := 0, locals := 117 }) (gb_Pc D cT tt b1 [.ref (b + 0)] (fun h => va_P D vwCl (gb_wl b (gb_MW cT b f w)) h)) (gb_Qi (fun r h => r = rE ∧ va_P D vwCl (gb_wl b (gb_MW cT b fE wE)) h) (gb_fr b 22)) 0 0 (gb_fr b 22) := by
  refine Met.ofW (cc := cX12_pathTold) (maxL := 1) (ret := (some FieldType.int)) (by decide) rfl ?_
  intro p e s m args below meth c s₁ B hml hv
  obtain ⟨rfl, hSt, hP⟩ := hv
  have hx := B.exec
  have hb := B.bytes
  have hr := B.returns
  have hts := atoms_spec (ws := .code yX12_pathTold cX12_pathTold 1 (some FieldType.int) :: gb_wA) B.pre
  have hq : ∀ w ∈ gb_wA, w.before _ s = true := fun w h => hts w (List.mem_cons_of_mem _ h)
  have hown : s.vm.findClass RX12 = some m.cls := findClass_of_methodNamed B.named
  have hlocks := B.notSynchronized
  clear B hts
  have hK := hSt.1
  have hS : va_S (gb_fr b 22) s.heap s.heap [] := va_S.rf
  have hl := lv_entry ([.ref (b + 0)]) (n := 1) (Nat.le_of_ble_eq_true rfl)
  rw [lg_entry_eq]
  generalize (lg_sl ([.ref (b + 0)]) ++ List.replicate (1 - (lg_sl ([.ref (b + 0)])).length) Slot.unset).toArray = ls at hl ⊢
  replace hl : lv_has ls 1 [(0, .ref (b + 0))] := hl
  unfold ms_pathTold at h
  refine lv_aload_n hx hb dX12_pathTold_0 rfl (lv_at hl 0 rfl) ?_
  refine lv_iconst (v := 0) hx hb dX12_pathTold_1 (by decide) ?_
  refine lv_iconst (v := 4) hx hb dX12_pathTold_2 (by decide) ?_
  obtain ⟨f_1, wl_2, r_3, z_4, h⟩ := gb_bd_s h
  refine gb_calli (va_runV (C := RX12) (As := [.int 0, .int 4]) (rest := []) ⟨hx, hb, hml, hown, hq⟩ (mc_numbered l D cT tt b1 b hb1 n f w 0 4 f_1 wl_2 r_3 z_4) (cwV 2 hq (gb_gV w_1322 w_1324 s_3_8 w_14 w_1325) rfl rfl rfl (by decide +kernel) ⟨Nat.le_of_ble_eq_true rfl, Nat.le_of_ble_eq_true rfl⟩) (gb_preV (r := (RX12, TX12, 44)) (ci := 10) (q0 := 0) hSt hP rfl (gb_at b rfl) hS (fun q h => Nat.le_trans hb1 h.1) hP) rfl rfl hl.1 rfl (lv_room (Nat.le_of_ble_eq_true rfl)) dX12_pathTold_3 ⟨Nat.le_of_ble_eq_true rfl, Nat.le_of_ble_eq_true rfl⟩) hS (fun _ h => h) (fun _ h => h) (fun q_5 H locs hY hk hS => ?_)
  obtain ⟨hq_5, hP⟩ := hY
  replace hq_5 := hq_5.symm
  subst hq_5
  obtain ⟨e1, e2, e3⟩ := gb_eq3 h
  exact W.iret (v := r_3) hx hb hr (fun t ht hW => gb_ri ht ⟨e3, by rw [← e1, ← e2]; exact hP⟩ hS) hS.2.2 dX12_pathTold_6
theorem dX12_adds_0 : decode cX12_adds 0 = .ok (.aload_n 0, 1) := dc_42 (show ((cX12_adds.data.toList.drop 0).take 1).map UInt8.toNat = [42] by decide +kernel)
theorem dX12_adds_1 : decode cX12_adds 1 = .ok (.getfield 17, 3) := dc_180 (show ((cX12_adds.data.toList.drop 1).take 3).map UInt8.toNat = [180, 0, 17] by decide +kernel) rfl
theorem dX12_adds_4 : decode cX12_adds 4 = .ok (.iconst 0, 1) := dc_3 (show ((cX12_adds.data.toList.drop 4).take 1).map UInt8.toNat = [3] by decide +kernel)
theorem dX12_adds_5 : decode cX12_adds 5 = .ok (.iaload, 1) := dc_46 (show ((cX12_adds.data.toList.drop 5).take 1).map UInt8.toNat = [46] by decide +kernel)
theorem dX12_adds_6 : decode cX12_adds 6 = .ok (.iload_n 1, 1) := dc_27 (show ((cX12_adds.data.toList.drop 6).take 1).map UInt8.toNat = [27] by decide +kernel)
theorem dX12_adds_7 : decode cX12_adds 7 = .ok (.if_icmp .lt 4, 3) := dc_161 (show ((cX12_adds.data.toList.drop 7).take 3).map UInt8.toNat = [161, 0, 4] by decide +kernel) rfl
theorem dX12_adds_11 : decode cX12_adds 11 = .ok (.iconst 1, 1) := dc_4 (show ((cX12_adds.data.toList.drop 11).take 1).map UInt8.toNat = [4] by decide +kernel)
theorem dX12_adds_12 : decode cX12_adds 12 = .ok (.iload_n 2, 1) := dc_28 (show ((cX12_adds.data.toList.drop 12).take 1).map UInt8.toNat = [28] by decide +kernel)
theorem dX12_adds_13 : decode cX12_adds 13 = .ok (.aload_n 0, 1) := dc_42 (show ((cX12_adds.data.toList.drop 13).take 1).map UInt8.toNat = [42] by decide +kernel)
theorem dX12_adds_14 : decode cX12_adds 14 = .ok (.getfield 17, 3) := dc_180 (show ((cX12_adds.data.toList.drop 14).take 3).map UInt8.toNat = [180, 0, 17] by decide +kernel) rfl
theorem dX12_adds_17 : decode cX12_adds 17 = .ok (.iconst 0, 1) := dc_3 (show ((cX12_adds.data.toList.drop 17).take 1).map UInt8.toNat = [3] by decide +kernel)
theorem dX12_adds_18 : decode cX12_adds 18 = .ok (.iaload, 1) := dc_46 (show ((cX12_adds.data.toList.drop 18).take 1).map UInt8.toNat = [46] by decide +kernel)
theorem dX12_adds_19 : decode cX12_adds 19 = .ok (.imul, 1) := dc_104 (show ((cX12_adds.data.toList.drop 19).take 1).map UInt8.toNat = [104] by decide +kernel)
theorem dX12_adds_20 : decode cX12_adds 20 = .ok (.iadd, 1) := dc_96 (show ((cX12_adds.data.toList.drop 20).take 1).map UInt8.toNat = [96] by decide +kernel)
theorem dX12_adds_21 : decode cX12_adds 21 = .ok (.istore 7, 2) := dc_54 (show ((cX12_adds.data.toList.drop 21).take 2).map UInt8.toNat = [54, 7] by decide +kernel) rfl
theorem dX12_adds_23 : decode cX12_adds 23 = .ok (.aload_n 0, 1) := dc_42 (show ((cX12_adds.data.toList.drop 23).take 1).map UInt8.toNat = [42] by decide +kernel)
theorem dX12_adds_24 : decode cX12_adds 24 = .ok (.getfield 17, 3) := dc_180 (show ((cX12_adds.data.toList.drop 24).take 3).map UInt8.toNat = [180, 0, 17] by decide +kernel) rfl
theorem dX12_adds_27 : decode cX12_adds 27 = .ok (.iload 7, 2) := dc_21 (show ((cX12_adds.data.toList.drop 27).take 2).map UInt8.toNat = [21, 7] by decide +kernel) rfl
theorem dX12_adds_29 : decode cX12_adds 29 = .ok (.iload_n 3, 1) := dc_29 (show ((cX12_adds.data.toList.drop 29).take 1).map UInt8.toNat = [29] by decide +kernel)
theorem dX12_adds_30 : decode cX12_adds 30 = .ok (.iastore, 1) := dc_79 (show ((cX12_adds.data.toList.drop 30).take 1).map UInt8.toNat = [79] by decide +kernel)
theorem dX12_adds_31 : decode cX12_adds 31 = .ok (.aload_n 0, 1) := dc_42 (show ((cX12_adds.data.toList.drop 31).take 1).map UInt8.toNat = [42] by decide +kernel)
theorem dX12_adds_32 : decode cX12_adds 32 = .ok (.getfield 17, 3) := dc_180 (show ((cX12_adds.data.toList.drop 32).take 3).map UInt8.toNat = [180, 0, 17] by decide +kernel) rfl
theorem dX12_adds_35 : decode cX12_adds 35 = .ok (.iload 7, 2) := dc_21 (show ((cX12_adds.data.toList.drop 35).take 2).map UInt8.toNat = [21, 7] by decide +kernel) rfl
theorem dX12_adds_37 : decode cX12_adds 37 = .ok (.iconst 1, 1) := dc_4 (show ((cX12_adds.data.toList.drop 37).take 1).map UInt8.toNat = [4] by decide +kernel)
theorem dX12_adds_38 : decode cX12_adds 38 = .ok (.iadd, 1) := dc_96 (show ((cX12_adds.data.toList.drop 38).take 1).map UInt8.toNat = [96] by decide +kernel)
theorem dX12_adds_39 : decode cX12_adds 39 = .ok (.iload 4, 2) := dc_21 (show ((cX12_adds.data.toList.drop 39).take 2).map UInt8.toNat = [21, 4] by decide +kernel) rfl
theorem dX12_adds_41 : decode cX12_adds 41 = .ok (.iastore, 1) := dc_79 (show ((cX12_adds.data.toList.drop 41).take 1).map UInt8.toNat = [79] by decide +kernel)
theorem dX12_adds_42 : decode cX12_adds 42 = .ok (.iload_n 2, 1) := dc_28 (show ((cX12_adds.data.toList.drop 42).take 1).map UInt8.toNat = [28] by decide +kernel)
theorem dX12_adds_43 : decode cX12_adds 43 = .ok (.iconst 2, 1) := dc_5 (show ((cX12_adds.data.toList.drop 43).take 1).map UInt8.toNat = [5] by decide +kernel)
theorem dX12_adds_44 : decode cX12_adds 44 = .ok (.if_icmp .le 14, 3) := dc_164 (show ((cX12_adds.data.toList.drop 44).take 3).map UInt8.toNat = [164, 0, 14] by decide +kernel) rfl
theorem dX12_adds_58 : decode cX12_adds 58 = .ok (.iload_n 2, 1) := dc_28 (show ((cX12_adds.data.toList.drop 58).take 1).map UInt8.toNat = [28] by decide +kernel)
theorem dX12_adds_59 : decode cX12_adds 59 = .ok (.iconst 3, 1) := dc_6 (show ((cX12_adds.data.toList.drop 59).take 1).map UInt8.toNat = [6] by decide +kernel)
theorem dX12_adds_60 : decode cX12_adds 60 = .ok (.if_icmp .le 14, 3) := dc_164 (show ((cX12_adds.data.toList.drop 60).take 3).map UInt8.toNat = [164, 0, 14] by decide +kernel) rfl
theorem dX12_adds_74 : decode cX12_adds 74 = .ok (.aload_n 0, 1) := dc_42 (show ((cX12_adds.data.toList.drop 74).take 1).map UInt8.toNat = [42] by decide +kernel)
theorem dX12_adds_75 : decode cX12_adds 75 = .ok (.getfield 17, 3) := dc_180 (show ((cX12_adds.data.toList.drop 75).take 3).map UInt8.toNat = [180, 0, 17] by decide +kernel) rfl
theorem dX12_adds_78 : decode cX12_adds 78 = .ok (.iconst 0, 1) := dc_3 (show ((cX12_adds.data.toList.drop 78).take 1).map UInt8.toNat = [3] by decide +kernel)
theorem dX12_adds_79 : decode cX12_adds 79 = .ok (.dup2, 1) := dc_92 (show ((cX12_adds.data.toList.drop 79).take 1).map UInt8.toNat = [92] by decide +kernel)
theorem dX12_adds_80 : decode cX12_adds 80 = .ok (.iaload, 1) := dc_46 (show ((cX12_adds.data.toList.drop 80).take 1).map UInt8.toNat = [46] by decide +kernel)
theorem dX12_adds_81 : decode cX12_adds 81 = .ok (.iconst 1, 1) := dc_4 (show ((cX12_adds.data.toList.drop 81).take 1).map UInt8.toNat = [4] by decide +kernel)
theorem dX12_adds_82 : decode cX12_adds 82 = .ok (.iadd, 1) := dc_96 (show ((cX12_adds.data.toList.drop 82).take 1).map UInt8.toNat = [96] by decide +kernel)
theorem dX12_adds_83 : decode cX12_adds 83 = .ok (.iastore, 1) := dc_79 (show ((cX12_adds.data.toList.drop 83).take 1).map UInt8.toNat = [79] by decide +kernel)
theorem dX12_adds_84 : decode cX12_adds 84 = .ok (.return_, 1) := dc_177 (show ((cX12_adds.data.toList.drop 84).take 1).map UInt8.toNat = [177] by decide +kernel)
theorem dX12_adds_63 : decode cX12_adds 63 = .ok (.aload_n 0, 1) := dc_42 (show ((cX12_adds.data.toList.drop 63).take 1).map UInt8.toNat = [42] by decide +kernel)
theorem dX12_adds_64 : decode cX12_adds 64 = .ok (.getfield 17, 3) := dc_180 (show ((cX12_adds.data.toList.drop 64).take 3).map UInt8.toNat = [180, 0, 17] by decide +kernel) rfl
theorem dX12_adds_67 : decode cX12_adds 67 = .ok (.iload 7, 2) := dc_21 (show ((cX12_adds.data.toList.drop 67).take 2).map UInt8.toNat = [21, 7] by decide +kernel) rfl
theorem dX12_adds_69 : decode cX12_adds 69 = .ok (.iconst 3, 1) := dc_6 (show ((cX12_adds.data.toList.drop 69).take 1).map UInt8.toNat = [6] by decide +kernel)
theorem dX12_adds_70 : decode cX12_adds 70 = .ok (.iadd, 1) := dc_96 (show ((cX12_adds.data.toList.drop 70).take 1).map UInt8.toNat = [96] by decide +kernel)
theorem dX12_adds_71 : decode cX12_adds 71 = .ok (.iload 6, 2) := dc_21 (show ((cX12_adds.data.toList.drop 71).take 2).map UInt8.toNat = [21, 6] by decide +kernel) rfl
theorem dX12_adds_73 : decode cX12_adds 73 = .ok (.iastore, 1) := dc_79 (show ((cX12_adds.data.toList.drop 73).take 1).map UInt8.toNat = [79] by decide +kernel)
theorem dX12_adds_47 : decode cX12_adds 47 = .ok (.aload_n 0, 1) := dc_42 (show ((cX12_adds.data.toList.drop 47).take 1).map UInt8.toNat = [42] by decide +kernel)
theorem dX12_adds_48 : decode cX12_adds 48 = .ok (.getfield 17, 3) := dc_180 (show ((cX12_adds.data.toList.drop 48).take 3).map UInt8.toNat = [180, 0, 17] by decide +kernel) rfl
theorem dX12_adds_51 : decode cX12_adds 51 = .ok (.iload 7, 2) := dc_21 (show ((cX12_adds.data.toList.drop 51).take 2).map UInt8.toNat = [21, 7] by decide +kernel) rfl
theorem dX12_adds_53 : decode cX12_adds 53 = .ok (.iconst 2, 1) := dc_5 (show ((cX12_adds.data.toList.drop 53).take 1).map UInt8.toNat = [5] by decide +kernel)
theorem dX12_adds_54 : decode cX12_adds 54 = .ok (.iadd, 1) := dc_96 (show ((cX12_adds.data.toList.drop 54).take 1).map UInt8.toNat = [96] by decide +kernel)
theorem dX12_adds_55 : decode cX12_adds 55 = .ok (.iload 5, 2) := dc_21 (show ((cX12_adds.data.toList.drop 55).take 2).map UInt8.toNat = [21, 5] by decide +kernel) rfl
theorem dX12_adds_57 : decode cX12_adds 57 = .ok (.iastore, 1) := dc_79 (show ((cX12_adds.data.toList.drop 57).take 1).map UInt8.toNat = [79] by decide +kernel)
theorem dX12_adds_10 : decode cX12_adds 10 = .ok (.return_, 1) := dc_177 (show ((cX12_adds.data.toList.drop 10).take 1).map UInt8.toNat = [177] by decide +kernel)
def ms_adds_58 (n : Nat) (f : gb_F) (w : Int64) (v2 : Int32) (v6 : Int32) (v7 : Int32) : gb_MR Unit := (if v2 ≤ 3 then gb_lt (f 3 (Int32.toNatClampNeg 0)) (fun x_11 => gb_lt (gb_u f 3 (upd (f 3) (Int32.toNatClampNeg 0) (x_11 + 1))) (fun f_12 => some (f_12, w, ()))) else gb_ck (v7 + 3) 97 (gb_lt (gb_u f 3 (upd (f 3) (Int32.toNatClampNeg (v7 + 3)) v6)) (fun f_14 => gb_lt (f_14 3 (Int32.toNatClampNeg 0)) (fun x_15 => gb_lt (gb_u f_14 3 (upd (f_14 3) (Int32.toNatClampNeg 0) (x_15 + 1))) (fun f_16 => some (f_16, w, ()))))))
def ms_adds (n : Nat) (f : gb_F) (w : Int64) (p1 : Int32) (p2 : Int32) (p3 : Int32) (p4 : Int32) (p5 : Int32) (p6 : Int32) : gb_MR Unit := gb_lt (f 3 (Int32.toNatClampNeg 0)) (fun x_1 => (if x_1 < p1 then gb_lt (f 3 (Int32.toNatClampNeg 0)) (fun x_3 => gb_lt (1 + (p2 * x_3)) (fun x_4 => gb_ck x_4 97 (gb_lt (gb_u f 3 (upd (f 3) (Int32.toNatClampNeg x_4) p3)) (fun f_6 => gb_ck (x_4 + 1) 97 (gb_lt (gb_u f_6 3 (upd (f_6 3) (Int32.toNatClampNeg (x_4 + 1)) p4)) (fun f_8 => (if p2 ≤ 2 then ms_adds_58 n f_8 w p2 p6 x_4 else gb_ck (x_4 + 2) 97 (gb_lt (gb_u f_8 3 (upd (f_8 3) (Int32.toNatClampNeg (x_4 + 2)) p5)) (fun f_18 => ms_adds_58 n f_18 w p2 p6 x_4))))))))) else some (f, w, ())))
set_option maxHeartbeats 8000000 in
set_option maxRecDepth 100000 in
theorem mc_adds (l : Launch) (D : va_G) (cT : Nat → ClassId) (tt : Nat → Nat) (b1 b : Nat) (hb1 : b1 ≤ b) (n : Nat) (f : gb_F) (w : Int64) (p1 : Int32) (p2 : Int32) (p3 : Int32) (p4 : Int32) (p5 : Int32) (p6 : Int32) (fE : gb_F) (wE : Int64) (rE : Unit) (h : ms_adds n f w p1 p2 p3 p4 p5 p6 = some (fE, wE, rE)) : Met l yX12_adds (.code yX12_adds cX12_adds 8 none :: gb_wA) ({ frames := 0, cells := 0, slots := 0, locals := 0 }) (gb_Pc D cT tt b1 [.ref (b + 0), .int p1, .int p2, .int p3, .int p4, .int p5, .int p6] (fun h => va_P D vwCl (gb_wl b (gb_MW cT b f w)) h)) (gb_Qv (fun h => va_P D vwCl (gb_wl b (gb_MW cT b fE wE)) h) (gb_fr b 22)) 0 0 (gb_fr b 22) := by
  refine Met.ofW (cc := cX12_adds) (maxL := 8) (ret := none) (by decide) rfl ?_
  intro p e s m args below meth c s₁ B hml hv
  obtain ⟨rfl, hSt, hP⟩ := hv
  have hx := B.exec
  have hb := B.bytes
  have hr := B.returns
  have hts := atoms_spec (ws := .code yX12_adds cX12_adds 8 none :: gb_wA) B.pre
  have hq : ∀ w ∈ gb_wA, w.before _ s = true := fun w h => hts w (List.mem_cons_of_mem _ h)
  have hown : s.vm.findClass RX12 = some m.cls := findClass_of_methodNamed B.named
  have hlocks := B.notSynchronized
  clear B hts
  have hK := hSt.1
  have hS : va_S (gb_fr b 22) s.heap s.heap [] := va_S.rf
  have hl := lv_entry ([.ref (b + 0), .int p1, .int p2, .int p3, .int p4, .int p5, .int p6]) (n := 8) (Nat.le_of_ble_eq_true rfl)
  rw [lg_entry_eq]
  generalize (lg_sl ([.ref (b + 0), .int p1, .int p2, .int p3, .int p4, .int p5, .int p6]) ++ List.replicate (8 - (lg_sl ([.ref (b + 0), .int p1, .int p2, .int p3, .int p4, .int p5, .int p6])).length) Slot.unset).toArray = ls at hl ⊢
  replace hl : lv_has ls 8 [(0, .ref (b + 0)), (1, .int p1), (2, .int p2), (3, .int p3), (4, .int p4), (5, .int p5), (6, .int p6)] := hl
  have L58 : ∀ (f : gb_F) (w : Int64) (v2 : Int32) (v6 : Int32) (v7 : Int32) (H : Heap) (locs : List Loc) (ls : Array Slot), ms_adds_58 n f w v2 v6 v7 = some (fE, wE, rE) → va_P D vwCl (gb_wl b (gb_MW cT b f w)) H → va_S (gb_fr b 22) s.heap H locs → lv_has ls 8 [(0, .ref (b + 0)), (2, .int v2), (6, .int v6), (7, .int v7)] → W p l e (headSpec (.code yX12_adds cX12_adds 8 none :: gb_wA) ({ frames := 0, cells := 0, slots := 0, locals := 0 })).room s m ([.ref (b + 0), .int p1, .int p2, .int p3, .int p4, .int p5, .int p6]).toArray below meth c H locs 0 0 (MQ below (gb_Qv (fun h => va_P D vwCl (gb_wl b (gb_MW cT b fE wE)) h) (gb_fr b 22)) ([.ref (b + 0), .int p1, .int p2, .int p3, .int p4, .int p5, .int p6]).toArray s 0 0 (gb_fr b 22)) (F0 m 58 ls []) := by
    clear h hP hS hl ls f w
    intro f w v2 v6 v7 H locs ls h hP hS hl
    unfold ms_adds_58 at h
    refine lv_iload_n hx hb dX12_adds_58 rfl (lv_at hl 1 rfl) ?_
    refine lv_iconst (v := 3) hx hb dX12_adds_59 (by decide) ?_
    refine lv_icmp_le (tgt := 74) hx hb dX12_adds_60 (by decide) (fun c_10 => ?_) (fun c_10 => ?_)
    · rw [if_pos c_10] at h
      refine lv_aload_n hx hb dX12_adds_74 rfl (lv_at hl 0 rfl) ?_
      refine va_get (ci := 10) (v := (.ref (b + 3))) (C := RX12) (T := TX12) (N := 44) hx hb hq i_X12 hown hK hP 0 (gb_at b rfl) rfl 10 (by decide) (hq _ w_1134) (fun _ h9 => h9) rfl dX12_adds_75 ?_
      refine lv_iconst (v := 0) hx hb dX12_adds_78 (by decide) ?_
      refine lv_dup2_11 hx hb dX12_adds_79 rfl rfl ?_
      refine va_iald hx hb hK hP 3 0 (gb_at b rfl) rfl (gb_in rfl) dX12_adds_80 ?_
      refine lv_topi (fun x_11 ex_11 => ?_)
      replace h := gb_lt_s ex_11 h
      refine lv_iconst (v := 1) hx hb dX12_adds_81 (by decide) ?_
      refine lv_iadd hx hb dX12_adds_82 ?_
      refine gb_iast (x := (x_11 + 1)) hx hb hK hP (fun k h => ⟨Nat.le_add_right b k, Nat.add_lt_add_left h b⟩) hS rfl 3 0 rfl rfl (gb_in rfl) dX12_adds_83 (fun H locs hP hz_ hS => ?_)
      obtain ⟨f_12, ef_12⟩ : ∃ q, q = (gb_u f 3 (upd (f 3) (Int32.toNatClampNeg 0) (x_11 + 1))) := ⟨_, rfl⟩
      replace hP : va_P D vwCl (gb_wl b (gb_MW cT b f_12 w)) H := by rw [ef_12]; exact hP
      replace h := gb_lt_s ef_12 h
      obtain ⟨e1, e2, -⟩ := gb_eq3 h
      exact W.vret hx hb hr (fun t ht hW => gb_rv ht (by rw [← e1, ← e2]; exact hP) hS) hS.2.2 dX12_adds_84
    · rw [if_neg c_10] at h
      refine lv_aload_n hx hb dX12_adds_63 rfl (lv_at hl 0 rfl) ?_
      refine va_get (ci := 10) (v := (.ref (b + 3))) (C := RX12) (T := TX12) (N := 44) hx hb hq i_X12 hown hK hP 0 (gb_at b rfl) rfl 10 (by decide) (hq _ w_1134) (fun _ h9 => h9) rfl dX12_adds_64 ?_
      refine lv_iload hx hb dX12_adds_67 (lv_at hl 3 rfl) ?_
      refine lv_iconst (v := 3) hx hb dX12_adds_69 (by decide) ?_
      refine lv_iadd hx hb dX12_adds_70 ?_
      refine lv_iload hx hb dX12_adds_71 (lv_at hl 2 rfl) ?_
      obtain ⟨z_13, h⟩ := gb_ck_s h
      refine gb_iast (x := v6) hx hb hK hP (fun k h => ⟨Nat.le_add_right b k, Nat.add_lt_add_left h b⟩) hS rfl 3 0 rfl rfl z_13 dX12_adds_73 (fun H locs hP hz_ hS => ?_)
      obtain ⟨f_14, ef_14⟩ : ∃ q, q = (gb_u f 3 (upd (f 3) (Int32.toNatClampNeg (v7 + 3)) v6)) := ⟨_, rfl⟩
      replace hP : va_P D vwCl (gb_wl b (gb_MW cT b f_14 w)) H := by rw [ef_14]; exact hP
      replace h := gb_lt_s ef_14 h
      refine lv_aload_n hx hb dX12_adds_74 rfl (lv_at hl 0 rfl) ?_
      refine va_get (ci := 10) (v := (.ref (b + 3))) (C := RX12) (T := TX12) (N := 44) hx hb hq i_X12 hown hK hP 0 (gb_at b rfl) rfl 10 (by decide) (hq _ w_1134) (fun _ h9 => h9) rfl dX12_adds_75 ?_
      refine lv_iconst (v := 0) hx hb dX12_adds_78 (by decide) ?_
      refine lv_dup2_11 hx hb dX12_adds_79 rfl rfl ?_
      refine va_iald hx hb hK hP 3 0 (gb_at b rfl) rfl (gb_in rfl) dX12_adds_80 ?_
      refine lv_topi (fun x_15 ex_15 => ?_)
      replace h := gb_lt_s ex_15 h
      refine lv_iconst (v := 1) hx hb dX12_adds_81 (by decide) ?_
      refine lv_iadd hx hb dX12_adds_82 ?_
      refine gb_iast (x := (x_15 + 1)) hx hb hK hP (fun k h => ⟨Nat.le_add_right b k, Nat.add_lt_add_left h b⟩) hS rfl 3 0 rfl rfl (gb_in rfl) dX12_adds_83 (fun H locs hP hz_ hS => ?_)
      obtain ⟨f_16, ef_16⟩ : ∃ q, q = (gb_u f_14 3 (upd (f_14 3) (Int32.toNatClampNeg 0) (x_15 + 1))) := ⟨_, rfl⟩
      replace hP : va_P D vwCl (gb_wl b (gb_MW cT b f_16 w)) H := by rw [ef_16]; exact hP
      replace h := gb_lt_s ef_16 h
      obtain ⟨e1, e2, -⟩ := gb_eq3 h
      exact W.vret hx hb hr (fun t ht hW => gb_rv ht (by rw [← e1, ← e2]; exact hP) hS) hS.2.2 dX12_adds_84
  unfold ms_adds at h
  refine lv_aload_n hx hb dX12_adds_0 rfl (lv_at hl 0 rfl) ?_
  refine va_get (ci := 10) (v := (.ref (b + 3))) (C := RX12) (T := TX12) (N := 44) hx hb hq i_X12 hown hK hP 0 (gb_at b rfl) rfl 10 (by decide) (hq _ w_1134) (fun _ h9 => h9) rfl dX12_adds_1 ?_
  refine lv_iconst (v := 0) hx hb dX12_adds_4 (by decide) ?_
  refine va_iald hx hb hK hP 3 0 (gb_at b rfl) rfl (gb_in rfl) dX12_adds_5 ?_
  refine lv_topi (fun x_1 ex_1 => ?_)
  replace h := gb_lt_s ex_1 h
  refine lv_iload_n hx hb dX12_adds_6 rfl (lv_at hl 1 rfl) ?_
  refine lv_icmp_lt (tgt := 11) hx hb dX12_adds_7 (by decide) (fun c_2 => ?_) (fun c_2 => ?_)
  · rw [if_pos c_2] at h
    refine lv_iconst (v := 1) hx hb dX12_adds_11 (by decide) ?_
    refine lv_iload_n hx hb dX12_adds_12 rfl (lv_at hl 2 rfl) ?_
    refine lv_aload_n hx hb dX12_adds_13 rfl (lv_at hl 0 rfl) ?_
    refine va_get (ci := 10) (v := (.ref (b + 3))) (C := RX12) (T := TX12) (N := 44) hx hb hq i_X12 hown hK hP 0 (gb_at b rfl) rfl 10 (by decide) (hq _ w_1134) (fun _ h9 => h9) rfl dX12_adds_14 ?_
    refine lv_iconst (v := 0) hx hb dX12_adds_17 (by decide) ?_
    refine va_iald hx hb hK hP 3 0 (gb_at b rfl) rfl (gb_in rfl) dX12_adds_18 ?_
    refine lv_topi (fun x_3 ex_3 => ?_)
    replace h := gb_lt_s ex_3 h
    refine lv_imul hx hb dX12_adds_19 ?_
    refine lv_iadd hx hb dX12_adds_20 ?_
    refine lv_topi (fun x_4 ex_4 => ?_)
    replace h := gb_lt_s ex_4 h
    refine lv_istore (lv' := [(7, .int x_4), (0, .ref (b + 0)), (1, .int p1), (2, .int p2), (3, .int p3), (4, .int p4), (5, .int p5), (6, .int p6)]) hx hb dX12_adds_21 hl (by decide) rfl (fun ls hl => ?_)
    refine lv_aload_n hx hb dX12_adds_23 rfl (lv_at hl 1 rfl) ?_
    refine va_get (ci := 10) (v := (.ref (b + 3))) (C := RX12) (T := TX12) (N := 44) hx hb hq i_X12 hown hK hP 0 (gb_at b rfl) rfl 10 (by decide) (hq _ w_1134) (fun _ h9 => h9) rfl dX12_adds_24 ?_
    refine lv_iload hx hb dX12_adds_27 (lv_at hl 0 rfl) ?_
    refine lv_iload_n hx hb dX12_adds_29 rfl (lv_at hl 4 rfl) ?_
    obtain ⟨z_5, h⟩ := gb_ck_s h
    refine gb_iast (x := p3) hx hb hK hP (fun k h => ⟨Nat.le_add_right b k, Nat.add_lt_add_left h b⟩) hS rfl 3 0 rfl rfl z_5 dX12_adds_30 (fun H locs hP hz_ hS => ?_)
    obtain ⟨f_6, ef_6⟩ : ∃ q, q = (gb_u f 3 (upd (f 3) (Int32.toNatClampNeg x_4) p3)) := ⟨_, rfl⟩
    replace hP : va_P D vwCl (gb_wl b (gb_MW cT b f_6 w)) H := by rw [ef_6]; exact hP
    replace h := gb_lt_s ef_6 h
    refine lv_aload_n hx hb dX12_adds_31 rfl (lv_at hl 1 rfl) ?_
    refine va_get (ci := 10) (v := (.ref (b + 3))) (C := RX12) (T := TX12) (N := 44) hx hb hq i_X12 hown hK hP 0 (gb_at b rfl) rfl 10 (by decide) (hq _ w_1134) (fun _ h9 => h9) rfl dX12_adds_32 ?_
    refine lv_iload hx hb dX12_adds_35 (lv_at hl 0 rfl) ?_
    refine lv_iconst (v := 1) hx hb dX12_adds_37 (by decide) ?_
    refine lv_iadd hx hb dX12_adds_38 ?_
    refine lv_iload hx hb dX12_adds_39 (lv_at hl 5 rfl) ?_
    obtain ⟨z_7, h⟩ := gb_ck_s h
    refine gb_iast (x := p4) hx hb hK hP (fun k h => ⟨Nat.le_add_right b k, Nat.add_lt_add_left h b⟩) hS rfl 3 0 rfl rfl z_7 dX12_adds_41 (fun H locs hP hz_ hS => ?_)
    obtain ⟨f_8, ef_8⟩ : ∃ q, q = (gb_u f_6 3 (upd (f_6 3) (Int32.toNatClampNeg (x_4 + 1)) p4)) := ⟨_, rfl⟩
    replace hP : va_P D vwCl (gb_wl b (gb_MW cT b f_8 w)) H := by rw [ef_8]; exact hP
    replace h := gb_lt_s ef_8 h
    refine lv_iload_n hx hb dX12_adds_42 rfl (lv_at hl 3 rfl) ?_
    refine lv_iconst (v := 2) hx hb dX12_adds_43 (by decide) ?_
    refine lv_icmp_le (tgt := 58) hx hb dX12_adds_44 (by decide) (fun c_9 => ?_) (fun c_9 => ?_)
    · rw [if_pos c_9] at h
      exact L58 _ _ _ _ _ _ _ _ h hP hS (lv_sub hl [1, 3, 7, 0] rfl)
    · rw [if_neg c_9] at h
      refine lv_aload_n hx hb dX12_adds_47 rfl (lv_at hl 1 rfl) ?_
      refine va_get (ci := 10) (v := (.ref (b + 3))) (C := RX12) (T := TX12) (N := 44) hx hb hq i_X12 hown hK hP 0 (gb_at b rfl) rfl 10 (by decide) (hq _ w_1134) (fun _ h9 => h9) rfl dX12_adds_48 ?_
      refine lv_iload hx hb dX12_adds_51 (lv_at hl 0 rfl) ?_
      refine lv_iconst (v := 2) hx hb dX12_adds_53 (by decide) ?_
      refine lv_iadd hx hb dX12_adds_54 ?_
      refine lv_iload hx hb dX12_adds_55 (lv_at hl 6 rfl) ?_
      obtain ⟨z_17, h⟩ := gb_ck_s h
      refine gb_iast (x := p5) hx hb hK hP (fun k h => ⟨Nat.le_add_right b k, Nat.add_lt_add_left h b⟩) hS rfl 3 0 rfl rfl z_17 dX12_adds_57 (fun H locs hP hz_ hS => ?_)
      obtain ⟨f_18, ef_18⟩ : ∃ q, q = (gb_u f_8 3 (upd (f_8 3) (Int32.toNatClampNeg (x_4 + 2)) p5)) := ⟨_, rfl⟩
      replace hP : va_P D vwCl (gb_wl b (gb_MW cT b f_18 w)) H := by rw [ef_18]; exact hP
      replace h := gb_lt_s ef_18 h
      exact L58 _ _ _ _ _ _ _ _ h hP hS (lv_sub hl [1, 3, 7, 0] rfl)
  · rw [if_neg c_2] at h
    obtain ⟨e1, e2, -⟩ := gb_eq3 h
    exact W.vret hx hb hr (fun t ht hW => gb_rv ht (by rw [← e1, ← e2]; exact hP) hS) hS.2.2 dX12_adds_10
theorem dX12_deedLine_0 : decode cX12_deedLine 0 = .ok (.aload_n 0, 1) := dc_42 (show ((cX12_deedLine.data.toList.drop 0).take 1).map UInt8.toNat = [42] by decide +kernel)
theorem dX12_deedLine_1 : decode cX12_deedLine 1 = .ok (.getfield 95, 3) := dc_180 (show ((cX12_deedLine.data.toList.drop 1).take 3).map UInt8.toNat = [180, 0, 95] by decide +kernel) rfl
theorem dX12_deedLine_4 : decode cX12_deedLine 4 = .ok (.istore_n 1, 1) := dc_60 (show ((cX12_deedLine.data.toList.drop 4).take 1).map UInt8.toNat = [60] by decide +kernel)
theorem dX12_deedLine_5 : decode cX12_deedLine 5 = .ok (.aload_n 0, 1) := dc_42 (show ((cX12_deedLine.data.toList.drop 5).take 1).map UInt8.toNat = [42] by decide +kernel)
theorem dX12_deedLine_6 : decode cX12_deedLine 6 = .ok (.iconst 4, 1) := dc_7 (show ((cX12_deedLine.data.toList.drop 6).take 1).map UInt8.toNat = [7] by decide +kernel)
theorem dX12_deedLine_7 : decode cX12_deedLine 7 = .ok (.bipush 12, 2) := dc_16 (show ((cX12_deedLine.data.toList.drop 7).take 2).map UInt8.toNat = [16, 12] by decide +kernel) rfl
theorem dX12_deedLine_9 : decode cX12_deedLine 9 = .ok (.invokevirtual 144, 3) := dc_182 (show ((cX12_deedLine.data.toList.drop 9).take 3).map UInt8.toNat = [182, 0, 144] by decide +kernel) rfl
theorem dX12_deedLine_12 : decode cX12_deedLine 12 = .ok (.iconst 4, 1) := dc_7 (show ((cX12_deedLine.data.toList.drop 12).take 1).map UInt8.toNat = [7] by decide +kernel)
theorem dX12_deedLine_13 : decode cX12_deedLine 13 = .ok (.isub, 1) := dc_100 (show ((cX12_deedLine.data.toList.drop 13).take 1).map UInt8.toNat = [100] by decide +kernel)
theorem dX12_deedLine_14 : decode cX12_deedLine 14 = .ok (.istore_n 2, 1) := dc_61 (show ((cX12_deedLine.data.toList.drop 14).take 1).map UInt8.toNat = [61] by decide +kernel)
theorem dX12_deedLine_15 : decode cX12_deedLine 15 = .ok (.aload_n 0, 1) := dc_42 (show ((cX12_deedLine.data.toList.drop 15).take 1).map UInt8.toNat = [42] by decide +kernel)
theorem dX12_deedLine_16 : decode cX12_deedLine 16 = .ok (.getfield 122, 3) := dc_180 (show ((cX12_deedLine.data.toList.drop 16).take 3).map UInt8.toNat = [180, 0, 122] by decide +kernel) rfl
theorem dX12_deedLine_19 : decode cX12_deedLine 19 = .ok (.ifCond .ne 20, 3) := dc_154 (show ((cX12_deedLine.data.toList.drop 19).take 3).map UInt8.toNat = [154, 0, 20] by decide +kernel) rfl
theorem dX12_deedLine_39 : decode cX12_deedLine 39 = .ok (.iconst (-1), 1) := dc_2 (show ((cX12_deedLine.data.toList.drop 39).take 1).map UInt8.toNat = [2] by decide +kernel)
theorem dX12_deedLine_40 : decode cX12_deedLine 40 = .ok (.istore_n 3, 1) := dc_62 (show ((cX12_deedLine.data.toList.drop 40).take 1).map UInt8.toNat = [62] by decide +kernel)
theorem dX12_deedLine_41 : decode cX12_deedLine 41 = .ok (.iconst (-1), 1) := dc_2 (show ((cX12_deedLine.data.toList.drop 41).take 1).map UInt8.toNat = [2] by decide +kernel)
theorem dX12_deedLine_42 : decode cX12_deedLine 42 = .ok (.istore 4, 2) := dc_54 (show ((cX12_deedLine.data.toList.drop 42).take 2).map UInt8.toNat = [54, 4] by decide +kernel) rfl
theorem dX12_deedLine_44 : decode cX12_deedLine 44 = .ok (.iconst (-1), 1) := dc_2 (show ((cX12_deedLine.data.toList.drop 44).take 1).map UInt8.toNat = [2] by decide +kernel)
theorem dX12_deedLine_45 : decode cX12_deedLine 45 = .ok (.istore 5, 2) := dc_54 (show ((cX12_deedLine.data.toList.drop 45).take 2).map UInt8.toNat = [54, 5] by decide +kernel) rfl
theorem dX12_deedLine_47 : decode cX12_deedLine 47 = .ok (.iload_n 2, 1) := dc_28 (show ((cX12_deedLine.data.toList.drop 47).take 1).map UInt8.toNat = [28] by decide +kernel)
theorem dX12_deedLine_48 : decode cX12_deedLine 48 = .ok (.iconst 0, 1) := dc_3 (show ((cX12_deedLine.data.toList.drop 48).take 1).map UInt8.toNat = [3] by decide +kernel)
theorem dX12_deedLine_49 : decode cX12_deedLine 49 = .ok (.iconst 4, 1) := dc_7 (show ((cX12_deedLine.data.toList.drop 49).take 1).map UInt8.toNat = [7] by decide +kernel)
theorem dX12_deedLine_50 : decode cX12_deedLine 50 = .ok (.invokestatic 129, 3) := dc_184 (show ((cX12_deedLine.data.toList.drop 50).take 3).map UInt8.toNat = [184, 0, 129] by decide +kernel) rfl
theorem dX12_deedLine_53 : decode cX12_deedLine 53 = .ok (.ifCond .eq 8, 3) := dc_153 (show ((cX12_deedLine.data.toList.drop 53).take 3).map UInt8.toNat = [153, 0, 8] by decide +kernel) rfl
theorem dX12_deedLine_61 : decode cX12_deedLine 61 = .ok (.iload_n 2, 1) := dc_28 (show ((cX12_deedLine.data.toList.drop 61).take 1).map UInt8.toNat = [28] by decide +kernel)
theorem dX12_deedLine_62 : decode cX12_deedLine 62 = .ok (.iconst 0, 1) := dc_3 (show ((cX12_deedLine.data.toList.drop 62).take 1).map UInt8.toNat = [3] by decide +kernel)
theorem dX12_deedLine_63 : decode cX12_deedLine 63 = .ok (.iconst 2, 1) := dc_5 (show ((cX12_deedLine.data.toList.drop 63).take 1).map UInt8.toNat = [5] by decide +kernel)
theorem dX12_deedLine_64 : decode cX12_deedLine 64 = .ok (.invokestatic 129, 3) := dc_184 (show ((cX12_deedLine.data.toList.drop 64).take 3).map UInt8.toNat = [184, 0, 129] by decide +kernel) rfl
theorem dX12_deedLine_67 : decode cX12_deedLine 67 = .ok (.ifCond .eq 9, 3) := dc_153 (show ((cX12_deedLine.data.toList.drop 67).take 3).map UInt8.toNat = [153, 0, 9] by decide +kernel) rfl
theorem dX12_deedLine_76 : decode cX12_deedLine 76 = .ok (.iload_n 2, 1) := dc_28 (show ((cX12_deedLine.data.toList.drop 76).take 1).map UInt8.toNat = [28] by decide +kernel)
theorem dX12_deedLine_77 : decode cX12_deedLine 77 = .ok (.iconst 3, 1) := dc_6 (show ((cX12_deedLine.data.toList.drop 77).take 1).map UInt8.toNat = [6] by decide +kernel)
theorem dX12_deedLine_78 : decode cX12_deedLine 78 = .ok (.if_icmp .ne 47, 3) := dc_160 (show ((cX12_deedLine.data.toList.drop 78).take 3).map UInt8.toNat = [160, 0, 47] by decide +kernel) rfl
theorem dX12_deedLine_125 : decode cX12_deedLine 125 = .ok (.iload_n 2, 1) := dc_28 (show ((cX12_deedLine.data.toList.drop 125).take 1).map UInt8.toNat = [28] by decide +kernel)
theorem dX12_deedLine_126 : decode cX12_deedLine 126 = .ok (.iconst 4, 1) := dc_7 (show ((cX12_deedLine.data.toList.drop 126).take 1).map UInt8.toNat = [7] by decide +kernel)
theorem dX12_deedLine_127 : decode cX12_deedLine 127 = .ok (.if_icmp .ne 12, 3) := dc_160 (show ((cX12_deedLine.data.toList.drop 127).take 3).map UInt8.toNat = [160, 0, 12] by decide +kernel) rfl
theorem dX12_deedLine_139 : decode cX12_deedLine 139 = .ok (.iload_n 2, 1) := dc_28 (show ((cX12_deedLine.data.toList.drop 139).take 1).map UInt8.toNat = [28] by decide +kernel)
theorem dX12_deedLine_140 : decode cX12_deedLine 140 = .ok (.iconst 5, 1) := dc_8 (show ((cX12_deedLine.data.toList.drop 140).take 1).map UInt8.toNat = [8] by decide +kernel)
theorem dX12_deedLine_141 : decode cX12_deedLine 141 = .ok (.if_icmp .ne 11, 3) := dc_160 (show ((cX12_deedLine.data.toList.drop 141).take 3).map UInt8.toNat = [160, 0, 11] by decide +kernel) rfl
theorem dX12_deedLine_152 : decode cX12_deedLine 152 = .ok (.iload_n 2, 1) := dc_28 (show ((cX12_deedLine.data.toList.drop 152).take 1).map UInt8.toNat = [28] by decide +kernel)
theorem dX12_deedLine_153 : decode cX12_deedLine 153 = .ok (.bipush 8, 2) := dc_16 (show ((cX12_deedLine.data.toList.drop 153).take 2).map UInt8.toNat = [16, 8] by decide +kernel) rfl
theorem dX12_deedLine_155 : decode cX12_deedLine 155 = .ok (.if_icmp .ne 8, 3) := dc_160 (show ((cX12_deedLine.data.toList.drop 155).take 3).map UInt8.toNat = [160, 0, 8] by decide +kernel) rfl
theorem dX12_deedLine_163 : decode cX12_deedLine 163 = .ok (.aload_n 0, 1) := dc_42 (show ((cX12_deedLine.data.toList.drop 163).take 1).map UInt8.toNat = [42] by decide +kernel)
theorem dX12_deedLine_164 : decode cX12_deedLine 164 = .ok (.bipush 24, 2) := dc_16 (show ((cX12_deedLine.data.toList.drop 164).take 2).map UInt8.toNat = [16, 24] by decide +kernel) rfl
theorem dX12_deedLine_166 : decode cX12_deedLine 166 = .ok (.iconst 4, 1) := dc_7 (show ((cX12_deedLine.data.toList.drop 166).take 1).map UInt8.toNat = [7] by decide +kernel)
theorem dX12_deedLine_167 : decode cX12_deedLine 167 = .ok (.iload_n 2, 1) := dc_28 (show ((cX12_deedLine.data.toList.drop 167).take 1).map UInt8.toNat = [28] by decide +kernel)
theorem dX12_deedLine_168 : decode cX12_deedLine 168 = .ok (.iload_n 3, 1) := dc_29 (show ((cX12_deedLine.data.toList.drop 168).take 1).map UInt8.toNat = [29] by decide +kernel)
theorem dX12_deedLine_169 : decode cX12_deedLine 169 = .ok (.iload 4, 2) := dc_21 (show ((cX12_deedLine.data.toList.drop 169).take 2).map UInt8.toNat = [21, 4] by decide +kernel) rfl
theorem dX12_deedLine_171 : decode cX12_deedLine 171 = .ok (.iload 5, 2) := dc_21 (show ((cX12_deedLine.data.toList.drop 171).take 2).map UInt8.toNat = [21, 5] by decide +kernel) rfl
theorem dX12_deedLine_173 : decode cX12_deedLine 173 = .ok (.invokevirtual 164, 3) := dc_182 (show ((cX12_deedLine.data.toList.drop 173).take 3).map UInt8.toNat = [182, 0, 164] by decide +kernel) rfl
theorem w_1349 : (Cond.code ({ cls := "GooseBorderModel", name := "adds", desc := "(IIIIII)V" } : MethodName) prog_14_method_22_code (8 : Nat) (Option.none : Option FieldType)) ∈ gb_wA := gb_t6 149 rfl rfl
theorem w_1346 : (Cond.methodLink "GooseBorderModel" (164 : Nat) ({ cls := "GooseBorderModel", name := "adds", desc := "(IIIIII)V" } : MethodName)) ∈ gb_wA := gb_t6 146 rfl rfl
theorem w_1348 : (Cond.instanceMethod ({ cls := "GooseBorderModel", name := "adds", desc := "(IIIIII)V" } : MethodName)) ∈ gb_wA := gb_t6 148 rfl rfl
theorem s_3_14 : Cond.selects "GooseBorderModel" (⟨"GooseBorderModel", "adds", "(IIIIII)V"⟩ : MethodName) (⟨"GooseBorderModel", "adds", "(IIIIII)V"⟩ : MethodName) ∈ gb_wA := gb_s3 14 rfl rfl
theorem dX12_deedLine_176 : decode cX12_deedLine 176 = .ok (.aload_n 0, 1) := dc_42 (show ((cX12_deedLine.data.toList.drop 176).take 1).map UInt8.toNat = [42] by decide +kernel)
theorem dX12_deedLine_177 : decode cX12_deedLine 177 = .ok (.invokevirtual 154, 3) := dc_182 (show ((cX12_deedLine.data.toList.drop 177).take 3).map UInt8.toNat = [182, 0, 154] by decide +kernel) rfl
theorem dX12_deedLine_180 : decode cX12_deedLine 180 = .ok (.return_, 1) := dc_177 (show ((cX12_deedLine.data.toList.drop 180).take 1).map UInt8.toNat = [177] by decide +kernel)
theorem dX12_deedLine_158 : decode cX12_deedLine 158 = .ok (.aload_n 0, 1) := dc_42 (show ((cX12_deedLine.data.toList.drop 158).take 1).map UInt8.toNat = [42] by decide +kernel)
theorem dX12_deedLine_159 : decode cX12_deedLine 159 = .ok (.invokevirtual 161, 3) := dc_182 (show ((cX12_deedLine.data.toList.drop 159).take 3).map UInt8.toNat = [182, 0, 161] by decide +kernel) rfl
theorem w_1345 : (Cond.code ({ cls := "GooseBorderModel", name := "pathTold", desc := "()I" } : MethodName) prog_14_method_21_code (1 : Nat) (Option.some FieldType.int)) ∈ gb_wA := gb_t6 145 rfl rfl
theorem w_1342 : (Cond.methodLink "GooseBorderModel" (161 : Nat) ({ cls := "GooseBorderModel", name := "pathTold", desc := "()I" } : MethodName)) ∈ gb_wA := gb_t6 142 rfl rfl
theorem w_1344 : (Cond.instanceMethod ({ cls := "GooseBorderModel", name := "pathTold", desc := "()I" } : MethodName)) ∈ gb_wA := gb_t6 144 rfl rfl
theorem s_3_13 : Cond.selects "GooseBorderModel" (⟨"GooseBorderModel", "pathTold", "()I"⟩ : MethodName) (⟨"GooseBorderModel", "pathTold", "()I"⟩ : MethodName) ∈ gb_wA := gb_s3 13 rfl rfl
theorem dX12_deedLine_162 : decode cX12_deedLine 162 = .ok (.istore_n 3, 1) := dc_62 (show ((cX12_deedLine.data.toList.drop 162).take 1).map UInt8.toNat = [62] by decide +kernel)
theorem dX12_deedLine_144 : decode cX12_deedLine 144 = .ok (.aload_n 0, 1) := dc_42 (show ((cX12_deedLine.data.toList.drop 144).take 1).map UInt8.toNat = [42] by decide +kernel)
theorem dX12_deedLine_145 : decode cX12_deedLine 145 = .ok (.iconst 0, 1) := dc_3 (show ((cX12_deedLine.data.toList.drop 145).take 1).map UInt8.toNat = [3] by decide +kernel)
theorem dX12_deedLine_146 : decode cX12_deedLine 146 = .ok (.bipush 10, 2) := dc_16 (show ((cX12_deedLine.data.toList.drop 146).take 2).map UInt8.toNat = [16, 10] by decide +kernel) rfl
theorem dX12_deedLine_148 : decode cX12_deedLine 148 = .ok (.invokevirtual 140, 3) := dc_182 (show ((cX12_deedLine.data.toList.drop 148).take 3).map UInt8.toNat = [182, 0, 140] by decide +kernel) rfl
theorem dX12_deedLine_151 : decode cX12_deedLine 151 = .ok (.istore_n 3, 1) := dc_62 (show ((cX12_deedLine.data.toList.drop 151).take 1).map UInt8.toNat = [62] by decide +kernel)
theorem dX12_deedLine_130 : decode cX12_deedLine 130 = .ok (.aload_n 0, 1) := dc_42 (show ((cX12_deedLine.data.toList.drop 130).take 1).map UInt8.toNat = [42] by decide +kernel)
theorem dX12_deedLine_131 : decode cX12_deedLine 131 = .ok (.iconst 0, 1) := dc_3 (show ((cX12_deedLine.data.toList.drop 131).take 1).map UInt8.toNat = [3] by decide +kernel)
theorem dX12_deedLine_132 : decode cX12_deedLine 132 = .ok (.bipush 60, 2) := dc_16 (show ((cX12_deedLine.data.toList.drop 132).take 2).map UInt8.toNat = [16, 60] by decide +kernel) rfl
theorem dX12_deedLine_134 : decode cX12_deedLine 134 = .ok (.invokevirtual 140, 3) := dc_182 (show ((cX12_deedLine.data.toList.drop 134).take 3).map UInt8.toNat = [182, 0, 140] by decide +kernel) rfl
theorem dX12_deedLine_137 : decode cX12_deedLine 137 = .ok (.istore 4, 2) := dc_54 (show ((cX12_deedLine.data.toList.drop 137).take 2).map UInt8.toNat = [54, 4] by decide +kernel) rfl
theorem dX12_deedLine_81 : decode cX12_deedLine 81 = .ok (.aload_n 0, 1) := dc_42 (show ((cX12_deedLine.data.toList.drop 81).take 1).map UInt8.toNat = [42] by decide +kernel)
theorem dX12_deedLine_82 : decode cX12_deedLine 82 = .ok (.getfield 122, 3) := dc_180 (show ((cX12_deedLine.data.toList.drop 82).take 3).map UInt8.toNat = [180, 0, 122] by decide +kernel) rfl
theorem dX12_deedLine_85 : decode cX12_deedLine 85 = .ok (.ifCond .ne 28, 3) := dc_154 (show ((cX12_deedLine.data.toList.drop 85).take 3).map UInt8.toNat = [154, 0, 28] by decide +kernel) rfl
theorem dX12_deedLine_113 : decode cX12_deedLine 113 = .ok (.aload_n 0, 1) := dc_42 (show ((cX12_deedLine.data.toList.drop 113).take 1).map UInt8.toNat = [42] by decide +kernel)
theorem dX12_deedLine_114 : decode cX12_deedLine 114 = .ok (.invokevirtual 157, 3) := dc_182 (show ((cX12_deedLine.data.toList.drop 114).take 3).map UInt8.toNat = [182, 0, 157] by decide +kernel) rfl
theorem w_1341 : (Cond.code ({ cls := "GooseBorderModel", name := "gooseTold", desc := "()I" } : MethodName) prog_14_method_20_code (1 : Nat) (Option.some FieldType.int)) ∈ gb_wA := gb_t6 141 rfl rfl
theorem w_1338 : (Cond.methodLink "GooseBorderModel" (157 : Nat) ({ cls := "GooseBorderModel", name := "gooseTold", desc := "()I" } : MethodName)) ∈ gb_wA := gb_t6 138 rfl rfl
theorem w_1340 : (Cond.instanceMethod ({ cls := "GooseBorderModel", name := "gooseTold", desc := "()I" } : MethodName)) ∈ gb_wA := gb_t6 140 rfl rfl
theorem s_3_12 : Cond.selects "GooseBorderModel" (⟨"GooseBorderModel", "gooseTold", "()I"⟩ : MethodName) (⟨"GooseBorderModel", "gooseTold", "()I"⟩ : MethodName) ∈ gb_wA := gb_s3 12 rfl rfl
theorem dX12_deedLine_117 : decode cX12_deedLine 117 = .ok (.istore 4, 2) := dc_54 (show ((cX12_deedLine.data.toList.drop 117).take 2).map UInt8.toNat = [54, 4] by decide +kernel) rfl
theorem dX12_deedLine_119 : decode cX12_deedLine 119 = .ok (.aload_n 0, 1) := dc_42 (show ((cX12_deedLine.data.toList.drop 119).take 1).map UInt8.toNat = [42] by decide +kernel)
theorem dX12_deedLine_120 : decode cX12_deedLine 120 = .ok (.invokevirtual 161, 3) := dc_182 (show ((cX12_deedLine.data.toList.drop 120).take 3).map UInt8.toNat = [182, 0, 161] by decide +kernel) rfl
theorem dX12_deedLine_123 : decode cX12_deedLine 123 = .ok (.istore 5, 2) := dc_54 (show ((cX12_deedLine.data.toList.drop 123).take 2).map UInt8.toNat = [54, 5] by decide +kernel) rfl
theorem dX12_deedLine_88 : decode cX12_deedLine 88 = .ok (.aload_n 0, 1) := dc_42 (show ((cX12_deedLine.data.toList.drop 88).take 1).map UInt8.toNat = [42] by decide +kernel)
theorem dX12_deedLine_89 : decode cX12_deedLine 89 = .ok (.getfield 98, 3) := dc_180 (show ((cX12_deedLine.data.toList.drop 89).take 3).map UInt8.toNat = [180, 0, 98] by decide +kernel) rfl
theorem dX12_deedLine_92 : decode cX12_deedLine 92 = .ok (.iconst 1, 1) := dc_4 (show ((cX12_deedLine.data.toList.drop 92).take 1).map UInt8.toNat = [4] by decide +kernel)
theorem dX12_deedLine_93 : decode cX12_deedLine 93 = .ok (.if_icmp .ne 20, 3) := dc_160 (show ((cX12_deedLine.data.toList.drop 93).take 3).map UInt8.toNat = [160, 0, 20] by decide +kernel) rfl
theorem dX12_deedLine_96 : decode cX12_deedLine 96 = .ok (.aload_n 0, 1) := dc_42 (show ((cX12_deedLine.data.toList.drop 96).take 1).map UInt8.toNat = [42] by decide +kernel)
theorem dX12_deedLine_97 : decode cX12_deedLine 97 = .ok (.getfield 119, 3) := dc_180 (show ((cX12_deedLine.data.toList.drop 97).take 3).map UInt8.toNat = [180, 0, 119] by decide +kernel) rfl
theorem dX12_deedLine_100 : decode cX12_deedLine 100 = .ok (.iload_n 3, 1) := dc_29 (show ((cX12_deedLine.data.toList.drop 100).take 1).map UInt8.toNat = [29] by decide +kernel)
theorem dX12_deedLine_101 : decode cX12_deedLine 101 = .ok (.if_icmp .ne 12, 3) := dc_160 (show ((cX12_deedLine.data.toList.drop 101).take 3).map UInt8.toNat = [160, 0, 12] by decide +kernel) rfl
theorem dX12_deedLine_104 : decode cX12_deedLine 104 = .ok (.aload_n 0, 1) := dc_42 (show ((cX12_deedLine.data.toList.drop 104).take 1).map UInt8.toNat = [42] by decide +kernel)
theorem dX12_deedLine_105 : decode cX12_deedLine 105 = .ok (.iconst 2, 1) := dc_5 (show ((cX12_deedLine.data.toList.drop 105).take 1).map UInt8.toNat = [5] by decide +kernel)
theorem dX12_deedLine_106 : decode cX12_deedLine 106 = .ok (.aload_n 0, 1) := dc_42 (show ((cX12_deedLine.data.toList.drop 106).take 1).map UInt8.toNat = [42] by decide +kernel)
theorem dX12_deedLine_107 : decode cX12_deedLine 107 = .ok (.getfield 95, 3) := dc_180 (show ((cX12_deedLine.data.toList.drop 107).take 3).map UInt8.toNat = [180, 0, 95] by decide +kernel) rfl
theorem dX12_deedLine_110 : decode cX12_deedLine 110 = .ok (.invokevirtual 133, 3) := dc_182 (show ((cX12_deedLine.data.toList.drop 110).take 3).map UInt8.toNat = [182, 0, 133] by decide +kernel) rfl
theorem dX12_deedLine_70 : decode cX12_deedLine 70 = .ok (.aload_n 0, 1) := dc_42 (show ((cX12_deedLine.data.toList.drop 70).take 1).map UInt8.toNat = [42] by decide +kernel)
theorem dX12_deedLine_71 : decode cX12_deedLine 71 = .ok (.invokevirtual 161, 3) := dc_182 (show ((cX12_deedLine.data.toList.drop 71).take 3).map UInt8.toNat = [182, 0, 161] by decide +kernel) rfl
theorem dX12_deedLine_74 : decode cX12_deedLine 74 = .ok (.istore 4, 2) := dc_54 (show ((cX12_deedLine.data.toList.drop 74).take 2).map UInt8.toNat = [54, 4] by decide +kernel) rfl
theorem dX12_deedLine_56 : decode cX12_deedLine 56 = .ok (.aload_n 0, 1) := dc_42 (show ((cX12_deedLine.data.toList.drop 56).take 1).map UInt8.toNat = [42] by decide +kernel)
theorem dX12_deedLine_57 : decode cX12_deedLine 57 = .ok (.invokevirtual 157, 3) := dc_182 (show ((cX12_deedLine.data.toList.drop 57).take 3).map UInt8.toNat = [182, 0, 157] by decide +kernel) rfl
theorem dX12_deedLine_60 : decode cX12_deedLine 60 = .ok (.istore_n 3, 1) := dc_62 (show ((cX12_deedLine.data.toList.drop 60).take 1).map UInt8.toNat = [62] by decide +kernel)
theorem dX12_deedLine_22 : decode cX12_deedLine 22 = .ok (.aload_n 0, 1) := dc_42 (show ((cX12_deedLine.data.toList.drop 22).take 1).map UInt8.toNat = [42] by decide +kernel)
theorem dX12_deedLine_23 : decode cX12_deedLine 23 = .ok (.getfield 17, 3) := dc_180 (show ((cX12_deedLine.data.toList.drop 23).take 3).map UInt8.toNat = [180, 0, 17] by decide +kernel) rfl
theorem dX12_deedLine_26 : decode cX12_deedLine 26 = .ok (.iconst 0, 1) := dc_3 (show ((cX12_deedLine.data.toList.drop 26).take 1).map UInt8.toNat = [3] by decide +kernel)
theorem dX12_deedLine_27 : decode cX12_deedLine 27 = .ok (.iaload, 1) := dc_46 (show ((cX12_deedLine.data.toList.drop 27).take 1).map UInt8.toNat = [46] by decide +kernel)
theorem dX12_deedLine_28 : decode cX12_deedLine 28 = .ok (.bipush 24, 2) := dc_16 (show ((cX12_deedLine.data.toList.drop 28).take 2).map UInt8.toNat = [16, 24] by decide +kernel) rfl
theorem dX12_deedLine_30 : decode cX12_deedLine 30 = .ok (.if_icmp .lt 9, 3) := dc_161 (show ((cX12_deedLine.data.toList.drop 30).take 3).map UInt8.toNat = [161, 0, 9] by decide +kernel) rfl
theorem dX12_deedLine_33 : decode cX12_deedLine 33 = .ok (.aload_n 0, 1) := dc_42 (show ((cX12_deedLine.data.toList.drop 33).take 1).map UInt8.toNat = [42] by decide +kernel)
theorem dX12_deedLine_34 : decode cX12_deedLine 34 = .ok (.iconst 3, 1) := dc_6 (show ((cX12_deedLine.data.toList.drop 34).take 1).map UInt8.toNat = [6] by decide +kernel)
theorem dX12_deedLine_35 : decode cX12_deedLine 35 = .ok (.iload_n 1, 1) := dc_27 (show ((cX12_deedLine.data.toList.drop 35).take 1).map UInt8.toNat = [27] by decide +kernel)
theorem dX12_deedLine_36 : decode cX12_deedLine 36 = .ok (.invokevirtual 133, 3) := dc_182 (show ((cX12_deedLine.data.toList.drop 36).take 3).map UInt8.toNat = [182, 0, 133] by decide +kernel) rfl
def ms_deedLine_152 (n : Nat) (f : gb_F) (w : Int64) (v2 : Int32) (v3 : Int32) (v4 : Int32) (v5 : Int32) : gb_MR Unit := (if v2 = 8 then gb_bd (ms_pathTold n f w) (fun f_35 wl_36 r_37 => gb_bd (ms_adds n f_35 wl_36 24 4 v2 r_37 v4 v5) (fun f_40 wl_41 _ => gb_bd (ms_endsLine n f_40 wl_41) (fun f_45 wl_46 _ => some (f_45, wl_46, ())))) else gb_bd (ms_adds n f w 24 4 v2 v3 v4 v5) (fun f_25 wl_26 _ => gb_bd (ms_endsLine n f_25 wl_26) (fun f_30 wl_31 _ => some (f_30, wl_31, ()))))
def ms_deedLine_139 (n : Nat) (f : gb_F) (w : Int64) (v2 : Int32) (v3 : Int32) (v4 : Int32) (v5 : Int32) : gb_MR Unit := (if v2 = 5 then gb_bd (ms_numbered n f w 0 10) (fun f_50 wl_51 r_52 => ms_deedLine_152 n f_50 wl_51 v2 r_52 v4 v5) else ms_deedLine_152 n f w v2 v3 v4 v5)
def ms_deedLine_125 (n : Nat) (f : gb_F) (w : Int64) (v2 : Int32) (v3 : Int32) (v4 : Int32) (v5 : Int32) : gb_MR Unit := (if v2 = 4 then gb_bd (ms_numbered n f w 0 60) (fun f_55 wl_56 r_57 => ms_deedLine_139 n f_55 wl_56 v2 v3 r_57 v5) else ms_deedLine_139 n f w v2 v3 v4 v5)
def ms_deedLine_113 (n : Nat) (f : gb_F) (w : Int64) (v2 : Int32) (v3 : Int32) : gb_MR Unit := gb_bd (ms_gooseTold n f w) (fun f_61 wl_62 r_63 => gb_bd (ms_pathTold n f_61 wl_62) (fun f_66 wl_67 r_68 => ms_deedLine_125 n f_66 wl_67 v2 v3 r_63 r_68))
def ms_deedLine_76 (n : Nat) (f : gb_F) (w : Int64) (v2 : Int32) (v3 : Int32) (v4 : Int32) (v5 : Int32) : gb_MR Unit := (if v2 = 3 then (if (f 0 8) = 0 then (if (f 0 5) = 1 then (if (f 0 6) = v3 then gb_bd (ms_also n f w 2 (f 0 4)) (fun f_73 wl_74 _ => ms_deedLine_113 n f_73 wl_74 v2 v3) else ms_deedLine_113 n f w v2 v3) else ms_deedLine_113 n f w v2 v3) else ms_deedLine_113 n f w v2 v3) else ms_deedLine_125 n f w v2 v3 v4 v5)
def ms_deedLine_61 (n : Nat) (f : gb_F) (w : Int64) (v2 : Int32) (v3 : Int32) (v4 : Int32) (v5 : Int32) : gb_MR Unit := gb_bd (ms_isIn n f w v2 0 2) (fun f_15 wl_16 r_17 => (if r_17 = 0 then ms_deedLine_76 n f_15 wl_16 v2 v3 v4 v5 else gb_bd (ms_pathTold n f_15 wl_16) (fun f_78 wl_79 r_80 => ms_deedLine_76 n f_78 wl_79 v2 v3 r_80 v5)))
def ms_deedLine_39 (n : Nat) (f : gb_F) (w : Int64) (v2 : Int32) : gb_MR Unit := gb_bd (ms_isIn n f w v2 0 4) (fun f_9 wl_10 r_11 => (if r_11 = 0 then ms_deedLine_61 n f_9 wl_10 v2 (-1) (-1) (-1) else gb_bd (ms_gooseTold n f_9 wl_10) (fun f_83 wl_84 r_85 => ms_deedLine_61 n f_83 wl_84 v2 r_85 (-1) (-1))))
def ms_deedLine (n : Nat) (f : gb_F) (w : Int64) : gb_MR Unit := gb_lt (f 0 4) (fun x_1 => gb_bd (ms_takes n f w 4 12) (fun f_2 wl_3 r_4 => gb_lt (r_4 - 4) (fun x_7 => (if (f_2 0 8) = 0 then gb_lt (f_2 3 (Int32.toNatClampNeg 0)) (fun x_88 => (if x_88 < 24 then ms_deedLine_39 n f_2 wl_3 x_7 else gb_bd (ms_also n f_2 wl_3 3 x_1) (fun f_90 wl_91 _ => ms_deedLine_39 n f_90 wl_91 x_7))) else ms_deedLine_39 n f_2 wl_3 x_7))))
set_option maxHeartbeats 8000000 in
set_option maxRecDepth 100000 in
theorem mc_deedLine (l : Launch) (D : va_G) (cT : Nat → ClassId) (tt : Nat → Nat) (b1 b : Nat) (hb1 : b1 ≤ b) (n : Nat) (f : gb_F) (w : Int64) (fE : gb_F) (wE : Int64) (rE : Unit) (h : ms_deedLine n f w = some (fE, wE, rE)) : Met l yX12_deedLine (.code yX12_deedLine cX12_deedLine 6 none :: gb_wA) ({ frames := 6, cells := 0, slots := 0, locals := 137 }) (gb_Pc D cT tt b1 [.ref (b + 0)] (fun h => va_P D vwCl (gb_wl b (gb_MW cT b f w)) h)) (gb_Qv (fun h => va_P D vwCl (gb_wl b (gb_MW cT b fE wE)) h) (gb_fr b 22)) 0 0 (gb_fr b 22) := by
  refine Met.ofW (cc := cX12_deedLine) (maxL := 6) (ret := none) (by decide) rfl ?_
  intro p e s m args below meth c s₁ B hml hv
  obtain ⟨rfl, hSt, hP⟩ := hv
  have hx := B.exec
  have hb := B.bytes
  have hr := B.returns
  have hts := atoms_spec (ws := .code yX12_deedLine cX12_deedLine 6 none :: gb_wA) B.pre
  have hq : ∀ w ∈ gb_wA, w.before _ s = true := fun w h => hts w (List.mem_cons_of_mem _ h)
  have hown : s.vm.findClass RX12 = some m.cls := findClass_of_methodNamed B.named
  have hlocks := B.notSynchronized
  clear B hts
  have hK := hSt.1
  have hS : va_S (gb_fr b 22) s.heap s.heap [] := va_S.rf
  have hl := lv_entry ([.ref (b + 0)]) (n := 6) (Nat.le_of_ble_eq_true rfl)
  rw [lg_entry_eq]
  generalize (lg_sl ([.ref (b + 0)]) ++ List.replicate (6 - (lg_sl ([.ref (b + 0)])).length) Slot.unset).toArray = ls at hl ⊢
  replace hl : lv_has ls 6 [(0, .ref (b + 0))] := hl
  have L152 : ∀ (f : gb_F) (w : Int64) (v2 : Int32) (v3 : Int32) (v4 : Int32) (v5 : Int32) (H : Heap) (locs : List Loc) (ls : Array Slot), ms_deedLine_152 n f w v2 v3 v4 v5 = some (fE, wE, rE) → va_P D vwCl (gb_wl b (gb_MW cT b f w)) H → va_S (gb_fr b 22) s.heap H locs → lv_has ls 6 [(0, .ref (b + 0)), (2, .int v2), (3, .int v3), (4, .int v4), (5, .int v5)] → W p l e (headSpec (.code yX12_deedLine cX12_deedLine 6 none :: gb_wA) ({ frames := 6, cells := 0, slots := 0, locals := 137 })).room s m ([.ref (b + 0)]).toArray below meth c H locs 0 0 (MQ below (gb_Qv (fun h => va_P D vwCl (gb_wl b (gb_MW cT b fE wE)) h) (gb_fr b 22)) ([.ref (b + 0)]).toArray s 0 0 (gb_fr b 22)) (F0 m 152 ls []) := by
    clear h hP hS hl ls f w
    intro f w v2 v3 v4 v5 H locs ls h hP hS hl
    unfold ms_deedLine_152 at h
    refine lv_iload_n hx hb dX12_deedLine_152 rfl (lv_at hl 1 rfl) ?_
    refine lv_bipush (v := 8) hx hb dX12_deedLine_153 (by decide) ?_
    refine lv_icmp_ne (tgt := 163) hx hb dX12_deedLine_155 (by decide) (fun c_24 => ?_) (fun c_24 => ?_)
    · rw [if_neg c_24] at h
      refine lv_aload_n hx hb dX12_deedLine_163 rfl (lv_at hl 0 rfl) ?_
      refine lv_bipush (v := 24) hx hb dX12_deedLine_164 (by decide) ?_
      refine lv_iconst (v := 4) hx hb dX12_deedLine_166 (by decide) ?_
      refine lv_iload_n hx hb dX12_deedLine_167 rfl (lv_at hl 1 rfl) ?_
      refine lv_iload_n hx hb dX12_deedLine_168 rfl (lv_at hl 2 rfl) ?_
      refine lv_iload hx hb dX12_deedLine_169 (lv_at hl 3 rfl) ?_
      refine lv_iload hx hb dX12_deedLine_171 (lv_at hl 4 rfl) ?_
      obtain ⟨f_25, wl_26, r_27, z_28, h⟩ := gb_bd_s h
      refine gb_callv (va_runV (C := RX12) (As := [.int 24, .int 4, .int v2, .int v3, .int v4, .int v5]) (rest := []) ⟨hx, hb, hml, hown, hq⟩ (mc_adds l D cT tt b1 b hb1 n f w 24 4 v2 v3 v4 v5 f_25 wl_26 r_27 z_28) (cwV 6 hq (gb_gV w_1346 w_1348 s_3_14 w_14 w_1349) rfl rfl rfl (by decide +kernel) ⟨Nat.le_of_ble_eq_true rfl, Nat.le_of_ble_eq_true rfl⟩) (gb_preV (r := (RX12, TX12, 44)) (ci := 10) (q0 := 0) hSt hP rfl (gb_at b rfl) hS (fun q h => Nat.le_trans hb1 h.1) hP) rfl rfl hl.1 rfl (lv_room (Nat.le_of_ble_eq_true rfl)) dX12_deedLine_173 ⟨Nat.le_of_ble_eq_true rfl, Nat.le_of_ble_eq_true rfl⟩) hS (fun _ h => h) (fun _ h => h) (fun H locs hY hk hS => ?_)
      have hP := hY
      refine lv_aload_n hx hb dX12_deedLine_176 rfl (lv_at hl 0 rfl) ?_
      obtain ⟨f_30, wl_31, r_32, z_33, h⟩ := gb_bd_s h
      refine gb_callv (va_runV (C := RX12) (As := []) (rest := []) ⟨hx, hb, hml, hown, hq⟩ (mc_endsLine l D cT tt b1 b hb1 n f_25 wl_26 f_30 wl_31 r_32 z_33) (cwV 0 hq (gb_gV w_1330 w_1332 s_3_10 w_14 w_1333) rfl rfl rfl (by decide +kernel) ⟨Nat.le_of_ble_eq_true rfl, Nat.le_of_ble_eq_true rfl⟩) (gb_preV (r := (RX12, TX12, 44)) (ci := 10) (q0 := 0) hSt hP rfl (gb_at b rfl) hS (fun q h => Nat.le_trans hb1 h.1) hP) rfl rfl hl.1 rfl (lv_room (Nat.le_of_ble_eq_true rfl)) dX12_deedLine_177 ⟨Nat.le_of_ble_eq_true rfl, Nat.le_of_ble_eq_true rfl⟩) hS (fun _ h => h) (fun _ h => h) (fun H locs hY hk hS => ?_)
      have hP := hY
      obtain ⟨e1, e2, -⟩ := gb_eq3 h
      exact W.vret hx hb hr (fun t ht hW => gb_rv ht (by rw [← e1, ← e2]; exact hP) hS) hS.2.2 dX12_deedLine_180
    · rw [if_pos c_24] at h
      refine lv_aload_n hx hb dX12_deedLine_158 rfl (lv_at hl 0 rfl) ?_
      obtain ⟨f_35, wl_36, r_37, z_38, h⟩ := gb_bd_s h
      refine gb_calli (va_runV (C := RX12) (As := []) (rest := []) ⟨hx, hb, hml, hown, hq⟩ (mc_pathTold l D cT tt b1 b hb1 n f w f_35 wl_36 r_37 z_38) (cwV 0 hq (gb_gV w_1342 w_1344 s_3_13 w_14 w_1345) rfl rfl rfl (by decide +kernel) ⟨Nat.le_of_ble_eq_true rfl, Nat.le_of_ble_eq_true rfl⟩) (gb_preV (r := (RX12, TX12, 44)) (ci := 10) (q0 := 0) hSt hP rfl (gb_at b rfl) hS (fun q h => Nat.le_trans hb1 h.1) hP) rfl rfl hl.1 rfl (lv_room (Nat.le_of_ble_eq_true rfl)) dX12_deedLine_159 ⟨Nat.le_of_ble_eq_true rfl, Nat.le_of_ble_eq_true rfl⟩) hS (fun _ h => h) (fun _ h => h) (fun q_39 H locs hY hk hS => ?_)
      obtain ⟨hq_39, hP⟩ := hY
      replace hq_39 := hq_39.symm
      subst hq_39
      refine lv_istore_n (lv' := [(3, .int r_37), (0, .ref (b + 0)), (2, .int v2), (4, .int v4), (5, .int v5)]) hx hb dX12_deedLine_162 rfl hl (by decide) rfl (fun ls hl => ?_)
      refine lv_aload_n hx hb dX12_deedLine_163 rfl (lv_at hl 1 rfl) ?_
      refine lv_bipush (v := 24) hx hb dX12_deedLine_164 (by decide) ?_
      refine lv_iconst (v := 4) hx hb dX12_deedLine_166 (by decide) ?_
      refine lv_iload_n hx hb dX12_deedLine_167 rfl (lv_at hl 2 rfl) ?_
      refine lv_iload_n hx hb dX12_deedLine_168 rfl (lv_at hl 0 rfl) ?_
      refine lv_iload hx hb dX12_deedLine_169 (lv_at hl 3 rfl) ?_
      refine lv_iload hx hb dX12_deedLine_171 (lv_at hl 4 rfl) ?_
      obtain ⟨f_40, wl_41, r_42, z_43, h⟩ := gb_bd_s h
      refine gb_callv (va_runV (C := RX12) (As := [.int 24, .int 4, .int v2, .int r_37, .int v4, .int v5]) (rest := []) ⟨hx, hb, hml, hown, hq⟩ (mc_adds l D cT tt b1 b hb1 n f_35 wl_36 24 4 v2 r_37 v4 v5 f_40 wl_41 r_42 z_43) (cwV 6 hq (gb_gV w_1346 w_1348 s_3_14 w_14 w_1349) rfl rfl rfl (by decide +kernel) ⟨Nat.le_of_ble_eq_true rfl, Nat.le_of_ble_eq_true rfl⟩) (gb_preV (r := (RX12, TX12, 44)) (ci := 10) (q0 := 0) hSt hP rfl (gb_at b rfl) hS (fun q h => Nat.le_trans hb1 h.1) hP) rfl rfl hl.1 rfl (lv_room (Nat.le_of_ble_eq_true rfl)) dX12_deedLine_173 ⟨Nat.le_of_ble_eq_true rfl, Nat.le_of_ble_eq_true rfl⟩) hS (fun _ h => h) (fun _ h => h) (fun H locs hY hk hS => ?_)
      have hP := hY
      refine lv_aload_n hx hb dX12_deedLine_176 rfl (lv_at hl 1 rfl) ?_
      obtain ⟨f_45, wl_46, r_47, z_48, h⟩ := gb_bd_s h
      refine gb_callv (va_runV (C := RX12) (As := []) (rest := []) ⟨hx, hb, hml, hown, hq⟩ (mc_endsLine l D cT tt b1 b hb1 n f_40 wl_41 f_45 wl_46 r_47 z_48) (cwV 0 hq (gb_gV w_1330 w_1332 s_3_10 w_14 w_1333) rfl rfl rfl (by decide +kernel) ⟨Nat.le_of_ble_eq_true rfl, Nat.le_of_ble_eq_true rfl⟩) (gb_preV (r := (RX12, TX12, 44)) (ci := 10) (q0 := 0) hSt hP rfl (gb_at b rfl) hS (fun q h => Nat.le_trans hb1 h.1) hP) rfl rfl hl.1 rfl (lv_room (Nat.le_of_ble_eq_true rfl)) dX12_deedLine_177 ⟨Nat.le_of_ble_eq_true rfl, Nat.le_of_ble_eq_true rfl⟩) hS (fun _ h => h) (fun _ h => h) (fun H locs hY hk hS => ?_)
      have hP := hY
      obtain ⟨e1, e2, -⟩ := gb_eq3 h
      exact W.vret hx hb hr (fun t ht hW => gb_rv ht (by rw [← e1, ← e2]; exact hP) hS) hS.2.2 dX12_deedLine_180
  have L139 : ∀ (f : gb_F) (w : Int64) (v2 : Int32) (v3 : Int32) (v4 : Int32) (v5 : Int32) (H : Heap) (locs : List Loc) (ls : Array Slot), ms_deedLine_139 n f w v2 v3 v4 v5 = some (fE, wE, rE) → va_P D vwCl (gb_wl b (gb_MW cT b f w)) H → va_S (gb_fr b 22) s.heap H locs → lv_has ls 6 [(0, .ref (b + 0)), (2, .int v2), (3, .int v3), (4, .int v4), (5, .int v5)] → W p l e (headSpec (.code yX12_deedLine cX12_deedLine 6 none :: gb_wA) ({ frames := 6, cells := 0, slots := 0, locals := 137 })).room s m ([.ref (b + 0)]).toArray below meth c H locs 0 0 (MQ below (gb_Qv (fun h => va_P D vwCl (gb_wl b (gb_MW cT b fE wE)) h) (gb_fr b 22)) ([.ref (b + 0)]).toArray s 0 0 (gb_fr b 22)) (F0 m 139 ls []) := by
    clear h hP hS hl ls f w
    intro f w v2 v3 v4 v5 H locs ls h hP hS hl
    unfold ms_deedLine_139 at h
    refine lv_iload_n hx hb dX12_deedLine_139 rfl (lv_at hl 1 rfl) ?_
    refine lv_iconst (v := 5) hx hb dX12_deedLine_140 (by decide) ?_
    refine lv_icmp_ne (tgt := 152) hx hb dX12_deedLine_141 (by decide) (fun c_23 => ?_) (fun c_23 => ?_)
    · rw [if_neg c_23] at h
      exact L152 _ _ _ _ _ _ _ _ _ h hP hS (lv_sub hl [0, 1, 2, 3, 4] rfl)
    · rw [if_pos c_23] at h
      refine lv_aload_n hx hb dX12_deedLine_144 rfl (lv_at hl 0 rfl) ?_
      refine lv_iconst (v := 0) hx hb dX12_deedLine_145 (by decide) ?_
      refine lv_bipush (v := 10) hx hb dX12_deedLine_146 (by decide) ?_
      obtain ⟨f_50, wl_51, r_52, z_53, h⟩ := gb_bd_s h
      refine gb_calli (va_runV (C := RX12) (As := [.int 0, .int 10]) (rest := []) ⟨hx, hb, hml, hown, hq⟩ (mc_numbered l D cT tt b1 b hb1 n f w 0 10 f_50 wl_51 r_52 z_53) (cwV 2 hq (gb_gV w_1322 w_1324 s_3_8 w_14 w_1325) rfl rfl rfl (by decide +kernel) ⟨Nat.le_of_ble_eq_true rfl, Nat.le_of_ble_eq_true rfl⟩) (gb_preV (r := (RX12, TX12, 44)) (ci := 10) (q0 := 0) hSt hP rfl (gb_at b rfl) hS (fun q h => Nat.le_trans hb1 h.1) hP) rfl rfl hl.1 rfl (lv_room (Nat.le_of_ble_eq_true rfl)) dX12_deedLine_148 ⟨Nat.le_of_ble_eq_true rfl, Nat.le_of_ble_eq_true rfl⟩) hS (fun _ h => h) (fun _ h => h) (fun q_54 H locs hY hk hS => ?_)
      obtain ⟨hq_54, hP⟩ := hY
      replace hq_54 := hq_54.symm
      subst hq_54
      refine lv_istore_n (lv' := [(3, .int r_52), (0, .ref (b + 0)), (2, .int v2), (4, .int v4), (5, .int v5)]) hx hb dX12_deedLine_151 rfl hl (by decide) rfl (fun ls hl => ?_)
      exact L152 _ _ _ _ _ _ _ _ _ h hP hS (lv_sub hl [1, 2, 0, 3, 4] rfl)
  have L125 : ∀ (f : gb_F) (w : Int64) (v2 : Int32) (v3 : Int32) (v4 : Int32) (v5 : Int32) (H : Heap) (locs : List Loc) (ls : Array Slot), ms_deedLine_125 n f w v2 v3 v4 v5 = some (fE, wE, rE) → va_P D vwCl (gb_wl b (gb_MW cT b f w)) H → va_S (gb_fr b 22) s.heap H locs → lv_has ls 6 [(0, .ref (b + 0)), (2, .int v2), (3, .int v3), (4, .int v4), (5, .int v5)] → W p l e (headSpec (.code yX12_deedLine cX12_deedLine 6 none :: gb_wA) ({ frames := 6, cells := 0, slots := 0, locals := 137 })).room s m ([.ref (b + 0)]).toArray below meth c H locs 0 0 (MQ below (gb_Qv (fun h => va_P D vwCl (gb_wl b (gb_MW cT b fE wE)) h) (gb_fr b 22)) ([.ref (b + 0)]).toArray s 0 0 (gb_fr b 22)) (F0 m 125 ls []) := by
    clear h hP hS hl ls f w
    intro f w v2 v3 v4 v5 H locs ls h hP hS hl
    unfold ms_deedLine_125 at h
    refine lv_iload_n hx hb dX12_deedLine_125 rfl (lv_at hl 1 rfl) ?_
    refine lv_iconst (v := 4) hx hb dX12_deedLine_126 (by decide) ?_
    refine lv_icmp_ne (tgt := 139) hx hb dX12_deedLine_127 (by decide) (fun c_22 => ?_) (fun c_22 => ?_)
    · rw [if_neg c_22] at h
      exact L139 _ _ _ _ _ _ _ _ _ h hP hS (lv_sub hl [0, 1, 2, 3, 4] rfl)
    · rw [if_pos c_22] at h
      refine lv_aload_n hx hb dX12_deedLine_130 rfl (lv_at hl 0 rfl) ?_
      refine lv_iconst (v := 0) hx hb dX12_deedLine_131 (by decide) ?_
      refine lv_bipush (v := 60) hx hb dX12_deedLine_132 (by decide) ?_
      obtain ⟨f_55, wl_56, r_57, z_58, h⟩ := gb_bd_s h
      refine gb_calli (va_runV (C := RX12) (As := [.int 0, .int 60]) (rest := []) ⟨hx, hb, hml, hown, hq⟩ (mc_numbered l D cT tt b1 b hb1 n f w 0 60 f_55 wl_56 r_57 z_58) (cwV 2 hq (gb_gV w_1322 w_1324 s_3_8 w_14 w_1325) rfl rfl rfl (by decide +kernel) ⟨Nat.le_of_ble_eq_true rfl, Nat.le_of_ble_eq_true rfl⟩) (gb_preV (r := (RX12, TX12, 44)) (ci := 10) (q0 := 0) hSt hP rfl (gb_at b rfl) hS (fun q h => Nat.le_trans hb1 h.1) hP) rfl rfl hl.1 rfl (lv_room (Nat.le_of_ble_eq_true rfl)) dX12_deedLine_134 ⟨Nat.le_of_ble_eq_true rfl, Nat.le_of_ble_eq_true rfl⟩) hS (fun _ h => h) (fun _ h => h) (fun q_59 H locs hY hk hS => ?_)
      obtain ⟨hq_59, hP⟩ := hY
      replace hq_59 := hq_59.symm
      subst hq_59
      refine lv_istore (lv' := [(4, .int r_57), (0, .ref (b + 0)), (2, .int v2), (3, .int v3), (5, .int v5)]) hx hb dX12_deedLine_137 hl (by decide) rfl (fun ls hl => ?_)
      exact L139 _ _ _ _ _ _ _ _ _ h hP hS (lv_sub hl [1, 2, 3, 0, 4] rfl)
  have L113 : ∀ (f : gb_F) (w : Int64) (v2 : Int32) (v3 : Int32) (H : Heap) (locs : List Loc) (ls : Array Slot), ms_deedLine_113 n f w v2 v3 = some (fE, wE, rE) → va_P D vwCl (gb_wl b (gb_MW cT b f w)) H → va_S (gb_fr b 22) s.heap H locs → lv_has ls 6 [(0, .ref (b + 0)), (2, .int v2), (3, .int v3)] → W p l e (headSpec (.code yX12_deedLine cX12_deedLine 6 none :: gb_wA) ({ frames := 6, cells := 0, slots := 0, locals := 137 })).room s m ([.ref (b + 0)]).toArray below meth c H locs 0 0 (MQ below (gb_Qv (fun h => va_P D vwCl (gb_wl b (gb_MW cT b fE wE)) h) (gb_fr b 22)) ([.ref (b + 0)]).toArray s 0 0 (gb_fr b 22)) (F0 m 113 ls []) := by
    clear h hP hS hl ls f w
    intro f w v2 v3 H locs ls h hP hS hl
    unfold ms_deedLine_113 at h
    refine lv_aload_n hx hb dX12_deedLine_113 rfl (lv_at hl 0 rfl) ?_
    obtain ⟨f_61, wl_62, r_63, z_64, h⟩ := gb_bd_s h
    refine gb_calli (va_runV (C := RX12) (As := []) (rest := []) ⟨hx, hb, hml, hown, hq⟩ (mc_gooseTold l D cT tt b1 b hb1 n f w f_61 wl_62 r_63 z_64) (cwV 0 hq (gb_gV w_1338 w_1340 s_3_12 w_14 w_1341) rfl rfl rfl (by decide +kernel) ⟨Nat.le_of_ble_eq_true rfl, Nat.le_of_ble_eq_true rfl⟩) (gb_preV (r := (RX12, TX12, 44)) (ci := 10) (q0 := 0) hSt hP rfl (gb_at b rfl) hS (fun q h => Nat.le_trans hb1 h.1) hP) rfl rfl hl.1 rfl (lv_room (Nat.le_of_ble_eq_true rfl)) dX12_deedLine_114 ⟨Nat.le_of_ble_eq_true rfl, Nat.le_of_ble_eq_true rfl⟩) hS (fun _ h => h) (fun _ h => h) (fun q_65 H locs hY hk hS => ?_)
    obtain ⟨hq_65, hP⟩ := hY
    replace hq_65 := hq_65.symm
    subst hq_65
    refine lv_istore (lv' := [(4, .int r_63), (0, .ref (b + 0)), (2, .int v2), (3, .int v3)]) hx hb dX12_deedLine_117 hl (by decide) rfl (fun ls hl => ?_)
    refine lv_aload_n hx hb dX12_deedLine_119 rfl (lv_at hl 1 rfl) ?_
    obtain ⟨f_66, wl_67, r_68, z_69, h⟩ := gb_bd_s h
    refine gb_calli (va_runV (C := RX12) (As := []) (rest := []) ⟨hx, hb, hml, hown, hq⟩ (mc_pathTold l D cT tt b1 b hb1 n f_61 wl_62 f_66 wl_67 r_68 z_69) (cwV 0 hq (gb_gV w_1342 w_1344 s_3_13 w_14 w_1345) rfl rfl rfl (by decide +kernel) ⟨Nat.le_of_ble_eq_true rfl, Nat.le_of_ble_eq_true rfl⟩) (gb_preV (r := (RX12, TX12, 44)) (ci := 10) (q0 := 0) hSt hP rfl (gb_at b rfl) hS (fun q h => Nat.le_trans hb1 h.1) hP) rfl rfl hl.1 rfl (lv_room (Nat.le_of_ble_eq_true rfl)) dX12_deedLine_120 ⟨Nat.le_of_ble_eq_true rfl, Nat.le_of_ble_eq_true rfl⟩) hS (fun _ h => h) (fun _ h => h) (fun q_70 H locs hY hk hS => ?_)
    obtain ⟨hq_70, hP⟩ := hY
    replace hq_70 := hq_70.symm
    subst hq_70
    refine lv_istore (lv' := [(5, .int r_68), (4, .int r_63), (0, .ref (b + 0)), (2, .int v2), (3, .int v3)]) hx hb dX12_deedLine_123 hl (by decide) rfl (fun ls hl => ?_)
    exact L125 _ _ _ _ _ _ _ _ _ h hP hS (lv_sub hl [2, 3, 4, 1, 0] rfl)
  have L76 : ∀ (f : gb_F) (w : Int64) (v2 : Int32) (v3 : Int32) (v4 : Int32) (v5 : Int32) (H : Heap) (locs : List Loc) (ls : Array Slot), ms_deedLine_76 n f w v2 v3 v4 v5 = some (fE, wE, rE) → va_P D vwCl (gb_wl b (gb_MW cT b f w)) H → va_S (gb_fr b 22) s.heap H locs → lv_has ls 6 [(0, .ref (b + 0)), (2, .int v2), (3, .int v3), (4, .int v4), (5, .int v5)] → W p l e (headSpec (.code yX12_deedLine cX12_deedLine 6 none :: gb_wA) ({ frames := 6, cells := 0, slots := 0, locals := 137 })).room s m ([.ref (b + 0)]).toArray below meth c H locs 0 0 (MQ below (gb_Qv (fun h => va_P D vwCl (gb_wl b (gb_MW cT b fE wE)) h) (gb_fr b 22)) ([.ref (b + 0)]).toArray s 0 0 (gb_fr b 22)) (F0 m 76 ls []) := by
    clear h hP hS hl ls f w
    intro f w v2 v3 v4 v5 H locs ls h hP hS hl
    unfold ms_deedLine_76 at h
    refine lv_iload_n hx hb dX12_deedLine_76 rfl (lv_at hl 1 rfl) ?_
    refine lv_iconst (v := 3) hx hb dX12_deedLine_77 (by decide) ?_
    refine lv_icmp_ne (tgt := 125) hx hb dX12_deedLine_78 (by decide) (fun c_21 => ?_) (fun c_21 => ?_)
    · rw [if_neg c_21] at h
      exact L125 _ _ _ _ _ _ _ _ _ h hP hS (lv_sub hl [0, 1, 2, 3, 4] rfl)
    · rw [if_pos c_21] at h
      refine lv_aload_n hx hb dX12_deedLine_81 rfl (lv_at hl 0 rfl) ?_
      refine va_get (ci := 10) (v := (.int (f 0 8))) (C := RX12) (T := TX12) (N := 44) hx hb hq i_X12 hown hK hP 0 (gb_at b rfl) rfl 8 (by decide) (hq _ w_1132) (fun _ h9 => h9) rfl dX12_deedLine_82 ?_
      refine lv_if_ne (tgt := 113) hx hb dX12_deedLine_85 (by decide) (fun c_60 => ?_) (fun c_60 => ?_)
      · rw [if_neg c_60] at h
        exact L113 _ _ _ _ _ _ _ h hP hS (lv_sub hl [0, 1, 2] rfl)
      · rw [if_pos c_60] at h
        refine lv_aload_n hx hb dX12_deedLine_88 rfl (lv_at hl 0 rfl) ?_
        refine va_get (ci := 10) (v := (.int (f 0 5))) (C := RX12) (T := TX12) (N := 44) hx hb hq i_X12 hown hK hP 0 (gb_at b rfl) rfl 5 (by decide) (hq _ w_1129) (fun _ h9 => h9) rfl dX12_deedLine_89 ?_
        refine lv_iconst (v := 1) hx hb dX12_deedLine_92 (by decide) ?_
        refine lv_icmp_ne (tgt := 113) hx hb dX12_deedLine_93 (by decide) (fun c_71 => ?_) (fun c_71 => ?_)
        · rw [if_neg c_71] at h
          exact L113 _ _ _ _ _ _ _ h hP hS (lv_sub hl [0, 1, 2] rfl)
        · rw [if_pos c_71] at h
          refine lv_aload_n hx hb dX12_deedLine_96 rfl (lv_at hl 0 rfl) ?_
          refine va_get (ci := 10) (v := (.int (f 0 6))) (C := RX12) (T := TX12) (N := 44) hx hb hq i_X12 hown hK hP 0 (gb_at b rfl) rfl 6 (by decide) (hq _ w_1130) (fun _ h9 => h9) rfl dX12_deedLine_97 ?_
          refine lv_iload_n hx hb dX12_deedLine_100 rfl (lv_at hl 2 rfl) ?_
          refine lv_icmp_ne (tgt := 113) hx hb dX12_deedLine_101 (by decide) (fun c_72 => ?_) (fun c_72 => ?_)
          · rw [if_neg c_72] at h
            exact L113 _ _ _ _ _ _ _ h hP hS (lv_sub hl [0, 1, 2] rfl)
          · rw [if_pos c_72] at h
            refine lv_aload_n hx hb dX12_deedLine_104 rfl (lv_at hl 0 rfl) ?_
            refine lv_iconst (v := 2) hx hb dX12_deedLine_105 (by decide) ?_
            refine lv_aload_n hx hb dX12_deedLine_106 rfl (lv_at hl 0 rfl) ?_
            refine va_get (ci := 10) (v := (.int (f 0 4))) (C := RX12) (T := TX12) (N := 44) hx hb hq i_X12 hown hK hP 0 (gb_at b rfl) rfl 4 (by decide) (hq _ w_1128) (fun _ h9 => h9) rfl dX12_deedLine_107 ?_
            obtain ⟨f_73, wl_74, r_75, z_76, h⟩ := gb_bd_s h
            refine gb_callv (va_runV (C := RX12) (As := [.int 2, .int (f 0 4)]) (rest := []) ⟨hx, hb, hml, hown, hq⟩ (mc_also l D cT tt b1 b hb1 n f w 2 (f 0 4) f_73 wl_74 r_75 z_76) (cwV 2 hq (gb_gV w_1318 w_1320 s_3_7 w_14 w_1321) rfl rfl rfl (by decide +kernel) ⟨Nat.le_of_ble_eq_true rfl, Nat.le_of_ble_eq_true rfl⟩) (gb_preV (r := (RX12, TX12, 44)) (ci := 10) (q0 := 0) hSt hP rfl (gb_at b rfl) hS (fun q h => Nat.le_trans hb1 h.1) hP) rfl rfl hl.1 rfl (lv_room (Nat.le_of_ble_eq_true rfl)) dX12_deedLine_110 ⟨Nat.le_of_ble_eq_true rfl, Nat.le_of_ble_eq_true rfl⟩) hS (fun _ h => h) (fun _ h => h) (fun H locs hY hk hS => ?_)
            have hP := hY
            exact L113 _ _ _ _ _ _ _ h hP hS (lv_sub hl [0, 1, 2] rfl)
  have L61 : ∀ (f : gb_F) (w : Int64) (v2 : Int32) (v3 : Int32) (v4 : Int32) (v5 : Int32) (H : Heap) (locs : List Loc) (ls : Array Slot), ms_deedLine_61 n f w v2 v3 v4 v5 = some (fE, wE, rE) → va_P D vwCl (gb_wl b (gb_MW cT b f w)) H → va_S (gb_fr b 22) s.heap H locs → lv_has ls 6 [(0, .ref (b + 0)), (2, .int v2), (3, .int v3), (4, .int v4), (5, .int v5)] → W p l e (headSpec (.code yX12_deedLine cX12_deedLine 6 none :: gb_wA) ({ frames := 6, cells := 0, slots := 0, locals := 137 })).room s m ([.ref (b + 0)]).toArray below meth c H locs 0 0 (MQ below (gb_Qv (fun h => va_P D vwCl (gb_wl b (gb_MW cT b fE wE)) h) (gb_fr b 22)) ([.ref (b + 0)]).toArray s 0 0 (gb_fr b 22)) (F0 m 61 ls []) := by
    clear h hP hS hl ls f w
    intro f w v2 v3 v4 v5 H locs ls h hP hS hl
    unfold ms_deedLine_61 at h
    refine lv_iload_n hx hb dX12_deedLine_61 rfl (lv_at hl 1 rfl) ?_
    refine lv_iconst (v := 0) hx hb dX12_deedLine_62 (by decide) ?_
    refine lv_iconst (v := 2) hx hb dX12_deedLine_63 (by decide) ?_
    obtain ⟨f_15, wl_16, r_17, z_18, h⟩ := gb_bd_s h
    refine gb_calli (va_runS (As := [.int v2, .int 0, .int 2]) (rest := []) ⟨hx, hb, hml, hown, hq⟩ (mc_isIn l D cT tt b1 b hb1 n f w v2 0 2 f_15 wl_16 r_17 z_18) (va_cwS 3 hq (gb_gS w_1269 w_1270 w_14 w_1271) rfl rfl rfl (by decide +kernel) ⟨Nat.le_of_ble_eq_true rfl, Nat.le_of_ble_eq_true rfl⟩) (gb_preS hSt hS (fun q h => Nat.le_trans hb1 h.1) hP) rfl rfl hl.1 rfl (lv_room (Nat.le_of_ble_eq_true rfl)) dX12_deedLine_64 ⟨Nat.le_of_ble_eq_true rfl, Nat.le_of_ble_eq_true rfl⟩) hS (fun _ h => h) (fun _ h => h) (fun q_19 H locs hY hk hS => ?_)
    obtain ⟨hq_19, hP⟩ := hY
    replace hq_19 := hq_19.symm
    subst hq_19
    refine lv_if_eq (tgt := 76) hx hb dX12_deedLine_67 (by decide) (fun c_20 => ?_) (fun c_20 => ?_)
    · rw [if_pos c_20] at h
      exact L76 _ _ _ _ _ _ _ _ _ h hP hS (lv_sub hl [0, 1, 2, 3, 4] rfl)
    · rw [if_neg c_20] at h
      refine lv_aload_n hx hb dX12_deedLine_70 rfl (lv_at hl 0 rfl) ?_
      obtain ⟨f_78, wl_79, r_80, z_81, h⟩ := gb_bd_s h
      refine gb_calli (va_runV (C := RX12) (As := []) (rest := []) ⟨hx, hb, hml, hown, hq⟩ (mc_pathTold l D cT tt b1 b hb1 n f_15 wl_16 f_78 wl_79 r_80 z_81) (cwV 0 hq (gb_gV w_1342 w_1344 s_3_13 w_14 w_1345) rfl rfl rfl (by decide +kernel) ⟨Nat.le_of_ble_eq_true rfl, Nat.le_of_ble_eq_true rfl⟩) (gb_preV (r := (RX12, TX12, 44)) (ci := 10) (q0 := 0) hSt hP rfl (gb_at b rfl) hS (fun q h => Nat.le_trans hb1 h.1) hP) rfl rfl hl.1 rfl (lv_room (Nat.le_of_ble_eq_true rfl)) dX12_deedLine_71 ⟨Nat.le_of_ble_eq_true rfl, Nat.le_of_ble_eq_true rfl⟩) hS (fun _ h => h) (fun _ h => h) (fun q_82 H locs hY hk hS => ?_)
      obtain ⟨hq_82, hP⟩ := hY
      replace hq_82 := hq_82.symm
      subst hq_82
      refine lv_istore (lv' := [(4, .int r_80), (0, .ref (b + 0)), (2, .int v2), (3, .int v3), (5, .int v5)]) hx hb dX12_deedLine_74 hl (by decide) rfl (fun ls hl => ?_)
      exact L76 _ _ _ _ _ _ _ _ _ h hP hS (lv_sub hl [1, 2, 3, 0, 4] rfl)
  have L39 : ∀ (f : gb_F) (w : Int64) (v2 : Int32) (H : Heap) (locs : List Loc) (ls : Array Slot), ms_deedLine_39 n f w v2 = some (fE, wE, rE) → va_P D vwCl (gb_wl b (gb_MW cT b f w)) H → va_S (gb_fr b 22) s.heap H locs → lv_has ls 6 [(0, .ref (b + 0)), (2, .int v2)] → W p l e (headSpec (.code yX12_deedLine cX12_deedLine 6 none :: gb_wA) ({ frames := 6, cells := 0, slots := 0, locals := 137 })).room s m ([.ref (b + 0)]).toArray below meth c H locs 0 0 (MQ below (gb_Qv (fun h => va_P D vwCl (gb_wl b (gb_MW cT b fE wE)) h) (gb_fr b 22)) ([.ref (b + 0)]).toArray s 0 0 (gb_fr b 22)) (F0 m 39 ls []) := by
    clear h hP hS hl ls f w
    intro f w v2 H locs ls h hP hS hl
    unfold ms_deedLine_39 at h
    refine lv_iconst (v := (-1)) hx hb dX12_deedLine_39 (by decide) ?_
    refine lv_istore_n (lv' := [(3, .int (-1)), (0, .ref (b + 0)), (2, .int v2)]) hx hb dX12_deedLine_40 rfl hl (by decide) rfl (fun ls hl => ?_)
    refine lv_iconst (v := (-1)) hx hb dX12_deedLine_41 (by decide) ?_
    refine lv_istore (lv' := [(4, .int (-1)), (3, .int (-1)), (0, .ref (b + 0)), (2, .int v2)]) hx hb dX12_deedLine_42 hl (by decide) rfl (fun ls hl => ?_)
    refine lv_iconst (v := (-1)) hx hb dX12_deedLine_44 (by decide) ?_
    refine lv_istore (lv' := [(5, .int (-1)), (4, .int (-1)), (3, .int (-1)), (0, .ref (b + 0)), (2, .int v2)]) hx hb dX12_deedLine_45 hl (by decide) rfl (fun ls hl => ?_)
    refine lv_iload_n hx hb dX12_deedLine_47 rfl (lv_at hl 4 rfl) ?_
    refine lv_iconst (v := 0) hx hb dX12_deedLine_48 (by decide) ?_
    refine lv_iconst (v := 4) hx hb dX12_deedLine_49 (by decide) ?_
    obtain ⟨f_9, wl_10, r_11, z_12, h⟩ := gb_bd_s h
    refine gb_calli (va_runS (As := [.int v2, .int 0, .int 4]) (rest := []) ⟨hx, hb, hml, hown, hq⟩ (mc_isIn l D cT tt b1 b hb1 n f w v2 0 4 f_9 wl_10 r_11 z_12) (va_cwS 3 hq (gb_gS w_1269 w_1270 w_14 w_1271) rfl rfl rfl (by decide +kernel) ⟨Nat.le_of_ble_eq_true rfl, Nat.le_of_ble_eq_true rfl⟩) (gb_preS hSt hS (fun q h => Nat.le_trans hb1 h.1) hP) rfl rfl hl.1 rfl (lv_room (Nat.le_of_ble_eq_true rfl)) dX12_deedLine_50 ⟨Nat.le_of_ble_eq_true rfl, Nat.le_of_ble_eq_true rfl⟩) hS (fun _ h => h) (fun _ h => h) (fun q_13 H locs hY hk hS => ?_)
    obtain ⟨hq_13, hP⟩ := hY
    replace hq_13 := hq_13.symm
    subst hq_13
    refine lv_if_eq (tgt := 61) hx hb dX12_deedLine_53 (by decide) (fun c_14 => ?_) (fun c_14 => ?_)
    · rw [if_pos c_14] at h
      exact L61 _ _ _ _ _ _ _ _ _ h hP hS (lv_sub hl [3, 4, 2, 1, 0] rfl)
    · rw [if_neg c_14] at h
      refine lv_aload_n hx hb dX12_deedLine_56 rfl (lv_at hl 3 rfl) ?_
      obtain ⟨f_83, wl_84, r_85, z_86, h⟩ := gb_bd_s h
      refine gb_calli (va_runV (C := RX12) (As := []) (rest := []) ⟨hx, hb, hml, hown, hq⟩ (mc_gooseTold l D cT tt b1 b hb1 n f_9 wl_10 f_83 wl_84 r_85 z_86) (cwV 0 hq (gb_gV w_1338 w_1340 s_3_12 w_14 w_1341) rfl rfl rfl (by decide +kernel) ⟨Nat.le_of_ble_eq_true rfl, Nat.le_of_ble_eq_true rfl⟩) (gb_preV (r := (RX12, TX12, 44)) (ci := 10) (q0 := 0) hSt hP rfl (gb_at b rfl) hS (fun q h => Nat.le_trans hb1 h.1) hP) rfl rfl hl.1 rfl (lv_room (Nat.le_of_ble_eq_true rfl)) dX12_deedLine_57 ⟨Nat.le_of_ble_eq_true rfl, Nat.le_of_ble_eq_true rfl⟩) hS (fun _ h => h) (fun _ h => h) (fun q_87 H locs hY hk hS => ?_)
      obtain ⟨hq_87, hP⟩ := hY
      replace hq_87 := hq_87.symm
      subst hq_87
      refine lv_istore_n (lv' := [(3, .int r_85), (5, .int (-1)), (4, .int (-1)), (0, .ref (b + 0)), (2, .int v2)]) hx hb dX12_deedLine_60 rfl hl (by decide) rfl (fun ls hl => ?_)
      exact L61 _ _ _ _ _ _ _ _ _ h hP hS (lv_sub hl [3, 4, 0, 2, 1] rfl)
  unfold ms_deedLine at h
  refine lv_aload_n hx hb dX12_deedLine_0 rfl (lv_at hl 0 rfl) ?_
  refine va_get (ci := 10) (v := (.int (f 0 4))) (C := RX12) (T := TX12) (N := 44) hx hb hq i_X12 hown hK hP 0 (gb_at b rfl) rfl 4 (by decide) (hq _ w_1128) (fun _ h9 => h9) rfl dX12_deedLine_1 ?_
  refine lv_topi (fun x_1 ex_1 => ?_)
  replace h := gb_lt_s ex_1 h
  refine lv_istore_n (lv' := [(1, .int x_1), (0, .ref (b + 0))]) hx hb dX12_deedLine_4 rfl hl (by decide) rfl (fun ls hl => ?_)
  refine lv_aload_n hx hb dX12_deedLine_5 rfl (lv_at hl 1 rfl) ?_
  refine lv_iconst (v := 4) hx hb dX12_deedLine_6 (by decide) ?_
  refine lv_bipush (v := 12) hx hb dX12_deedLine_7 (by decide) ?_
  obtain ⟨f_2, wl_3, r_4, z_5, h⟩ := gb_bd_s h
  refine gb_calli (va_runV (C := RX12) (As := [.int 4, .int 12]) (rest := []) ⟨hx, hb, hml, hown, hq⟩ (mc_takes l D cT tt b1 b hb1 n f w 4 12 f_2 wl_3 r_4 z_5) (cwV 2 hq (gb_gV w_1306 w_1308 s_3_4 w_14 w_1309) rfl rfl rfl (by decide +kernel) ⟨Nat.le_of_ble_eq_true rfl, Nat.le_of_ble_eq_true rfl⟩) (gb_preV (r := (RX12, TX12, 44)) (ci := 10) (q0 := 0) hSt hP rfl (gb_at b rfl) hS (fun q h => Nat.le_trans hb1 h.1) hP) rfl rfl hl.1 rfl (lv_room (Nat.le_of_ble_eq_true rfl)) dX12_deedLine_9 ⟨Nat.le_of_ble_eq_true rfl, Nat.le_of_ble_eq_true rfl⟩) hS (fun _ h => h) (fun _ h => h) (fun q_6 H locs hY hk hS => ?_)
  obtain ⟨hq_6, hP⟩ := hY
  replace hq_6 := hq_6.symm
  subst hq_6
  refine lv_iconst (v := 4) hx hb dX12_deedLine_12 (by decide) ?_
  refine lv_isub hx hb dX12_deedLine_13 ?_
  refine lv_topi (fun x_7 ex_7 => ?_)
  replace h := gb_lt_s ex_7 h
  refine lv_istore_n (lv' := [(2, .int x_7), (1, .int x_1), (0, .ref (b + 0))]) hx hb dX12_deedLine_14 rfl hl (by decide) rfl (fun ls hl => ?_)
  refine lv_aload_n hx hb dX12_deedLine_15 rfl (lv_at hl 2 rfl) ?_
  refine va_get (ci := 10) (v := (.int (f_2 0 8))) (C := RX12) (T := TX12) (N := 44) hx hb hq i_X12 hown hK hP 0 (gb_at b rfl) rfl 8 (by decide) (hq _ w_1132) (fun _ h9 => h9) rfl dX12_deedLine_16 ?_
  refine lv_if_ne (tgt := 39) hx hb dX12_deedLine_19 (by decide) (fun c_8 => ?_) (fun c_8 => ?_)
  · rw [if_neg c_8] at h
    exact L39 _ _ _ _ _ _ h hP hS (lv_sub hl [2, 0] rfl)
  · rw [if_pos c_8] at h
    refine lv_aload_n hx hb dX12_deedLine_22 rfl (lv_at hl 2 rfl) ?_
    refine va_get (ci := 10) (v := (.ref (b + 3))) (C := RX12) (T := TX12) (N := 44) hx hb hq i_X12 hown hK hP 0 (gb_at b rfl) rfl 10 (by decide) (hq _ w_1134) (fun _ h9 => h9) rfl dX12_deedLine_23 ?_
    refine lv_iconst (v := 0) hx hb dX12_deedLine_26 (by decide) ?_
    refine va_iald hx hb hK hP 3 0 (gb_at b rfl) rfl (gb_in rfl) dX12_deedLine_27 ?_
    refine lv_topi (fun x_88 ex_88 => ?_)
    replace h := gb_lt_s ex_88 h
    refine lv_bipush (v := 24) hx hb dX12_deedLine_28 (by decide) ?_
    refine lv_icmp_lt (tgt := 39) hx hb dX12_deedLine_30 (by decide) (fun c_89 => ?_) (fun c_89 => ?_)
    · rw [if_pos c_89] at h
      exact L39 _ _ _ _ _ _ h hP hS (lv_sub hl [2, 0] rfl)
    · rw [if_neg c_89] at h
      refine lv_aload_n hx hb dX12_deedLine_33 rfl (lv_at hl 2 rfl) ?_
      refine lv_iconst (v := 3) hx hb dX12_deedLine_34 (by decide) ?_
      refine lv_iload_n hx hb dX12_deedLine_35 rfl (lv_at hl 1 rfl) ?_
      obtain ⟨f_90, wl_91, r_92, z_93, h⟩ := gb_bd_s h
      refine gb_callv (va_runV (C := RX12) (As := [.int 3, .int x_1]) (rest := []) ⟨hx, hb, hml, hown, hq⟩ (mc_also l D cT tt b1 b hb1 n f_2 wl_3 3 x_1 f_90 wl_91 r_92 z_93) (cwV 2 hq (gb_gV w_1318 w_1320 s_3_7 w_14 w_1321) rfl rfl rfl (by decide +kernel) ⟨Nat.le_of_ble_eq_true rfl, Nat.le_of_ble_eq_true rfl⟩) (gb_preV (r := (RX12, TX12, 44)) (ci := 10) (q0 := 0) hSt hP rfl (gb_at b rfl) hS (fun q h => Nat.le_trans hb1 h.1) hP) rfl rfl hl.1 rfl (lv_room (Nat.le_of_ble_eq_true rfl)) dX12_deedLine_36 ⟨Nat.le_of_ble_eq_true rfl, Nat.le_of_ble_eq_true rfl⟩) hS (fun _ h => h) (fun _ h => h) (fun H locs hY hk hS => ?_)
      have hP := hY
      exact L39 _ _ _ _ _ _ h hP hS (lv_sub hl [2, 0] rfl)
theorem dX12_termLine_0 : decode cX12_termLine 0 = .ok (.aload_n 0, 1) := dc_42 (show ((cX12_termLine.data.toList.drop 0).take 1).map UInt8.toNat = [42] by decide +kernel)
theorem dX12_termLine_1 : decode cX12_termLine 1 = .ok (.getfield 95, 3) := dc_180 (show ((cX12_termLine.data.toList.drop 1).take 3).map UInt8.toNat = [180, 0, 95] by decide +kernel) rfl
theorem dX12_termLine_4 : decode cX12_termLine 4 = .ok (.istore_n 1, 1) := dc_60 (show ((cX12_termLine.data.toList.drop 4).take 1).map UInt8.toNat = [60] by decide +kernel)
theorem dX12_termLine_5 : decode cX12_termLine 5 = .ok (.aload_n 0, 1) := dc_42 (show ((cX12_termLine.data.toList.drop 5).take 1).map UInt8.toNat = [42] by decide +kernel)
theorem dX12_termLine_6 : decode cX12_termLine 6 = .ok (.bipush 13, 2) := dc_16 (show ((cX12_termLine.data.toList.drop 6).take 2).map UInt8.toNat = [16, 13] by decide +kernel) rfl
theorem dX12_termLine_8 : decode cX12_termLine 8 = .ok (.bipush 17, 2) := dc_16 (show ((cX12_termLine.data.toList.drop 8).take 2).map UInt8.toNat = [16, 17] by decide +kernel) rfl
theorem dX12_termLine_10 : decode cX12_termLine 10 = .ok (.invokevirtual 144, 3) := dc_182 (show ((cX12_termLine.data.toList.drop 10).take 3).map UInt8.toNat = [182, 0, 144] by decide +kernel) rfl
theorem dX12_termLine_13 : decode cX12_termLine 13 = .ok (.bipush 13, 2) := dc_16 (show ((cX12_termLine.data.toList.drop 13).take 2).map UInt8.toNat = [16, 13] by decide +kernel) rfl
theorem dX12_termLine_15 : decode cX12_termLine 15 = .ok (.isub, 1) := dc_100 (show ((cX12_termLine.data.toList.drop 15).take 1).map UInt8.toNat = [100] by decide +kernel)
theorem dX12_termLine_16 : decode cX12_termLine 16 = .ok (.istore_n 2, 1) := dc_61 (show ((cX12_termLine.data.toList.drop 16).take 1).map UInt8.toNat = [61] by decide +kernel)
theorem dX12_termLine_17 : decode cX12_termLine 17 = .ok (.aload_n 0, 1) := dc_42 (show ((cX12_termLine.data.toList.drop 17).take 1).map UInt8.toNat = [42] by decide +kernel)
theorem dX12_termLine_18 : decode cX12_termLine 18 = .ok (.getfield 122, 3) := dc_180 (show ((cX12_termLine.data.toList.drop 18).take 3).map UInt8.toNat = [180, 0, 122] by decide +kernel) rfl
theorem dX12_termLine_21 : decode cX12_termLine 21 = .ok (.ifCond .ne 20, 3) := dc_154 (show ((cX12_termLine.data.toList.drop 21).take 3).map UInt8.toNat = [154, 0, 20] by decide +kernel) rfl
theorem dX12_termLine_41 : decode cX12_termLine 41 = .ok (.iconst (-1), 1) := dc_2 (show ((cX12_termLine.data.toList.drop 41).take 1).map UInt8.toNat = [2] by decide +kernel)
theorem dX12_termLine_42 : decode cX12_termLine 42 = .ok (.istore_n 3, 1) := dc_62 (show ((cX12_termLine.data.toList.drop 42).take 1).map UInt8.toNat = [62] by decide +kernel)
theorem dX12_termLine_43 : decode cX12_termLine 43 = .ok (.iconst (-1), 1) := dc_2 (show ((cX12_termLine.data.toList.drop 43).take 1).map UInt8.toNat = [2] by decide +kernel)
theorem dX12_termLine_44 : decode cX12_termLine 44 = .ok (.istore 4, 2) := dc_54 (show ((cX12_termLine.data.toList.drop 44).take 2).map UInt8.toNat = [54, 4] by decide +kernel) rfl
theorem dX12_termLine_46 : decode cX12_termLine 46 = .ok (.iload_n 2, 1) := dc_28 (show ((cX12_termLine.data.toList.drop 46).take 1).map UInt8.toNat = [28] by decide +kernel)
theorem dX12_termLine_47 : decode cX12_termLine 47 = .ok (.ifCond .ne 11, 3) := dc_154 (show ((cX12_termLine.data.toList.drop 47).take 3).map UInt8.toNat = [154, 0, 11] by decide +kernel) rfl
theorem dX12_termLine_58 : decode cX12_termLine 58 = .ok (.iload_n 2, 1) := dc_28 (show ((cX12_termLine.data.toList.drop 58).take 1).map UInt8.toNat = [28] by decide +kernel)
theorem dX12_termLine_59 : decode cX12_termLine 59 = .ok (.iconst 1, 1) := dc_4 (show ((cX12_termLine.data.toList.drop 59).take 1).map UInt8.toNat = [4] by decide +kernel)
theorem dX12_termLine_60 : decode cX12_termLine 60 = .ok (.if_icmp .eq 8, 3) := dc_159 (show ((cX12_termLine.data.toList.drop 60).take 3).map UInt8.toNat = [159, 0, 8] by decide +kernel) rfl
theorem dX12_termLine_68 : decode cX12_termLine 68 = .ok (.aload_n 0, 1) := dc_42 (show ((cX12_termLine.data.toList.drop 68).take 1).map UInt8.toNat = [42] by decide +kernel)
theorem dX12_termLine_69 : decode cX12_termLine 69 = .ok (.iconst 0, 1) := dc_3 (show ((cX12_termLine.data.toList.drop 69).take 1).map UInt8.toNat = [3] by decide +kernel)
theorem dX12_termLine_70 : decode cX12_termLine 70 = .ok (.sipush 999, 3) := dc_17 (show ((cX12_termLine.data.toList.drop 70).take 3).map UInt8.toNat = [17, 3, 231] by decide +kernel) rfl
theorem dX12_termLine_73 : decode cX12_termLine 73 = .ok (.invokevirtual 140, 3) := dc_182 (show ((cX12_termLine.data.toList.drop 73).take 3).map UInt8.toNat = [182, 0, 140] by decide +kernel) rfl
theorem dX12_termLine_76 : decode cX12_termLine 76 = .ok (.istore_n 3, 1) := dc_62 (show ((cX12_termLine.data.toList.drop 76).take 1).map UInt8.toNat = [62] by decide +kernel)
theorem dX12_termLine_77 : decode cX12_termLine 77 = .ok (.aload_n 0, 1) := dc_42 (show ((cX12_termLine.data.toList.drop 77).take 1).map UInt8.toNat = [42] by decide +kernel)
theorem dX12_termLine_78 : decode cX12_termLine 78 = .ok (.iconst 0, 1) := dc_3 (show ((cX12_termLine.data.toList.drop 78).take 1).map UInt8.toNat = [3] by decide +kernel)
theorem dX12_termLine_79 : decode cX12_termLine 79 = .ok (.bipush 99, 2) := dc_16 (show ((cX12_termLine.data.toList.drop 79).take 2).map UInt8.toNat = [16, 99] by decide +kernel) rfl
theorem dX12_termLine_81 : decode cX12_termLine 81 = .ok (.invokevirtual 140, 3) := dc_182 (show ((cX12_termLine.data.toList.drop 81).take 3).map UInt8.toNat = [182, 0, 140] by decide +kernel) rfl
theorem dX12_termLine_84 : decode cX12_termLine 84 = .ok (.istore 4, 2) := dc_54 (show ((cX12_termLine.data.toList.drop 84).take 2).map UInt8.toNat = [54, 4] by decide +kernel) rfl
theorem dX12_termLine_86 : decode cX12_termLine 86 = .ok (.iload_n 2, 1) := dc_28 (show ((cX12_termLine.data.toList.drop 86).take 1).map UInt8.toNat = [28] by decide +kernel)
theorem dX12_termLine_87 : decode cX12_termLine 87 = .ok (.iconst 3, 1) := dc_6 (show ((cX12_termLine.data.toList.drop 87).take 1).map UInt8.toNat = [6] by decide +kernel)
theorem dX12_termLine_88 : decode cX12_termLine 88 = .ok (.if_icmp .ne 11, 3) := dc_160 (show ((cX12_termLine.data.toList.drop 88).take 3).map UInt8.toNat = [160, 0, 11] by decide +kernel) rfl
theorem dX12_termLine_99 : decode cX12_termLine 99 = .ok (.iload_n 2, 1) := dc_28 (show ((cX12_termLine.data.toList.drop 99).take 1).map UInt8.toNat = [28] by decide +kernel)
theorem dX12_termLine_100 : decode cX12_termLine 100 = .ok (.iconst 4, 1) := dc_7 (show ((cX12_termLine.data.toList.drop 100).take 1).map UInt8.toNat = [7] by decide +kernel)
theorem dX12_termLine_101 : decode cX12_termLine 101 = .ok (.if_icmp .ne 12, 3) := dc_160 (show ((cX12_termLine.data.toList.drop 101).take 3).map UInt8.toNat = [160, 0, 12] by decide +kernel) rfl
theorem dX12_termLine_113 : decode cX12_termLine 113 = .ok (.aload_n 0, 1) := dc_42 (show ((cX12_termLine.data.toList.drop 113).take 1).map UInt8.toNat = [42] by decide +kernel)
theorem dX12_termLine_114 : decode cX12_termLine 114 = .ok (.bipush 8, 2) := dc_16 (show ((cX12_termLine.data.toList.drop 114).take 2).map UInt8.toNat = [16, 8] by decide +kernel) rfl
theorem dX12_termLine_116 : decode cX12_termLine 116 = .ok (.iconst 3, 1) := dc_6 (show ((cX12_termLine.data.toList.drop 116).take 1).map UInt8.toNat = [6] by decide +kernel)
theorem dX12_termLine_117 : decode cX12_termLine 117 = .ok (.iload_n 2, 1) := dc_28 (show ((cX12_termLine.data.toList.drop 117).take 1).map UInt8.toNat = [28] by decide +kernel)
theorem dX12_termLine_118 : decode cX12_termLine 118 = .ok (.iload_n 3, 1) := dc_29 (show ((cX12_termLine.data.toList.drop 118).take 1).map UInt8.toNat = [29] by decide +kernel)
theorem dX12_termLine_119 : decode cX12_termLine 119 = .ok (.iload 4, 2) := dc_21 (show ((cX12_termLine.data.toList.drop 119).take 2).map UInt8.toNat = [21, 4] by decide +kernel) rfl
theorem dX12_termLine_121 : decode cX12_termLine 121 = .ok (.iconst (-1), 1) := dc_2 (show ((cX12_termLine.data.toList.drop 121).take 1).map UInt8.toNat = [2] by decide +kernel)
theorem dX12_termLine_122 : decode cX12_termLine 122 = .ok (.invokevirtual 164, 3) := dc_182 (show ((cX12_termLine.data.toList.drop 122).take 3).map UInt8.toNat = [182, 0, 164] by decide +kernel) rfl
theorem dX12_termLine_125 : decode cX12_termLine 125 = .ok (.aload_n 0, 1) := dc_42 (show ((cX12_termLine.data.toList.drop 125).take 1).map UInt8.toNat = [42] by decide +kernel)
theorem dX12_termLine_126 : decode cX12_termLine 126 = .ok (.invokevirtual 154, 3) := dc_182 (show ((cX12_termLine.data.toList.drop 126).take 3).map UInt8.toNat = [182, 0, 154] by decide +kernel) rfl
theorem dX12_termLine_129 : decode cX12_termLine 129 = .ok (.return_, 1) := dc_177 (show ((cX12_termLine.data.toList.drop 129).take 1).map UInt8.toNat = [177] by decide +kernel)
theorem dX12_termLine_104 : decode cX12_termLine 104 = .ok (.aload_n 0, 1) := dc_42 (show ((cX12_termLine.data.toList.drop 104).take 1).map UInt8.toNat = [42] by decide +kernel)
theorem dX12_termLine_105 : decode cX12_termLine 105 = .ok (.iconst 0, 1) := dc_3 (show ((cX12_termLine.data.toList.drop 105).take 1).map UInt8.toNat = [3] by decide +kernel)
theorem dX12_termLine_106 : decode cX12_termLine 106 = .ok (.sipush 999, 3) := dc_17 (show ((cX12_termLine.data.toList.drop 106).take 3).map UInt8.toNat = [17, 3, 231] by decide +kernel) rfl
theorem dX12_termLine_109 : decode cX12_termLine 109 = .ok (.invokevirtual 140, 3) := dc_182 (show ((cX12_termLine.data.toList.drop 109).take 3).map UInt8.toNat = [182, 0, 140] by decide +kernel) rfl
theorem dX12_termLine_112 : decode cX12_termLine 112 = .ok (.istore_n 3, 1) := dc_62 (show ((cX12_termLine.data.toList.drop 112).take 1).map UInt8.toNat = [62] by decide +kernel)
theorem dX12_termLine_91 : decode cX12_termLine 91 = .ok (.aload_n 0, 1) := dc_42 (show ((cX12_termLine.data.toList.drop 91).take 1).map UInt8.toNat = [42] by decide +kernel)
theorem dX12_termLine_92 : decode cX12_termLine 92 = .ok (.iconst 0, 1) := dc_3 (show ((cX12_termLine.data.toList.drop 92).take 1).map UInt8.toNat = [3] by decide +kernel)
theorem dX12_termLine_93 : decode cX12_termLine 93 = .ok (.bipush 99, 2) := dc_16 (show ((cX12_termLine.data.toList.drop 93).take 2).map UInt8.toNat = [16, 99] by decide +kernel) rfl
theorem dX12_termLine_95 : decode cX12_termLine 95 = .ok (.invokevirtual 140, 3) := dc_182 (show ((cX12_termLine.data.toList.drop 95).take 3).map UInt8.toNat = [182, 0, 140] by decide +kernel) rfl
theorem dX12_termLine_98 : decode cX12_termLine 98 = .ok (.istore_n 3, 1) := dc_62 (show ((cX12_termLine.data.toList.drop 98).take 1).map UInt8.toNat = [62] by decide +kernel)
theorem dX12_termLine_63 : decode cX12_termLine 63 = .ok (.iload_n 2, 1) := dc_28 (show ((cX12_termLine.data.toList.drop 63).take 1).map UInt8.toNat = [28] by decide +kernel)
theorem dX12_termLine_64 : decode cX12_termLine 64 = .ok (.iconst 2, 1) := dc_5 (show ((cX12_termLine.data.toList.drop 64).take 1).map UInt8.toNat = [5] by decide +kernel)
theorem dX12_termLine_65 : decode cX12_termLine 65 = .ok (.if_icmp .ne 21, 3) := dc_160 (show ((cX12_termLine.data.toList.drop 65).take 3).map UInt8.toNat = [160, 0, 21] by decide +kernel) rfl
theorem dX12_termLine_50 : decode cX12_termLine 50 = .ok (.aload_n 0, 1) := dc_42 (show ((cX12_termLine.data.toList.drop 50).take 1).map UInt8.toNat = [42] by decide +kernel)
theorem dX12_termLine_51 : decode cX12_termLine 51 = .ok (.iconst 0, 1) := dc_3 (show ((cX12_termLine.data.toList.drop 51).take 1).map UInt8.toNat = [3] by decide +kernel)
theorem dX12_termLine_52 : decode cX12_termLine 52 = .ok (.bipush 9, 2) := dc_16 (show ((cX12_termLine.data.toList.drop 52).take 2).map UInt8.toNat = [16, 9] by decide +kernel) rfl
theorem dX12_termLine_54 : decode cX12_termLine 54 = .ok (.invokevirtual 140, 3) := dc_182 (show ((cX12_termLine.data.toList.drop 54).take 3).map UInt8.toNat = [182, 0, 140] by decide +kernel) rfl
theorem dX12_termLine_57 : decode cX12_termLine 57 = .ok (.istore_n 3, 1) := dc_62 (show ((cX12_termLine.data.toList.drop 57).take 1).map UInt8.toNat = [62] by decide +kernel)
theorem dX12_termLine_24 : decode cX12_termLine 24 = .ok (.aload_n 0, 1) := dc_42 (show ((cX12_termLine.data.toList.drop 24).take 1).map UInt8.toNat = [42] by decide +kernel)
theorem dX12_termLine_25 : decode cX12_termLine 25 = .ok (.getfield 17, 3) := dc_180 (show ((cX12_termLine.data.toList.drop 25).take 3).map UInt8.toNat = [180, 0, 17] by decide +kernel) rfl
theorem dX12_termLine_28 : decode cX12_termLine 28 = .ok (.iconst 0, 1) := dc_3 (show ((cX12_termLine.data.toList.drop 28).take 1).map UInt8.toNat = [3] by decide +kernel)
theorem dX12_termLine_29 : decode cX12_termLine 29 = .ok (.iaload, 1) := dc_46 (show ((cX12_termLine.data.toList.drop 29).take 1).map UInt8.toNat = [46] by decide +kernel)
theorem dX12_termLine_30 : decode cX12_termLine 30 = .ok (.bipush 8, 2) := dc_16 (show ((cX12_termLine.data.toList.drop 30).take 2).map UInt8.toNat = [16, 8] by decide +kernel) rfl
theorem dX12_termLine_32 : decode cX12_termLine 32 = .ok (.if_icmp .lt 9, 3) := dc_161 (show ((cX12_termLine.data.toList.drop 32).take 3).map UInt8.toNat = [161, 0, 9] by decide +kernel) rfl
theorem dX12_termLine_35 : decode cX12_termLine 35 = .ok (.aload_n 0, 1) := dc_42 (show ((cX12_termLine.data.toList.drop 35).take 1).map UInt8.toNat = [42] by decide +kernel)
theorem dX12_termLine_36 : decode cX12_termLine 36 = .ok (.iconst 3, 1) := dc_6 (show ((cX12_termLine.data.toList.drop 36).take 1).map UInt8.toNat = [6] by decide +kernel)
theorem dX12_termLine_37 : decode cX12_termLine 37 = .ok (.iload_n 1, 1) := dc_27 (show ((cX12_termLine.data.toList.drop 37).take 1).map UInt8.toNat = [27] by decide +kernel)
theorem dX12_termLine_38 : decode cX12_termLine 38 = .ok (.invokevirtual 133, 3) := dc_182 (show ((cX12_termLine.data.toList.drop 38).take 3).map UInt8.toNat = [182, 0, 133] by decide +kernel) rfl
def ms_termLine_99 (n : Nat) (f : gb_F) (w : Int64) (v2 : Int32) (v3 : Int32) (v4 : Int32) : gb_MR Unit := (if v2 = 4 then gb_bd (ms_numbered n f w 0 999) (fun f_33 wl_34 r_35 => gb_bd (ms_adds n f_33 wl_34 8 3 v2 r_35 v4 (-1)) (fun f_38 wl_39 _ => gb_bd (ms_endsLine n f_38 wl_39) (fun f_43 wl_44 _ => some (f_43, wl_44, ())))) else gb_bd (ms_adds n f w 8 3 v2 v3 v4 (-1)) (fun f_23 wl_24 _ => gb_bd (ms_endsLine n f_23 wl_24) (fun f_28 wl_29 _ => some (f_28, wl_29, ()))))
def ms_termLine_86 (n : Nat) (f : gb_F) (w : Int64) (v2 : Int32) (v3 : Int32) (v4 : Int32) : gb_MR Unit := (if v2 = 3 then gb_bd (ms_numbered n f w 0 99) (fun f_48 wl_49 r_50 => ms_termLine_99 n f_48 wl_49 v2 r_50 v4) else ms_termLine_99 n f w v2 v3 v4)
def ms_termLine_68 (n : Nat) (f : gb_F) (w : Int64) (v2 : Int32) : gb_MR Unit := gb_bd (ms_numbered n f w 0 999) (fun f_11 wl_12 r_13 => gb_bd (ms_numbered n f_11 wl_12 0 99) (fun f_16 wl_17 r_18 => ms_termLine_86 n f_16 wl_17 v2 r_13 r_18))
def ms_termLine_58 (n : Nat) (f : gb_F) (w : Int64) (v2 : Int32) (v3 : Int32) (v4 : Int32) : gb_MR Unit := (if v2 = 1 then ms_termLine_68 n f w v2 else (if v2 = 2 then ms_termLine_68 n f w v2 else ms_termLine_86 n f w v2 v3 v4))
def ms_termLine_41 (n : Nat) (f : gb_F) (w : Int64) (v2 : Int32) : gb_MR Unit := (if v2 = 0 then gb_bd (ms_numbered n f w 0 9) (fun f_54 wl_55 r_56 => ms_termLine_58 n f_54 wl_55 v2 r_56 (-1)) else ms_termLine_58 n f w v2 (-1) (-1))
def ms_termLine (n : Nat) (f : gb_F) (w : Int64) : gb_MR Unit := gb_lt (f 0 4) (fun x_1 => gb_bd (ms_takes n f w 13 17) (fun f_2 wl_3 r_4 => gb_lt (r_4 - 13) (fun x_7 => (if (f_2 0 8) = 0 then gb_lt (f_2 3 (Int32.toNatClampNeg 0)) (fun x_59 => (if x_59 < 8 then ms_termLine_41 n f_2 wl_3 x_7 else gb_bd (ms_also n f_2 wl_3 3 x_1) (fun f_61 wl_62 _ => ms_termLine_41 n f_61 wl_62 x_7))) else ms_termLine_41 n f_2 wl_3 x_7))))
set_option maxHeartbeats 8000000 in
set_option maxRecDepth 100000 in
theorem mc_termLine (l : Launch) (D : va_G) (cT : Nat → ClassId) (tt : Nat → Nat) (b1 b : Nat) (hb1 : b1 ≤ b) (n : Nat) (f : gb_F) (w : Int64) (fE : gb_F) (wE : Int64) (rE : Unit) (h : ms_termLine n f w = some (fE, wE, rE)) : Met l yX12_termLine (.code yX12_termLine cX12_termLine 5 none :: gb_wA) ({ frames := 5, cells := 0, slots := 0, locals := 117 }) (gb_Pc D cT tt b1 [.ref (b + 0)] (fun h => va_P D vwCl (gb_wl b (gb_MW cT b f w)) h)) (gb_Qv (fun h => va_P D vwCl (gb_wl b (gb_MW cT b fE wE)) h) (gb_fr b 22)) 0 0 (gb_fr b 22) := by
  refine Met.ofW (cc := cX12_termLine) (maxL := 5) (ret := none) (by decide) rfl ?_
  intro p e s m args below meth c s₁ B hml hv
  obtain ⟨rfl, hSt, hP⟩ := hv
  have hx := B.exec
  have hb := B.bytes
  have hr := B.returns
  have hts := atoms_spec (ws := .code yX12_termLine cX12_termLine 5 none :: gb_wA) B.pre
  have hq : ∀ w ∈ gb_wA, w.before _ s = true := fun w h => hts w (List.mem_cons_of_mem _ h)
  have hown : s.vm.findClass RX12 = some m.cls := findClass_of_methodNamed B.named
  have hlocks := B.notSynchronized
  clear B hts
  have hK := hSt.1
  have hS : va_S (gb_fr b 22) s.heap s.heap [] := va_S.rf
  have hl := lv_entry ([.ref (b + 0)]) (n := 5) (Nat.le_of_ble_eq_true rfl)
  rw [lg_entry_eq]
  generalize (lg_sl ([.ref (b + 0)]) ++ List.replicate (5 - (lg_sl ([.ref (b + 0)])).length) Slot.unset).toArray = ls at hl ⊢
  replace hl : lv_has ls 5 [(0, .ref (b + 0))] := hl
  have L99 : ∀ (f : gb_F) (w : Int64) (v2 : Int32) (v3 : Int32) (v4 : Int32) (H : Heap) (locs : List Loc) (ls : Array Slot), ms_termLine_99 n f w v2 v3 v4 = some (fE, wE, rE) → va_P D vwCl (gb_wl b (gb_MW cT b f w)) H → va_S (gb_fr b 22) s.heap H locs → lv_has ls 5 [(0, .ref (b + 0)), (2, .int v2), (3, .int v3), (4, .int v4)] → W p l e (headSpec (.code yX12_termLine cX12_termLine 5 none :: gb_wA) ({ frames := 5, cells := 0, slots := 0, locals := 117 })).room s m ([.ref (b + 0)]).toArray below meth c H locs 0 0 (MQ below (gb_Qv (fun h => va_P D vwCl (gb_wl b (gb_MW cT b fE wE)) h) (gb_fr b 22)) ([.ref (b + 0)]).toArray s 0 0 (gb_fr b 22)) (F0 m 99 ls []) := by
    clear h hP hS hl ls f w
    intro f w v2 v3 v4 H locs ls h hP hS hl
    unfold ms_termLine_99 at h
    refine lv_iload_n hx hb dX12_termLine_99 rfl (lv_at hl 1 rfl) ?_
    refine lv_iconst (v := 4) hx hb dX12_termLine_100 (by decide) ?_
    refine lv_icmp_ne (tgt := 113) hx hb dX12_termLine_101 (by decide) (fun c_22 => ?_) (fun c_22 => ?_)
    · rw [if_neg c_22] at h
      refine lv_aload_n hx hb dX12_termLine_113 rfl (lv_at hl 0 rfl) ?_
      refine lv_bipush (v := 8) hx hb dX12_termLine_114 (by decide) ?_
      refine lv_iconst (v := 3) hx hb dX12_termLine_116 (by decide) ?_
      refine lv_iload_n hx hb dX12_termLine_117 rfl (lv_at hl 1 rfl) ?_
      refine lv_iload_n hx hb dX12_termLine_118 rfl (lv_at hl 2 rfl) ?_
      refine lv_iload hx hb dX12_termLine_119 (lv_at hl 3 rfl) ?_
      refine lv_iconst (v := (-1)) hx hb dX12_termLine_121 (by decide) ?_
      obtain ⟨f_23, wl_24, r_25, z_26, h⟩ := gb_bd_s h
      refine gb_callv (va_runV (C := RX12) (As := [.int 8, .int 3, .int v2, .int v3, .int v4, .int (-1)]) (rest := []) ⟨hx, hb, hml, hown, hq⟩ (mc_adds l D cT tt b1 b hb1 n f w 8 3 v2 v3 v4 (-1) f_23 wl_24 r_25 z_26) (cwV 6 hq (gb_gV w_1346 w_1348 s_3_14 w_14 w_1349) rfl rfl rfl (by decide +kernel) ⟨Nat.le_of_ble_eq_true rfl, Nat.le_of_ble_eq_true rfl⟩) (gb_preV (r := (RX12, TX12, 44)) (ci := 10) (q0 := 0) hSt hP rfl (gb_at b rfl) hS (fun q h => Nat.le_trans hb1 h.1) hP) rfl rfl hl.1 rfl (lv_room (Nat.le_of_ble_eq_true rfl)) dX12_termLine_122 ⟨Nat.le_of_ble_eq_true rfl, Nat.le_of_ble_eq_true rfl⟩) hS (fun _ h => h) (fun _ h => h) (fun H locs hY hk hS => ?_)
      have hP := hY
      refine lv_aload_n hx hb dX12_termLine_125 rfl (lv_at hl 0 rfl) ?_
      obtain ⟨f_28, wl_29, r_30, z_31, h⟩ := gb_bd_s h
      refine gb_callv (va_runV (C := RX12) (As := []) (rest := []) ⟨hx, hb, hml, hown, hq⟩ (mc_endsLine l D cT tt b1 b hb1 n f_23 wl_24 f_28 wl_29 r_30 z_31) (cwV 0 hq (gb_gV w_1330 w_1332 s_3_10 w_14 w_1333) rfl rfl rfl (by decide +kernel) ⟨Nat.le_of_ble_eq_true rfl, Nat.le_of_ble_eq_true rfl⟩) (gb_preV (r := (RX12, TX12, 44)) (ci := 10) (q0 := 0) hSt hP rfl (gb_at b rfl) hS (fun q h => Nat.le_trans hb1 h.1) hP) rfl rfl hl.1 rfl (lv_room (Nat.le_of_ble_eq_true rfl)) dX12_termLine_126 ⟨Nat.le_of_ble_eq_true rfl, Nat.le_of_ble_eq_true rfl⟩) hS (fun _ h => h) (fun _ h => h) (fun H locs hY hk hS => ?_)
      have hP := hY
      obtain ⟨e1, e2, -⟩ := gb_eq3 h
      exact W.vret hx hb hr (fun t ht hW => gb_rv ht (by rw [← e1, ← e2]; exact hP) hS) hS.2.2 dX12_termLine_129
    · rw [if_pos c_22] at h
      refine lv_aload_n hx hb dX12_termLine_104 rfl (lv_at hl 0 rfl) ?_
      refine lv_iconst (v := 0) hx hb dX12_termLine_105 (by decide) ?_
      refine lv_sipush (v := 999) hx hb dX12_termLine_106 (by decide) ?_
      obtain ⟨f_33, wl_34, r_35, z_36, h⟩ := gb_bd_s h
      refine gb_calli (va_runV (C := RX12) (As := [.int 0, .int 999]) (rest := []) ⟨hx, hb, hml, hown, hq⟩ (mc_numbered l D cT tt b1 b hb1 n f w 0 999 f_33 wl_34 r_35 z_36) (cwV 2 hq (gb_gV w_1322 w_1324 s_3_8 w_14 w_1325) rfl rfl rfl (by decide +kernel) ⟨Nat.le_of_ble_eq_true rfl, Nat.le_of_ble_eq_true rfl⟩) (gb_preV (r := (RX12, TX12, 44)) (ci := 10) (q0 := 0) hSt hP rfl (gb_at b rfl) hS (fun q h => Nat.le_trans hb1 h.1) hP) rfl rfl hl.1 rfl (lv_room (Nat.le_of_ble_eq_true rfl)) dX12_termLine_109 ⟨Nat.le_of_ble_eq_true rfl, Nat.le_of_ble_eq_true rfl⟩) hS (fun _ h => h) (fun _ h => h) (fun q_37 H locs hY hk hS => ?_)
      obtain ⟨hq_37, hP⟩ := hY
      replace hq_37 := hq_37.symm
      subst hq_37
      refine lv_istore_n (lv' := [(3, .int r_35), (0, .ref (b + 0)), (2, .int v2), (4, .int v4)]) hx hb dX12_termLine_112 rfl hl (by decide) rfl (fun ls hl => ?_)
      refine lv_aload_n hx hb dX12_termLine_113 rfl (lv_at hl 1 rfl) ?_
      refine lv_bipush (v := 8) hx hb dX12_termLine_114 (by decide) ?_
      refine lv_iconst (v := 3) hx hb dX12_termLine_116 (by decide) ?_
      refine lv_iload_n hx hb dX12_termLine_117 rfl (lv_at hl 2 rfl) ?_
      refine lv_iload_n hx hb dX12_termLine_118 rfl (lv_at hl 0 rfl) ?_
      refine lv_iload hx hb dX12_termLine_119 (lv_at hl 3 rfl) ?_
      refine lv_iconst (v := (-1)) hx hb dX12_termLine_121 (by decide) ?_
      obtain ⟨f_38, wl_39, r_40, z_41, h⟩ := gb_bd_s h
      refine gb_callv (va_runV (C := RX12) (As := [.int 8, .int 3, .int v2, .int r_35, .int v4, .int (-1)]) (rest := []) ⟨hx, hb, hml, hown, hq⟩ (mc_adds l D cT tt b1 b hb1 n f_33 wl_34 8 3 v2 r_35 v4 (-1) f_38 wl_39 r_40 z_41) (cwV 6 hq (gb_gV w_1346 w_1348 s_3_14 w_14 w_1349) rfl rfl rfl (by decide +kernel) ⟨Nat.le_of_ble_eq_true rfl, Nat.le_of_ble_eq_true rfl⟩) (gb_preV (r := (RX12, TX12, 44)) (ci := 10) (q0 := 0) hSt hP rfl (gb_at b rfl) hS (fun q h => Nat.le_trans hb1 h.1) hP) rfl rfl hl.1 rfl (lv_room (Nat.le_of_ble_eq_true rfl)) dX12_termLine_122 ⟨Nat.le_of_ble_eq_true rfl, Nat.le_of_ble_eq_true rfl⟩) hS (fun _ h => h) (fun _ h => h) (fun H locs hY hk hS => ?_)
      have hP := hY
      refine lv_aload_n hx hb dX12_termLine_125 rfl (lv_at hl 1 rfl) ?_
      obtain ⟨f_43, wl_44, r_45, z_46, h⟩ := gb_bd_s h
      refine gb_callv (va_runV (C := RX12) (As := []) (rest := []) ⟨hx, hb, hml, hown, hq⟩ (mc_endsLine l D cT tt b1 b hb1 n f_38 wl_39 f_43 wl_44 r_45 z_46) (cwV 0 hq (gb_gV w_1330 w_1332 s_3_10 w_14 w_1333) rfl rfl rfl (by decide +kernel) ⟨Nat.le_of_ble_eq_true rfl, Nat.le_of_ble_eq_true rfl⟩) (gb_preV (r := (RX12, TX12, 44)) (ci := 10) (q0 := 0) hSt hP rfl (gb_at b rfl) hS (fun q h => Nat.le_trans hb1 h.1) hP) rfl rfl hl.1 rfl (lv_room (Nat.le_of_ble_eq_true rfl)) dX12_termLine_126 ⟨Nat.le_of_ble_eq_true rfl, Nat.le_of_ble_eq_true rfl⟩) hS (fun _ h => h) (fun _ h => h) (fun H locs hY hk hS => ?_)
      have hP := hY
      obtain ⟨e1, e2, -⟩ := gb_eq3 h
      exact W.vret hx hb hr (fun t ht hW => gb_rv ht (by rw [← e1, ← e2]; exact hP) hS) hS.2.2 dX12_termLine_129
  have L86 : ∀ (f : gb_F) (w : Int64) (v2 : Int32) (v3 : Int32) (v4 : Int32) (H : Heap) (locs : List Loc) (ls : Array Slot), ms_termLine_86 n f w v2 v3 v4 = some (fE, wE, rE) → va_P D vwCl (gb_wl b (gb_MW cT b f w)) H → va_S (gb_fr b 22) s.heap H locs → lv_has ls 5 [(0, .ref (b + 0)), (2, .int v2), (3, .int v3), (4, .int v4)] → W p l e (headSpec (.code yX12_termLine cX12_termLine 5 none :: gb_wA) ({ frames := 5, cells := 0, slots := 0, locals := 117 })).room s m ([.ref (b + 0)]).toArray below meth c H locs 0 0 (MQ below (gb_Qv (fun h => va_P D vwCl (gb_wl b (gb_MW cT b fE wE)) h) (gb_fr b 22)) ([.ref (b + 0)]).toArray s 0 0 (gb_fr b 22)) (F0 m 86 ls []) := by
    clear h hP hS hl ls f w
    intro f w v2 v3 v4 H locs ls h hP hS hl
    unfold ms_termLine_86 at h
    refine lv_iload_n hx hb dX12_termLine_86 rfl (lv_at hl 1 rfl) ?_
    refine lv_iconst (v := 3) hx hb dX12_termLine_87 (by decide) ?_
    refine lv_icmp_ne (tgt := 99) hx hb dX12_termLine_88 (by decide) (fun c_21 => ?_) (fun c_21 => ?_)
    · rw [if_neg c_21] at h
      exact L99 _ _ _ _ _ _ _ _ h hP hS (lv_sub hl [0, 1, 2, 3] rfl)
    · rw [if_pos c_21] at h
      refine lv_aload_n hx hb dX12_termLine_91 rfl (lv_at hl 0 rfl) ?_
      refine lv_iconst (v := 0) hx hb dX12_termLine_92 (by decide) ?_
      refine lv_bipush (v := 99) hx hb dX12_termLine_93 (by decide) ?_
      obtain ⟨f_48, wl_49, r_50, z_51, h⟩ := gb_bd_s h
      refine gb_calli (va_runV (C := RX12) (As := [.int 0, .int 99]) (rest := []) ⟨hx, hb, hml, hown, hq⟩ (mc_numbered l D cT tt b1 b hb1 n f w 0 99 f_48 wl_49 r_50 z_51) (cwV 2 hq (gb_gV w_1322 w_1324 s_3_8 w_14 w_1325) rfl rfl rfl (by decide +kernel) ⟨Nat.le_of_ble_eq_true rfl, Nat.le_of_ble_eq_true rfl⟩) (gb_preV (r := (RX12, TX12, 44)) (ci := 10) (q0 := 0) hSt hP rfl (gb_at b rfl) hS (fun q h => Nat.le_trans hb1 h.1) hP) rfl rfl hl.1 rfl (lv_room (Nat.le_of_ble_eq_true rfl)) dX12_termLine_95 ⟨Nat.le_of_ble_eq_true rfl, Nat.le_of_ble_eq_true rfl⟩) hS (fun _ h => h) (fun _ h => h) (fun q_52 H locs hY hk hS => ?_)
      obtain ⟨hq_52, hP⟩ := hY
      replace hq_52 := hq_52.symm
      subst hq_52
      refine lv_istore_n (lv' := [(3, .int r_50), (0, .ref (b + 0)), (2, .int v2), (4, .int v4)]) hx hb dX12_termLine_98 rfl hl (by decide) rfl (fun ls hl => ?_)
      exact L99 _ _ _ _ _ _ _ _ h hP hS (lv_sub hl [1, 2, 0, 3] rfl)
  have L68 : ∀ (f : gb_F) (w : Int64) (v2 : Int32) (H : Heap) (locs : List Loc) (ls : Array Slot), ms_termLine_68 n f w v2 = some (fE, wE, rE) → va_P D vwCl (gb_wl b (gb_MW cT b f w)) H → va_S (gb_fr b 22) s.heap H locs → lv_has ls 5 [(0, .ref (b + 0)), (2, .int v2)] → W p l e (headSpec (.code yX12_termLine cX12_termLine 5 none :: gb_wA) ({ frames := 5, cells := 0, slots := 0, locals := 117 })).room s m ([.ref (b + 0)]).toArray below meth c H locs 0 0 (MQ below (gb_Qv (fun h => va_P D vwCl (gb_wl b (gb_MW cT b fE wE)) h) (gb_fr b 22)) ([.ref (b + 0)]).toArray s 0 0 (gb_fr b 22)) (F0 m 68 ls []) := by
    clear h hP hS hl ls f w
    intro f w v2 H locs ls h hP hS hl
    unfold ms_termLine_68 at h
    refine lv_aload_n hx hb dX12_termLine_68 rfl (lv_at hl 0 rfl) ?_
    refine lv_iconst (v := 0) hx hb dX12_termLine_69 (by decide) ?_
    refine lv_sipush (v := 999) hx hb dX12_termLine_70 (by decide) ?_
    obtain ⟨f_11, wl_12, r_13, z_14, h⟩ := gb_bd_s h
    refine gb_calli (va_runV (C := RX12) (As := [.int 0, .int 999]) (rest := []) ⟨hx, hb, hml, hown, hq⟩ (mc_numbered l D cT tt b1 b hb1 n f w 0 999 f_11 wl_12 r_13 z_14) (cwV 2 hq (gb_gV w_1322 w_1324 s_3_8 w_14 w_1325) rfl rfl rfl (by decide +kernel) ⟨Nat.le_of_ble_eq_true rfl, Nat.le_of_ble_eq_true rfl⟩) (gb_preV (r := (RX12, TX12, 44)) (ci := 10) (q0 := 0) hSt hP rfl (gb_at b rfl) hS (fun q h => Nat.le_trans hb1 h.1) hP) rfl rfl hl.1 rfl (lv_room (Nat.le_of_ble_eq_true rfl)) dX12_termLine_73 ⟨Nat.le_of_ble_eq_true rfl, Nat.le_of_ble_eq_true rfl⟩) hS (fun _ h => h) (fun _ h => h) (fun q_15 H locs hY hk hS => ?_)
    obtain ⟨hq_15, hP⟩ := hY
    replace hq_15 := hq_15.symm
    subst hq_15
    refine lv_istore_n (lv' := [(3, .int r_13), (0, .ref (b + 0)), (2, .int v2)]) hx hb dX12_termLine_76 rfl hl (by decide) rfl (fun ls hl => ?_)
    refine lv_aload_n hx hb dX12_termLine_77 rfl (lv_at hl 1 rfl) ?_
    refine lv_iconst (v := 0) hx hb dX12_termLine_78 (by decide) ?_
    refine lv_bipush (v := 99) hx hb dX12_termLine_79 (by decide) ?_
    obtain ⟨f_16, wl_17, r_18, z_19, h⟩ := gb_bd_s h
    refine gb_calli (va_runV (C := RX12) (As := [.int 0, .int 99]) (rest := []) ⟨hx, hb, hml, hown, hq⟩ (mc_numbered l D cT tt b1 b hb1 n f_11 wl_12 0 99 f_16 wl_17 r_18 z_19) (cwV 2 hq (gb_gV w_1322 w_1324 s_3_8 w_14 w_1325) rfl rfl rfl (by decide +kernel) ⟨Nat.le_of_ble_eq_true rfl, Nat.le_of_ble_eq_true rfl⟩) (gb_preV (r := (RX12, TX12, 44)) (ci := 10) (q0 := 0) hSt hP rfl (gb_at b rfl) hS (fun q h => Nat.le_trans hb1 h.1) hP) rfl rfl hl.1 rfl (lv_room (Nat.le_of_ble_eq_true rfl)) dX12_termLine_81 ⟨Nat.le_of_ble_eq_true rfl, Nat.le_of_ble_eq_true rfl⟩) hS (fun _ h => h) (fun _ h => h) (fun q_20 H locs hY hk hS => ?_)
    obtain ⟨hq_20, hP⟩ := hY
    replace hq_20 := hq_20.symm
    subst hq_20
    refine lv_istore (lv' := [(4, .int r_18), (3, .int r_13), (0, .ref (b + 0)), (2, .int v2)]) hx hb dX12_termLine_84 hl (by decide) rfl (fun ls hl => ?_)
    exact L86 _ _ _ _ _ _ _ _ h hP hS (lv_sub hl [2, 3, 1, 0] rfl)
  have L58 : ∀ (f : gb_F) (w : Int64) (v2 : Int32) (v3 : Int32) (v4 : Int32) (H : Heap) (locs : List Loc) (ls : Array Slot), ms_termLine_58 n f w v2 v3 v4 = some (fE, wE, rE) → va_P D vwCl (gb_wl b (gb_MW cT b f w)) H → va_S (gb_fr b 22) s.heap H locs → lv_has ls 5 [(0, .ref (b + 0)), (2, .int v2), (3, .int v3), (4, .int v4)] → W p l e (headSpec (.code yX12_termLine cX12_termLine 5 none :: gb_wA) ({ frames := 5, cells := 0, slots := 0, locals := 117 })).room s m ([.ref (b + 0)]).toArray below meth c H locs 0 0 (MQ below (gb_Qv (fun h => va_P D vwCl (gb_wl b (gb_MW cT b fE wE)) h) (gb_fr b 22)) ([.ref (b + 0)]).toArray s 0 0 (gb_fr b 22)) (F0 m 58 ls []) := by
    clear h hP hS hl ls f w
    intro f w v2 v3 v4 H locs ls h hP hS hl
    unfold ms_termLine_58 at h
    refine lv_iload_n hx hb dX12_termLine_58 rfl (lv_at hl 1 rfl) ?_
    refine lv_iconst (v := 1) hx hb dX12_termLine_59 (by decide) ?_
    refine lv_icmp_eq (tgt := 68) hx hb dX12_termLine_60 (by decide) (fun c_10 => ?_) (fun c_10 => ?_)
    · rw [if_pos c_10] at h
      exact L68 _ _ _ _ _ _ h hP hS (lv_sub hl [0, 1] rfl)
    · rw [if_neg c_10] at h
      refine lv_iload_n hx hb dX12_termLine_63 rfl (lv_at hl 1 rfl) ?_
      refine lv_iconst (v := 2) hx hb dX12_termLine_64 (by decide) ?_
      refine lv_icmp_ne (tgt := 86) hx hb dX12_termLine_65 (by decide) (fun c_53 => ?_) (fun c_53 => ?_)
      · rw [if_neg c_53] at h
        exact L86 _ _ _ _ _ _ _ _ h hP hS (lv_sub hl [0, 1, 2, 3] rfl)
      · rw [if_pos c_53] at h
        exact L68 _ _ _ _ _ _ h hP hS (lv_sub hl [0, 1] rfl)
  have L41 : ∀ (f : gb_F) (w : Int64) (v2 : Int32) (H : Heap) (locs : List Loc) (ls : Array Slot), ms_termLine_41 n f w v2 = some (fE, wE, rE) → va_P D vwCl (gb_wl b (gb_MW cT b f w)) H → va_S (gb_fr b 22) s.heap H locs → lv_has ls 5 [(0, .ref (b + 0)), (2, .int v2)] → W p l e (headSpec (.code yX12_termLine cX12_termLine 5 none :: gb_wA) ({ frames := 5, cells := 0, slots := 0, locals := 117 })).room s m ([.ref (b + 0)]).toArray below meth c H locs 0 0 (MQ below (gb_Qv (fun h => va_P D vwCl (gb_wl b (gb_MW cT b fE wE)) h) (gb_fr b 22)) ([.ref (b + 0)]).toArray s 0 0 (gb_fr b 22)) (F0 m 41 ls []) := by
    clear h hP hS hl ls f w
    intro f w v2 H locs ls h hP hS hl
    unfold ms_termLine_41 at h
    refine lv_iconst (v := (-1)) hx hb dX12_termLine_41 (by decide) ?_
    refine lv_istore_n (lv' := [(3, .int (-1)), (0, .ref (b + 0)), (2, .int v2)]) hx hb dX12_termLine_42 rfl hl (by decide) rfl (fun ls hl => ?_)
    refine lv_iconst (v := (-1)) hx hb dX12_termLine_43 (by decide) ?_
    refine lv_istore (lv' := [(4, .int (-1)), (3, .int (-1)), (0, .ref (b + 0)), (2, .int v2)]) hx hb dX12_termLine_44 hl (by decide) rfl (fun ls hl => ?_)
    refine lv_iload_n hx hb dX12_termLine_46 rfl (lv_at hl 3 rfl) ?_
    refine lv_if_ne (tgt := 58) hx hb dX12_termLine_47 (by decide) (fun c_9 => ?_) (fun c_9 => ?_)
    · rw [if_neg c_9] at h
      exact L58 _ _ _ _ _ _ _ _ h hP hS (lv_sub hl [2, 3, 1, 0] rfl)
    · rw [if_pos c_9] at h
      refine lv_aload_n hx hb dX12_termLine_50 rfl (lv_at hl 2 rfl) ?_
      refine lv_iconst (v := 0) hx hb dX12_termLine_51 (by decide) ?_
      refine lv_bipush (v := 9) hx hb dX12_termLine_52 (by decide) ?_
      obtain ⟨f_54, wl_55, r_56, z_57, h⟩ := gb_bd_s h
      refine gb_calli (va_runV (C := RX12) (As := [.int 0, .int 9]) (rest := []) ⟨hx, hb, hml, hown, hq⟩ (mc_numbered l D cT tt b1 b hb1 n f w 0 9 f_54 wl_55 r_56 z_57) (cwV 2 hq (gb_gV w_1322 w_1324 s_3_8 w_14 w_1325) rfl rfl rfl (by decide +kernel) ⟨Nat.le_of_ble_eq_true rfl, Nat.le_of_ble_eq_true rfl⟩) (gb_preV (r := (RX12, TX12, 44)) (ci := 10) (q0 := 0) hSt hP rfl (gb_at b rfl) hS (fun q h => Nat.le_trans hb1 h.1) hP) rfl rfl hl.1 rfl (lv_room (Nat.le_of_ble_eq_true rfl)) dX12_termLine_54 ⟨Nat.le_of_ble_eq_true rfl, Nat.le_of_ble_eq_true rfl⟩) hS (fun _ h => h) (fun _ h => h) (fun q_58 H locs hY hk hS => ?_)
      obtain ⟨hq_58, hP⟩ := hY
      replace hq_58 := hq_58.symm
      subst hq_58
      refine lv_istore_n (lv' := [(3, .int r_56), (4, .int (-1)), (0, .ref (b + 0)), (2, .int v2)]) hx hb dX12_termLine_57 rfl hl (by decide) rfl (fun ls hl => ?_)
      exact L58 _ _ _ _ _ _ _ _ h hP hS (lv_sub hl [2, 3, 0, 1] rfl)
  unfold ms_termLine at h
  refine lv_aload_n hx hb dX12_termLine_0 rfl (lv_at hl 0 rfl) ?_
  refine va_get (ci := 10) (v := (.int (f 0 4))) (C := RX12) (T := TX12) (N := 44) hx hb hq i_X12 hown hK hP 0 (gb_at b rfl) rfl 4 (by decide) (hq _ w_1128) (fun _ h9 => h9) rfl dX12_termLine_1 ?_
  refine lv_topi (fun x_1 ex_1 => ?_)
  replace h := gb_lt_s ex_1 h
  refine lv_istore_n (lv' := [(1, .int x_1), (0, .ref (b + 0))]) hx hb dX12_termLine_4 rfl hl (by decide) rfl (fun ls hl => ?_)
  refine lv_aload_n hx hb dX12_termLine_5 rfl (lv_at hl 1 rfl) ?_
  refine lv_bipush (v := 13) hx hb dX12_termLine_6 (by decide) ?_
  refine lv_bipush (v := 17) hx hb dX12_termLine_8 (by decide) ?_
  obtain ⟨f_2, wl_3, r_4, z_5, h⟩ := gb_bd_s h
  refine gb_calli (va_runV (C := RX12) (As := [.int 13, .int 17]) (rest := []) ⟨hx, hb, hml, hown, hq⟩ (mc_takes l D cT tt b1 b hb1 n f w 13 17 f_2 wl_3 r_4 z_5) (cwV 2 hq (gb_gV w_1306 w_1308 s_3_4 w_14 w_1309) rfl rfl rfl (by decide +kernel) ⟨Nat.le_of_ble_eq_true rfl, Nat.le_of_ble_eq_true rfl⟩) (gb_preV (r := (RX12, TX12, 44)) (ci := 10) (q0 := 0) hSt hP rfl (gb_at b rfl) hS (fun q h => Nat.le_trans hb1 h.1) hP) rfl rfl hl.1 rfl (lv_room (Nat.le_of_ble_eq_true rfl)) dX12_termLine_10 ⟨Nat.le_of_ble_eq_true rfl, Nat.le_of_ble_eq_true rfl⟩) hS (fun _ h => h) (fun _ h => h) (fun q_6 H locs hY hk hS => ?_)
  obtain ⟨hq_6, hP⟩ := hY
  replace hq_6 := hq_6.symm
  subst hq_6
  refine lv_bipush (v := 13) hx hb dX12_termLine_13 (by decide) ?_
  refine lv_isub hx hb dX12_termLine_15 ?_
  refine lv_topi (fun x_7 ex_7 => ?_)
  replace h := gb_lt_s ex_7 h
  refine lv_istore_n (lv' := [(2, .int x_7), (1, .int x_1), (0, .ref (b + 0))]) hx hb dX12_termLine_16 rfl hl (by decide) rfl (fun ls hl => ?_)
  refine lv_aload_n hx hb dX12_termLine_17 rfl (lv_at hl 2 rfl) ?_
  refine va_get (ci := 10) (v := (.int (f_2 0 8))) (C := RX12) (T := TX12) (N := 44) hx hb hq i_X12 hown hK hP 0 (gb_at b rfl) rfl 8 (by decide) (hq _ w_1132) (fun _ h9 => h9) rfl dX12_termLine_18 ?_
  refine lv_if_ne (tgt := 41) hx hb dX12_termLine_21 (by decide) (fun c_8 => ?_) (fun c_8 => ?_)
  · rw [if_neg c_8] at h
    exact L41 _ _ _ _ _ _ h hP hS (lv_sub hl [2, 0] rfl)
  · rw [if_pos c_8] at h
    refine lv_aload_n hx hb dX12_termLine_24 rfl (lv_at hl 2 rfl) ?_
    refine va_get (ci := 10) (v := (.ref (b + 3))) (C := RX12) (T := TX12) (N := 44) hx hb hq i_X12 hown hK hP 0 (gb_at b rfl) rfl 10 (by decide) (hq _ w_1134) (fun _ h9 => h9) rfl dX12_termLine_25 ?_
    refine lv_iconst (v := 0) hx hb dX12_termLine_28 (by decide) ?_
    refine va_iald hx hb hK hP 3 0 (gb_at b rfl) rfl (gb_in rfl) dX12_termLine_29 ?_
    refine lv_topi (fun x_59 ex_59 => ?_)
    replace h := gb_lt_s ex_59 h
    refine lv_bipush (v := 8) hx hb dX12_termLine_30 (by decide) ?_
    refine lv_icmp_lt (tgt := 41) hx hb dX12_termLine_32 (by decide) (fun c_60 => ?_) (fun c_60 => ?_)
    · rw [if_pos c_60] at h
      exact L41 _ _ _ _ _ _ h hP hS (lv_sub hl [2, 0] rfl)
    · rw [if_neg c_60] at h
      refine lv_aload_n hx hb dX12_termLine_35 rfl (lv_at hl 2 rfl) ?_
      refine lv_iconst (v := 3) hx hb dX12_termLine_36 (by decide) ?_
      refine lv_iload_n hx hb dX12_termLine_37 rfl (lv_at hl 1 rfl) ?_
      obtain ⟨f_61, wl_62, r_63, z_64, h⟩ := gb_bd_s h
      refine gb_callv (va_runV (C := RX12) (As := [.int 3, .int x_1]) (rest := []) ⟨hx, hb, hml, hown, hq⟩ (mc_also l D cT tt b1 b hb1 n f_2 wl_3 3 x_1 f_61 wl_62 r_63 z_64) (cwV 2 hq (gb_gV w_1318 w_1320 s_3_7 w_14 w_1321) rfl rfl rfl (by decide +kernel) ⟨Nat.le_of_ble_eq_true rfl, Nat.le_of_ble_eq_true rfl⟩) (gb_preV (r := (RX12, TX12, 44)) (ci := 10) (q0 := 0) hSt hP rfl (gb_at b rfl) hS (fun q h => Nat.le_trans hb1 h.1) hP) rfl rfl hl.1 rfl (lv_room (Nat.le_of_ble_eq_true rfl)) dX12_termLine_38 ⟨Nat.le_of_ble_eq_true rfl, Nat.le_of_ble_eq_true rfl⟩) hS (fun _ h => h) (fun _ h => h) (fun H locs hY hk hS => ?_)
      have hP := hY
      exact L41 _ _ _ _ _ _ h hP hS (lv_sub hl [2, 0] rfl)
