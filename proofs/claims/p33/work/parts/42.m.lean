theorem dX12_seenLine_0 : decode cX12_seenLine 0 = .ok (.aload_n 0, 1) := dc_42 (show ((cX12_seenLine.data.toList.drop 0).take 1).map UInt8.toNat = [42] by decide +kernel)
theorem dX12_seenLine_1 : decode cX12_seenLine 1 = .ok (.getfield 95, 3) := dc_180 (show ((cX12_seenLine.data.toList.drop 1).take 3).map UInt8.toNat = [180, 0, 95] by decide +kernel) rfl
theorem dX12_seenLine_4 : decode cX12_seenLine 4 = .ok (.istore_n 1, 1) := dc_60 (show ((cX12_seenLine.data.toList.drop 4).take 1).map UInt8.toNat = [60] by decide +kernel)
theorem dX12_seenLine_5 : decode cX12_seenLine 5 = .ok (.aload_n 0, 1) := dc_42 (show ((cX12_seenLine.data.toList.drop 5).take 1).map UInt8.toNat = [42] by decide +kernel)
theorem dX12_seenLine_6 : decode cX12_seenLine 6 = .ok (.bipush 18, 2) := dc_16 (show ((cX12_seenLine.data.toList.drop 6).take 2).map UInt8.toNat = [16, 18] by decide +kernel) rfl
theorem dX12_seenLine_8 : decode cX12_seenLine 8 = .ok (.bipush 18, 2) := dc_16 (show ((cX12_seenLine.data.toList.drop 8).take 2).map UInt8.toNat = [16, 18] by decide +kernel) rfl
theorem dX12_seenLine_10 : decode cX12_seenLine 10 = .ok (.invokevirtual 144, 3) := dc_182 (show ((cX12_seenLine.data.toList.drop 10).take 3).map UInt8.toNat = [182, 0, 144] by decide +kernel) rfl
theorem dX12_seenLine_13 : decode cX12_seenLine 13 = .ok (.pop, 1) := dc_87 (show ((cX12_seenLine.data.toList.drop 13).take 1).map UInt8.toNat = [87] by decide +kernel)
theorem dX12_seenLine_14 : decode cX12_seenLine 14 = .ok (.aload_n 0, 1) := dc_42 (show ((cX12_seenLine.data.toList.drop 14).take 1).map UInt8.toNat = [42] by decide +kernel)
theorem dX12_seenLine_15 : decode cX12_seenLine 15 = .ok (.getfield 122, 3) := dc_180 (show ((cX12_seenLine.data.toList.drop 15).take 3).map UInt8.toNat = [180, 0, 122] by decide +kernel) rfl
theorem dX12_seenLine_18 : decode cX12_seenLine 18 = .ok (.ifCond .ne 19, 3) := dc_154 (show ((cX12_seenLine.data.toList.drop 18).take 3).map UInt8.toNat = [154, 0, 19] by decide +kernel) rfl
theorem dX12_seenLine_37 : decode cX12_seenLine 37 = .ok (.aload_n 0, 1) := dc_42 (show ((cX12_seenLine.data.toList.drop 37).take 1).map UInt8.toNat = [42] by decide +kernel)
theorem dX12_seenLine_38 : decode cX12_seenLine 38 = .ok (.invokevirtual 161, 3) := dc_182 (show ((cX12_seenLine.data.toList.drop 38).take 3).map UInt8.toNat = [182, 0, 161] by decide +kernel) rfl
theorem dX12_seenLine_41 : decode cX12_seenLine 41 = .ok (.istore_n 2, 1) := dc_61 (show ((cX12_seenLine.data.toList.drop 41).take 1).map UInt8.toNat = [61] by decide +kernel)
theorem dX12_seenLine_42 : decode cX12_seenLine 42 = .ok (.aload_n 0, 1) := dc_42 (show ((cX12_seenLine.data.toList.drop 42).take 1).map UInt8.toNat = [42] by decide +kernel)
theorem dX12_seenLine_43 : decode cX12_seenLine 43 = .ok (.iconst 0, 1) := dc_3 (show ((cX12_seenLine.data.toList.drop 43).take 1).map UInt8.toNat = [3] by decide +kernel)
theorem dX12_seenLine_44 : decode cX12_seenLine 44 = .ok (.sipush 999, 3) := dc_17 (show ((cX12_seenLine.data.toList.drop 44).take 3).map UInt8.toNat = [17, 3, 231] by decide +kernel) rfl
theorem dX12_seenLine_47 : decode cX12_seenLine 47 = .ok (.invokevirtual 140, 3) := dc_182 (show ((cX12_seenLine.data.toList.drop 47).take 3).map UInt8.toNat = [182, 0, 140] by decide +kernel) rfl
theorem dX12_seenLine_50 : decode cX12_seenLine 50 = .ok (.istore_n 3, 1) := dc_62 (show ((cX12_seenLine.data.toList.drop 50).take 1).map UInt8.toNat = [62] by decide +kernel)
theorem dX12_seenLine_51 : decode cX12_seenLine 51 = .ok (.iconst 0, 1) := dc_3 (show ((cX12_seenLine.data.toList.drop 51).take 1).map UInt8.toNat = [3] by decide +kernel)
theorem dX12_seenLine_52 : decode cX12_seenLine 52 = .ok (.istore 4, 2) := dc_54 (show ((cX12_seenLine.data.toList.drop 52).take 2).map UInt8.toNat = [54, 4] by decide +kernel) rfl
theorem dX12_seenLine_54 : decode cX12_seenLine 54 = .ok (.iload 4, 2) := dc_21 (show ((cX12_seenLine.data.toList.drop 54).take 2).map UInt8.toNat = [21, 4] by decide +kernel) rfl
theorem dX12_seenLine_56 : decode cX12_seenLine 56 = .ok (.aload_n 0, 1) := dc_42 (show ((cX12_seenLine.data.toList.drop 56).take 1).map UInt8.toNat = [42] by decide +kernel)
theorem dX12_seenLine_57 : decode cX12_seenLine 57 = .ok (.getfield 17, 3) := dc_180 (show ((cX12_seenLine.data.toList.drop 57).take 3).map UInt8.toNat = [180, 0, 17] by decide +kernel) rfl
theorem dX12_seenLine_60 : decode cX12_seenLine 60 = .ok (.iconst 0, 1) := dc_3 (show ((cX12_seenLine.data.toList.drop 60).take 1).map UInt8.toNat = [3] by decide +kernel)
theorem dX12_seenLine_61 : decode cX12_seenLine 61 = .ok (.iaload, 1) := dc_46 (show ((cX12_seenLine.data.toList.drop 61).take 1).map UInt8.toNat = [46] by decide +kernel)
theorem dX12_seenLine_62 : decode cX12_seenLine 62 = .ok (.if_icmp .ge 40, 3) := dc_162 (show ((cX12_seenLine.data.toList.drop 62).take 3).map UInt8.toNat = [162, 0, 40] by decide +kernel) rfl
theorem dX12_seenLine_102 : decode cX12_seenLine 102 = .ok (.aload_n 0, 1) := dc_42 (show ((cX12_seenLine.data.toList.drop 102).take 1).map UInt8.toNat = [42] by decide +kernel)
theorem dX12_seenLine_103 : decode cX12_seenLine 103 = .ok (.iconst 5, 1) := dc_8 (show ((cX12_seenLine.data.toList.drop 103).take 1).map UInt8.toNat = [8] by decide +kernel)
theorem dX12_seenLine_104 : decode cX12_seenLine 104 = .ok (.iconst 2, 1) := dc_5 (show ((cX12_seenLine.data.toList.drop 104).take 1).map UInt8.toNat = [5] by decide +kernel)
theorem dX12_seenLine_105 : decode cX12_seenLine 105 = .ok (.iload_n 2, 1) := dc_28 (show ((cX12_seenLine.data.toList.drop 105).take 1).map UInt8.toNat = [28] by decide +kernel)
theorem dX12_seenLine_106 : decode cX12_seenLine 106 = .ok (.iload_n 3, 1) := dc_29 (show ((cX12_seenLine.data.toList.drop 106).take 1).map UInt8.toNat = [29] by decide +kernel)
theorem dX12_seenLine_107 : decode cX12_seenLine 107 = .ok (.iconst (-1), 1) := dc_2 (show ((cX12_seenLine.data.toList.drop 107).take 1).map UInt8.toNat = [2] by decide +kernel)
theorem dX12_seenLine_108 : decode cX12_seenLine 108 = .ok (.iconst (-1), 1) := dc_2 (show ((cX12_seenLine.data.toList.drop 108).take 1).map UInt8.toNat = [2] by decide +kernel)
theorem dX12_seenLine_109 : decode cX12_seenLine 109 = .ok (.invokevirtual 164, 3) := dc_182 (show ((cX12_seenLine.data.toList.drop 109).take 3).map UInt8.toNat = [182, 0, 164] by decide +kernel) rfl
theorem dX12_seenLine_112 : decode cX12_seenLine 112 = .ok (.aload_n 0, 1) := dc_42 (show ((cX12_seenLine.data.toList.drop 112).take 1).map UInt8.toNat = [42] by decide +kernel)
theorem dX12_seenLine_113 : decode cX12_seenLine 113 = .ok (.invokevirtual 154, 3) := dc_182 (show ((cX12_seenLine.data.toList.drop 113).take 3).map UInt8.toNat = [182, 0, 154] by decide +kernel) rfl
theorem dX12_seenLine_116 : decode cX12_seenLine 116 = .ok (.return_, 1) := dc_177 (show ((cX12_seenLine.data.toList.drop 116).take 1).map UInt8.toNat = [177] by decide +kernel)
theorem dX12_seenLine_65 : decode cX12_seenLine 65 = .ok (.aload_n 0, 1) := dc_42 (show ((cX12_seenLine.data.toList.drop 65).take 1).map UInt8.toNat = [42] by decide +kernel)
theorem dX12_seenLine_66 : decode cX12_seenLine 66 = .ok (.aload_n 0, 1) := dc_42 (show ((cX12_seenLine.data.toList.drop 66).take 1).map UInt8.toNat = [42] by decide +kernel)
theorem dX12_seenLine_67 : decode cX12_seenLine 67 = .ok (.getfield 168, 3) := dc_180 (show ((cX12_seenLine.data.toList.drop 67).take 3).map UInt8.toNat = [180, 0, 168] by decide +kernel) rfl
theorem w_1133 : (Cond.fieldLink "GooseBorderModel" (168 : Nat) "GooseBorderModel" "twice" "Z") ∈ gb_wA := gb_t5 173 rfl rfl
theorem dX12_seenLine_70 : decode cX12_seenLine 70 = .ok (.ifCond .ne 18, 3) := dc_154 (show ((cX12_seenLine.data.toList.drop 70).take 3).map UInt8.toNat = [154, 0, 18] by decide +kernel) rfl
theorem dX12_seenLine_88 : decode cX12_seenLine 88 = .ok (.iconst 1, 1) := dc_4 (show ((cX12_seenLine.data.toList.drop 88).take 1).map UInt8.toNat = [4] by decide +kernel)
theorem dX12_seenLine_89 : decode cX12_seenLine 89 = .ok (.goto 4, 3) := dc_167 (show ((cX12_seenLine.data.toList.drop 89).take 3).map UInt8.toNat = [167, 0, 4] by decide +kernel) rfl
theorem dX12_seenLine_93 : decode cX12_seenLine 93 = .ok (.putfield 168, 3) := dc_181 (show ((cX12_seenLine.data.toList.drop 93).take 3).map UInt8.toNat = [181, 0, 168] by decide +kernel) rfl
theorem dX12_seenLine_96 : decode cX12_seenLine 96 = .ok (.iinc 4 1, 3) := dc_132 (show ((cX12_seenLine.data.toList.drop 96).take 3).map UInt8.toNat = [132, 4, 1] by decide +kernel) rfl
theorem dX12_seenLine_99 : decode cX12_seenLine 99 = .ok (.goto (-45), 3) := dc_167 (show ((cX12_seenLine.data.toList.drop 99).take 3).map UInt8.toNat = [167, 255, 211] by decide +kernel) rfl
theorem dX12_seenLine_73 : decode cX12_seenLine 73 = .ok (.aload_n 0, 1) := dc_42 (show ((cX12_seenLine.data.toList.drop 73).take 1).map UInt8.toNat = [42] by decide +kernel)
theorem dX12_seenLine_74 : decode cX12_seenLine 74 = .ok (.getfield 17, 3) := dc_180 (show ((cX12_seenLine.data.toList.drop 74).take 3).map UInt8.toNat = [180, 0, 17] by decide +kernel) rfl
theorem dX12_seenLine_77 : decode cX12_seenLine 77 = .ok (.iconst 1, 1) := dc_4 (show ((cX12_seenLine.data.toList.drop 77).take 1).map UInt8.toNat = [4] by decide +kernel)
theorem dX12_seenLine_78 : decode cX12_seenLine 78 = .ok (.iconst 2, 1) := dc_5 (show ((cX12_seenLine.data.toList.drop 78).take 1).map UInt8.toNat = [5] by decide +kernel)
theorem dX12_seenLine_79 : decode cX12_seenLine 79 = .ok (.iload 4, 2) := dc_21 (show ((cX12_seenLine.data.toList.drop 79).take 2).map UInt8.toNat = [21, 4] by decide +kernel) rfl
theorem dX12_seenLine_81 : decode cX12_seenLine 81 = .ok (.imul, 1) := dc_104 (show ((cX12_seenLine.data.toList.drop 81).take 1).map UInt8.toNat = [104] by decide +kernel)
theorem dX12_seenLine_82 : decode cX12_seenLine 82 = .ok (.iadd, 1) := dc_96 (show ((cX12_seenLine.data.toList.drop 82).take 1).map UInt8.toNat = [96] by decide +kernel)
theorem dX12_seenLine_83 : decode cX12_seenLine 83 = .ok (.iaload, 1) := dc_46 (show ((cX12_seenLine.data.toList.drop 83).take 1).map UInt8.toNat = [46] by decide +kernel)
theorem dX12_seenLine_84 : decode cX12_seenLine 84 = .ok (.iload_n 2, 1) := dc_28 (show ((cX12_seenLine.data.toList.drop 84).take 1).map UInt8.toNat = [28] by decide +kernel)
theorem dX12_seenLine_85 : decode cX12_seenLine 85 = .ok (.if_icmp .ne 7, 3) := dc_160 (show ((cX12_seenLine.data.toList.drop 85).take 3).map UInt8.toNat = [160, 0, 7] by decide +kernel) rfl
theorem dX12_seenLine_92 : decode cX12_seenLine 92 = .ok (.iconst 0, 1) := dc_3 (show ((cX12_seenLine.data.toList.drop 92).take 1).map UInt8.toNat = [3] by decide +kernel)
theorem dX12_seenLine_21 : decode cX12_seenLine 21 = .ok (.aload_n 0, 1) := dc_42 (show ((cX12_seenLine.data.toList.drop 21).take 1).map UInt8.toNat = [42] by decide +kernel)
theorem dX12_seenLine_22 : decode cX12_seenLine 22 = .ok (.getfield 17, 3) := dc_180 (show ((cX12_seenLine.data.toList.drop 22).take 3).map UInt8.toNat = [180, 0, 17] by decide +kernel) rfl
theorem dX12_seenLine_25 : decode cX12_seenLine 25 = .ok (.iconst 0, 1) := dc_3 (show ((cX12_seenLine.data.toList.drop 25).take 1).map UInt8.toNat = [3] by decide +kernel)
theorem dX12_seenLine_26 : decode cX12_seenLine 26 = .ok (.iaload, 1) := dc_46 (show ((cX12_seenLine.data.toList.drop 26).take 1).map UInt8.toNat = [46] by decide +kernel)
theorem dX12_seenLine_27 : decode cX12_seenLine 27 = .ok (.iconst 5, 1) := dc_8 (show ((cX12_seenLine.data.toList.drop 27).take 1).map UInt8.toNat = [8] by decide +kernel)
theorem dX12_seenLine_28 : decode cX12_seenLine 28 = .ok (.if_icmp .lt 9, 3) := dc_161 (show ((cX12_seenLine.data.toList.drop 28).take 3).map UInt8.toNat = [161, 0, 9] by decide +kernel) rfl
theorem dX12_seenLine_31 : decode cX12_seenLine 31 = .ok (.aload_n 0, 1) := dc_42 (show ((cX12_seenLine.data.toList.drop 31).take 1).map UInt8.toNat = [42] by decide +kernel)
theorem dX12_seenLine_32 : decode cX12_seenLine 32 = .ok (.iconst 3, 1) := dc_6 (show ((cX12_seenLine.data.toList.drop 32).take 1).map UInt8.toNat = [6] by decide +kernel)
theorem dX12_seenLine_33 : decode cX12_seenLine 33 = .ok (.iload_n 1, 1) := dc_27 (show ((cX12_seenLine.data.toList.drop 33).take 1).map UInt8.toNat = [27] by decide +kernel)
theorem dX12_seenLine_34 : decode cX12_seenLine 34 = .ok (.invokevirtual 133, 3) := dc_182 (show ((cX12_seenLine.data.toList.drop 34).take 3).map UInt8.toNat = [182, 0, 133] by decide +kernel) rfl
def ms_seenLine_54 (n : Nat) : Nat → gb_F → Int64 → Int32 → Int32 → Int32 → gb_MR Unit
  | 0, _, _, _, _, _ => none
  | mm + 1, f, w, v2, v3, v4 => gb_lt (f 3 (Int32.toNatClampNeg 0)) (fun x_18 => (if x_18 ≤ v4 then gb_bd (ms_adds n f w 5 2 v2 v3 (-1) (-1)) (fun f_20 wl_21 _ => gb_bd (ms_endsLine n f_20 wl_21) (fun f_25 wl_26 _ => some (f_25, wl_26, ()))) else (if (f 0 9) = 0 then gb_ck (1 + (2 * v4)) 97 (gb_lt (f 3 (Int32.toNatClampNeg (1 + (2 * v4)))) (fun x_34 => (if x_34 = v2 then gb_lt (gb_u f 0 (upd (f 0) 9 1)) (fun f_38 => gb_lt (v4 + 1) (fun x_39 => ms_seenLine_54 n mm f_38 w v2 v3 x_39)) else gb_lt (gb_u f 0 (upd (f 0) 9 0)) (fun f_36 => gb_lt (v4 + 1) (fun x_37 => ms_seenLine_54 n mm f_36 w v2 v3 x_37))))) else gb_lt (gb_u f 0 (upd (f 0) 9 1)) (fun f_31 => gb_lt (v4 + 1) (fun x_32 => ms_seenLine_54 n mm f_31 w v2 v3 x_32)))))
def ms_seenLine (n : Nat) (f : gb_F) (w : Int64) : gb_MR Unit := gb_lt (f 0 4) (fun x_1 => gb_bd (ms_takes n f w 18 18) (fun f_2 wl_3 r_4 => (if (f_2 0 8) = 0 then gb_lt (f_2 3 (Int32.toNatClampNeg 0)) (fun x_40 => (if x_40 < 5 then gb_bd (ms_pathTold n f_2 wl_3) (fun f_42 wl_43 r_44 => gb_bd (ms_numbered n f_42 wl_43 0 999) (fun f_47 wl_48 r_49 => ms_seenLine_54 n n f_47 wl_48 r_44 r_49 0)) else gb_bd (ms_also n f_2 wl_3 3 x_1) (fun f_52 wl_53 _ => gb_bd (ms_pathTold n f_52 wl_53) (fun f_57 wl_58 r_59 => gb_bd (ms_numbered n f_57 wl_58 0 999) (fun f_62 wl_63 r_64 => ms_seenLine_54 n n f_62 wl_63 r_59 r_64 0))))) else gb_bd (ms_pathTold n f_2 wl_3) (fun f_8 wl_9 r_10 => gb_bd (ms_numbered n f_8 wl_9 0 999) (fun f_13 wl_14 r_15 => ms_seenLine_54 n n f_13 wl_14 r_10 r_15 0)))))
set_option maxHeartbeats 8000000 in
set_option maxRecDepth 100000 in
theorem mc_seenLine (l : Launch) (D : va_G) (cT : Nat → ClassId) (tt : Nat → Nat) (b1 b : Nat) (hb1 : b1 ≤ b) (n : Nat) (f : gb_F) (w : Int64) (fE : gb_F) (wE : Int64) (rE : Unit) (h : ms_seenLine n f w = some (fE, wE, rE)) : Met l yX12_seenLine (.code yX12_seenLine cX12_seenLine 5 none :: gb_wA) ({ frames := 6, cells := 0, slots := 0, locals := 137 }) (gb_Pc D cT tt b1 [.ref (b + 0)] (fun h => va_P D vwCl (gb_wl b (gb_MW cT b f w)) h)) (gb_Qv (fun h => va_P D vwCl (gb_wl b (gb_MW cT b fE wE)) h) (gb_fr b 22)) 0 0 (gb_fr b 22) := by
  refine Met.ofW (cc := cX12_seenLine) (maxL := 5) (ret := none) (by decide) rfl ?_
  intro p e s m args below meth c s₁ B hml hv
  obtain ⟨rfl, hSt, hP⟩ := hv
  have hx := B.exec
  have hb := B.bytes
  have hr := B.returns
  have hts := atoms_spec (ws := .code yX12_seenLine cX12_seenLine 5 none :: gb_wA) B.pre
  have hq : ∀ w ∈ gb_wA, w.before _ s = true := fun w h => hts w (List.mem_cons_of_mem _ h)
  have hown : s.vm.findClass RX12 = some m.cls := findClass_of_methodNamed B.named
  have hlocks := B.notSynchronized
  clear B hts
  have hK := hSt.1
  have hS : va_S (gb_fr b 22) s.heap s.heap [] := va_S.rf
  have hl := lv_entry ([.ref (b + 0)]) (n := 5) (Nat.le_of_ble_eq_true rfl)
  rw [lg_entry_eq]
  generalize (lg_sl ([.ref (b + 0)]) ++ List.replicate (5 - (lg_sl ([.ref (b + 0)])).length) Slot.unset).toArray = ls at hl ⊢
  replace hl : lv_has ls 5 [(0, .ref (b + 0))] := hl
  have L54 : ∀ (mm : Nat) (f : gb_F) (w : Int64) (v2 : Int32) (v3 : Int32) (v4 : Int32) (H : Heap) (locs : List Loc) (ls : Array Slot), ms_seenLine_54 n mm f w v2 v3 v4 = some (fE, wE, rE) → va_P D vwCl (gb_wl b (gb_MW cT b f w)) H → va_S (gb_fr b 22) s.heap H locs → lv_has ls 5 [(0, .ref (b + 0)), (2, .int v2), (3, .int v3), (4, .int v4)] → W p l e (headSpec (.code yX12_seenLine cX12_seenLine 5 none :: gb_wA) ({ frames := 6, cells := 0, slots := 0, locals := 137 })).room s m ([.ref (b + 0)]).toArray below meth c H locs 0 0 (MQ below (gb_Qv (fun h => va_P D vwCl (gb_wl b (gb_MW cT b fE wE)) h) (gb_fr b 22)) ([.ref (b + 0)]).toArray s 0 0 (gb_fr b 22)) (F0 m 54 ls []) := by
    clear h hP hS hl ls f w
    intro mm
    induction mm with
    | zero =>
      intro f w v2 v3 v4 H locs ls h
      cases h
    | succ mm ih =>
      intro f w v2 v3 v4 H locs ls h hP hS hl
      rw [ms_seenLine_54] at h
      refine lv_iload hx hb dX12_seenLine_54 (lv_at hl 3 rfl) ?_
      refine lv_aload_n hx hb dX12_seenLine_56 rfl (lv_at hl 0 rfl) ?_
      refine va_get (ci := 10) (v := (.ref (b + 3))) (C := RX12) (T := TX12) (N := 44) hx hb hq i_X12 hown hK hP 0 (gb_at b rfl) rfl 10 (by decide) (hq _ w_1134) (fun _ h9 => h9) rfl dX12_seenLine_57 ?_
      refine lv_iconst (v := 0) hx hb dX12_seenLine_60 (by decide) ?_
      refine va_iald hx hb hK hP 3 0 (gb_at b rfl) rfl (gb_in rfl) dX12_seenLine_61 ?_
      refine lv_topi (fun x_18 ex_18 => ?_)
      replace h := gb_lt_s ex_18 h
      refine lv_icmp_ge (tgt := 102) hx hb dX12_seenLine_62 (by decide) (fun c_19 => ?_) (fun c_19 => ?_)
      · rw [if_pos c_19] at h
        refine lv_aload_n hx hb dX12_seenLine_102 rfl (lv_at hl 0 rfl) ?_
        refine lv_iconst (v := 5) hx hb dX12_seenLine_103 (by decide) ?_
        refine lv_iconst (v := 2) hx hb dX12_seenLine_104 (by decide) ?_
        refine lv_iload_n hx hb dX12_seenLine_105 rfl (lv_at hl 1 rfl) ?_
        refine lv_iload_n hx hb dX12_seenLine_106 rfl (lv_at hl 2 rfl) ?_
        refine lv_iconst (v := (-1)) hx hb dX12_seenLine_107 (by decide) ?_
        refine lv_iconst (v := (-1)) hx hb dX12_seenLine_108 (by decide) ?_
        obtain ⟨f_20, wl_21, r_22, z_23, h⟩ := gb_bd_s h
        refine gb_callv (va_runV (C := RX12) (As := [.int 5, .int 2, .int v2, .int v3, .int (-1), .int (-1)]) (rest := []) ⟨hx, hb, hml, hown, hq⟩ (mc_adds l D cT tt b1 b hb1 n f w 5 2 v2 v3 (-1) (-1) f_20 wl_21 r_22 z_23) (cwV 6 hq (gb_gV w_1346 w_1348 s_3_14 w_14 w_1349) rfl rfl rfl (by decide +kernel) ⟨Nat.le_of_ble_eq_true rfl, Nat.le_of_ble_eq_true rfl⟩) (gb_preV (r := (RX12, TX12, 44)) (ci := 10) (q0 := 0) hSt hP rfl (gb_at b rfl) hS (fun q h => Nat.le_trans hb1 h.1) hP) rfl rfl hl.1 rfl (lv_room (Nat.le_of_ble_eq_true rfl)) dX12_seenLine_109 ⟨Nat.le_of_ble_eq_true rfl, Nat.le_of_ble_eq_true rfl⟩) hS (fun _ h => h) (fun _ h => h) (fun H locs hY hk hS => ?_)
        have hP := hY
        refine lv_aload_n hx hb dX12_seenLine_112 rfl (lv_at hl 0 rfl) ?_
        obtain ⟨f_25, wl_26, r_27, z_28, h⟩ := gb_bd_s h
        refine gb_callv (va_runV (C := RX12) (As := []) (rest := []) ⟨hx, hb, hml, hown, hq⟩ (mc_endsLine l D cT tt b1 b hb1 n f_20 wl_21 f_25 wl_26 r_27 z_28) (cwV 0 hq (gb_gV w_1330 w_1332 s_3_10 w_14 w_1333) rfl rfl rfl (by decide +kernel) ⟨Nat.le_of_ble_eq_true rfl, Nat.le_of_ble_eq_true rfl⟩) (gb_preV (r := (RX12, TX12, 44)) (ci := 10) (q0 := 0) hSt hP rfl (gb_at b rfl) hS (fun q h => Nat.le_trans hb1 h.1) hP) rfl rfl hl.1 rfl (lv_room (Nat.le_of_ble_eq_true rfl)) dX12_seenLine_113 ⟨Nat.le_of_ble_eq_true rfl, Nat.le_of_ble_eq_true rfl⟩) hS (fun _ h => h) (fun _ h => h) (fun H locs hY hk hS => ?_)
        have hP := hY
        obtain ⟨e1, e2, -⟩ := gb_eq3 h
        exact W.vret hx hb hr (fun t ht hW => gb_rv ht (by rw [← e1, ← e2]; exact hP) hS) hS.2.2 dX12_seenLine_116
      · rw [if_neg c_19] at h
        refine lv_aload_n hx hb dX12_seenLine_65 rfl (lv_at hl 0 rfl) ?_
        refine lv_aload_n hx hb dX12_seenLine_66 rfl (lv_at hl 0 rfl) ?_
        refine va_get (ci := 10) (v := (.int (f 0 9))) (C := RX12) (T := TX12) (N := 44) hx hb hq i_X12 hown hK hP 0 (gb_at b rfl) rfl 9 (by decide) (hq _ w_1133) (fun _ h9 => h9) rfl dX12_seenLine_67 ?_
        refine lv_if_ne (tgt := 88) hx hb dX12_seenLine_70 (by decide) (fun c_30 => ?_) (fun c_30 => ?_)
        · rw [if_neg c_30] at h
          refine lv_iconst (v := 1) hx hb dX12_seenLine_88 (by decide) ?_
          refine lv_goto (tgt := 93) hx hb dX12_seenLine_89 (by decide) ?_
          refine gb_put (ci := 10) (v := (.int 1)) (ty := .boolean) (C := RX12) (T := TX12) (N := 44) hx hb hq i_X12 tyX12 tyX12_ok nmX12 hown hK hP (fun k h => ⟨Nat.le_add_right b k, Nat.add_lt_add_left h b⟩) hS rfl 0 rfl rfl 9 (by decide) (hq _ w_1133) (fun _ h9 => h9) rfl (by decide +kernel) (by decide) (by decide) (Nat.le_of_ble_eq_true rfl) dX12_seenLine_93 (fun H locs hP hz_ hS => ?_)
          obtain ⟨f_31, ef_31⟩ : ∃ q, q = (gb_u f 0 (upd (f 0) 9 1)) := ⟨_, rfl⟩
          replace hP : va_P D vwCl (gb_wl b (gb_MW cT b f_31 w)) H := by rw [ef_31]; exact hP
          replace h := gb_lt_s ef_31 h
          obtain ⟨x_32, ex_32⟩ : ∃ q, q = (v4 + 1) := ⟨_, rfl⟩
          replace h := gb_lt_s ex_32 h
          refine lv_iinc (v := x_32) (lv' := [(4, .int x_32), (0, .ref (b + 0)), (2, .int v2), (3, .int v3)]) hx hb dX12_seenLine_96 hl (k := 3) rfl (by rw [ex_32]; rfl) (by decide) rfl (fun ls hl => ?_)
          refine lv_goto (tgt := 54) hx hb dX12_seenLine_99 (by decide) ?_
          exact ih _ _ _ _ _ _ _ _ h hP hS (lv_sub hl [1, 2, 3, 0] rfl)
        · rw [if_pos c_30] at h
          refine lv_aload_n hx hb dX12_seenLine_73 rfl (lv_at hl 0 rfl) ?_
          refine va_get (ci := 10) (v := (.ref (b + 3))) (C := RX12) (T := TX12) (N := 44) hx hb hq i_X12 hown hK hP 0 (gb_at b rfl) rfl 10 (by decide) (hq _ w_1134) (fun _ h9 => h9) rfl dX12_seenLine_74 ?_
          refine lv_iconst (v := 1) hx hb dX12_seenLine_77 (by decide) ?_
          refine lv_iconst (v := 2) hx hb dX12_seenLine_78 (by decide) ?_
          refine lv_iload hx hb dX12_seenLine_79 (lv_at hl 3 rfl) ?_
          refine lv_imul hx hb dX12_seenLine_81 ?_
          refine lv_iadd hx hb dX12_seenLine_82 ?_
          obtain ⟨z_33, h⟩ := gb_ck_s h
          refine va_iald hx hb hK hP 3 0 (gb_at b rfl) rfl z_33 dX12_seenLine_83 ?_
          refine lv_topi (fun x_34 ex_34 => ?_)
          replace h := gb_lt_s ex_34 h
          refine lv_iload_n hx hb dX12_seenLine_84 rfl (lv_at hl 1 rfl) ?_
          refine lv_icmp_ne (tgt := 92) hx hb dX12_seenLine_85 (by decide) (fun c_35 => ?_) (fun c_35 => ?_)
          · rw [if_neg c_35] at h
            refine lv_iconst (v := 0) hx hb dX12_seenLine_92 (by decide) ?_
            refine gb_put (ci := 10) (v := (.int 0)) (ty := .boolean) (C := RX12) (T := TX12) (N := 44) hx hb hq i_X12 tyX12 tyX12_ok nmX12 hown hK hP (fun k h => ⟨Nat.le_add_right b k, Nat.add_lt_add_left h b⟩) hS rfl 0 rfl rfl 9 (by decide) (hq _ w_1133) (fun _ h9 => h9) rfl (by decide +kernel) (by decide) (by decide) (Nat.le_of_ble_eq_true rfl) dX12_seenLine_93 (fun H locs hP hz_ hS => ?_)
            obtain ⟨f_36, ef_36⟩ : ∃ q, q = (gb_u f 0 (upd (f 0) 9 0)) := ⟨_, rfl⟩
            replace hP : va_P D vwCl (gb_wl b (gb_MW cT b f_36 w)) H := by rw [ef_36]; exact hP
            replace h := gb_lt_s ef_36 h
            obtain ⟨x_37, ex_37⟩ : ∃ q, q = (v4 + 1) := ⟨_, rfl⟩
            replace h := gb_lt_s ex_37 h
            refine lv_iinc (v := x_37) (lv' := [(4, .int x_37), (0, .ref (b + 0)), (2, .int v2), (3, .int v3)]) hx hb dX12_seenLine_96 hl (k := 3) rfl (by rw [ex_37]; rfl) (by decide) rfl (fun ls hl => ?_)
            refine lv_goto (tgt := 54) hx hb dX12_seenLine_99 (by decide) ?_
            exact ih _ _ _ _ _ _ _ _ h hP hS (lv_sub hl [1, 2, 3, 0] rfl)
          · rw [if_pos c_35] at h
            refine lv_iconst (v := 1) hx hb dX12_seenLine_88 (by decide) ?_
            refine lv_goto (tgt := 93) hx hb dX12_seenLine_89 (by decide) ?_
            refine gb_put (ci := 10) (v := (.int 1)) (ty := .boolean) (C := RX12) (T := TX12) (N := 44) hx hb hq i_X12 tyX12 tyX12_ok nmX12 hown hK hP (fun k h => ⟨Nat.le_add_right b k, Nat.add_lt_add_left h b⟩) hS rfl 0 rfl rfl 9 (by decide) (hq _ w_1133) (fun _ h9 => h9) rfl (by decide +kernel) (by decide) (by decide) (Nat.le_of_ble_eq_true rfl) dX12_seenLine_93 (fun H locs hP hz_ hS => ?_)
            obtain ⟨f_38, ef_38⟩ : ∃ q, q = (gb_u f 0 (upd (f 0) 9 1)) := ⟨_, rfl⟩
            replace hP : va_P D vwCl (gb_wl b (gb_MW cT b f_38 w)) H := by rw [ef_38]; exact hP
            replace h := gb_lt_s ef_38 h
            obtain ⟨x_39, ex_39⟩ : ∃ q, q = (v4 + 1) := ⟨_, rfl⟩
            replace h := gb_lt_s ex_39 h
            refine lv_iinc (v := x_39) (lv' := [(4, .int x_39), (0, .ref (b + 0)), (2, .int v2), (3, .int v3)]) hx hb dX12_seenLine_96 hl (k := 3) rfl (by rw [ex_39]; rfl) (by decide) rfl (fun ls hl => ?_)
            refine lv_goto (tgt := 54) hx hb dX12_seenLine_99 (by decide) ?_
            exact ih _ _ _ _ _ _ _ _ h hP hS (lv_sub hl [1, 2, 3, 0] rfl)
  unfold ms_seenLine at h
  refine lv_aload_n hx hb dX12_seenLine_0 rfl (lv_at hl 0 rfl) ?_
  refine va_get (ci := 10) (v := (.int (f 0 4))) (C := RX12) (T := TX12) (N := 44) hx hb hq i_X12 hown hK hP 0 (gb_at b rfl) rfl 4 (by decide) (hq _ w_1128) (fun _ h9 => h9) rfl dX12_seenLine_1 ?_
  refine lv_topi (fun x_1 ex_1 => ?_)
  replace h := gb_lt_s ex_1 h
  refine lv_istore_n (lv' := [(1, .int x_1), (0, .ref (b + 0))]) hx hb dX12_seenLine_4 rfl hl (by decide) rfl (fun ls hl => ?_)
  refine lv_aload_n hx hb dX12_seenLine_5 rfl (lv_at hl 1 rfl) ?_
  refine lv_bipush (v := 18) hx hb dX12_seenLine_6 (by decide) ?_
  refine lv_bipush (v := 18) hx hb dX12_seenLine_8 (by decide) ?_
  obtain ⟨f_2, wl_3, r_4, z_5, h⟩ := gb_bd_s h
  refine gb_calli (va_runV (C := RX12) (As := [.int 18, .int 18]) (rest := []) ⟨hx, hb, hml, hown, hq⟩ (mc_takes l D cT tt b1 b hb1 n f w 18 18 f_2 wl_3 r_4 z_5) (cwV 2 hq (gb_gV w_1306 w_1308 s_3_4 w_14 w_1309) rfl rfl rfl (by decide +kernel) ⟨Nat.le_of_ble_eq_true rfl, Nat.le_of_ble_eq_true rfl⟩) (gb_preV (r := (RX12, TX12, 44)) (ci := 10) (q0 := 0) hSt hP rfl (gb_at b rfl) hS (fun q h => Nat.le_trans hb1 h.1) hP) rfl rfl hl.1 rfl (lv_room (Nat.le_of_ble_eq_true rfl)) dX12_seenLine_10 ⟨Nat.le_of_ble_eq_true rfl, Nat.le_of_ble_eq_true rfl⟩) hS (fun _ h => h) (fun _ h => h) (fun q_6 H locs hY hk hS => ?_)
  obtain ⟨hq_6, hP⟩ := hY
  replace hq_6 := hq_6.symm
  subst hq_6
  refine lv_pop hx hb dX12_seenLine_13 rfl ?_
  refine lv_aload_n hx hb dX12_seenLine_14 rfl (lv_at hl 1 rfl) ?_
  refine va_get (ci := 10) (v := (.int (f_2 0 8))) (C := RX12) (T := TX12) (N := 44) hx hb hq i_X12 hown hK hP 0 (gb_at b rfl) rfl 8 (by decide) (hq _ w_1132) (fun _ h9 => h9) rfl dX12_seenLine_15 ?_
  refine lv_if_ne (tgt := 37) hx hb dX12_seenLine_18 (by decide) (fun c_7 => ?_) (fun c_7 => ?_)
  · rw [if_neg c_7] at h
    refine lv_aload_n hx hb dX12_seenLine_37 rfl (lv_at hl 1 rfl) ?_
    obtain ⟨f_8, wl_9, r_10, z_11, h⟩ := gb_bd_s h
    refine gb_calli (va_runV (C := RX12) (As := []) (rest := []) ⟨hx, hb, hml, hown, hq⟩ (mc_pathTold l D cT tt b1 b hb1 n f_2 wl_3 f_8 wl_9 r_10 z_11) (cwV 0 hq (gb_gV w_1342 w_1344 s_3_13 w_14 w_1345) rfl rfl rfl (by decide +kernel) ⟨Nat.le_of_ble_eq_true rfl, Nat.le_of_ble_eq_true rfl⟩) (gb_preV (r := (RX12, TX12, 44)) (ci := 10) (q0 := 0) hSt hP rfl (gb_at b rfl) hS (fun q h => Nat.le_trans hb1 h.1) hP) rfl rfl hl.1 rfl (lv_room (Nat.le_of_ble_eq_true rfl)) dX12_seenLine_38 ⟨Nat.le_of_ble_eq_true rfl, Nat.le_of_ble_eq_true rfl⟩) hS (fun _ h => h) (fun _ h => h) (fun q_12 H locs hY hk hS => ?_)
    obtain ⟨hq_12, hP⟩ := hY
    replace hq_12 := hq_12.symm
    subst hq_12
    refine lv_istore_n (lv' := [(2, .int r_10), (1, .int x_1), (0, .ref (b + 0))]) hx hb dX12_seenLine_41 rfl hl (by decide) rfl (fun ls hl => ?_)
    refine lv_aload_n hx hb dX12_seenLine_42 rfl (lv_at hl 2 rfl) ?_
    refine lv_iconst (v := 0) hx hb dX12_seenLine_43 (by decide) ?_
    refine lv_sipush (v := 999) hx hb dX12_seenLine_44 (by decide) ?_
    obtain ⟨f_13, wl_14, r_15, z_16, h⟩ := gb_bd_s h
    refine gb_calli (va_runV (C := RX12) (As := [.int 0, .int 999]) (rest := []) ⟨hx, hb, hml, hown, hq⟩ (mc_numbered l D cT tt b1 b hb1 n f_8 wl_9 0 999 f_13 wl_14 r_15 z_16) (cwV 2 hq (gb_gV w_1322 w_1324 s_3_8 w_14 w_1325) rfl rfl rfl (by decide +kernel) ⟨Nat.le_of_ble_eq_true rfl, Nat.le_of_ble_eq_true rfl⟩) (gb_preV (r := (RX12, TX12, 44)) (ci := 10) (q0 := 0) hSt hP rfl (gb_at b rfl) hS (fun q h => Nat.le_trans hb1 h.1) hP) rfl rfl hl.1 rfl (lv_room (Nat.le_of_ble_eq_true rfl)) dX12_seenLine_47 ⟨Nat.le_of_ble_eq_true rfl, Nat.le_of_ble_eq_true rfl⟩) hS (fun _ h => h) (fun _ h => h) (fun q_17 H locs hY hk hS => ?_)
    obtain ⟨hq_17, hP⟩ := hY
    replace hq_17 := hq_17.symm
    subst hq_17
    refine lv_istore_n (lv' := [(3, .int r_15), (2, .int r_10), (1, .int x_1), (0, .ref (b + 0))]) hx hb dX12_seenLine_50 rfl hl (by decide) rfl (fun ls hl => ?_)
    refine lv_iconst (v := 0) hx hb dX12_seenLine_51 (by decide) ?_
    refine lv_istore (lv' := [(4, .int 0), (3, .int r_15), (2, .int r_10), (1, .int x_1), (0, .ref (b + 0))]) hx hb dX12_seenLine_52 hl (by decide) rfl (fun ls hl => ?_)
    exact L54 n _ _ _ _ _ _ _ _ h hP hS (lv_sub hl [4, 2, 1, 0] rfl)
  · rw [if_pos c_7] at h
    refine lv_aload_n hx hb dX12_seenLine_21 rfl (lv_at hl 1 rfl) ?_
    refine va_get (ci := 10) (v := (.ref (b + 3))) (C := RX12) (T := TX12) (N := 44) hx hb hq i_X12 hown hK hP 0 (gb_at b rfl) rfl 10 (by decide) (hq _ w_1134) (fun _ h9 => h9) rfl dX12_seenLine_22 ?_
    refine lv_iconst (v := 0) hx hb dX12_seenLine_25 (by decide) ?_
    refine va_iald hx hb hK hP 3 0 (gb_at b rfl) rfl (gb_in rfl) dX12_seenLine_26 ?_
    refine lv_topi (fun x_40 ex_40 => ?_)
    replace h := gb_lt_s ex_40 h
    refine lv_iconst (v := 5) hx hb dX12_seenLine_27 (by decide) ?_
    refine lv_icmp_lt (tgt := 37) hx hb dX12_seenLine_28 (by decide) (fun c_41 => ?_) (fun c_41 => ?_)
    · rw [if_pos c_41] at h
      refine lv_aload_n hx hb dX12_seenLine_37 rfl (lv_at hl 1 rfl) ?_
      obtain ⟨f_42, wl_43, r_44, z_45, h⟩ := gb_bd_s h
      refine gb_calli (va_runV (C := RX12) (As := []) (rest := []) ⟨hx, hb, hml, hown, hq⟩ (mc_pathTold l D cT tt b1 b hb1 n f_2 wl_3 f_42 wl_43 r_44 z_45) (cwV 0 hq (gb_gV w_1342 w_1344 s_3_13 w_14 w_1345) rfl rfl rfl (by decide +kernel) ⟨Nat.le_of_ble_eq_true rfl, Nat.le_of_ble_eq_true rfl⟩) (gb_preV (r := (RX12, TX12, 44)) (ci := 10) (q0 := 0) hSt hP rfl (gb_at b rfl) hS (fun q h => Nat.le_trans hb1 h.1) hP) rfl rfl hl.1 rfl (lv_room (Nat.le_of_ble_eq_true rfl)) dX12_seenLine_38 ⟨Nat.le_of_ble_eq_true rfl, Nat.le_of_ble_eq_true rfl⟩) hS (fun _ h => h) (fun _ h => h) (fun q_46 H locs hY hk hS => ?_)
      obtain ⟨hq_46, hP⟩ := hY
      replace hq_46 := hq_46.symm
      subst hq_46
      refine lv_istore_n (lv' := [(2, .int r_44), (1, .int x_1), (0, .ref (b + 0))]) hx hb dX12_seenLine_41 rfl hl (by decide) rfl (fun ls hl => ?_)
      refine lv_aload_n hx hb dX12_seenLine_42 rfl (lv_at hl 2 rfl) ?_
      refine lv_iconst (v := 0) hx hb dX12_seenLine_43 (by decide) ?_
      refine lv_sipush (v := 999) hx hb dX12_seenLine_44 (by decide) ?_
      obtain ⟨f_47, wl_48, r_49, z_50, h⟩ := gb_bd_s h
      refine gb_calli (va_runV (C := RX12) (As := [.int 0, .int 999]) (rest := []) ⟨hx, hb, hml, hown, hq⟩ (mc_numbered l D cT tt b1 b hb1 n f_42 wl_43 0 999 f_47 wl_48 r_49 z_50) (cwV 2 hq (gb_gV w_1322 w_1324 s_3_8 w_14 w_1325) rfl rfl rfl (by decide +kernel) ⟨Nat.le_of_ble_eq_true rfl, Nat.le_of_ble_eq_true rfl⟩) (gb_preV (r := (RX12, TX12, 44)) (ci := 10) (q0 := 0) hSt hP rfl (gb_at b rfl) hS (fun q h => Nat.le_trans hb1 h.1) hP) rfl rfl hl.1 rfl (lv_room (Nat.le_of_ble_eq_true rfl)) dX12_seenLine_47 ⟨Nat.le_of_ble_eq_true rfl, Nat.le_of_ble_eq_true rfl⟩) hS (fun _ h => h) (fun _ h => h) (fun q_51 H locs hY hk hS => ?_)
      obtain ⟨hq_51, hP⟩ := hY
      replace hq_51 := hq_51.symm
      subst hq_51
      refine lv_istore_n (lv' := [(3, .int r_49), (2, .int r_44), (1, .int x_1), (0, .ref (b + 0))]) hx hb dX12_seenLine_50 rfl hl (by decide) rfl (fun ls hl => ?_)
      refine lv_iconst (v := 0) hx hb dX12_seenLine_51 (by decide) ?_
      refine lv_istore (lv' := [(4, .int 0), (3, .int r_49), (2, .int r_44), (1, .int x_1), (0, .ref (b + 0))]) hx hb dX12_seenLine_52 hl (by decide) rfl (fun ls hl => ?_)
      exact L54 n _ _ _ _ _ _ _ _ h hP hS (lv_sub hl [4, 2, 1, 0] rfl)
    · rw [if_neg c_41] at h
      refine lv_aload_n hx hb dX12_seenLine_31 rfl (lv_at hl 1 rfl) ?_
      refine lv_iconst (v := 3) hx hb dX12_seenLine_32 (by decide) ?_
      refine lv_iload_n hx hb dX12_seenLine_33 rfl (lv_at hl 0 rfl) ?_
      obtain ⟨f_52, wl_53, r_54, z_55, h⟩ := gb_bd_s h
      refine gb_callv (va_runV (C := RX12) (As := [.int 3, .int x_1]) (rest := []) ⟨hx, hb, hml, hown, hq⟩ (mc_also l D cT tt b1 b hb1 n f_2 wl_3 3 x_1 f_52 wl_53 r_54 z_55) (cwV 2 hq (gb_gV w_1318 w_1320 s_3_7 w_14 w_1321) rfl rfl rfl (by decide +kernel) ⟨Nat.le_of_ble_eq_true rfl, Nat.le_of_ble_eq_true rfl⟩) (gb_preV (r := (RX12, TX12, 44)) (ci := 10) (q0 := 0) hSt hP rfl (gb_at b rfl) hS (fun q h => Nat.le_trans hb1 h.1) hP) rfl rfl hl.1 rfl (lv_room (Nat.le_of_ble_eq_true rfl)) dX12_seenLine_34 ⟨Nat.le_of_ble_eq_true rfl, Nat.le_of_ble_eq_true rfl⟩) hS (fun _ h => h) (fun _ h => h) (fun H locs hY hk hS => ?_)
      have hP := hY
      refine lv_aload_n hx hb dX12_seenLine_37 rfl (lv_at hl 1 rfl) ?_
      obtain ⟨f_57, wl_58, r_59, z_60, h⟩ := gb_bd_s h
      refine gb_calli (va_runV (C := RX12) (As := []) (rest := []) ⟨hx, hb, hml, hown, hq⟩ (mc_pathTold l D cT tt b1 b hb1 n f_52 wl_53 f_57 wl_58 r_59 z_60) (cwV 0 hq (gb_gV w_1342 w_1344 s_3_13 w_14 w_1345) rfl rfl rfl (by decide +kernel) ⟨Nat.le_of_ble_eq_true rfl, Nat.le_of_ble_eq_true rfl⟩) (gb_preV (r := (RX12, TX12, 44)) (ci := 10) (q0 := 0) hSt hP rfl (gb_at b rfl) hS (fun q h => Nat.le_trans hb1 h.1) hP) rfl rfl hl.1 rfl (lv_room (Nat.le_of_ble_eq_true rfl)) dX12_seenLine_38 ⟨Nat.le_of_ble_eq_true rfl, Nat.le_of_ble_eq_true rfl⟩) hS (fun _ h => h) (fun _ h => h) (fun q_61 H locs hY hk hS => ?_)
      obtain ⟨hq_61, hP⟩ := hY
      replace hq_61 := hq_61.symm
      subst hq_61
      refine lv_istore_n (lv' := [(2, .int r_59), (1, .int x_1), (0, .ref (b + 0))]) hx hb dX12_seenLine_41 rfl hl (by decide) rfl (fun ls hl => ?_)
      refine lv_aload_n hx hb dX12_seenLine_42 rfl (lv_at hl 2 rfl) ?_
      refine lv_iconst (v := 0) hx hb dX12_seenLine_43 (by decide) ?_
      refine lv_sipush (v := 999) hx hb dX12_seenLine_44 (by decide) ?_
      obtain ⟨f_62, wl_63, r_64, z_65, h⟩ := gb_bd_s h
      refine gb_calli (va_runV (C := RX12) (As := [.int 0, .int 999]) (rest := []) ⟨hx, hb, hml, hown, hq⟩ (mc_numbered l D cT tt b1 b hb1 n f_57 wl_58 0 999 f_62 wl_63 r_64 z_65) (cwV 2 hq (gb_gV w_1322 w_1324 s_3_8 w_14 w_1325) rfl rfl rfl (by decide +kernel) ⟨Nat.le_of_ble_eq_true rfl, Nat.le_of_ble_eq_true rfl⟩) (gb_preV (r := (RX12, TX12, 44)) (ci := 10) (q0 := 0) hSt hP rfl (gb_at b rfl) hS (fun q h => Nat.le_trans hb1 h.1) hP) rfl rfl hl.1 rfl (lv_room (Nat.le_of_ble_eq_true rfl)) dX12_seenLine_47 ⟨Nat.le_of_ble_eq_true rfl, Nat.le_of_ble_eq_true rfl⟩) hS (fun _ h => h) (fun _ h => h) (fun q_66 H locs hY hk hS => ?_)
      obtain ⟨hq_66, hP⟩ := hY
      replace hq_66 := hq_66.symm
      subst hq_66
      refine lv_istore_n (lv' := [(3, .int r_64), (2, .int r_59), (1, .int x_1), (0, .ref (b + 0))]) hx hb dX12_seenLine_50 rfl hl (by decide) rfl (fun ls hl => ?_)
      refine lv_iconst (v := 0) hx hb dX12_seenLine_51 (by decide) ?_
      refine lv_istore (lv' := [(4, .int 0), (3, .int r_64), (2, .int r_59), (1, .int x_1), (0, .ref (b + 0))]) hx hb dX12_seenLine_52 hl (by decide) rfl (fun ls hl => ?_)
      exact L54 n _ _ _ _ _ _ _ _ h hP hS (lv_sub hl [4, 2, 1, 0] rfl)
theorem dX12_placeOf_0 : decode cX12_placeOf 0 = .ok (.iload_n 0, 1) := dc_26 (show ((cX12_placeOf.data.toList.drop 0).take 1).map UInt8.toNat = [26] by decide +kernel)
theorem dX12_placeOf_1 : decode cX12_placeOf 1 = .ok (.ifCond .ne 14, 3) := dc_154 (show ((cX12_placeOf.data.toList.drop 1).take 3).map UInt8.toNat = [154, 0, 14] by decide +kernel) rfl
theorem dX12_placeOf_15 : decode cX12_placeOf 15 = .ok (.iload_n 0, 1) := dc_26 (show ((cX12_placeOf.data.toList.drop 15).take 1).map UInt8.toNat = [26] by decide +kernel)
theorem dX12_placeOf_16 : decode cX12_placeOf 16 = .ok (.iconst 1, 1) := dc_4 (show ((cX12_placeOf.data.toList.drop 16).take 1).map UInt8.toNat = [4] by decide +kernel)
theorem dX12_placeOf_17 : decode cX12_placeOf 17 = .ok (.if_icmp .ne 14, 3) := dc_160 (show ((cX12_placeOf.data.toList.drop 17).take 3).map UInt8.toNat = [160, 0, 14] by decide +kernel) rfl
theorem dX12_placeOf_31 : decode cX12_placeOf 31 = .ok (.iload_n 0, 1) := dc_26 (show ((cX12_placeOf.data.toList.drop 31).take 1).map UInt8.toNat = [26] by decide +kernel)
theorem dX12_placeOf_32 : decode cX12_placeOf 32 = .ok (.iconst 2, 1) := dc_5 (show ((cX12_placeOf.data.toList.drop 32).take 1).map UInt8.toNat = [5] by decide +kernel)
theorem dX12_placeOf_33 : decode cX12_placeOf 33 = .ok (.if_icmp .ne 14, 3) := dc_160 (show ((cX12_placeOf.data.toList.drop 33).take 3).map UInt8.toNat = [160, 0, 14] by decide +kernel) rfl
theorem dX12_placeOf_47 : decode cX12_placeOf 47 = .ok (.sipush 970, 3) := dc_17 (show ((cX12_placeOf.data.toList.drop 47).take 3).map UInt8.toNat = [17, 3, 202] by decide +kernel) rfl
theorem dX12_placeOf_50 : decode cX12_placeOf 50 = .ok (.bipush 11, 2) := dc_16 (show ((cX12_placeOf.data.toList.drop 50).take 2).map UInt8.toNat = [16, 11] by decide +kernel) rfl
theorem dX12_placeOf_52 : decode cX12_placeOf 52 = .ok (.iload_n 1, 1) := dc_27 (show ((cX12_placeOf.data.toList.drop 52).take 1).map UInt8.toNat = [27] by decide +kernel)
theorem dX12_placeOf_53 : decode cX12_placeOf 53 = .ok (.imul, 1) := dc_104 (show ((cX12_placeOf.data.toList.drop 53).take 1).map UInt8.toNat = [104] by decide +kernel)
theorem dX12_placeOf_54 : decode cX12_placeOf 54 = .ok (.iadd, 1) := dc_96 (show ((cX12_placeOf.data.toList.drop 54).take 1).map UInt8.toNat = [96] by decide +kernel)
theorem dX12_placeOf_55 : decode cX12_placeOf 55 = .ok (.ireturn, 1) := dc_172 (show ((cX12_placeOf.data.toList.drop 55).take 1).map UInt8.toNat = [172] by decide +kernel)
theorem dX12_placeOf_36 : decode cX12_placeOf 36 = .ok (.sipush 920, 3) := dc_17 (show ((cX12_placeOf.data.toList.drop 36).take 3).map UInt8.toNat = [17, 3, 152] by decide +kernel) rfl
theorem dX12_placeOf_39 : decode cX12_placeOf 39 = .ok (.bipush 25, 2) := dc_16 (show ((cX12_placeOf.data.toList.drop 39).take 2).map UInt8.toNat = [16, 25] by decide +kernel) rfl
theorem dX12_placeOf_41 : decode cX12_placeOf 41 = .ok (.iload_n 1, 1) := dc_27 (show ((cX12_placeOf.data.toList.drop 41).take 1).map UInt8.toNat = [27] by decide +kernel)
theorem dX12_placeOf_42 : decode cX12_placeOf 42 = .ok (.imul, 1) := dc_104 (show ((cX12_placeOf.data.toList.drop 42).take 1).map UInt8.toNat = [104] by decide +kernel)
theorem dX12_placeOf_43 : decode cX12_placeOf 43 = .ok (.iadd, 1) := dc_96 (show ((cX12_placeOf.data.toList.drop 43).take 1).map UInt8.toNat = [96] by decide +kernel)
theorem dX12_placeOf_44 : decode cX12_placeOf 44 = .ok (.goto 11, 3) := dc_167 (show ((cX12_placeOf.data.toList.drop 44).take 3).map UInt8.toNat = [167, 0, 11] by decide +kernel) rfl
theorem dX12_placeOf_20 : decode cX12_placeOf 20 = .ok (.sipush 726, 3) := dc_17 (show ((cX12_placeOf.data.toList.drop 20).take 3).map UInt8.toNat = [17, 2, 214] by decide +kernel) rfl
theorem dX12_placeOf_23 : decode cX12_placeOf 23 = .ok (.bipush 97, 2) := dc_16 (show ((cX12_placeOf.data.toList.drop 23).take 2).map UInt8.toNat = [16, 97] by decide +kernel) rfl
theorem dX12_placeOf_25 : decode cX12_placeOf 25 = .ok (.iload_n 1, 1) := dc_27 (show ((cX12_placeOf.data.toList.drop 25).take 1).map UInt8.toNat = [27] by decide +kernel)
theorem dX12_placeOf_26 : decode cX12_placeOf 26 = .ok (.imul, 1) := dc_104 (show ((cX12_placeOf.data.toList.drop 26).take 1).map UInt8.toNat = [104] by decide +kernel)
theorem dX12_placeOf_27 : decode cX12_placeOf 27 = .ok (.iadd, 1) := dc_96 (show ((cX12_placeOf.data.toList.drop 27).take 1).map UInt8.toNat = [96] by decide +kernel)
theorem dX12_placeOf_28 : decode cX12_placeOf 28 = .ok (.goto 27, 3) := dc_167 (show ((cX12_placeOf.data.toList.drop 28).take 3).map UInt8.toNat = [167, 0, 27] by decide +kernel) rfl
theorem dX12_placeOf_4 : decode cX12_placeOf 4 = .ok (.sipush 610, 3) := dc_17 (show ((cX12_placeOf.data.toList.drop 4).take 3).map UInt8.toNat = [17, 2, 98] by decide +kernel) rfl
theorem dX12_placeOf_7 : decode cX12_placeOf 7 = .ok (.bipush 58, 2) := dc_16 (show ((cX12_placeOf.data.toList.drop 7).take 2).map UInt8.toNat = [16, 58] by decide +kernel) rfl
theorem dX12_placeOf_9 : decode cX12_placeOf 9 = .ok (.iload_n 1, 1) := dc_27 (show ((cX12_placeOf.data.toList.drop 9).take 1).map UInt8.toNat = [27] by decide +kernel)
theorem dX12_placeOf_10 : decode cX12_placeOf 10 = .ok (.imul, 1) := dc_104 (show ((cX12_placeOf.data.toList.drop 10).take 1).map UInt8.toNat = [104] by decide +kernel)
theorem dX12_placeOf_11 : decode cX12_placeOf 11 = .ok (.iadd, 1) := dc_96 (show ((cX12_placeOf.data.toList.drop 11).take 1).map UInt8.toNat = [96] by decide +kernel)
theorem dX12_placeOf_12 : decode cX12_placeOf 12 = .ok (.goto 43, 3) := dc_167 (show ((cX12_placeOf.data.toList.drop 12).take 3).map UInt8.toNat = [167, 0, 43] by decide +kernel) rfl
def ms_placeOf (n : Nat) (f : gb_F) (w : Int64) (p1 : Int32) (p2 : Int32) : gb_MR Int32 := (if p1 = 0 then some (f, w, (610 + (58 * p2))) else (if p1 = 1 then some (f, w, (726 + (97 * p2))) else (if p1 = 2 then some (f, w, (920 + (25 * p2))) else some (f, w, (970 + (11 * p2))))))
set_option maxHeartbeats 8000000 in
set_option maxRecDepth 100000 in
theorem mc_placeOf (l : Launch) (D : va_G) (cT : Nat → ClassId) (tt : Nat → Nat) (b1 b : Nat) (hb1 : b1 ≤ b) (n : Nat) (f : gb_F) (w : Int64) (p1 : Int32) (p2 : Int32) (fE : gb_F) (wE : Int64) (rE : Int32) (h : ms_placeOf n f w p1 p2 = some (fE, wE, rE)) : Met l yX12_placeOf (.code yX12_placeOf cX12_placeOf 2 (some FieldType.int) :: gb_wA) ({ frames := 0, cells := 0, slots := 0, locals := 0 }) (gb_Pc D cT tt b1 [.int p1, .int p2] (fun h => va_P D vwCl (gb_wl b (gb_MW cT b f w)) h)) (gb_Qi (fun r h => r = rE ∧ va_P D vwCl (gb_wl b (gb_MW cT b fE wE)) h) (gb_fr b 22)) 0 0 (gb_fr b 22) := by
  refine Met.ofW (cc := cX12_placeOf) (maxL := 2) (ret := (some FieldType.int)) (by decide) rfl ?_
  intro p e s m args below meth c s₁ B hml hv
  obtain ⟨rfl, hSt, hP⟩ := hv
  have hx := B.exec
  have hb := B.bytes
  have hr := B.returns
  have hts := atoms_spec (ws := .code yX12_placeOf cX12_placeOf 2 (some FieldType.int) :: gb_wA) B.pre
  have hq : ∀ w ∈ gb_wA, w.before _ s = true := fun w h => hts w (List.mem_cons_of_mem _ h)
  have hown : s.vm.findClass RX12 = some m.cls := findClass_of_methodNamed B.named
  have hlocks := B.notSynchronized
  clear B hts
  have hK := hSt.1
  have hS : va_S (gb_fr b 22) s.heap s.heap [] := va_S.rf
  have hl := lv_entry ([.int p1, .int p2]) (n := 2) (Nat.le_of_ble_eq_true rfl)
  rw [lg_entry_eq]
  generalize (lg_sl ([.int p1, .int p2]) ++ List.replicate (2 - (lg_sl ([.int p1, .int p2])).length) Slot.unset).toArray = ls at hl ⊢
  replace hl : lv_has ls 2 [(0, .int p1), (1, .int p2)] := hl
  unfold ms_placeOf at h
  refine lv_iload_n hx hb dX12_placeOf_0 rfl (lv_at hl 0 rfl) ?_
  refine lv_if_ne (tgt := 15) hx hb dX12_placeOf_1 (by decide) (fun c_1 => ?_) (fun c_1 => ?_)
  · rw [if_neg c_1] at h
    refine lv_iload_n hx hb dX12_placeOf_15 rfl (lv_at hl 0 rfl) ?_
    refine lv_iconst (v := 1) hx hb dX12_placeOf_16 (by decide) ?_
    refine lv_icmp_ne (tgt := 31) hx hb dX12_placeOf_17 (by decide) (fun c_2 => ?_) (fun c_2 => ?_)
    · rw [if_neg c_2] at h
      refine lv_iload_n hx hb dX12_placeOf_31 rfl (lv_at hl 0 rfl) ?_
      refine lv_iconst (v := 2) hx hb dX12_placeOf_32 (by decide) ?_
      refine lv_icmp_ne (tgt := 47) hx hb dX12_placeOf_33 (by decide) (fun c_3 => ?_) (fun c_3 => ?_)
      · rw [if_neg c_3] at h
        refine lv_sipush (v := 970) hx hb dX12_placeOf_47 (by decide) ?_
        refine lv_bipush (v := 11) hx hb dX12_placeOf_50 (by decide) ?_
        refine lv_iload_n hx hb dX12_placeOf_52 rfl (lv_at hl 1 rfl) ?_
        refine lv_imul hx hb dX12_placeOf_53 ?_
        refine lv_iadd hx hb dX12_placeOf_54 ?_
        obtain ⟨e1, e2, e3⟩ := gb_eq3 h
        exact W.iret (v := (970 + (11 * p2))) hx hb hr (fun t ht hW => gb_ri ht ⟨e3, by rw [← e1, ← e2]; exact hP⟩ hS) hS.2.2 dX12_placeOf_55
      · rw [if_pos c_3] at h
        refine lv_sipush (v := 920) hx hb dX12_placeOf_36 (by decide) ?_
        refine lv_bipush (v := 25) hx hb dX12_placeOf_39 (by decide) ?_
        refine lv_iload_n hx hb dX12_placeOf_41 rfl (lv_at hl 1 rfl) ?_
        refine lv_imul hx hb dX12_placeOf_42 ?_
        refine lv_iadd hx hb dX12_placeOf_43 ?_
        refine lv_goto (tgt := 55) hx hb dX12_placeOf_44 (by decide) ?_
        obtain ⟨e1, e2, e3⟩ := gb_eq3 h
        exact W.iret (v := (920 + (25 * p2))) hx hb hr (fun t ht hW => gb_ri ht ⟨e3, by rw [← e1, ← e2]; exact hP⟩ hS) hS.2.2 dX12_placeOf_55
    · rw [if_pos c_2] at h
      refine lv_sipush (v := 726) hx hb dX12_placeOf_20 (by decide) ?_
      refine lv_bipush (v := 97) hx hb dX12_placeOf_23 (by decide) ?_
      refine lv_iload_n hx hb dX12_placeOf_25 rfl (lv_at hl 1 rfl) ?_
      refine lv_imul hx hb dX12_placeOf_26 ?_
      refine lv_iadd hx hb dX12_placeOf_27 ?_
      refine lv_goto (tgt := 55) hx hb dX12_placeOf_28 (by decide) ?_
      obtain ⟨e1, e2, e3⟩ := gb_eq3 h
      exact W.iret (v := (726 + (97 * p2))) hx hb hr (fun t ht hW => gb_ri ht ⟨e3, by rw [← e1, ← e2]; exact hP⟩ hS) hS.2.2 dX12_placeOf_55
  · rw [if_pos c_1] at h
    refine lv_sipush (v := 610) hx hb dX12_placeOf_4 (by decide) ?_
    refine lv_bipush (v := 58) hx hb dX12_placeOf_7 (by decide) ?_
    refine lv_iload_n hx hb dX12_placeOf_9 rfl (lv_at hl 1 rfl) ?_
    refine lv_imul hx hb dX12_placeOf_10 ?_
    refine lv_iadd hx hb dX12_placeOf_11 ?_
    refine lv_goto (tgt := 55) hx hb dX12_placeOf_12 (by decide) ?_
    obtain ⟨e1, e2, e3⟩ := gb_eq3 h
    exact W.iret (v := (610 + (58 * p2))) hx hb hr (fun t ht hW => gb_ri ht ⟨e3, by rw [← e1, ← e2]; exact hP⟩ hS) hS.2.2 dX12_placeOf_55
theorem dX12_sizeOf_0 : decode cX12_sizeOf 0 = .ok (.iload_n 0, 1) := dc_26 (show ((cX12_sizeOf.data.toList.drop 0).take 1).map UInt8.toNat = [26] by decide +kernel)
theorem dX12_sizeOf_1 : decode cX12_sizeOf 1 = .ok (.ifCond .ne 8, 3) := dc_154 (show ((cX12_sizeOf.data.toList.drop 1).take 3).map UInt8.toNat = [154, 0, 8] by decide +kernel) rfl
theorem dX12_sizeOf_9 : decode cX12_sizeOf 9 = .ok (.iload_n 0, 1) := dc_26 (show ((cX12_sizeOf.data.toList.drop 9).take 1).map UInt8.toNat = [26] by decide +kernel)
theorem dX12_sizeOf_10 : decode cX12_sizeOf 10 = .ok (.iconst 1, 1) := dc_4 (show ((cX12_sizeOf.data.toList.drop 10).take 1).map UInt8.toNat = [4] by decide +kernel)
theorem dX12_sizeOf_11 : decode cX12_sizeOf 11 = .ok (.if_icmp .ne 8, 3) := dc_160 (show ((cX12_sizeOf.data.toList.drop 11).take 3).map UInt8.toNat = [160, 0, 8] by decide +kernel) rfl
theorem dX12_sizeOf_19 : decode cX12_sizeOf 19 = .ok (.iload_n 0, 1) := dc_26 (show ((cX12_sizeOf.data.toList.drop 19).take 1).map UInt8.toNat = [26] by decide +kernel)
theorem dX12_sizeOf_20 : decode cX12_sizeOf 20 = .ok (.iconst 2, 1) := dc_5 (show ((cX12_sizeOf.data.toList.drop 20).take 1).map UInt8.toNat = [5] by decide +kernel)
theorem dX12_sizeOf_21 : decode cX12_sizeOf 21 = .ok (.if_icmp .ne 8, 3) := dc_160 (show ((cX12_sizeOf.data.toList.drop 21).take 3).map UInt8.toNat = [160, 0, 8] by decide +kernel) rfl
theorem dX12_sizeOf_29 : decode cX12_sizeOf 29 = .ok (.bipush 11, 2) := dc_16 (show ((cX12_sizeOf.data.toList.drop 29).take 2).map UInt8.toNat = [16, 11] by decide +kernel) rfl
theorem dX12_sizeOf_31 : decode cX12_sizeOf 31 = .ok (.ireturn, 1) := dc_172 (show ((cX12_sizeOf.data.toList.drop 31).take 1).map UInt8.toNat = [172] by decide +kernel)
theorem dX12_sizeOf_24 : decode cX12_sizeOf 24 = .ok (.bipush 25, 2) := dc_16 (show ((cX12_sizeOf.data.toList.drop 24).take 2).map UInt8.toNat = [16, 25] by decide +kernel) rfl
theorem dX12_sizeOf_26 : decode cX12_sizeOf 26 = .ok (.goto 5, 3) := dc_167 (show ((cX12_sizeOf.data.toList.drop 26).take 3).map UInt8.toNat = [167, 0, 5] by decide +kernel) rfl
theorem dX12_sizeOf_14 : decode cX12_sizeOf 14 = .ok (.bipush 97, 2) := dc_16 (show ((cX12_sizeOf.data.toList.drop 14).take 2).map UInt8.toNat = [16, 97] by decide +kernel) rfl
theorem dX12_sizeOf_16 : decode cX12_sizeOf 16 = .ok (.goto 15, 3) := dc_167 (show ((cX12_sizeOf.data.toList.drop 16).take 3).map UInt8.toNat = [167, 0, 15] by decide +kernel) rfl
theorem dX12_sizeOf_4 : decode cX12_sizeOf 4 = .ok (.bipush 58, 2) := dc_16 (show ((cX12_sizeOf.data.toList.drop 4).take 2).map UInt8.toNat = [16, 58] by decide +kernel) rfl
theorem dX12_sizeOf_6 : decode cX12_sizeOf 6 = .ok (.goto 25, 3) := dc_167 (show ((cX12_sizeOf.data.toList.drop 6).take 3).map UInt8.toNat = [167, 0, 25] by decide +kernel) rfl
def ms_sizeOf (n : Nat) (f : gb_F) (w : Int64) (p1 : Int32) : gb_MR Int32 := (if p1 = 0 then some (f, w, 58) else (if p1 = 1 then some (f, w, 97) else (if p1 = 2 then some (f, w, 25) else some (f, w, 11))))
set_option maxHeartbeats 8000000 in
set_option maxRecDepth 100000 in
theorem mc_sizeOf (l : Launch) (D : va_G) (cT : Nat → ClassId) (tt : Nat → Nat) (b1 b : Nat) (hb1 : b1 ≤ b) (n : Nat) (f : gb_F) (w : Int64) (p1 : Int32) (fE : gb_F) (wE : Int64) (rE : Int32) (h : ms_sizeOf n f w p1 = some (fE, wE, rE)) : Met l yX12_sizeOf (.code yX12_sizeOf cX12_sizeOf 1 (some FieldType.int) :: gb_wA) ({ frames := 0, cells := 0, slots := 0, locals := 0 }) (gb_Pc D cT tt b1 [.int p1] (fun h => va_P D vwCl (gb_wl b (gb_MW cT b f w)) h)) (gb_Qi (fun r h => r = rE ∧ va_P D vwCl (gb_wl b (gb_MW cT b fE wE)) h) (gb_fr b 22)) 0 0 (gb_fr b 22) := by
  refine Met.ofW (cc := cX12_sizeOf) (maxL := 1) (ret := (some FieldType.int)) (by decide) rfl ?_
  intro p e s m args below meth c s₁ B hml hv
  obtain ⟨rfl, hSt, hP⟩ := hv
  have hx := B.exec
  have hb := B.bytes
  have hr := B.returns
  have hts := atoms_spec (ws := .code yX12_sizeOf cX12_sizeOf 1 (some FieldType.int) :: gb_wA) B.pre
  have hq : ∀ w ∈ gb_wA, w.before _ s = true := fun w h => hts w (List.mem_cons_of_mem _ h)
  have hown : s.vm.findClass RX12 = some m.cls := findClass_of_methodNamed B.named
  have hlocks := B.notSynchronized
  clear B hts
  have hK := hSt.1
  have hS : va_S (gb_fr b 22) s.heap s.heap [] := va_S.rf
  have hl := lv_entry ([.int p1]) (n := 1) (Nat.le_of_ble_eq_true rfl)
  rw [lg_entry_eq]
  generalize (lg_sl ([.int p1]) ++ List.replicate (1 - (lg_sl ([.int p1])).length) Slot.unset).toArray = ls at hl ⊢
  replace hl : lv_has ls 1 [(0, .int p1)] := hl
  unfold ms_sizeOf at h
  refine lv_iload_n hx hb dX12_sizeOf_0 rfl (lv_at hl 0 rfl) ?_
  refine lv_if_ne (tgt := 9) hx hb dX12_sizeOf_1 (by decide) (fun c_1 => ?_) (fun c_1 => ?_)
  · rw [if_neg c_1] at h
    refine lv_iload_n hx hb dX12_sizeOf_9 rfl (lv_at hl 0 rfl) ?_
    refine lv_iconst (v := 1) hx hb dX12_sizeOf_10 (by decide) ?_
    refine lv_icmp_ne (tgt := 19) hx hb dX12_sizeOf_11 (by decide) (fun c_2 => ?_) (fun c_2 => ?_)
    · rw [if_neg c_2] at h
      refine lv_iload_n hx hb dX12_sizeOf_19 rfl (lv_at hl 0 rfl) ?_
      refine lv_iconst (v := 2) hx hb dX12_sizeOf_20 (by decide) ?_
      refine lv_icmp_ne (tgt := 29) hx hb dX12_sizeOf_21 (by decide) (fun c_3 => ?_) (fun c_3 => ?_)
      · rw [if_neg c_3] at h
        refine lv_bipush (v := 11) hx hb dX12_sizeOf_29 (by decide) ?_
        obtain ⟨e1, e2, e3⟩ := gb_eq3 h
        exact W.iret (v := 11) hx hb hr (fun t ht hW => gb_ri ht ⟨e3, by rw [← e1, ← e2]; exact hP⟩ hS) hS.2.2 dX12_sizeOf_31
      · rw [if_pos c_3] at h
        refine lv_bipush (v := 25) hx hb dX12_sizeOf_24 (by decide) ?_
        refine lv_goto (tgt := 31) hx hb dX12_sizeOf_26 (by decide) ?_
        obtain ⟨e1, e2, e3⟩ := gb_eq3 h
        exact W.iret (v := 25) hx hb hr (fun t ht hW => gb_ri ht ⟨e3, by rw [← e1, ← e2]; exact hP⟩ hS) hS.2.2 dX12_sizeOf_31
    · rw [if_pos c_2] at h
      refine lv_bipush (v := 97) hx hb dX12_sizeOf_14 (by decide) ?_
      refine lv_goto (tgt := 31) hx hb dX12_sizeOf_16 (by decide) ?_
      obtain ⟨e1, e2, e3⟩ := gb_eq3 h
      exact W.iret (v := 97) hx hb hr (fun t ht hW => gb_ri ht ⟨e3, by rw [← e1, ← e2]; exact hP⟩ hS) hS.2.2 dX12_sizeOf_31
  · rw [if_pos c_1] at h
    refine lv_bipush (v := 58) hx hb dX12_sizeOf_4 (by decide) ?_
    refine lv_goto (tgt := 31) hx hb dX12_sizeOf_6 (by decide) ?_
    obtain ⟨e1, e2, e3⟩ := gb_eq3 h
    exact W.iret (v := 58) hx hb hr (fun t ht hW => gb_ri ht ⟨e3, by rw [← e1, ← e2]; exact hP⟩ hS) hS.2.2 dX12_sizeOf_31
theorem dX12_isOf_0 : decode cX12_isOf 0 = .ok (.iload_n 2, 1) := dc_28 (show ((cX12_isOf.data.toList.drop 0).take 1).map UInt8.toNat = [28] by decide +kernel)
theorem dX12_isOf_1 : decode cX12_isOf 1 = .ok (.iconst 0, 1) := dc_3 (show ((cX12_isOf.data.toList.drop 1).take 1).map UInt8.toNat = [3] by decide +kernel)
theorem dX12_isOf_2 : decode cX12_isOf 2 = .ok (.aload_n 0, 1) := dc_42 (show ((cX12_isOf.data.toList.drop 2).take 1).map UInt8.toNat = [42] by decide +kernel)
theorem dX12_isOf_3 : decode cX12_isOf 3 = .ok (.getfield 7, 3) := dc_180 (show ((cX12_isOf.data.toList.drop 3).take 3).map UInt8.toNat = [180, 0, 7] by decide +kernel) rfl
theorem dX12_isOf_6 : decode cX12_isOf 6 = .ok (.iload_n 1, 1) := dc_27 (show ((cX12_isOf.data.toList.drop 6).take 1).map UInt8.toNat = [27] by decide +kernel)
theorem dX12_isOf_7 : decode cX12_isOf 7 = .ok (.iaload, 1) := dc_46 (show ((cX12_isOf.data.toList.drop 7).take 1).map UInt8.toNat = [46] by decide +kernel)
theorem dX12_isOf_8 : decode cX12_isOf 8 = .ok (.iconst 1, 1) := dc_4 (show ((cX12_isOf.data.toList.drop 8).take 1).map UInt8.toNat = [4] by decide +kernel)
theorem dX12_isOf_9 : decode cX12_isOf 9 = .ok (.isub, 1) := dc_100 (show ((cX12_isOf.data.toList.drop 9).take 1).map UInt8.toNat = [100] by decide +kernel)
theorem dX12_isOf_10 : decode cX12_isOf 10 = .ok (.invokestatic 129, 3) := dc_184 (show ((cX12_isOf.data.toList.drop 10).take 3).map UInt8.toNat = [184, 0, 129] by decide +kernel) rfl
theorem dX12_isOf_13 : decode cX12_isOf 13 = .ok (.ireturn, 1) := dc_172 (show ((cX12_isOf.data.toList.drop 13).take 1).map UInt8.toNat = [172] by decide +kernel)
def ms_isOf (n : Nat) (f : gb_F) (w : Int64) (p1 : Int32) (p2 : Int32) : gb_MR Int32 := gb_ck p1 3968 (gb_lt (f 1 (Int32.toNatClampNeg p1)) (fun x_2 => gb_bd (ms_isIn n f w p2 0 (x_2 - 1)) (fun f_3 wl_4 r_5 => gb_cb r_5 (some (f_3, wl_4, r_5)))))
set_option maxHeartbeats 8000000 in
set_option maxRecDepth 100000 in
theorem mc_isOf (l : Launch) (D : va_G) (cT : Nat → ClassId) (tt : Nat → Nat) (b1 b : Nat) (hb1 : b1 ≤ b) (n : Nat) (f : gb_F) (w : Int64) (p1 : Int32) (p2 : Int32) (fE : gb_F) (wE : Int64) (rE : Int32) (h : ms_isOf n f w p1 p2 = some (fE, wE, rE)) : Met l yX12_isOf (.code yX12_isOf cX12_isOf 3 (some FieldType.boolean) :: gb_wA) ({ frames := 1, cells := 0, slots := 0, locals := 22 }) (gb_Pc D cT tt b1 [.ref (b + 0), .int p1, .int p2] (fun h => va_P D vwCl (gb_wl b (gb_MW cT b f w)) h)) (gb_Qi (fun r h => r = rE ∧ va_P D vwCl (gb_wl b (gb_MW cT b fE wE)) h) (gb_fr b 22)) 0 0 (gb_fr b 22) := by
  refine Met.ofW (cc := cX12_isOf) (maxL := 3) (ret := (some FieldType.boolean)) (by decide) rfl ?_
  intro p e s m args below meth c s₁ B hml hv
  obtain ⟨rfl, hSt, hP⟩ := hv
  have hx := B.exec
  have hb := B.bytes
  have hr := B.returns
  have hts := atoms_spec (ws := .code yX12_isOf cX12_isOf 3 (some FieldType.boolean) :: gb_wA) B.pre
  have hq : ∀ w ∈ gb_wA, w.before _ s = true := fun w h => hts w (List.mem_cons_of_mem _ h)
  have hown : s.vm.findClass RX12 = some m.cls := findClass_of_methodNamed B.named
  have hlocks := B.notSynchronized
  clear B hts
  have hK := hSt.1
  have hS : va_S (gb_fr b 22) s.heap s.heap [] := va_S.rf
  have hl := lv_entry ([.ref (b + 0), .int p1, .int p2]) (n := 3) (Nat.le_of_ble_eq_true rfl)
  rw [lg_entry_eq]
  generalize (lg_sl ([.ref (b + 0), .int p1, .int p2]) ++ List.replicate (3 - (lg_sl ([.ref (b + 0), .int p1, .int p2])).length) Slot.unset).toArray = ls at hl ⊢
  replace hl : lv_has ls 3 [(0, .ref (b + 0)), (1, .int p1), (2, .int p2)] := hl
  unfold ms_isOf at h
  refine lv_iload_n hx hb dX12_isOf_0 rfl (lv_at hl 2 rfl) ?_
  refine lv_iconst (v := 0) hx hb dX12_isOf_1 (by decide) ?_
  refine lv_aload_n hx hb dX12_isOf_2 rfl (lv_at hl 0 rfl) ?_
  refine va_get (ci := 10) (v := (.ref (b + 1))) (C := RX12) (T := TX12) (N := 44) hx hb hq i_X12 hown hK hP 0 (gb_at b rfl) rfl 0 (by decide) (hq _ w_1124) (fun _ h9 => h9) rfl dX12_isOf_3 ?_
  refine lv_iload_n hx hb dX12_isOf_6 rfl (lv_at hl 1 rfl) ?_
  obtain ⟨z_1, h⟩ := gb_ck_s h
  refine va_iald hx hb hK hP 1 0 (gb_at b rfl) rfl z_1 dX12_isOf_7 ?_
  refine lv_topi (fun x_2 ex_2 => ?_)
  replace h := gb_lt_s ex_2 h
  refine lv_iconst (v := 1) hx hb dX12_isOf_8 (by decide) ?_
  refine lv_isub hx hb dX12_isOf_9 ?_
  obtain ⟨f_3, wl_4, r_5, z_6, h⟩ := gb_bd_s h
  refine gb_calli (va_runS (As := [.int p2, .int 0, .int (x_2 - 1)]) (rest := []) ⟨hx, hb, hml, hown, hq⟩ (mc_isIn l D cT tt b1 b hb1 n f w p2 0 (x_2 - 1) f_3 wl_4 r_5 z_6) (va_cwS 3 hq (gb_gS w_1269 w_1270 w_14 w_1271) rfl rfl rfl (by decide +kernel) ⟨Nat.le_of_ble_eq_true rfl, Nat.le_of_ble_eq_true rfl⟩) (gb_preS hSt hS (fun q h => Nat.le_trans hb1 h.1) hP) rfl rfl hl.1 rfl (lv_room (Nat.le_of_ble_eq_true rfl)) dX12_isOf_10 ⟨Nat.le_of_ble_eq_true rfl, Nat.le_of_ble_eq_true rfl⟩) hS (fun _ h => h) (fun _ h => h) (fun q_7 H locs hY hk hS => ?_)
  obtain ⟨hq_7, hP⟩ := hY
  replace hq_7 := hq_7.symm
  subst hq_7
  obtain ⟨z_8, h⟩ := gb_cb_s h
  obtain ⟨e1, e2, e3⟩ := gb_eq3 h
  exact W.zret (v := r_5) hx hb hr z_8.1 (fun t ht hW => gb_ri ht ⟨e3, by rw [← e1, ← e2]; exact hP⟩ hS) hS.2.2 dX12_isOf_13
theorem dq_cX12_text_0 : ((cX12_text.data.toList.drop 0).take 67).map UInt8.toNat = [42, 42, 180, 0, 7, 7, 46, 181, 0, 74, 42, 180, 0, 7, 7, 3, 79, 42, 180, 0, 7, 8, 3, 79, 42, 180, 0, 7, 16, 6, 2, 79, 27, 3, 6, 184, 0, 129, 153, 0, 30, 28, 2, 160, 0, 16, 42, 180, 0, 7, 27, 46, 5, 161, 0, 18, 167, 0, 12, 42, 27, 28, 182, 0, 171, 154, 0] := by decide +kernel
theorem dX12_text_0 : decode cX12_text 0 = .ok (.aload_n 0, 1) := dc_42 (dc_cut (j := 0) (n := 1) (l := [42]) dq_cX12_text_0 (by decide +kernel) (by decide))
theorem dX12_text_1 : decode cX12_text 1 = .ok (.aload_n 0, 1) := dc_42 (dc_cut (j := 1) (n := 1) (l := [42]) dq_cX12_text_0 (by decide +kernel) (by decide))
theorem dX12_text_2 : decode cX12_text 2 = .ok (.getfield 7, 3) := dc_180 (dc_cut (j := 2) (n := 3) (l := [180, 0, 7]) dq_cX12_text_0 (by decide +kernel) (by decide)) rfl
theorem dX12_text_5 : decode cX12_text 5 = .ok (.iconst 4, 1) := dc_7 (dc_cut (j := 5) (n := 1) (l := [7]) dq_cX12_text_0 (by decide +kernel) (by decide))
theorem dX12_text_6 : decode cX12_text 6 = .ok (.iaload, 1) := dc_46 (dc_cut (j := 6) (n := 1) (l := [46]) dq_cX12_text_0 (by decide +kernel) (by decide))
theorem dX12_text_7 : decode cX12_text 7 = .ok (.putfield 74, 3) := dc_181 (dc_cut (j := 7) (n := 3) (l := [181, 0, 74]) dq_cX12_text_0 (by decide +kernel) (by decide)) rfl
theorem dX12_text_10 : decode cX12_text 10 = .ok (.aload_n 0, 1) := dc_42 (dc_cut (j := 10) (n := 1) (l := [42]) dq_cX12_text_0 (by decide +kernel) (by decide))
theorem dX12_text_11 : decode cX12_text 11 = .ok (.getfield 7, 3) := dc_180 (dc_cut (j := 11) (n := 3) (l := [180, 0, 7]) dq_cX12_text_0 (by decide +kernel) (by decide)) rfl
theorem dX12_text_14 : decode cX12_text 14 = .ok (.iconst 4, 1) := dc_7 (dc_cut (j := 14) (n := 1) (l := [7]) dq_cX12_text_0 (by decide +kernel) (by decide))
theorem dX12_text_15 : decode cX12_text 15 = .ok (.iconst 0, 1) := dc_3 (dc_cut (j := 15) (n := 1) (l := [3]) dq_cX12_text_0 (by decide +kernel) (by decide))
theorem dX12_text_16 : decode cX12_text 16 = .ok (.iastore, 1) := dc_79 (dc_cut (j := 16) (n := 1) (l := [79]) dq_cX12_text_0 (by decide +kernel) (by decide))
theorem dX12_text_17 : decode cX12_text 17 = .ok (.aload_n 0, 1) := dc_42 (dc_cut (j := 17) (n := 1) (l := [42]) dq_cX12_text_0 (by decide +kernel) (by decide))
theorem dX12_text_18 : decode cX12_text 18 = .ok (.getfield 7, 3) := dc_180 (dc_cut (j := 18) (n := 3) (l := [180, 0, 7]) dq_cX12_text_0 (by decide +kernel) (by decide)) rfl
theorem dX12_text_21 : decode cX12_text 21 = .ok (.iconst 5, 1) := dc_8 (dc_cut (j := 21) (n := 1) (l := [8]) dq_cX12_text_0 (by decide +kernel) (by decide))
theorem dX12_text_22 : decode cX12_text 22 = .ok (.iconst 0, 1) := dc_3 (dc_cut (j := 22) (n := 1) (l := [3]) dq_cX12_text_0 (by decide +kernel) (by decide))
theorem dX12_text_23 : decode cX12_text 23 = .ok (.iastore, 1) := dc_79 (dc_cut (j := 23) (n := 1) (l := [79]) dq_cX12_text_0 (by decide +kernel) (by decide))
theorem dX12_text_24 : decode cX12_text 24 = .ok (.aload_n 0, 1) := dc_42 (dc_cut (j := 24) (n := 1) (l := [42]) dq_cX12_text_0 (by decide +kernel) (by decide))
theorem dX12_text_25 : decode cX12_text 25 = .ok (.getfield 7, 3) := dc_180 (dc_cut (j := 25) (n := 3) (l := [180, 0, 7]) dq_cX12_text_0 (by decide +kernel) (by decide)) rfl
theorem dX12_text_28 : decode cX12_text 28 = .ok (.bipush 6, 2) := dc_16 (dc_cut (j := 28) (n := 2) (l := [16, 6]) dq_cX12_text_0 (by decide +kernel) (by decide)) rfl
theorem dX12_text_30 : decode cX12_text 30 = .ok (.iconst (-1), 1) := dc_2 (dc_cut (j := 30) (n := 1) (l := [2]) dq_cX12_text_0 (by decide +kernel) (by decide))
theorem dX12_text_31 : decode cX12_text 31 = .ok (.iastore, 1) := dc_79 (dc_cut (j := 31) (n := 1) (l := [79]) dq_cX12_text_0 (by decide +kernel) (by decide))
theorem dX12_text_32 : decode cX12_text 32 = .ok (.iload_n 1, 1) := dc_27 (dc_cut (j := 32) (n := 1) (l := [27]) dq_cX12_text_0 (by decide +kernel) (by decide))
theorem dX12_text_33 : decode cX12_text 33 = .ok (.iconst 0, 1) := dc_3 (dc_cut (j := 33) (n := 1) (l := [3]) dq_cX12_text_0 (by decide +kernel) (by decide))
theorem dX12_text_34 : decode cX12_text 34 = .ok (.iconst 3, 1) := dc_6 (dc_cut (j := 34) (n := 1) (l := [6]) dq_cX12_text_0 (by decide +kernel) (by decide))
theorem dX12_text_35 : decode cX12_text 35 = .ok (.invokestatic 129, 3) := dc_184 (dc_cut (j := 35) (n := 3) (l := [184, 0, 129]) dq_cX12_text_0 (by decide +kernel) (by decide)) rfl
theorem dX12_text_38 : decode cX12_text 38 = .ok (.ifCond .eq 30, 3) := dc_153 (dc_cut (j := 38) (n := 3) (l := [153, 0, 30]) dq_cX12_text_0 (by decide +kernel) (by decide)) rfl
theorem dq_cX12_text_64 : ((cX12_text.data.toList.drop 64).take 67).map UInt8.toNat = [171, 154, 0, 6, 16, 254, 172, 42, 3, 181, 0, 88, 42, 3, 181, 0, 122, 42, 3, 181, 0, 168, 3, 62, 29, 16, 97, 162, 0, 16, 42, 180, 0, 17, 29, 3, 79, 132, 3, 1, 167, 255, 240, 27, 154, 0, 10, 42, 180, 0, 17, 5, 2, 79, 42, 182, 0, 137, 42, 180, 0, 122, 154, 0, 52, 42, 180] := by decide +kernel
theorem dX12_text_68 : decode cX12_text 68 = .ok (.bipush (-2), 2) := dc_16 (dc_cut (j := 4) (n := 2) (l := [16, 254]) dq_cX12_text_64 (by decide +kernel) (by decide)) rfl
theorem dX12_text_70 : decode cX12_text 70 = .ok (.ireturn, 1) := dc_172 (dc_cut (j := 6) (n := 1) (l := [172]) dq_cX12_text_64 (by decide +kernel) (by decide))
theorem dX12_text_41 : decode cX12_text 41 = .ok (.iload_n 2, 1) := dc_28 (dc_cut (j := 41) (n := 1) (l := [28]) dq_cX12_text_0 (by decide +kernel) (by decide))
theorem dX12_text_42 : decode cX12_text 42 = .ok (.iconst (-1), 1) := dc_2 (dc_cut (j := 42) (n := 1) (l := [2]) dq_cX12_text_0 (by decide +kernel) (by decide))
theorem dX12_text_43 : decode cX12_text 43 = .ok (.if_icmp .ne 16, 3) := dc_160 (dc_cut (j := 43) (n := 3) (l := [160, 0, 16]) dq_cX12_text_0 (by decide +kernel) (by decide)) rfl
theorem dX12_text_59 : decode cX12_text 59 = .ok (.aload_n 0, 1) := dc_42 (dc_cut (j := 59) (n := 1) (l := [42]) dq_cX12_text_0 (by decide +kernel) (by decide))
theorem dX12_text_60 : decode cX12_text 60 = .ok (.iload_n 1, 1) := dc_27 (dc_cut (j := 60) (n := 1) (l := [27]) dq_cX12_text_0 (by decide +kernel) (by decide))
theorem dX12_text_61 : decode cX12_text 61 = .ok (.iload_n 2, 1) := dc_28 (dc_cut (j := 61) (n := 1) (l := [28]) dq_cX12_text_0 (by decide +kernel) (by decide))
theorem dX12_text_62 : decode cX12_text 62 = .ok (.invokevirtual 171, 3) := dc_182 (dc_cut (j := 62) (n := 3) (l := [182, 0, 171]) dq_cX12_text_0 (by decide +kernel) (by decide)) rfl
theorem w_1275 : (Cond.code ({ cls := "GooseBorderModel", name := "isOf", desc := "(II)Z" } : MethodName) prog_14_method_28_code (3 : Nat) (Option.some FieldType.boolean)) ∈ gb_wA := gb_t6 75 rfl rfl
theorem w_1272 : (Cond.methodLink "GooseBorderModel" (171 : Nat) ({ cls := "GooseBorderModel", name := "isOf", desc := "(II)Z" } : MethodName)) ∈ gb_wA := gb_t6 72 rfl rfl
theorem w_1274 : (Cond.instanceMethod ({ cls := "GooseBorderModel", name := "isOf", desc := "(II)Z" } : MethodName)) ∈ gb_wA := gb_t6 74 rfl rfl
theorem s_3_0 : Cond.selects "GooseBorderModel" (⟨"GooseBorderModel", "isOf", "(II)Z"⟩ : MethodName) (⟨"GooseBorderModel", "isOf", "(II)Z"⟩ : MethodName) ∈ gb_wA := gb_s3 0 rfl rfl
theorem dX12_text_65 : decode cX12_text 65 = .ok (.ifCond .ne 6, 3) := dc_154 (dc_cut (j := 1) (n := 3) (l := [154, 0, 6]) dq_cX12_text_64 (by decide +kernel) (by decide)) rfl
theorem dX12_text_71 : decode cX12_text 71 = .ok (.aload_n 0, 1) := dc_42 (dc_cut (j := 7) (n := 1) (l := [42]) dq_cX12_text_64 (by decide +kernel) (by decide))
theorem dX12_text_72 : decode cX12_text 72 = .ok (.iconst 0, 1) := dc_3 (dc_cut (j := 8) (n := 1) (l := [3]) dq_cX12_text_64 (by decide +kernel) (by decide))
theorem dX12_text_73 : decode cX12_text 73 = .ok (.putfield 88, 3) := dc_181 (dc_cut (j := 9) (n := 3) (l := [181, 0, 88]) dq_cX12_text_64 (by decide +kernel) (by decide)) rfl
theorem dX12_text_76 : decode cX12_text 76 = .ok (.aload_n 0, 1) := dc_42 (dc_cut (j := 12) (n := 1) (l := [42]) dq_cX12_text_64 (by decide +kernel) (by decide))
theorem dX12_text_77 : decode cX12_text 77 = .ok (.iconst 0, 1) := dc_3 (dc_cut (j := 13) (n := 1) (l := [3]) dq_cX12_text_64 (by decide +kernel) (by decide))
theorem dX12_text_78 : decode cX12_text 78 = .ok (.putfield 122, 3) := dc_181 (dc_cut (j := 14) (n := 3) (l := [181, 0, 122]) dq_cX12_text_64 (by decide +kernel) (by decide)) rfl
theorem dX12_text_81 : decode cX12_text 81 = .ok (.aload_n 0, 1) := dc_42 (dc_cut (j := 17) (n := 1) (l := [42]) dq_cX12_text_64 (by decide +kernel) (by decide))
theorem dX12_text_82 : decode cX12_text 82 = .ok (.iconst 0, 1) := dc_3 (dc_cut (j := 18) (n := 1) (l := [3]) dq_cX12_text_64 (by decide +kernel) (by decide))
theorem dX12_text_83 : decode cX12_text 83 = .ok (.putfield 168, 3) := dc_181 (dc_cut (j := 19) (n := 3) (l := [181, 0, 168]) dq_cX12_text_64 (by decide +kernel) (by decide)) rfl
theorem dX12_text_86 : decode cX12_text 86 = .ok (.iconst 0, 1) := dc_3 (dc_cut (j := 22) (n := 1) (l := [3]) dq_cX12_text_64 (by decide +kernel) (by decide))
theorem dX12_text_87 : decode cX12_text 87 = .ok (.istore_n 3, 1) := dc_62 (dc_cut (j := 23) (n := 1) (l := [62]) dq_cX12_text_64 (by decide +kernel) (by decide))
theorem dX12_text_88 : decode cX12_text 88 = .ok (.iload_n 3, 1) := dc_29 (dc_cut (j := 24) (n := 1) (l := [29]) dq_cX12_text_64 (by decide +kernel) (by decide))
theorem dX12_text_89 : decode cX12_text 89 = .ok (.bipush 97, 2) := dc_16 (dc_cut (j := 25) (n := 2) (l := [16, 97]) dq_cX12_text_64 (by decide +kernel) (by decide)) rfl
theorem dX12_text_91 : decode cX12_text 91 = .ok (.if_icmp .ge 16, 3) := dc_162 (dc_cut (j := 27) (n := 3) (l := [162, 0, 16]) dq_cX12_text_64 (by decide +kernel) (by decide)) rfl
theorem dX12_text_107 : decode cX12_text 107 = .ok (.iload_n 1, 1) := dc_27 (dc_cut (j := 43) (n := 1) (l := [27]) dq_cX12_text_64 (by decide +kernel) (by decide))
theorem dX12_text_108 : decode cX12_text 108 = .ok (.ifCond .ne 10, 3) := dc_154 (dc_cut (j := 44) (n := 3) (l := [154, 0, 10]) dq_cX12_text_64 (by decide +kernel) (by decide)) rfl
theorem dX12_text_118 : decode cX12_text 118 = .ok (.aload_n 0, 1) := dc_42 (dc_cut (j := 54) (n := 1) (l := [42]) dq_cX12_text_64 (by decide +kernel) (by decide))
theorem dX12_text_119 : decode cX12_text 119 = .ok (.invokevirtual 137, 3) := dc_182 (dc_cut (j := 55) (n := 3) (l := [182, 0, 137]) dq_cX12_text_64 (by decide +kernel) (by decide)) rfl
theorem dX12_text_122 : decode cX12_text 122 = .ok (.aload_n 0, 1) := dc_42 (dc_cut (j := 58) (n := 1) (l := [42]) dq_cX12_text_64 (by decide +kernel) (by decide))
theorem dX12_text_123 : decode cX12_text 123 = .ok (.getfield 122, 3) := dc_180 (dc_cut (j := 59) (n := 3) (l := [180, 0, 122]) dq_cX12_text_64 (by decide +kernel) (by decide)) rfl
theorem dX12_text_126 : decode cX12_text 126 = .ok (.ifCond .ne 52, 3) := dc_154 (dc_cut (j := 62) (n := 3) (l := [154, 0, 52]) dq_cX12_text_64 (by decide +kernel) (by decide)) rfl
theorem dq_cX12_text_128 : ((cX12_text.data.toList.drop 128).take 67).map UInt8.toNat = [52, 42, 180, 0, 98, 153, 0, 45, 27, 154, 0, 10, 42, 182, 0, 175, 167, 255, 234, 27, 4, 160, 0, 10, 42, 182, 0, 178, 167, 255, 222, 27, 5, 160, 0, 10, 42, 182, 0, 181, 167, 255, 210, 42, 182, 0, 184, 167, 255, 203, 42, 180, 0, 7, 8, 46, 154, 0, 19, 42, 180, 0, 168, 153, 0, 12, 42] := by decide +kernel
theorem dX12_text_178 : decode cX12_text 178 = .ok (.aload_n 0, 1) := dc_42 (dc_cut (j := 50) (n := 1) (l := [42]) dq_cX12_text_128 (by decide +kernel) (by decide))
theorem dX12_text_179 : decode cX12_text 179 = .ok (.getfield 7, 3) := dc_180 (dc_cut (j := 51) (n := 3) (l := [180, 0, 7]) dq_cX12_text_128 (by decide +kernel) (by decide)) rfl
theorem dX12_text_182 : decode cX12_text 182 = .ok (.iconst 5, 1) := dc_8 (dc_cut (j := 54) (n := 1) (l := [8]) dq_cX12_text_128 (by decide +kernel) (by decide))
theorem dX12_text_183 : decode cX12_text 183 = .ok (.iaload, 1) := dc_46 (dc_cut (j := 55) (n := 1) (l := [46]) dq_cX12_text_128 (by decide +kernel) (by decide))
theorem dX12_text_184 : decode cX12_text 184 = .ok (.ifCond .ne 19, 3) := dc_154 (dc_cut (j := 56) (n := 3) (l := [154, 0, 19]) dq_cX12_text_128 (by decide +kernel) (by decide)) rfl
theorem dq_cX12_text_192 : ((cX12_text.data.toList.drop 192).take 67).map UInt8.toNat = [0, 12, 42, 7, 42, 180, 0, 95, 182, 0, 133, 42, 180, 0, 7, 8, 46, 153, 0, 5, 2, 172, 28, 2, 160, 0, 12, 42, 180, 0, 7, 27, 46, 167, 0, 4, 28, 62, 28, 2, 160, 0, 13, 42, 180, 0, 7, 27, 92, 46, 4, 96, 79, 3, 54, 4, 21, 4, 27, 184, 0, 187, 162, 0, 29, 42, 180] := by decide +kernel
theorem dX12_text_203 : decode cX12_text 203 = .ok (.aload_n 0, 1) := dc_42 (dc_cut (j := 11) (n := 1) (l := [42]) dq_cX12_text_192 (by decide +kernel) (by decide))
theorem dX12_text_204 : decode cX12_text 204 = .ok (.getfield 7, 3) := dc_180 (dc_cut (j := 12) (n := 3) (l := [180, 0, 7]) dq_cX12_text_192 (by decide +kernel) (by decide)) rfl
theorem dX12_text_207 : decode cX12_text 207 = .ok (.iconst 5, 1) := dc_8 (dc_cut (j := 15) (n := 1) (l := [8]) dq_cX12_text_192 (by decide +kernel) (by decide))
theorem dX12_text_208 : decode cX12_text 208 = .ok (.iaload, 1) := dc_46 (dc_cut (j := 16) (n := 1) (l := [46]) dq_cX12_text_192 (by decide +kernel) (by decide))
theorem dX12_text_209 : decode cX12_text 209 = .ok (.ifCond .eq 5, 3) := dc_153 (dc_cut (j := 17) (n := 3) (l := [153, 0, 5]) dq_cX12_text_192 (by decide +kernel) (by decide)) rfl
theorem dX12_text_214 : decode cX12_text 214 = .ok (.iload_n 2, 1) := dc_28 (dc_cut (j := 22) (n := 1) (l := [28]) dq_cX12_text_192 (by decide +kernel) (by decide))
theorem dX12_text_215 : decode cX12_text 215 = .ok (.iconst (-1), 1) := dc_2 (dc_cut (j := 23) (n := 1) (l := [2]) dq_cX12_text_192 (by decide +kernel) (by decide))
theorem dX12_text_216 : decode cX12_text 216 = .ok (.if_icmp .ne 12, 3) := dc_160 (dc_cut (j := 24) (n := 3) (l := [160, 0, 12]) dq_cX12_text_192 (by decide +kernel) (by decide)) rfl
theorem dX12_text_228 : decode cX12_text 228 = .ok (.iload_n 2, 1) := dc_28 (dc_cut (j := 36) (n := 1) (l := [28]) dq_cX12_text_192 (by decide +kernel) (by decide))
theorem dX12_text_229 : decode cX12_text 229 = .ok (.istore_n 3, 1) := dc_62 (dc_cut (j := 37) (n := 1) (l := [62]) dq_cX12_text_192 (by decide +kernel) (by decide))
theorem dX12_text_230 : decode cX12_text 230 = .ok (.iload_n 2, 1) := dc_28 (dc_cut (j := 38) (n := 1) (l := [28]) dq_cX12_text_192 (by decide +kernel) (by decide))
theorem dX12_text_231 : decode cX12_text 231 = .ok (.iconst (-1), 1) := dc_2 (dc_cut (j := 39) (n := 1) (l := [2]) dq_cX12_text_192 (by decide +kernel) (by decide))
theorem dX12_text_232 : decode cX12_text 232 = .ok (.if_icmp .ne 13, 3) := dc_160 (dc_cut (j := 40) (n := 3) (l := [160, 0, 13]) dq_cX12_text_192 (by decide +kernel) (by decide)) rfl
theorem dX12_text_245 : decode cX12_text 245 = .ok (.iconst 0, 1) := dc_3 (dc_cut (j := 53) (n := 1) (l := [3]) dq_cX12_text_192 (by decide +kernel) (by decide))
theorem dX12_text_246 : decode cX12_text 246 = .ok (.istore 4, 2) := dc_54 (dc_cut (j := 54) (n := 2) (l := [54, 4]) dq_cX12_text_192 (by decide +kernel) (by decide)) rfl
theorem dX12_text_248 : decode cX12_text 248 = .ok (.iload 4, 2) := dc_21 (dc_cut (j := 56) (n := 2) (l := [21, 4]) dq_cX12_text_192 (by decide +kernel) (by decide)) rfl
theorem dX12_text_250 : decode cX12_text 250 = .ok (.iload_n 1, 1) := dc_27 (dc_cut (j := 58) (n := 1) (l := [27]) dq_cX12_text_192 (by decide +kernel) (by decide))
theorem dX12_text_251 : decode cX12_text 251 = .ok (.invokestatic 187, 3) := dc_184 (dc_cut (j := 59) (n := 3) (l := [184, 0, 187]) dq_cX12_text_192 (by decide +kernel) (by decide)) rfl
theorem w_1360 : (Cond.code ({ cls := "GooseBorderModel", name := "sizeOf", desc := "(I)I" } : MethodName) prog_14_method_27_code (1 : Nat) (Option.some FieldType.int)) ∈ gb_wA := gb_t6 160 rfl rfl
theorem w_1358 : (Cond.methodLink "GooseBorderModel" (187 : Nat) ({ cls := "GooseBorderModel", name := "sizeOf", desc := "(I)I" } : MethodName)) ∈ gb_wA := gb_t6 158 rfl rfl
theorem w_1359 : (Cond.static ({ cls := "GooseBorderModel", name := "sizeOf", desc := "(I)I" } : MethodName)) ∈ gb_wA := gb_t6 159 rfl rfl
theorem dX12_text_254 : decode cX12_text 254 = .ok (.if_icmp .ge 29, 3) := dc_162 (dc_cut (j := 62) (n := 3) (l := [162, 0, 29]) dq_cX12_text_192 (by decide +kernel) (by decide)) rfl
theorem dq_cX12_text_256 : ((cX12_text.data.toList.drop 256).take 29).map UInt8.toNat = [29, 42, 180, 0, 7, 27, 29, 184, 0, 190, 21, 4, 96, 42, 180, 0, 17, 21, 4, 46, 79, 132, 4, 1, 167, 255, 224, 29, 172] := by decide +kernel
theorem dX12_text_283 : decode cX12_text 283 = .ok (.iload_n 3, 1) := dc_29 (dc_cut (j := 27) (n := 1) (l := [29]) dq_cX12_text_256 (by decide +kernel) (by decide))
theorem dX12_text_284 : decode cX12_text 284 = .ok (.ireturn, 1) := dc_172 (dc_cut (j := 28) (n := 1) (l := [172]) dq_cX12_text_256 (by decide +kernel) (by decide))
theorem dX12_text_257 : decode cX12_text 257 = .ok (.aload_n 0, 1) := dc_42 (dc_cut (j := 1) (n := 1) (l := [42]) dq_cX12_text_256 (by decide +kernel) (by decide))
theorem dX12_text_258 : decode cX12_text 258 = .ok (.getfield 7, 3) := dc_180 (dc_cut (j := 2) (n := 3) (l := [180, 0, 7]) dq_cX12_text_256 (by decide +kernel) (by decide)) rfl
theorem dX12_text_261 : decode cX12_text 261 = .ok (.iload_n 1, 1) := dc_27 (dc_cut (j := 5) (n := 1) (l := [27]) dq_cX12_text_256 (by decide +kernel) (by decide))
theorem dX12_text_262 : decode cX12_text 262 = .ok (.iload_n 3, 1) := dc_29 (dc_cut (j := 6) (n := 1) (l := [29]) dq_cX12_text_256 (by decide +kernel) (by decide))
theorem dX12_text_263 : decode cX12_text 263 = .ok (.invokestatic 190, 3) := dc_184 (dc_cut (j := 7) (n := 3) (l := [184, 0, 190]) dq_cX12_text_256 (by decide +kernel) (by decide)) rfl
theorem w_1363 : (Cond.code ({ cls := "GooseBorderModel", name := "placeOf", desc := "(II)I" } : MethodName) prog_14_method_26_code (2 : Nat) (Option.some FieldType.int)) ∈ gb_wA := gb_t6 163 rfl rfl
theorem w_1361 : (Cond.methodLink "GooseBorderModel" (190 : Nat) ({ cls := "GooseBorderModel", name := "placeOf", desc := "(II)I" } : MethodName)) ∈ gb_wA := gb_t6 161 rfl rfl
theorem w_1362 : (Cond.static ({ cls := "GooseBorderModel", name := "placeOf", desc := "(II)I" } : MethodName)) ∈ gb_wA := gb_t6 162 rfl rfl
theorem dX12_text_266 : decode cX12_text 266 = .ok (.iload 4, 2) := dc_21 (dc_cut (j := 10) (n := 2) (l := [21, 4]) dq_cX12_text_256 (by decide +kernel) (by decide)) rfl
theorem dX12_text_268 : decode cX12_text 268 = .ok (.iadd, 1) := dc_96 (dc_cut (j := 12) (n := 1) (l := [96]) dq_cX12_text_256 (by decide +kernel) (by decide))
theorem dX12_text_269 : decode cX12_text 269 = .ok (.aload_n 0, 1) := dc_42 (dc_cut (j := 13) (n := 1) (l := [42]) dq_cX12_text_256 (by decide +kernel) (by decide))
theorem dX12_text_270 : decode cX12_text 270 = .ok (.getfield 17, 3) := dc_180 (dc_cut (j := 14) (n := 3) (l := [180, 0, 17]) dq_cX12_text_256 (by decide +kernel) (by decide)) rfl
theorem dX12_text_273 : decode cX12_text 273 = .ok (.iload 4, 2) := dc_21 (dc_cut (j := 17) (n := 2) (l := [21, 4]) dq_cX12_text_256 (by decide +kernel) (by decide)) rfl
theorem dX12_text_275 : decode cX12_text 275 = .ok (.iaload, 1) := dc_46 (dc_cut (j := 19) (n := 1) (l := [46]) dq_cX12_text_256 (by decide +kernel) (by decide))
theorem dX12_text_276 : decode cX12_text 276 = .ok (.iastore, 1) := dc_79 (dc_cut (j := 20) (n := 1) (l := [79]) dq_cX12_text_256 (by decide +kernel) (by decide))
theorem dX12_text_277 : decode cX12_text 277 = .ok (.iinc 4 1, 3) := dc_132 (dc_cut (j := 21) (n := 3) (l := [132, 4, 1]) dq_cX12_text_256 (by decide +kernel) (by decide)) rfl
theorem dX12_text_280 : decode cX12_text 280 = .ok (.goto (-32), 3) := dc_167 (dc_cut (j := 24) (n := 3) (l := [167, 255, 224]) dq_cX12_text_256 (by decide +kernel) (by decide)) rfl
theorem dX12_text_235 : decode cX12_text 235 = .ok (.aload_n 0, 1) := dc_42 (dc_cut (j := 43) (n := 1) (l := [42]) dq_cX12_text_192 (by decide +kernel) (by decide))
theorem dX12_text_236 : decode cX12_text 236 = .ok (.getfield 7, 3) := dc_180 (dc_cut (j := 44) (n := 3) (l := [180, 0, 7]) dq_cX12_text_192 (by decide +kernel) (by decide)) rfl
theorem dX12_text_239 : decode cX12_text 239 = .ok (.iload_n 1, 1) := dc_27 (dc_cut (j := 47) (n := 1) (l := [27]) dq_cX12_text_192 (by decide +kernel) (by decide))
theorem dX12_text_240 : decode cX12_text 240 = .ok (.dup2, 1) := dc_92 (dc_cut (j := 48) (n := 1) (l := [92]) dq_cX12_text_192 (by decide +kernel) (by decide))
theorem dX12_text_241 : decode cX12_text 241 = .ok (.iaload, 1) := dc_46 (dc_cut (j := 49) (n := 1) (l := [46]) dq_cX12_text_192 (by decide +kernel) (by decide))
theorem dX12_text_242 : decode cX12_text 242 = .ok (.iconst 1, 1) := dc_4 (dc_cut (j := 50) (n := 1) (l := [4]) dq_cX12_text_192 (by decide +kernel) (by decide))
theorem dX12_text_243 : decode cX12_text 243 = .ok (.iadd, 1) := dc_96 (dc_cut (j := 51) (n := 1) (l := [96]) dq_cX12_text_192 (by decide +kernel) (by decide))
theorem dX12_text_244 : decode cX12_text 244 = .ok (.iastore, 1) := dc_79 (dc_cut (j := 52) (n := 1) (l := [79]) dq_cX12_text_192 (by decide +kernel) (by decide))
theorem dX12_text_219 : decode cX12_text 219 = .ok (.aload_n 0, 1) := dc_42 (dc_cut (j := 27) (n := 1) (l := [42]) dq_cX12_text_192 (by decide +kernel) (by decide))
theorem dX12_text_220 : decode cX12_text 220 = .ok (.getfield 7, 3) := dc_180 (dc_cut (j := 28) (n := 3) (l := [180, 0, 7]) dq_cX12_text_192 (by decide +kernel) (by decide)) rfl
theorem dX12_text_223 : decode cX12_text 223 = .ok (.iload_n 1, 1) := dc_27 (dc_cut (j := 31) (n := 1) (l := [27]) dq_cX12_text_192 (by decide +kernel) (by decide))
theorem dX12_text_224 : decode cX12_text 224 = .ok (.iaload, 1) := dc_46 (dc_cut (j := 32) (n := 1) (l := [46]) dq_cX12_text_192 (by decide +kernel) (by decide))
theorem dX12_text_225 : decode cX12_text 225 = .ok (.goto 4, 3) := dc_167 (dc_cut (j := 33) (n := 3) (l := [167, 0, 4]) dq_cX12_text_192 (by decide +kernel) (by decide)) rfl
theorem dX12_text_212 : decode cX12_text 212 = .ok (.iconst (-1), 1) := dc_2 (dc_cut (j := 20) (n := 1) (l := [2]) dq_cX12_text_192 (by decide +kernel) (by decide))
theorem dX12_text_213 : decode cX12_text 213 = .ok (.ireturn, 1) := dc_172 (dc_cut (j := 21) (n := 1) (l := [172]) dq_cX12_text_192 (by decide +kernel) (by decide))
theorem dX12_text_187 : decode cX12_text 187 = .ok (.aload_n 0, 1) := dc_42 (dc_cut (j := 59) (n := 1) (l := [42]) dq_cX12_text_128 (by decide +kernel) (by decide))
theorem dX12_text_188 : decode cX12_text 188 = .ok (.getfield 168, 3) := dc_180 (dc_cut (j := 60) (n := 3) (l := [180, 0, 168]) dq_cX12_text_128 (by decide +kernel) (by decide)) rfl
theorem dX12_text_191 : decode cX12_text 191 = .ok (.ifCond .eq 12, 3) := dc_153 (dc_cut (j := 63) (n := 3) (l := [153, 0, 12]) dq_cX12_text_128 (by decide +kernel) (by decide)) rfl
theorem dX12_text_194 : decode cX12_text 194 = .ok (.aload_n 0, 1) := dc_42 (dc_cut (j := 2) (n := 1) (l := [42]) dq_cX12_text_192 (by decide +kernel) (by decide))
theorem dX12_text_195 : decode cX12_text 195 = .ok (.iconst 4, 1) := dc_7 (dc_cut (j := 3) (n := 1) (l := [7]) dq_cX12_text_192 (by decide +kernel) (by decide))
theorem dX12_text_196 : decode cX12_text 196 = .ok (.aload_n 0, 1) := dc_42 (dc_cut (j := 4) (n := 1) (l := [42]) dq_cX12_text_192 (by decide +kernel) (by decide))
theorem dX12_text_197 : decode cX12_text 197 = .ok (.getfield 95, 3) := dc_180 (dc_cut (j := 5) (n := 3) (l := [180, 0, 95]) dq_cX12_text_192 (by decide +kernel) (by decide)) rfl
theorem dX12_text_200 : decode cX12_text 200 = .ok (.invokevirtual 133, 3) := dc_182 (dc_cut (j := 8) (n := 3) (l := [182, 0, 133]) dq_cX12_text_192 (by decide +kernel) (by decide)) rfl
theorem dX12_text_129 : decode cX12_text 129 = .ok (.aload_n 0, 1) := dc_42 (dc_cut (j := 1) (n := 1) (l := [42]) dq_cX12_text_128 (by decide +kernel) (by decide))
theorem dX12_text_130 : decode cX12_text 130 = .ok (.getfield 98, 3) := dc_180 (dc_cut (j := 2) (n := 3) (l := [180, 0, 98]) dq_cX12_text_128 (by decide +kernel) (by decide)) rfl
theorem dX12_text_133 : decode cX12_text 133 = .ok (.ifCond .eq 45, 3) := dc_153 (dc_cut (j := 5) (n := 3) (l := [153, 0, 45]) dq_cX12_text_128 (by decide +kernel) (by decide)) rfl
theorem dX12_text_136 : decode cX12_text 136 = .ok (.iload_n 1, 1) := dc_27 (dc_cut (j := 8) (n := 1) (l := [27]) dq_cX12_text_128 (by decide +kernel) (by decide))
theorem dX12_text_137 : decode cX12_text 137 = .ok (.ifCond .ne 10, 3) := dc_154 (dc_cut (j := 9) (n := 3) (l := [154, 0, 10]) dq_cX12_text_128 (by decide +kernel) (by decide)) rfl
theorem dX12_text_147 : decode cX12_text 147 = .ok (.iload_n 1, 1) := dc_27 (dc_cut (j := 19) (n := 1) (l := [27]) dq_cX12_text_128 (by decide +kernel) (by decide))
theorem dX12_text_148 : decode cX12_text 148 = .ok (.iconst 1, 1) := dc_4 (dc_cut (j := 20) (n := 1) (l := [4]) dq_cX12_text_128 (by decide +kernel) (by decide))
theorem dX12_text_149 : decode cX12_text 149 = .ok (.if_icmp .ne 10, 3) := dc_160 (dc_cut (j := 21) (n := 3) (l := [160, 0, 10]) dq_cX12_text_128 (by decide +kernel) (by decide)) rfl
theorem dX12_text_159 : decode cX12_text 159 = .ok (.iload_n 1, 1) := dc_27 (dc_cut (j := 31) (n := 1) (l := [27]) dq_cX12_text_128 (by decide +kernel) (by decide))
theorem dX12_text_160 : decode cX12_text 160 = .ok (.iconst 2, 1) := dc_5 (dc_cut (j := 32) (n := 1) (l := [5]) dq_cX12_text_128 (by decide +kernel) (by decide))
theorem dX12_text_161 : decode cX12_text 161 = .ok (.if_icmp .ne 10, 3) := dc_160 (dc_cut (j := 33) (n := 3) (l := [160, 0, 10]) dq_cX12_text_128 (by decide +kernel) (by decide)) rfl
theorem dX12_text_171 : decode cX12_text 171 = .ok (.aload_n 0, 1) := dc_42 (dc_cut (j := 43) (n := 1) (l := [42]) dq_cX12_text_128 (by decide +kernel) (by decide))
theorem dX12_text_172 : decode cX12_text 172 = .ok (.invokevirtual 184, 3) := dc_182 (dc_cut (j := 44) (n := 3) (l := [182, 0, 184]) dq_cX12_text_128 (by decide +kernel) (by decide)) rfl
theorem w_1357 : (Cond.code ({ cls := "GooseBorderModel", name := "seenLine", desc := "()V" } : MethodName) prog_14_method_25_code (5 : Nat) (Option.none : Option FieldType)) ∈ gb_wA := gb_t6 157 rfl rfl
theorem w_1354 : (Cond.methodLink "GooseBorderModel" (184 : Nat) ({ cls := "GooseBorderModel", name := "seenLine", desc := "()V" } : MethodName)) ∈ gb_wA := gb_t6 154 rfl rfl
theorem w_1356 : (Cond.instanceMethod ({ cls := "GooseBorderModel", name := "seenLine", desc := "()V" } : MethodName)) ∈ gb_wA := gb_t6 156 rfl rfl
theorem s_4_0 : Cond.selects "GooseBorderModel" (⟨"GooseBorderModel", "seenLine", "()V"⟩ : MethodName) (⟨"GooseBorderModel", "seenLine", "()V"⟩ : MethodName) ∈ gb_wA := gb_s4 0 rfl rfl
theorem dX12_text_175 : decode cX12_text 175 = .ok (.goto (-53), 3) := dc_167 (dc_cut (j := 47) (n := 3) (l := [167, 255, 203]) dq_cX12_text_128 (by decide +kernel) (by decide)) rfl
theorem dX12_text_164 : decode cX12_text 164 = .ok (.aload_n 0, 1) := dc_42 (dc_cut (j := 36) (n := 1) (l := [42]) dq_cX12_text_128 (by decide +kernel) (by decide))
theorem dX12_text_165 : decode cX12_text 165 = .ok (.invokevirtual 181, 3) := dc_182 (dc_cut (j := 37) (n := 3) (l := [182, 0, 181]) dq_cX12_text_128 (by decide +kernel) (by decide)) rfl
theorem w_1353 : (Cond.code ({ cls := "GooseBorderModel", name := "termLine", desc := "()V" } : MethodName) prog_14_method_24_code (5 : Nat) (Option.none : Option FieldType)) ∈ gb_wA := gb_t6 153 rfl rfl
theorem w_1350 : (Cond.methodLink "GooseBorderModel" (181 : Nat) ({ cls := "GooseBorderModel", name := "termLine", desc := "()V" } : MethodName)) ∈ gb_wA := gb_t6 150 rfl rfl
theorem w_1352 : (Cond.instanceMethod ({ cls := "GooseBorderModel", name := "termLine", desc := "()V" } : MethodName)) ∈ gb_wA := gb_t6 152 rfl rfl
theorem s_3_15 : Cond.selects "GooseBorderModel" (⟨"GooseBorderModel", "termLine", "()V"⟩ : MethodName) (⟨"GooseBorderModel", "termLine", "()V"⟩ : MethodName) ∈ gb_wA := gb_s3 15 rfl rfl
theorem dX12_text_168 : decode cX12_text 168 = .ok (.goto (-46), 3) := dc_167 (dc_cut (j := 40) (n := 3) (l := [167, 255, 210]) dq_cX12_text_128 (by decide +kernel) (by decide)) rfl
theorem dX12_text_152 : decode cX12_text 152 = .ok (.aload_n 0, 1) := dc_42 (dc_cut (j := 24) (n := 1) (l := [42]) dq_cX12_text_128 (by decide +kernel) (by decide))
theorem dX12_text_153 : decode cX12_text 153 = .ok (.invokevirtual 178, 3) := dc_182 (dc_cut (j := 25) (n := 3) (l := [182, 0, 178]) dq_cX12_text_128 (by decide +kernel) (by decide)) rfl
theorem w_1337 : (Cond.code ({ cls := "GooseBorderModel", name := "deedLine", desc := "()V" } : MethodName) prog_14_method_23_code (6 : Nat) (Option.none : Option FieldType)) ∈ gb_wA := gb_t6 137 rfl rfl
theorem w_1334 : (Cond.methodLink "GooseBorderModel" (178 : Nat) ({ cls := "GooseBorderModel", name := "deedLine", desc := "()V" } : MethodName)) ∈ gb_wA := gb_t6 134 rfl rfl
theorem w_1336 : (Cond.instanceMethod ({ cls := "GooseBorderModel", name := "deedLine", desc := "()V" } : MethodName)) ∈ gb_wA := gb_t6 136 rfl rfl
theorem s_3_11 : Cond.selects "GooseBorderModel" (⟨"GooseBorderModel", "deedLine", "()V"⟩ : MethodName) (⟨"GooseBorderModel", "deedLine", "()V"⟩ : MethodName) ∈ gb_wA := gb_s3 11 rfl rfl
theorem dX12_text_156 : decode cX12_text 156 = .ok (.goto (-34), 3) := dc_167 (dc_cut (j := 28) (n := 3) (l := [167, 255, 222]) dq_cX12_text_128 (by decide +kernel) (by decide)) rfl
theorem dX12_text_140 : decode cX12_text 140 = .ok (.aload_n 0, 1) := dc_42 (dc_cut (j := 12) (n := 1) (l := [42]) dq_cX12_text_128 (by decide +kernel) (by decide))
theorem dX12_text_141 : decode cX12_text 141 = .ok (.invokevirtual 175, 3) := dc_182 (dc_cut (j := 13) (n := 3) (l := [182, 0, 175]) dq_cX12_text_128 (by decide +kernel) (by decide)) rfl
theorem w_1305 : (Cond.code ({ cls := "GooseBorderModel", name := "borderLine", desc := "()V" } : MethodName) prog_14_method_19_code (3 : Nat) (Option.none : Option FieldType)) ∈ gb_wA := gb_t6 105 rfl rfl
theorem w_1302 : (Cond.methodLink "GooseBorderModel" (175 : Nat) ({ cls := "GooseBorderModel", name := "borderLine", desc := "()V" } : MethodName)) ∈ gb_wA := gb_t6 102 rfl rfl
theorem w_1304 : (Cond.instanceMethod ({ cls := "GooseBorderModel", name := "borderLine", desc := "()V" } : MethodName)) ∈ gb_wA := gb_t6 104 rfl rfl
theorem s_3_3 : Cond.selects "GooseBorderModel" (⟨"GooseBorderModel", "borderLine", "()V"⟩ : MethodName) (⟨"GooseBorderModel", "borderLine", "()V"⟩ : MethodName) ∈ gb_wA := gb_s3 3 rfl rfl
theorem dX12_text_144 : decode cX12_text 144 = .ok (.goto (-22), 3) := dc_167 (dc_cut (j := 16) (n := 3) (l := [167, 255, 234]) dq_cX12_text_128 (by decide +kernel) (by decide)) rfl
theorem dX12_text_111 : decode cX12_text 111 = .ok (.aload_n 0, 1) := dc_42 (dc_cut (j := 47) (n := 1) (l := [42]) dq_cX12_text_64 (by decide +kernel) (by decide))
theorem dX12_text_112 : decode cX12_text 112 = .ok (.getfield 17, 3) := dc_180 (dc_cut (j := 48) (n := 3) (l := [180, 0, 17]) dq_cX12_text_64 (by decide +kernel) (by decide)) rfl
theorem dX12_text_115 : decode cX12_text 115 = .ok (.iconst 2, 1) := dc_5 (dc_cut (j := 51) (n := 1) (l := [5]) dq_cX12_text_64 (by decide +kernel) (by decide))
theorem dX12_text_116 : decode cX12_text 116 = .ok (.iconst (-1), 1) := dc_2 (dc_cut (j := 52) (n := 1) (l := [2]) dq_cX12_text_64 (by decide +kernel) (by decide))
theorem dX12_text_117 : decode cX12_text 117 = .ok (.iastore, 1) := dc_79 (dc_cut (j := 53) (n := 1) (l := [79]) dq_cX12_text_64 (by decide +kernel) (by decide))
theorem dX12_text_94 : decode cX12_text 94 = .ok (.aload_n 0, 1) := dc_42 (dc_cut (j := 30) (n := 1) (l := [42]) dq_cX12_text_64 (by decide +kernel) (by decide))
theorem dX12_text_95 : decode cX12_text 95 = .ok (.getfield 17, 3) := dc_180 (dc_cut (j := 31) (n := 3) (l := [180, 0, 17]) dq_cX12_text_64 (by decide +kernel) (by decide)) rfl
theorem dX12_text_98 : decode cX12_text 98 = .ok (.iload_n 3, 1) := dc_29 (dc_cut (j := 34) (n := 1) (l := [29]) dq_cX12_text_64 (by decide +kernel) (by decide))
theorem dX12_text_99 : decode cX12_text 99 = .ok (.iconst 0, 1) := dc_3 (dc_cut (j := 35) (n := 1) (l := [3]) dq_cX12_text_64 (by decide +kernel) (by decide))
theorem dX12_text_100 : decode cX12_text 100 = .ok (.iastore, 1) := dc_79 (dc_cut (j := 36) (n := 1) (l := [79]) dq_cX12_text_64 (by decide +kernel) (by decide))
theorem dX12_text_101 : decode cX12_text 101 = .ok (.iinc 3 1, 3) := dc_132 (dc_cut (j := 37) (n := 3) (l := [132, 3, 1]) dq_cX12_text_64 (by decide +kernel) (by decide)) rfl
theorem dX12_text_104 : decode cX12_text 104 = .ok (.goto (-16), 3) := dc_167 (dc_cut (j := 40) (n := 3) (l := [167, 255, 240]) dq_cX12_text_64 (by decide +kernel) (by decide)) rfl
theorem dX12_text_46 : decode cX12_text 46 = .ok (.aload_n 0, 1) := dc_42 (dc_cut (j := 46) (n := 1) (l := [42]) dq_cX12_text_0 (by decide +kernel) (by decide))
theorem dX12_text_47 : decode cX12_text 47 = .ok (.getfield 7, 3) := dc_180 (dc_cut (j := 47) (n := 3) (l := [180, 0, 7]) dq_cX12_text_0 (by decide +kernel) (by decide)) rfl
theorem dX12_text_50 : decode cX12_text 50 = .ok (.iload_n 1, 1) := dc_27 (dc_cut (j := 50) (n := 1) (l := [27]) dq_cX12_text_0 (by decide +kernel) (by decide))
theorem dX12_text_51 : decode cX12_text 51 = .ok (.iaload, 1) := dc_46 (dc_cut (j := 51) (n := 1) (l := [46]) dq_cX12_text_0 (by decide +kernel) (by decide))
theorem dX12_text_52 : decode cX12_text 52 = .ok (.iconst 2, 1) := dc_5 (dc_cut (j := 52) (n := 1) (l := [5]) dq_cX12_text_0 (by decide +kernel) (by decide))
theorem dX12_text_53 : decode cX12_text 53 = .ok (.if_icmp .lt 18, 3) := dc_161 (dc_cut (j := 53) (n := 3) (l := [161, 0, 18]) dq_cX12_text_0 (by decide +kernel) (by decide)) rfl
theorem dX12_text_56 : decode cX12_text 56 = .ok (.goto 12, 3) := dc_167 (dc_cut (j := 56) (n := 3) (l := [167, 0, 12]) dq_cX12_text_0 (by decide +kernel) (by decide)) rfl
def ms_text_248 (n : Nat) : Nat → gb_F → Int64 → Int32 → Int32 → Int32 → gb_MR Int32
  | 0, _, _, _, _, _ => none
  | mm + 1, f, w, v1, v3, v4 => gb_bd (ms_sizeOf n f w v1) (fun f_36 wl_37 r_38 => (if r_38 ≤ v4 then some (f_36, wl_37, v3) else gb_bd (ms_placeOf n f_36 wl_37 v1 v3) (fun f_42 wl_43 r_44 => gb_ck v4 97 (gb_lt (f_42 3 (Int32.toNatClampNeg v4)) (fun x_48 => gb_ck (r_44 + v4) 3968 (gb_lt (gb_u f_42 1 (upd (f_42 1) (Int32.toNatClampNeg (r_44 + v4)) x_48)) (fun f_50 => gb_lt (v4 + 1) (fun x_51 => ms_text_248 n mm f_50 wl_43 v1 v3 x_51))))))))
def ms_text_229 (n : Nat) (f : gb_F) (w : Int64) (v1 : Int32) (v2 : Int32) (t0 : Int32) : gb_MR Int32 := (if v2 = (-1) then gb_ck v1 3968 (gb_lt (f 1 (Int32.toNatClampNeg v1)) (fun x_53 => gb_ck v1 3968 (gb_lt (gb_u f 1 (upd (f 1) (Int32.toNatClampNeg v1) (x_53 + 1))) (fun f_55 => ms_text_248 n n f_55 w v1 t0 0)))) else ms_text_248 n n f w v1 t0 0)
def ms_text_203 (n : Nat) (f : gb_F) (w : Int64) (v1 : Int32) (v2 : Int32) : gb_MR Int32 := gb_lt (f 1 (Int32.toNatClampNeg 5)) (fun x_32 => (if x_32 = 0 then (if v2 = (-1) then gb_ck v1 3968 (gb_lt (f 1 (Int32.toNatClampNeg v1)) (fun x_57 => ms_text_229 n f w v1 v2 x_57)) else ms_text_229 n f w v1 v2 v2) else some (f, w, (-1))))
def ms_text_178 (n : Nat) (f : gb_F) (w : Int64) (v1 : Int32) (v2 : Int32) : gb_MR Int32 := gb_lt (f 1 (Int32.toNatClampNeg 5)) (fun x_30 => (if x_30 = 0 then (if (f 0 9) = 0 then ms_text_203 n f w v1 v2 else gb_bd (ms_also n f w 4 (f 0 4)) (fun f_59 wl_60 _ => ms_text_203 n f_59 wl_60 v1 v2)) else ms_text_203 n f w v1 v2))
def ms_text_122 (n : Nat) : Nat → gb_F → Int64 → Int32 → Int32 → gb_MR Int32
  | 0, _, _, _, _ => none
  | mm + 1, f, w, v1, v2 => (if (f 0 8) = 0 then (if (f 0 5) = 0 then ms_text_178 n f w v1 v2 else (if v1 = 0 then gb_bd (ms_borderLine n f w) (fun f_83 wl_84 _ => ms_text_122 n mm f_83 wl_84 v1 v2) else (if v1 = 1 then gb_bd (ms_deedLine n f w) (fun f_78 wl_79 _ => ms_text_122 n mm f_78 wl_79 v1 v2) else (if v1 = 2 then gb_bd (ms_termLine n f w) (fun f_73 wl_74 _ => ms_text_122 n mm f_73 wl_74 v1 v2) else gb_bd (ms_seenLine n f w) (fun f_68 wl_69 _ => ms_text_122 n mm f_68 wl_69 v1 v2))))) else ms_text_178 n f w v1 v2)
def ms_text_88 (n : Nat) : Nat → gb_F → Int64 → Int32 → Int32 → Int32 → gb_MR Int32
  | 0, _, _, _, _, _ => none
  | mm + 1, f, w, v1, v2, v3 => (if (97 : Int32) ≤ v3 then (if v1 = 0 then gb_lt (gb_u f 3 (upd (f 3) (Int32.toNatClampNeg 2) (-1))) (fun f_88 => gb_bd (ms_advance n f_88 w) (fun f_89 wl_90 _ => ms_text_122 n n f_89 wl_90 v1 v2)) else gb_bd (ms_advance n f w) (fun f_24 wl_25 _ => ms_text_122 n n f_24 wl_25 v1 v2)) else gb_ck v3 97 (gb_lt (gb_u f 3 (upd (f 3) (Int32.toNatClampNeg v3) 0)) (fun f_95 => gb_lt (v3 + 1) (fun x_96 => ms_text_88 n mm f_95 w v1 v2 x_96))))
def ms_text (n : Nat) (f : gb_F) (w : Int64) (p1 : Int32) (p2 : Int32) : gb_MR Int32 := gb_lt (f 1 (Int32.toNatClampNeg 4)) (fun x_1 => gb_lt (gb_u f 0 (upd (f 0) 2 x_1)) (fun f_2 => gb_lt (gb_u f_2 1 (upd (f_2 1) (Int32.toNatClampNeg 4) 0)) (fun f_3 => gb_lt (gb_u f_3 1 (upd (f_3 1) (Int32.toNatClampNeg 5) 0)) (fun f_4 => gb_lt (gb_u f_4 1 (upd (f_4 1) (Int32.toNatClampNeg 6) (-1))) (fun f_5 => gb_bd (ms_isIn n f_5 w p1 0 3) (fun f_6 wl_7 r_8 => (if r_8 = 0 then some (f_6, wl_7, (-2)) else (if p2 = (-1) then gb_ck p1 3968 (gb_lt (f_6 1 (Int32.toNatClampNeg p1)) (fun x_98 => (if x_98 < 2 then gb_lt (gb_u f_6 0 (upd (f_6 0) 3 0)) (fun f_100 => gb_lt (gb_u f_100 0 (upd (f_100 0) 8 0)) (fun f_101 => gb_lt (gb_u f_101 0 (upd (f_101 0) 9 0)) (fun f_102 => ms_text_88 n n f_102 wl_7 p1 p2 0))) else some (f_6, wl_7, (-2))))) else gb_bd (ms_isOf n f_6 wl_7 p1 p2) (fun f_13 wl_14 r_15 => (if r_15 = 0 then some (f_13, wl_14, (-2)) else gb_lt (gb_u f_13 0 (upd (f_13 0) 3 0)) (fun f_19 => gb_lt (gb_u f_19 0 (upd (f_19 0) 8 0)) (fun f_20 => gb_lt (gb_u f_20 0 (upd (f_20 0) 9 0)) (fun f_21 => ms_text_88 n n f_21 wl_14 p1 p2 0)))))))))))))
set_option maxHeartbeats 8000000 in
set_option maxRecDepth 100000 in
theorem mc_text (l : Launch) (D : va_G) (cT : Nat → ClassId) (tt : Nat → Nat) (b1 b : Nat) (hb1 : b1 ≤ b) (n : Nat) (f : gb_F) (w : Int64) (p1 : Int32) (p2 : Int32) (fE : gb_F) (wE : Int64) (rE : Int32) (h : ms_text n f w p1 p2 = some (fE, wE, rE)) : Met l yX12_text (.code yX12_text cX12_text 5 (some FieldType.int) :: gb_wA) ({ frames := 7, cells := 0, slots := 0, locals := 167 }) (gb_Pc D cT tt b1 [.ref (b + 0), .int p1, .int p2] (fun h => va_P D vwCl (gb_wl b (gb_MW cT b f w)) h)) (gb_Qi (fun r h => r = rE ∧ va_P D vwCl (gb_wl b (gb_MW cT b fE wE)) h) (gb_fr b 22)) 0 0 (gb_fr b 22) := by
  refine Met.ofW (cc := cX12_text) (maxL := 5) (ret := (some FieldType.int)) (by decide) rfl ?_
  intro p e s m args below meth c s₁ B hml hv
  obtain ⟨rfl, hSt, hP⟩ := hv
  have hx := B.exec
  have hb := B.bytes
  have hr := B.returns
  have hts := atoms_spec (ws := .code yX12_text cX12_text 5 (some FieldType.int) :: gb_wA) B.pre
  have hq : ∀ w ∈ gb_wA, w.before _ s = true := fun w h => hts w (List.mem_cons_of_mem _ h)
  have hown : s.vm.findClass RX12 = some m.cls := findClass_of_methodNamed B.named
  have hlocks := B.notSynchronized
  clear B hts
  have hK := hSt.1
  have hS : va_S (gb_fr b 22) s.heap s.heap [] := va_S.rf
  have hl := lv_entry ([.ref (b + 0), .int p1, .int p2]) (n := 5) (Nat.le_of_ble_eq_true rfl)
  rw [lg_entry_eq]
  generalize (lg_sl ([.ref (b + 0), .int p1, .int p2]) ++ List.replicate (5 - (lg_sl ([.ref (b + 0), .int p1, .int p2])).length) Slot.unset).toArray = ls at hl ⊢
  replace hl : lv_has ls 5 [(0, .ref (b + 0)), (1, .int p1), (2, .int p2)] := hl
  have L248 : ∀ (mm : Nat) (f : gb_F) (w : Int64) (v1 : Int32) (v3 : Int32) (v4 : Int32) (H : Heap) (locs : List Loc) (ls : Array Slot), ms_text_248 n mm f w v1 v3 v4 = some (fE, wE, rE) → va_P D vwCl (gb_wl b (gb_MW cT b f w)) H → va_S (gb_fr b 22) s.heap H locs → lv_has ls 5 [(0, .ref (b + 0)), (1, .int v1), (3, .int v3), (4, .int v4)] → W p l e (headSpec (.code yX12_text cX12_text 5 (some FieldType.int) :: gb_wA) ({ frames := 7, cells := 0, slots := 0, locals := 167 })).room s m ([.ref (b + 0), .int p1, .int p2]).toArray below meth c H locs 0 0 (MQ below (gb_Qi (fun r h => r = rE ∧ va_P D vwCl (gb_wl b (gb_MW cT b fE wE)) h) (gb_fr b 22)) ([.ref (b + 0), .int p1, .int p2]).toArray s 0 0 (gb_fr b 22)) (F0 m 248 ls []) := by
    clear h hP hS hl ls f w
    intro mm
    induction mm with
    | zero =>
      intro f w v1 v3 v4 H locs ls h
      cases h
    | succ mm ih =>
      intro f w v1 v3 v4 H locs ls h hP hS hl
      rw [ms_text_248] at h
      refine lv_iload hx hb dX12_text_248 (lv_at hl 3 rfl) ?_
      refine lv_iload_n hx hb dX12_text_250 rfl (lv_at hl 1 rfl) ?_
      obtain ⟨f_36, wl_37, r_38, z_39, h⟩ := gb_bd_s h
      refine gb_calli (va_runS (As := [.int v1]) (rest := [.int v4]) ⟨hx, hb, hml, hown, hq⟩ (mc_sizeOf l D cT tt b1 b hb1 n f w v1 f_36 wl_37 r_38 z_39) (va_cwS 1 hq (gb_gS w_1358 w_1359 w_14 w_1360) rfl rfl rfl (by decide +kernel) ⟨Nat.le_of_ble_eq_true rfl, Nat.le_of_ble_eq_true rfl⟩) (gb_preS hSt hS (fun q h => Nat.le_trans hb1 h.1) hP) rfl rfl hl.1 rfl (lv_room (Nat.le_of_ble_eq_true rfl)) dX12_text_251 ⟨Nat.le_of_ble_eq_true rfl, Nat.le_of_ble_eq_true rfl⟩) hS (fun _ h => h) (fun _ h => h) (fun q_40 H locs hY hk hS => ?_)
      obtain ⟨hq_40, hP⟩ := hY
      replace hq_40 := hq_40.symm
      subst hq_40
      refine lv_icmp_ge (tgt := 283) hx hb dX12_text_254 (by decide) (fun c_41 => ?_) (fun c_41 => ?_)
      · rw [if_pos c_41] at h
        refine lv_iload_n hx hb dX12_text_283 rfl (lv_at hl 2 rfl) ?_
        obtain ⟨e1, e2, e3⟩ := gb_eq3 h
        exact W.iret (v := v3) hx hb hr (fun t ht hW => gb_ri ht ⟨e3, by rw [← e1, ← e2]; exact hP⟩ hS) hS.2.2 dX12_text_284
      · rw [if_neg c_41] at h
        refine lv_aload_n hx hb dX12_text_257 rfl (lv_at hl 0 rfl) ?_
        refine va_get (ci := 10) (v := (.ref (b + 1))) (C := RX12) (T := TX12) (N := 44) hx hb hq i_X12 hown hK hP 0 (gb_at b rfl) rfl 0 (by decide) (hq _ w_1124) (fun _ h9 => h9) rfl dX12_text_258 ?_
        refine lv_iload_n hx hb dX12_text_261 rfl (lv_at hl 1 rfl) ?_
        refine lv_iload_n hx hb dX12_text_262 rfl (lv_at hl 2 rfl) ?_
        obtain ⟨f_42, wl_43, r_44, z_45, h⟩ := gb_bd_s h
        refine gb_calli (va_runS (As := [.int v1, .int v3]) (rest := [.ref (b + 1)]) ⟨hx, hb, hml, hown, hq⟩ (mc_placeOf l D cT tt b1 b hb1 n f_36 wl_37 v1 v3 f_42 wl_43 r_44 z_45) (va_cwS 2 hq (gb_gS w_1361 w_1362 w_14 w_1363) rfl rfl rfl (by decide +kernel) ⟨Nat.le_of_ble_eq_true rfl, Nat.le_of_ble_eq_true rfl⟩) (gb_preS hSt hS (fun q h => Nat.le_trans hb1 h.1) hP) rfl rfl hl.1 rfl (lv_room (Nat.le_of_ble_eq_true rfl)) dX12_text_263 ⟨Nat.le_of_ble_eq_true rfl, Nat.le_of_ble_eq_true rfl⟩) hS (fun _ h => h) (fun _ h => h) (fun q_46 H locs hY hk hS => ?_)
        obtain ⟨hq_46, hP⟩ := hY
        replace hq_46 := hq_46.symm
        subst hq_46
        refine lv_iload hx hb dX12_text_266 (lv_at hl 3 rfl) ?_
        refine lv_iadd hx hb dX12_text_268 ?_
        refine lv_aload_n hx hb dX12_text_269 rfl (lv_at hl 0 rfl) ?_
        refine va_get (ci := 10) (v := (.ref (b + 3))) (C := RX12) (T := TX12) (N := 44) hx hb hq i_X12 hown hK hP 0 (gb_at b rfl) rfl 10 (by decide) (hq _ w_1134) (fun _ h9 => h9) rfl dX12_text_270 ?_
        refine lv_iload hx hb dX12_text_273 (lv_at hl 3 rfl) ?_
        obtain ⟨z_47, h⟩ := gb_ck_s h
        refine va_iald hx hb hK hP 3 0 (gb_at b rfl) rfl z_47 dX12_text_275 ?_
        refine lv_topi (fun x_48 ex_48 => ?_)
        replace h := gb_lt_s ex_48 h
        obtain ⟨z_49, h⟩ := gb_ck_s h
        refine gb_iast (x := x_48) hx hb hK hP (fun k h => ⟨Nat.le_add_right b k, Nat.add_lt_add_left h b⟩) hS rfl 1 0 rfl rfl z_49 dX12_text_276 (fun H locs hP hz_ hS => ?_)
        obtain ⟨f_50, ef_50⟩ : ∃ q, q = (gb_u f_42 1 (upd (f_42 1) (Int32.toNatClampNeg (r_44 + v4)) x_48)) := ⟨_, rfl⟩
        replace hP : va_P D vwCl (gb_wl b (gb_MW cT b f_50 wl_43)) H := by rw [ef_50]; exact hP
        replace h := gb_lt_s ef_50 h
        obtain ⟨x_51, ex_51⟩ : ∃ q, q = (v4 + 1) := ⟨_, rfl⟩
        replace h := gb_lt_s ex_51 h
        refine lv_iinc (v := x_51) (lv' := [(4, .int x_51), (0, .ref (b + 0)), (1, .int v1), (3, .int v3)]) hx hb dX12_text_277 hl (k := 3) rfl (by rw [ex_51]; rfl) (by decide) rfl (fun ls hl => ?_)
        refine lv_goto (tgt := 248) hx hb dX12_text_280 (by decide) ?_
        exact ih _ _ _ _ _ _ _ _ h hP hS (lv_sub hl [1, 2, 3, 0] rfl)
  have L229 : ∀ (f : gb_F) (w : Int64) (v1 : Int32) (v2 : Int32) (t0 : Int32) (H : Heap) (locs : List Loc) (ls : Array Slot), ms_text_229 n f w v1 v2 t0 = some (fE, wE, rE) → va_P D vwCl (gb_wl b (gb_MW cT b f w)) H → va_S (gb_fr b 22) s.heap H locs → lv_has ls 5 [(0, .ref (b + 0)), (1, .int v1), (2, .int v2)] → W p l e (headSpec (.code yX12_text cX12_text 5 (some FieldType.int) :: gb_wA) ({ frames := 7, cells := 0, slots := 0, locals := 167 })).room s m ([.ref (b + 0), .int p1, .int p2]).toArray below meth c H locs 0 0 (MQ below (gb_Qi (fun r h => r = rE ∧ va_P D vwCl (gb_wl b (gb_MW cT b fE wE)) h) (gb_fr b 22)) ([.ref (b + 0), .int p1, .int p2]).toArray s 0 0 (gb_fr b 22)) (F0 m 229 ls [.int t0]) := by
    clear h hP hS hl ls f w
    intro f w v1 v2 t0 H locs ls h hP hS hl
    unfold ms_text_229 at h
    refine lv_istore_n (lv' := [(3, .int t0), (0, .ref (b + 0)), (1, .int v1), (2, .int v2)]) hx hb dX12_text_229 rfl hl (by decide) rfl (fun ls hl => ?_)
    refine lv_iload_n hx hb dX12_text_230 rfl (lv_at hl 3 rfl) ?_
    refine lv_iconst (v := (-1)) hx hb dX12_text_231 (by decide) ?_
    refine lv_icmp_ne (tgt := 245) hx hb dX12_text_232 (by decide) (fun c_35 => ?_) (fun c_35 => ?_)
    · rw [if_neg c_35] at h
      refine lv_iconst (v := 0) hx hb dX12_text_245 (by decide) ?_
      refine lv_istore (lv' := [(4, .int 0), (3, .int t0), (0, .ref (b + 0)), (1, .int v1), (2, .int v2)]) hx hb dX12_text_246 hl (by decide) rfl (fun ls hl => ?_)
      exact L248 n _ _ _ _ _ _ _ _ h hP hS (lv_sub hl [2, 3, 1, 0] rfl)
    · rw [if_pos c_35] at h
      refine lv_aload_n hx hb dX12_text_235 rfl (lv_at hl 1 rfl) ?_
      refine va_get (ci := 10) (v := (.ref (b + 1))) (C := RX12) (T := TX12) (N := 44) hx hb hq i_X12 hown hK hP 0 (gb_at b rfl) rfl 0 (by decide) (hq _ w_1124) (fun _ h9 => h9) rfl dX12_text_236 ?_
      refine lv_iload_n hx hb dX12_text_239 rfl (lv_at hl 2 rfl) ?_
      refine lv_dup2_11 hx hb dX12_text_240 rfl rfl ?_
      obtain ⟨z_52, h⟩ := gb_ck_s h
      refine va_iald hx hb hK hP 1 0 (gb_at b rfl) rfl z_52 dX12_text_241 ?_
      refine lv_topi (fun x_53 ex_53 => ?_)
      replace h := gb_lt_s ex_53 h
      refine lv_iconst (v := 1) hx hb dX12_text_242 (by decide) ?_
      refine lv_iadd hx hb dX12_text_243 ?_
      obtain ⟨z_54, h⟩ := gb_ck_s h
      refine gb_iast (x := (x_53 + 1)) hx hb hK hP (fun k h => ⟨Nat.le_add_right b k, Nat.add_lt_add_left h b⟩) hS rfl 1 0 rfl rfl z_54 dX12_text_244 (fun H locs hP hz_ hS => ?_)
      obtain ⟨f_55, ef_55⟩ : ∃ q, q = (gb_u f 1 (upd (f 1) (Int32.toNatClampNeg v1) (x_53 + 1))) := ⟨_, rfl⟩
      replace hP : va_P D vwCl (gb_wl b (gb_MW cT b f_55 w)) H := by rw [ef_55]; exact hP
      replace h := gb_lt_s ef_55 h
      refine lv_iconst (v := 0) hx hb dX12_text_245 (by decide) ?_
      refine lv_istore (lv' := [(4, .int 0), (3, .int t0), (0, .ref (b + 0)), (1, .int v1), (2, .int v2)]) hx hb dX12_text_246 hl (by decide) rfl (fun ls hl => ?_)
      exact L248 n _ _ _ _ _ _ _ _ h hP hS (lv_sub hl [2, 3, 1, 0] rfl)
  have L203 : ∀ (f : gb_F) (w : Int64) (v1 : Int32) (v2 : Int32) (H : Heap) (locs : List Loc) (ls : Array Slot), ms_text_203 n f w v1 v2 = some (fE, wE, rE) → va_P D vwCl (gb_wl b (gb_MW cT b f w)) H → va_S (gb_fr b 22) s.heap H locs → lv_has ls 5 [(0, .ref (b + 0)), (1, .int v1), (2, .int v2)] → W p l e (headSpec (.code yX12_text cX12_text 5 (some FieldType.int) :: gb_wA) ({ frames := 7, cells := 0, slots := 0, locals := 167 })).room s m ([.ref (b + 0), .int p1, .int p2]).toArray below meth c H locs 0 0 (MQ below (gb_Qi (fun r h => r = rE ∧ va_P D vwCl (gb_wl b (gb_MW cT b fE wE)) h) (gb_fr b 22)) ([.ref (b + 0), .int p1, .int p2]).toArray s 0 0 (gb_fr b 22)) (F0 m 203 ls []) := by
    clear h hP hS hl ls f w
    intro f w v1 v2 H locs ls h hP hS hl
    unfold ms_text_203 at h
    refine lv_aload_n hx hb dX12_text_203 rfl (lv_at hl 0 rfl) ?_
    refine va_get (ci := 10) (v := (.ref (b + 1))) (C := RX12) (T := TX12) (N := 44) hx hb hq i_X12 hown hK hP 0 (gb_at b rfl) rfl 0 (by decide) (hq _ w_1124) (fun _ h9 => h9) rfl dX12_text_204 ?_
    refine lv_iconst (v := 5) hx hb dX12_text_207 (by decide) ?_
    refine va_iald hx hb hK hP 1 0 (gb_at b rfl) rfl (gb_in rfl) dX12_text_208 ?_
    refine lv_topi (fun x_32 ex_32 => ?_)
    replace h := gb_lt_s ex_32 h
    refine lv_if_eq (tgt := 214) hx hb dX12_text_209 (by decide) (fun c_33 => ?_) (fun c_33 => ?_)
    · rw [if_pos c_33] at h
      refine lv_iload_n hx hb dX12_text_214 rfl (lv_at hl 2 rfl) ?_
      refine lv_iconst (v := (-1)) hx hb dX12_text_215 (by decide) ?_
      refine lv_icmp_ne (tgt := 228) hx hb dX12_text_216 (by decide) (fun c_34 => ?_) (fun c_34 => ?_)
      · rw [if_neg c_34] at h
        refine lv_iload_n hx hb dX12_text_228 rfl (lv_at hl 2 rfl) ?_
        exact L229 _ _ _ _ _ _ _ _ h hP hS (lv_sub hl [0, 1, 2] rfl)
      · rw [if_pos c_34] at h
        refine lv_aload_n hx hb dX12_text_219 rfl (lv_at hl 0 rfl) ?_
        refine va_get (ci := 10) (v := (.ref (b + 1))) (C := RX12) (T := TX12) (N := 44) hx hb hq i_X12 hown hK hP 0 (gb_at b rfl) rfl 0 (by decide) (hq _ w_1124) (fun _ h9 => h9) rfl dX12_text_220 ?_
        refine lv_iload_n hx hb dX12_text_223 rfl (lv_at hl 1 rfl) ?_
        obtain ⟨z_56, h⟩ := gb_ck_s h
        refine va_iald hx hb hK hP 1 0 (gb_at b rfl) rfl z_56 dX12_text_224 ?_
        refine lv_topi (fun x_57 ex_57 => ?_)
        replace h := gb_lt_s ex_57 h
        refine lv_goto (tgt := 229) hx hb dX12_text_225 (by decide) ?_
        exact L229 _ _ _ _ _ _ _ _ h hP hS (lv_sub hl [0, 1, 2] rfl)
    · rw [if_neg c_33] at h
      refine lv_iconst (v := (-1)) hx hb dX12_text_212 (by decide) ?_
      obtain ⟨e1, e2, e3⟩ := gb_eq3 h
      exact W.iret (v := (-1)) hx hb hr (fun t ht hW => gb_ri ht ⟨e3, by rw [← e1, ← e2]; exact hP⟩ hS) hS.2.2 dX12_text_213
  have L178 : ∀ (f : gb_F) (w : Int64) (v1 : Int32) (v2 : Int32) (H : Heap) (locs : List Loc) (ls : Array Slot), ms_text_178 n f w v1 v2 = some (fE, wE, rE) → va_P D vwCl (gb_wl b (gb_MW cT b f w)) H → va_S (gb_fr b 22) s.heap H locs → lv_has ls 5 [(0, .ref (b + 0)), (1, .int v1), (2, .int v2)] → W p l e (headSpec (.code yX12_text cX12_text 5 (some FieldType.int) :: gb_wA) ({ frames := 7, cells := 0, slots := 0, locals := 167 })).room s m ([.ref (b + 0), .int p1, .int p2]).toArray below meth c H locs 0 0 (MQ below (gb_Qi (fun r h => r = rE ∧ va_P D vwCl (gb_wl b (gb_MW cT b fE wE)) h) (gb_fr b 22)) ([.ref (b + 0), .int p1, .int p2]).toArray s 0 0 (gb_fr b 22)) (F0 m 178 ls []) := by
    clear h hP hS hl ls f w
    intro f w v1 v2 H locs ls h hP hS hl
    unfold ms_text_178 at h
    refine lv_aload_n hx hb dX12_text_178 rfl (lv_at hl 0 rfl) ?_
    refine va_get (ci := 10) (v := (.ref (b + 1))) (C := RX12) (T := TX12) (N := 44) hx hb hq i_X12 hown hK hP 0 (gb_at b rfl) rfl 0 (by decide) (hq _ w_1124) (fun _ h9 => h9) rfl dX12_text_179 ?_
    refine lv_iconst (v := 5) hx hb dX12_text_182 (by decide) ?_
    refine va_iald hx hb hK hP 1 0 (gb_at b rfl) rfl (gb_in rfl) dX12_text_183 ?_
    refine lv_topi (fun x_30 ex_30 => ?_)
    replace h := gb_lt_s ex_30 h
    refine lv_if_ne (tgt := 203) hx hb dX12_text_184 (by decide) (fun c_31 => ?_) (fun c_31 => ?_)
    · rw [if_neg c_31] at h
      exact L203 _ _ _ _ _ _ _ h hP hS (lv_sub hl [0, 1, 2] rfl)
    · rw [if_pos c_31] at h
      refine lv_aload_n hx hb dX12_text_187 rfl (lv_at hl 0 rfl) ?_
      refine va_get (ci := 10) (v := (.int (f 0 9))) (C := RX12) (T := TX12) (N := 44) hx hb hq i_X12 hown hK hP 0 (gb_at b rfl) rfl 9 (by decide) (hq _ w_1133) (fun _ h9 => h9) rfl dX12_text_188 ?_
      refine lv_if_eq (tgt := 203) hx hb dX12_text_191 (by decide) (fun c_58 => ?_) (fun c_58 => ?_)
      · rw [if_pos c_58] at h
        exact L203 _ _ _ _ _ _ _ h hP hS (lv_sub hl [0, 1, 2] rfl)
      · rw [if_neg c_58] at h
        refine lv_aload_n hx hb dX12_text_194 rfl (lv_at hl 0 rfl) ?_
        refine lv_iconst (v := 4) hx hb dX12_text_195 (by decide) ?_
        refine lv_aload_n hx hb dX12_text_196 rfl (lv_at hl 0 rfl) ?_
        refine va_get (ci := 10) (v := (.int (f 0 4))) (C := RX12) (T := TX12) (N := 44) hx hb hq i_X12 hown hK hP 0 (gb_at b rfl) rfl 4 (by decide) (hq _ w_1128) (fun _ h9 => h9) rfl dX12_text_197 ?_
        obtain ⟨f_59, wl_60, r_61, z_62, h⟩ := gb_bd_s h
        refine gb_callv (va_runV (C := RX12) (As := [.int 4, .int (f 0 4)]) (rest := []) ⟨hx, hb, hml, hown, hq⟩ (mc_also l D cT tt b1 b hb1 n f w 4 (f 0 4) f_59 wl_60 r_61 z_62) (cwV 2 hq (gb_gV w_1318 w_1320 s_3_7 w_14 w_1321) rfl rfl rfl (by decide +kernel) ⟨Nat.le_of_ble_eq_true rfl, Nat.le_of_ble_eq_true rfl⟩) (gb_preV (r := (RX12, TX12, 44)) (ci := 10) (q0 := 0) hSt hP rfl (gb_at b rfl) hS (fun q h => Nat.le_trans hb1 h.1) hP) rfl rfl hl.1 rfl (lv_room (Nat.le_of_ble_eq_true rfl)) dX12_text_200 ⟨Nat.le_of_ble_eq_true rfl, Nat.le_of_ble_eq_true rfl⟩) hS (fun _ h => h) (fun _ h => h) (fun H locs hY hk hS => ?_)
        have hP := hY
        exact L203 _ _ _ _ _ _ _ h hP hS (lv_sub hl [0, 1, 2] rfl)
  have L122 : ∀ (mm : Nat) (f : gb_F) (w : Int64) (v1 : Int32) (v2 : Int32) (H : Heap) (locs : List Loc) (ls : Array Slot), ms_text_122 n mm f w v1 v2 = some (fE, wE, rE) → va_P D vwCl (gb_wl b (gb_MW cT b f w)) H → va_S (gb_fr b 22) s.heap H locs → lv_has ls 5 [(0, .ref (b + 0)), (1, .int v1), (2, .int v2)] → W p l e (headSpec (.code yX12_text cX12_text 5 (some FieldType.int) :: gb_wA) ({ frames := 7, cells := 0, slots := 0, locals := 167 })).room s m ([.ref (b + 0), .int p1, .int p2]).toArray below meth c H locs 0 0 (MQ below (gb_Qi (fun r h => r = rE ∧ va_P D vwCl (gb_wl b (gb_MW cT b fE wE)) h) (gb_fr b 22)) ([.ref (b + 0), .int p1, .int p2]).toArray s 0 0 (gb_fr b 22)) (F0 m 122 ls []) := by
    clear h hP hS hl ls f w
    intro mm
    induction mm with
    | zero =>
      intro f w v1 v2 H locs ls h
      cases h
    | succ mm ih =>
      intro f w v1 v2 H locs ls h hP hS hl
      rw [ms_text_122] at h
      refine lv_aload_n hx hb dX12_text_122 rfl (lv_at hl 0 rfl) ?_
      refine va_get (ci := 10) (v := (.int (f 0 8))) (C := RX12) (T := TX12) (N := 44) hx hb hq i_X12 hown hK hP 0 (gb_at b rfl) rfl 8 (by decide) (hq _ w_1132) (fun _ h9 => h9) rfl dX12_text_123 ?_
      refine lv_if_ne (tgt := 178) hx hb dX12_text_126 (by decide) (fun c_29 => ?_) (fun c_29 => ?_)
      · rw [if_neg c_29] at h
        exact L178 _ _ _ _ _ _ _ h hP hS (lv_sub hl [0, 1, 2] rfl)
      · rw [if_pos c_29] at h
        refine lv_aload_n hx hb dX12_text_129 rfl (lv_at hl 0 rfl) ?_
        refine va_get (ci := 10) (v := (.int (f 0 5))) (C := RX12) (T := TX12) (N := 44) hx hb hq i_X12 hown hK hP 0 (gb_at b rfl) rfl 5 (by decide) (hq _ w_1129) (fun _ h9 => h9) rfl dX12_text_130 ?_
        refine lv_if_eq (tgt := 178) hx hb dX12_text_133 (by decide) (fun c_64 => ?_) (fun c_64 => ?_)
        · rw [if_pos c_64] at h
          exact L178 _ _ _ _ _ _ _ h hP hS (lv_sub hl [0, 1, 2] rfl)
        · rw [if_neg c_64] at h
          refine lv_iload_n hx hb dX12_text_136 rfl (lv_at hl 1 rfl) ?_
          refine lv_if_ne (tgt := 147) hx hb dX12_text_137 (by decide) (fun c_65 => ?_) (fun c_65 => ?_)
          · rw [if_neg c_65] at h
            refine lv_iload_n hx hb dX12_text_147 rfl (lv_at hl 1 rfl) ?_
            refine lv_iconst (v := 1) hx hb dX12_text_148 (by decide) ?_
            refine lv_icmp_ne (tgt := 159) hx hb dX12_text_149 (by decide) (fun c_66 => ?_) (fun c_66 => ?_)
            · rw [if_neg c_66] at h
              refine lv_iload_n hx hb dX12_text_159 rfl (lv_at hl 1 rfl) ?_
              refine lv_iconst (v := 2) hx hb dX12_text_160 (by decide) ?_
              refine lv_icmp_ne (tgt := 171) hx hb dX12_text_161 (by decide) (fun c_67 => ?_) (fun c_67 => ?_)
              · rw [if_neg c_67] at h
                refine lv_aload_n hx hb dX12_text_171 rfl (lv_at hl 0 rfl) ?_
                obtain ⟨f_68, wl_69, r_70, z_71, h⟩ := gb_bd_s h
                refine gb_callv (va_runV (C := RX12) (As := []) (rest := []) ⟨hx, hb, hml, hown, hq⟩ (mc_seenLine l D cT tt b1 b hb1 n f w f_68 wl_69 r_70 z_71) (cwV 0 hq (gb_gV w_1354 w_1356 s_4_0 w_14 w_1357) rfl rfl rfl (by decide +kernel) ⟨Nat.le_of_ble_eq_true rfl, Nat.le_of_ble_eq_true rfl⟩) (gb_preV (r := (RX12, TX12, 44)) (ci := 10) (q0 := 0) hSt hP rfl (gb_at b rfl) hS (fun q h => Nat.le_trans hb1 h.1) hP) rfl rfl hl.1 rfl (lv_room (Nat.le_of_ble_eq_true rfl)) dX12_text_172 ⟨Nat.le_of_ble_eq_true rfl, Nat.le_of_ble_eq_true rfl⟩) hS (fun _ h => h) (fun _ h => h) (fun H locs hY hk hS => ?_)
                have hP := hY
                refine lv_goto (tgt := 122) hx hb dX12_text_175 (by decide) ?_
                exact ih _ _ _ _ _ _ _ h hP hS (lv_sub hl [0, 1, 2] rfl)
              · rw [if_pos c_67] at h
                refine lv_aload_n hx hb dX12_text_164 rfl (lv_at hl 0 rfl) ?_
                obtain ⟨f_73, wl_74, r_75, z_76, h⟩ := gb_bd_s h
                refine gb_callv (va_runV (C := RX12) (As := []) (rest := []) ⟨hx, hb, hml, hown, hq⟩ (mc_termLine l D cT tt b1 b hb1 n f w f_73 wl_74 r_75 z_76) (cwV 0 hq (gb_gV w_1350 w_1352 s_3_15 w_14 w_1353) rfl rfl rfl (by decide +kernel) ⟨Nat.le_of_ble_eq_true rfl, Nat.le_of_ble_eq_true rfl⟩) (gb_preV (r := (RX12, TX12, 44)) (ci := 10) (q0 := 0) hSt hP rfl (gb_at b rfl) hS (fun q h => Nat.le_trans hb1 h.1) hP) rfl rfl hl.1 rfl (lv_room (Nat.le_of_ble_eq_true rfl)) dX12_text_165 ⟨Nat.le_of_ble_eq_true rfl, Nat.le_of_ble_eq_true rfl⟩) hS (fun _ h => h) (fun _ h => h) (fun H locs hY hk hS => ?_)
                have hP := hY
                refine lv_goto (tgt := 122) hx hb dX12_text_168 (by decide) ?_
                exact ih _ _ _ _ _ _ _ h hP hS (lv_sub hl [0, 1, 2] rfl)
            · rw [if_pos c_66] at h
              refine lv_aload_n hx hb dX12_text_152 rfl (lv_at hl 0 rfl) ?_
              obtain ⟨f_78, wl_79, r_80, z_81, h⟩ := gb_bd_s h
              refine gb_callv (va_runV (C := RX12) (As := []) (rest := []) ⟨hx, hb, hml, hown, hq⟩ (mc_deedLine l D cT tt b1 b hb1 n f w f_78 wl_79 r_80 z_81) (cwV 0 hq (gb_gV w_1334 w_1336 s_3_11 w_14 w_1337) rfl rfl rfl (by decide +kernel) ⟨Nat.le_of_ble_eq_true rfl, Nat.le_of_ble_eq_true rfl⟩) (gb_preV (r := (RX12, TX12, 44)) (ci := 10) (q0 := 0) hSt hP rfl (gb_at b rfl) hS (fun q h => Nat.le_trans hb1 h.1) hP) rfl rfl hl.1 rfl (lv_room (Nat.le_of_ble_eq_true rfl)) dX12_text_153 ⟨Nat.le_of_ble_eq_true rfl, Nat.le_of_ble_eq_true rfl⟩) hS (fun _ h => h) (fun _ h => h) (fun H locs hY hk hS => ?_)
              have hP := hY
              refine lv_goto (tgt := 122) hx hb dX12_text_156 (by decide) ?_
              exact ih _ _ _ _ _ _ _ h hP hS (lv_sub hl [0, 1, 2] rfl)
          · rw [if_pos c_65] at h
            refine lv_aload_n hx hb dX12_text_140 rfl (lv_at hl 0 rfl) ?_
            obtain ⟨f_83, wl_84, r_85, z_86, h⟩ := gb_bd_s h
            refine gb_callv (va_runV (C := RX12) (As := []) (rest := []) ⟨hx, hb, hml, hown, hq⟩ (mc_borderLine l D cT tt b1 b hb1 n f w f_83 wl_84 r_85 z_86) (cwV 0 hq (gb_gV w_1302 w_1304 s_3_3 w_14 w_1305) rfl rfl rfl (by decide +kernel) ⟨Nat.le_of_ble_eq_true rfl, Nat.le_of_ble_eq_true rfl⟩) (gb_preV (r := (RX12, TX12, 44)) (ci := 10) (q0 := 0) hSt hP rfl (gb_at b rfl) hS (fun q h => Nat.le_trans hb1 h.1) hP) rfl rfl hl.1 rfl (lv_room (Nat.le_of_ble_eq_true rfl)) dX12_text_141 ⟨Nat.le_of_ble_eq_true rfl, Nat.le_of_ble_eq_true rfl⟩) hS (fun _ h => h) (fun _ h => h) (fun H locs hY hk hS => ?_)
            have hP := hY
            refine lv_goto (tgt := 122) hx hb dX12_text_144 (by decide) ?_
            exact ih _ _ _ _ _ _ _ h hP hS (lv_sub hl [0, 1, 2] rfl)
  have L88 : ∀ (mm : Nat) (f : gb_F) (w : Int64) (v1 : Int32) (v2 : Int32) (v3 : Int32) (H : Heap) (locs : List Loc) (ls : Array Slot), ms_text_88 n mm f w v1 v2 v3 = some (fE, wE, rE) → va_P D vwCl (gb_wl b (gb_MW cT b f w)) H → va_S (gb_fr b 22) s.heap H locs → lv_has ls 5 [(0, .ref (b + 0)), (1, .int v1), (2, .int v2), (3, .int v3)] → W p l e (headSpec (.code yX12_text cX12_text 5 (some FieldType.int) :: gb_wA) ({ frames := 7, cells := 0, slots := 0, locals := 167 })).room s m ([.ref (b + 0), .int p1, .int p2]).toArray below meth c H locs 0 0 (MQ below (gb_Qi (fun r h => r = rE ∧ va_P D vwCl (gb_wl b (gb_MW cT b fE wE)) h) (gb_fr b 22)) ([.ref (b + 0), .int p1, .int p2]).toArray s 0 0 (gb_fr b 22)) (F0 m 88 ls []) := by
    clear h hP hS hl ls f w
    intro mm
    induction mm with
    | zero =>
      intro f w v1 v2 v3 H locs ls h
      cases h
    | succ mm ih =>
      intro f w v1 v2 v3 H locs ls h hP hS hl
      rw [ms_text_88] at h
      refine lv_iload_n hx hb dX12_text_88 rfl (lv_at hl 3 rfl) ?_
      refine lv_bipush (v := 97) hx hb dX12_text_89 (by decide) ?_
      refine lv_icmp_ge (tgt := 107) hx hb dX12_text_91 (by decide) (fun c_22 => ?_) (fun c_22 => ?_)
      · rw [if_pos c_22] at h
        refine lv_iload_n hx hb dX12_text_107 rfl (lv_at hl 1 rfl) ?_
        refine lv_if_ne (tgt := 118) hx hb dX12_text_108 (by decide) (fun c_23 => ?_) (fun c_23 => ?_)
        · rw [if_neg c_23] at h
          refine lv_aload_n hx hb dX12_text_118 rfl (lv_at hl 0 rfl) ?_
          obtain ⟨f_24, wl_25, r_26, z_27, h⟩ := gb_bd_s h
          refine gb_callv (va_runV (C := RX12) (As := []) (rest := []) ⟨hx, hb, hml, hown, hq⟩ (mc_advance l D cT tt b1 b hb1 n f w f_24 wl_25 r_26 z_27) (cwV 0 hq (gb_gV w_1276 w_1278 s_3_1 w_14 w_1279) rfl rfl rfl (by decide +kernel) ⟨Nat.le_of_ble_eq_true rfl, Nat.le_of_ble_eq_true rfl⟩) (gb_preV (r := (RX12, TX12, 44)) (ci := 10) (q0 := 0) hSt hP rfl (gb_at b rfl) hS (fun q h => Nat.le_trans hb1 h.1) hP) rfl rfl hl.1 rfl (lv_room (Nat.le_of_ble_eq_true rfl)) dX12_text_119 ⟨Nat.le_of_ble_eq_true rfl, Nat.le_of_ble_eq_true rfl⟩) hS (fun _ h => h) (fun _ h => h) (fun H locs hY hk hS => ?_)
          have hP := hY
          exact L122 n _ _ _ _ _ _ _ h hP hS (lv_sub hl [0, 1, 2] rfl)
        · rw [if_pos c_23] at h
          refine lv_aload_n hx hb dX12_text_111 rfl (lv_at hl 0 rfl) ?_
          refine va_get (ci := 10) (v := (.ref (b + 3))) (C := RX12) (T := TX12) (N := 44) hx hb hq i_X12 hown hK hP 0 (gb_at b rfl) rfl 10 (by decide) (hq _ w_1134) (fun _ h9 => h9) rfl dX12_text_112 ?_
          refine lv_iconst (v := 2) hx hb dX12_text_115 (by decide) ?_
          refine lv_iconst (v := (-1)) hx hb dX12_text_116 (by decide) ?_
          refine gb_iast (x := (-1)) hx hb hK hP (fun k h => ⟨Nat.le_add_right b k, Nat.add_lt_add_left h b⟩) hS rfl 3 0 rfl rfl (gb_in rfl) dX12_text_117 (fun H locs hP hz_ hS => ?_)
          obtain ⟨f_88, ef_88⟩ : ∃ q, q = (gb_u f 3 (upd (f 3) (Int32.toNatClampNeg 2) (-1))) := ⟨_, rfl⟩
          replace hP : va_P D vwCl (gb_wl b (gb_MW cT b f_88 w)) H := by rw [ef_88]; exact hP
          replace h := gb_lt_s ef_88 h
          refine lv_aload_n hx hb dX12_text_118 rfl (lv_at hl 0 rfl) ?_
          obtain ⟨f_89, wl_90, r_91, z_92, h⟩ := gb_bd_s h
          refine gb_callv (va_runV (C := RX12) (As := []) (rest := []) ⟨hx, hb, hml, hown, hq⟩ (mc_advance l D cT tt b1 b hb1 n f_88 w f_89 wl_90 r_91 z_92) (cwV 0 hq (gb_gV w_1276 w_1278 s_3_1 w_14 w_1279) rfl rfl rfl (by decide +kernel) ⟨Nat.le_of_ble_eq_true rfl, Nat.le_of_ble_eq_true rfl⟩) (gb_preV (r := (RX12, TX12, 44)) (ci := 10) (q0 := 0) hSt hP rfl (gb_at b rfl) hS (fun q h => Nat.le_trans hb1 h.1) hP) rfl rfl hl.1 rfl (lv_room (Nat.le_of_ble_eq_true rfl)) dX12_text_119 ⟨Nat.le_of_ble_eq_true rfl, Nat.le_of_ble_eq_true rfl⟩) hS (fun _ h => h) (fun _ h => h) (fun H locs hY hk hS => ?_)
          have hP := hY
          exact L122 n _ _ _ _ _ _ _ h hP hS (lv_sub hl [0, 1, 2] rfl)
      · rw [if_neg c_22] at h
        refine lv_aload_n hx hb dX12_text_94 rfl (lv_at hl 0 rfl) ?_
        refine va_get (ci := 10) (v := (.ref (b + 3))) (C := RX12) (T := TX12) (N := 44) hx hb hq i_X12 hown hK hP 0 (gb_at b rfl) rfl 10 (by decide) (hq _ w_1134) (fun _ h9 => h9) rfl dX12_text_95 ?_
        refine lv_iload_n hx hb dX12_text_98 rfl (lv_at hl 3 rfl) ?_
        refine lv_iconst (v := 0) hx hb dX12_text_99 (by decide) ?_
        obtain ⟨z_94, h⟩ := gb_ck_s h
        refine gb_iast (x := 0) hx hb hK hP (fun k h => ⟨Nat.le_add_right b k, Nat.add_lt_add_left h b⟩) hS rfl 3 0 rfl rfl z_94 dX12_text_100 (fun H locs hP hz_ hS => ?_)
        obtain ⟨f_95, ef_95⟩ : ∃ q, q = (gb_u f 3 (upd (f 3) (Int32.toNatClampNeg v3) 0)) := ⟨_, rfl⟩
        replace hP : va_P D vwCl (gb_wl b (gb_MW cT b f_95 w)) H := by rw [ef_95]; exact hP
        replace h := gb_lt_s ef_95 h
        obtain ⟨x_96, ex_96⟩ : ∃ q, q = (v3 + 1) := ⟨_, rfl⟩
        replace h := gb_lt_s ex_96 h
        refine lv_iinc (v := x_96) (lv' := [(3, .int x_96), (0, .ref (b + 0)), (1, .int v1), (2, .int v2)]) hx hb dX12_text_101 hl (k := 3) rfl (by rw [ex_96]; rfl) (by decide) rfl (fun ls hl => ?_)
        refine lv_goto (tgt := 88) hx hb dX12_text_104 (by decide) ?_
        exact ih _ _ _ _ _ _ _ _ h hP hS (lv_sub hl [1, 2, 3, 0] rfl)
  unfold ms_text at h
  refine lv_aload_n hx hb dX12_text_0 rfl (lv_at hl 0 rfl) ?_
  refine lv_aload_n hx hb dX12_text_1 rfl (lv_at hl 0 rfl) ?_
  refine va_get (ci := 10) (v := (.ref (b + 1))) (C := RX12) (T := TX12) (N := 44) hx hb hq i_X12 hown hK hP 0 (gb_at b rfl) rfl 0 (by decide) (hq _ w_1124) (fun _ h9 => h9) rfl dX12_text_2 ?_
  refine lv_iconst (v := 4) hx hb dX12_text_5 (by decide) ?_
  refine va_iald hx hb hK hP 1 0 (gb_at b rfl) rfl (gb_in rfl) dX12_text_6 ?_
  refine lv_topi (fun x_1 ex_1 => ?_)
  replace h := gb_lt_s ex_1 h
  refine gb_put (ci := 10) (v := (.int x_1)) (ty := .int) (C := RX12) (T := TX12) (N := 44) hx hb hq i_X12 tyX12 tyX12_ok nmX12 hown hK hP (fun k h => ⟨Nat.le_add_right b k, Nat.add_lt_add_left h b⟩) hS rfl 0 rfl rfl 2 (by decide) (hq _ w_1126) (fun _ h9 => h9) rfl (by decide +kernel) rfl rfl (Nat.le_of_ble_eq_true rfl) dX12_text_7 (fun H locs hP hz_ hS => ?_)
  obtain ⟨f_2, ef_2⟩ : ∃ q, q = (gb_u f 0 (upd (f 0) 2 x_1)) := ⟨_, rfl⟩
  replace hP : va_P D vwCl (gb_wl b (gb_MW cT b f_2 w)) H := by rw [ef_2]; exact hP
  replace h := gb_lt_s ef_2 h
  refine lv_aload_n hx hb dX12_text_10 rfl (lv_at hl 0 rfl) ?_
  refine va_get (ci := 10) (v := (.ref (b + 1))) (C := RX12) (T := TX12) (N := 44) hx hb hq i_X12 hown hK hP 0 (gb_at b rfl) rfl 0 (by decide) (hq _ w_1124) (fun _ h9 => h9) rfl dX12_text_11 ?_
  refine lv_iconst (v := 4) hx hb dX12_text_14 (by decide) ?_
  refine lv_iconst (v := 0) hx hb dX12_text_15 (by decide) ?_
  refine gb_iast (x := 0) hx hb hK hP (fun k h => ⟨Nat.le_add_right b k, Nat.add_lt_add_left h b⟩) hS rfl 1 0 rfl rfl (gb_in rfl) dX12_text_16 (fun H locs hP hz_ hS => ?_)
  obtain ⟨f_3, ef_3⟩ : ∃ q, q = (gb_u f_2 1 (upd (f_2 1) (Int32.toNatClampNeg 4) 0)) := ⟨_, rfl⟩
  replace hP : va_P D vwCl (gb_wl b (gb_MW cT b f_3 w)) H := by rw [ef_3]; exact hP
  replace h := gb_lt_s ef_3 h
  refine lv_aload_n hx hb dX12_text_17 rfl (lv_at hl 0 rfl) ?_
  refine va_get (ci := 10) (v := (.ref (b + 1))) (C := RX12) (T := TX12) (N := 44) hx hb hq i_X12 hown hK hP 0 (gb_at b rfl) rfl 0 (by decide) (hq _ w_1124) (fun _ h9 => h9) rfl dX12_text_18 ?_
  refine lv_iconst (v := 5) hx hb dX12_text_21 (by decide) ?_
  refine lv_iconst (v := 0) hx hb dX12_text_22 (by decide) ?_
  refine gb_iast (x := 0) hx hb hK hP (fun k h => ⟨Nat.le_add_right b k, Nat.add_lt_add_left h b⟩) hS rfl 1 0 rfl rfl (gb_in rfl) dX12_text_23 (fun H locs hP hz_ hS => ?_)
  obtain ⟨f_4, ef_4⟩ : ∃ q, q = (gb_u f_3 1 (upd (f_3 1) (Int32.toNatClampNeg 5) 0)) := ⟨_, rfl⟩
  replace hP : va_P D vwCl (gb_wl b (gb_MW cT b f_4 w)) H := by rw [ef_4]; exact hP
  replace h := gb_lt_s ef_4 h
  refine lv_aload_n hx hb dX12_text_24 rfl (lv_at hl 0 rfl) ?_
  refine va_get (ci := 10) (v := (.ref (b + 1))) (C := RX12) (T := TX12) (N := 44) hx hb hq i_X12 hown hK hP 0 (gb_at b rfl) rfl 0 (by decide) (hq _ w_1124) (fun _ h9 => h9) rfl dX12_text_25 ?_
  refine lv_bipush (v := 6) hx hb dX12_text_28 (by decide) ?_
  refine lv_iconst (v := (-1)) hx hb dX12_text_30 (by decide) ?_
  refine gb_iast (x := (-1)) hx hb hK hP (fun k h => ⟨Nat.le_add_right b k, Nat.add_lt_add_left h b⟩) hS rfl 1 0 rfl rfl (gb_in rfl) dX12_text_31 (fun H locs hP hz_ hS => ?_)
  obtain ⟨f_5, ef_5⟩ : ∃ q, q = (gb_u f_4 1 (upd (f_4 1) (Int32.toNatClampNeg 6) (-1))) := ⟨_, rfl⟩
  replace hP : va_P D vwCl (gb_wl b (gb_MW cT b f_5 w)) H := by rw [ef_5]; exact hP
  replace h := gb_lt_s ef_5 h
  refine lv_iload_n hx hb dX12_text_32 rfl (lv_at hl 1 rfl) ?_
  refine lv_iconst (v := 0) hx hb dX12_text_33 (by decide) ?_
  refine lv_iconst (v := 3) hx hb dX12_text_34 (by decide) ?_
  obtain ⟨f_6, wl_7, r_8, z_9, h⟩ := gb_bd_s h
  refine gb_calli (va_runS (As := [.int p1, .int 0, .int 3]) (rest := []) ⟨hx, hb, hml, hown, hq⟩ (mc_isIn l D cT tt b1 b hb1 n f_5 w p1 0 3 f_6 wl_7 r_8 z_9) (va_cwS 3 hq (gb_gS w_1269 w_1270 w_14 w_1271) rfl rfl rfl (by decide +kernel) ⟨Nat.le_of_ble_eq_true rfl, Nat.le_of_ble_eq_true rfl⟩) (gb_preS hSt hS (fun q h => Nat.le_trans hb1 h.1) hP) rfl rfl hl.1 rfl (lv_room (Nat.le_of_ble_eq_true rfl)) dX12_text_35 ⟨Nat.le_of_ble_eq_true rfl, Nat.le_of_ble_eq_true rfl⟩) hS (fun _ h => h) (fun _ h => h) (fun q_10 H locs hY hk hS => ?_)
  obtain ⟨hq_10, hP⟩ := hY
  replace hq_10 := hq_10.symm
  subst hq_10
  refine lv_if_eq (tgt := 68) hx hb dX12_text_38 (by decide) (fun c_11 => ?_) (fun c_11 => ?_)
  · rw [if_pos c_11] at h
    refine lv_bipush (v := (-2)) hx hb dX12_text_68 (by decide) ?_
    obtain ⟨e1, e2, e3⟩ := gb_eq3 h
    exact W.iret (v := (-2)) hx hb hr (fun t ht hW => gb_ri ht ⟨e3, by rw [← e1, ← e2]; exact hP⟩ hS) hS.2.2 dX12_text_70
  · rw [if_neg c_11] at h
    refine lv_iload_n hx hb dX12_text_41 rfl (lv_at hl 2 rfl) ?_
    refine lv_iconst (v := (-1)) hx hb dX12_text_42 (by decide) ?_
    refine lv_icmp_ne (tgt := 59) hx hb dX12_text_43 (by decide) (fun c_12 => ?_) (fun c_12 => ?_)
    · rw [if_neg c_12] at h
      refine lv_aload_n hx hb dX12_text_59 rfl (lv_at hl 0 rfl) ?_
      refine lv_iload_n hx hb dX12_text_60 rfl (lv_at hl 1 rfl) ?_
      refine lv_iload_n hx hb dX12_text_61 rfl (lv_at hl 2 rfl) ?_
      obtain ⟨f_13, wl_14, r_15, z_16, h⟩ := gb_bd_s h
      refine gb_calli (va_runV (C := RX12) (As := [.int p1, .int p2]) (rest := []) ⟨hx, hb, hml, hown, hq⟩ (mc_isOf l D cT tt b1 b hb1 n f_6 wl_7 p1 p2 f_13 wl_14 r_15 z_16) (cwV 2 hq (gb_gV w_1272 w_1274 s_3_0 w_14 w_1275) rfl rfl rfl (by decide +kernel) ⟨Nat.le_of_ble_eq_true rfl, Nat.le_of_ble_eq_true rfl⟩) (gb_preV (r := (RX12, TX12, 44)) (ci := 10) (q0 := 0) hSt hP rfl (gb_at b rfl) hS (fun q h => Nat.le_trans hb1 h.1) hP) rfl rfl hl.1 rfl (lv_room (Nat.le_of_ble_eq_true rfl)) dX12_text_62 ⟨Nat.le_of_ble_eq_true rfl, Nat.le_of_ble_eq_true rfl⟩) hS (fun _ h => h) (fun _ h => h) (fun q_17 H locs hY hk hS => ?_)
      obtain ⟨hq_17, hP⟩ := hY
      replace hq_17 := hq_17.symm
      subst hq_17
      refine lv_if_ne (tgt := 71) hx hb dX12_text_65 (by decide) (fun c_18 => ?_) (fun c_18 => ?_)
      · rw [if_neg c_18] at h
        refine lv_aload_n hx hb dX12_text_71 rfl (lv_at hl 0 rfl) ?_
        refine lv_iconst (v := 0) hx hb dX12_text_72 (by decide) ?_
        refine gb_put (ci := 10) (v := (.int 0)) (ty := .int) (C := RX12) (T := TX12) (N := 44) hx hb hq i_X12 tyX12 tyX12_ok nmX12 hown hK hP (fun k h => ⟨Nat.le_add_right b k, Nat.add_lt_add_left h b⟩) hS rfl 0 rfl rfl 3 (by decide) (hq _ w_1127) (fun _ h9 => h9) rfl (by decide +kernel) rfl rfl (Nat.le_of_ble_eq_true rfl) dX12_text_73 (fun H locs hP hz_ hS => ?_)
        obtain ⟨f_19, ef_19⟩ : ∃ q, q = (gb_u f_13 0 (upd (f_13 0) 3 0)) := ⟨_, rfl⟩
        replace hP : va_P D vwCl (gb_wl b (gb_MW cT b f_19 wl_14)) H := by rw [ef_19]; exact hP
        replace h := gb_lt_s ef_19 h
        refine lv_aload_n hx hb dX12_text_76 rfl (lv_at hl 0 rfl) ?_
        refine lv_iconst (v := 0) hx hb dX12_text_77 (by decide) ?_
        refine gb_put (ci := 10) (v := (.int 0)) (ty := .boolean) (C := RX12) (T := TX12) (N := 44) hx hb hq i_X12 tyX12 tyX12_ok nmX12 hown hK hP (fun k h => ⟨Nat.le_add_right b k, Nat.add_lt_add_left h b⟩) hS rfl 0 rfl rfl 8 (by decide) (hq _ w_1132) (fun _ h9 => h9) rfl (by decide +kernel) (by decide) (by decide) (Nat.le_of_ble_eq_true rfl) dX12_text_78 (fun H locs hP hz_ hS => ?_)
        obtain ⟨f_20, ef_20⟩ : ∃ q, q = (gb_u f_19 0 (upd (f_19 0) 8 0)) := ⟨_, rfl⟩
        replace hP : va_P D vwCl (gb_wl b (gb_MW cT b f_20 wl_14)) H := by rw [ef_20]; exact hP
        replace h := gb_lt_s ef_20 h
        refine lv_aload_n hx hb dX12_text_81 rfl (lv_at hl 0 rfl) ?_
        refine lv_iconst (v := 0) hx hb dX12_text_82 (by decide) ?_
        refine gb_put (ci := 10) (v := (.int 0)) (ty := .boolean) (C := RX12) (T := TX12) (N := 44) hx hb hq i_X12 tyX12 tyX12_ok nmX12 hown hK hP (fun k h => ⟨Nat.le_add_right b k, Nat.add_lt_add_left h b⟩) hS rfl 0 rfl rfl 9 (by decide) (hq _ w_1133) (fun _ h9 => h9) rfl (by decide +kernel) (by decide) (by decide) (Nat.le_of_ble_eq_true rfl) dX12_text_83 (fun H locs hP hz_ hS => ?_)
        obtain ⟨f_21, ef_21⟩ : ∃ q, q = (gb_u f_20 0 (upd (f_20 0) 9 0)) := ⟨_, rfl⟩
        replace hP : va_P D vwCl (gb_wl b (gb_MW cT b f_21 wl_14)) H := by rw [ef_21]; exact hP
        replace h := gb_lt_s ef_21 h
        refine lv_iconst (v := 0) hx hb dX12_text_86 (by decide) ?_
        refine lv_istore_n (lv' := [(3, .int 0), (0, .ref (b + 0)), (1, .int p1), (2, .int p2)]) hx hb dX12_text_87 rfl hl (by decide) rfl (fun ls hl => ?_)
        exact L88 n _ _ _ _ _ _ _ _ h hP hS (lv_sub hl [1, 2, 3, 0] rfl)
      · rw [if_pos c_18] at h
        refine lv_bipush (v := (-2)) hx hb dX12_text_68 (by decide) ?_
        obtain ⟨e1, e2, e3⟩ := gb_eq3 h
        exact W.iret (v := (-2)) hx hb hr (fun t ht hW => gb_ri ht ⟨e3, by rw [← e1, ← e2]; exact hP⟩ hS) hS.2.2 dX12_text_70
    · rw [if_pos c_12] at h
      refine lv_aload_n hx hb dX12_text_46 rfl (lv_at hl 0 rfl) ?_
      refine va_get (ci := 10) (v := (.ref (b + 1))) (C := RX12) (T := TX12) (N := 44) hx hb hq i_X12 hown hK hP 0 (gb_at b rfl) rfl 0 (by decide) (hq _ w_1124) (fun _ h9 => h9) rfl dX12_text_47 ?_
      refine lv_iload_n hx hb dX12_text_50 rfl (lv_at hl 1 rfl) ?_
      obtain ⟨z_97, h⟩ := gb_ck_s h
      refine va_iald hx hb hK hP 1 0 (gb_at b rfl) rfl z_97 dX12_text_51 ?_
      refine lv_topi (fun x_98 ex_98 => ?_)
      replace h := gb_lt_s ex_98 h
      refine lv_iconst (v := 2) hx hb dX12_text_52 (by decide) ?_
      refine lv_icmp_lt (tgt := 71) hx hb dX12_text_53 (by decide) (fun c_99 => ?_) (fun c_99 => ?_)
      · rw [if_pos c_99] at h
        refine lv_aload_n hx hb dX12_text_71 rfl (lv_at hl 0 rfl) ?_
        refine lv_iconst (v := 0) hx hb dX12_text_72 (by decide) ?_
        refine gb_put (ci := 10) (v := (.int 0)) (ty := .int) (C := RX12) (T := TX12) (N := 44) hx hb hq i_X12 tyX12 tyX12_ok nmX12 hown hK hP (fun k h => ⟨Nat.le_add_right b k, Nat.add_lt_add_left h b⟩) hS rfl 0 rfl rfl 3 (by decide) (hq _ w_1127) (fun _ h9 => h9) rfl (by decide +kernel) rfl rfl (Nat.le_of_ble_eq_true rfl) dX12_text_73 (fun H locs hP hz_ hS => ?_)
        obtain ⟨f_100, ef_100⟩ : ∃ q, q = (gb_u f_6 0 (upd (f_6 0) 3 0)) := ⟨_, rfl⟩
        replace hP : va_P D vwCl (gb_wl b (gb_MW cT b f_100 wl_7)) H := by rw [ef_100]; exact hP
        replace h := gb_lt_s ef_100 h
        refine lv_aload_n hx hb dX12_text_76 rfl (lv_at hl 0 rfl) ?_
        refine lv_iconst (v := 0) hx hb dX12_text_77 (by decide) ?_
        refine gb_put (ci := 10) (v := (.int 0)) (ty := .boolean) (C := RX12) (T := TX12) (N := 44) hx hb hq i_X12 tyX12 tyX12_ok nmX12 hown hK hP (fun k h => ⟨Nat.le_add_right b k, Nat.add_lt_add_left h b⟩) hS rfl 0 rfl rfl 8 (by decide) (hq _ w_1132) (fun _ h9 => h9) rfl (by decide +kernel) (by decide) (by decide) (Nat.le_of_ble_eq_true rfl) dX12_text_78 (fun H locs hP hz_ hS => ?_)
        obtain ⟨f_101, ef_101⟩ : ∃ q, q = (gb_u f_100 0 (upd (f_100 0) 8 0)) := ⟨_, rfl⟩
        replace hP : va_P D vwCl (gb_wl b (gb_MW cT b f_101 wl_7)) H := by rw [ef_101]; exact hP
        replace h := gb_lt_s ef_101 h
        refine lv_aload_n hx hb dX12_text_81 rfl (lv_at hl 0 rfl) ?_
        refine lv_iconst (v := 0) hx hb dX12_text_82 (by decide) ?_
        refine gb_put (ci := 10) (v := (.int 0)) (ty := .boolean) (C := RX12) (T := TX12) (N := 44) hx hb hq i_X12 tyX12 tyX12_ok nmX12 hown hK hP (fun k h => ⟨Nat.le_add_right b k, Nat.add_lt_add_left h b⟩) hS rfl 0 rfl rfl 9 (by decide) (hq _ w_1133) (fun _ h9 => h9) rfl (by decide +kernel) (by decide) (by decide) (Nat.le_of_ble_eq_true rfl) dX12_text_83 (fun H locs hP hz_ hS => ?_)
        obtain ⟨f_102, ef_102⟩ : ∃ q, q = (gb_u f_101 0 (upd (f_101 0) 9 0)) := ⟨_, rfl⟩
        replace hP : va_P D vwCl (gb_wl b (gb_MW cT b f_102 wl_7)) H := by rw [ef_102]; exact hP
        replace h := gb_lt_s ef_102 h
        refine lv_iconst (v := 0) hx hb dX12_text_86 (by decide) ?_
        refine lv_istore_n (lv' := [(3, .int 0), (0, .ref (b + 0)), (1, .int p1), (2, .int p2)]) hx hb dX12_text_87 rfl hl (by decide) rfl (fun ls hl => ?_)
        exact L88 n _ _ _ _ _ _ _ _ h hP hS (lv_sub hl [1, 2, 3, 0] rfl)
      · rw [if_neg c_99] at h
        refine lv_goto (tgt := 68) hx hb dX12_text_56 (by decide) ?_
        refine lv_bipush (v := (-2)) hx hb dX12_text_68 (by decide) ?_
        obtain ⟨e1, e2, e3⟩ := gb_eq3 h
        exact W.iret (v := (-2)) hx hb hr (fun t ht hW => gb_ri ht ⟨e3, by rw [← e1, ← e2]; exact hP⟩ hS) hS.2.2 dX12_text_70
theorem dX12_fault_0 : decode cX12_fault 0 = .ok (.iload_n 1, 1) := dc_27 (show ((cX12_fault.data.toList.drop 0).take 1).map UInt8.toNat = [27] by decide +kernel)
theorem dX12_fault_1 : decode cX12_fault 1 = .ok (.ifCond .ne 12, 3) := dc_154 (show ((cX12_fault.data.toList.drop 1).take 3).map UInt8.toNat = [154, 0, 12] by decide +kernel) rfl
theorem dX12_fault_13 : decode cX12_fault 13 = .ok (.iload_n 1, 1) := dc_27 (show ((cX12_fault.data.toList.drop 13).take 1).map UInt8.toNat = [27] by decide +kernel)
theorem dX12_fault_14 : decode cX12_fault 14 = .ok (.iconst 1, 1) := dc_4 (show ((cX12_fault.data.toList.drop 14).take 1).map UInt8.toNat = [4] by decide +kernel)
theorem dX12_fault_15 : decode cX12_fault 15 = .ok (.if_icmp .ne 13, 3) := dc_160 (show ((cX12_fault.data.toList.drop 15).take 3).map UInt8.toNat = [160, 0, 13] by decide +kernel) rfl
theorem dX12_fault_28 : decode cX12_fault 28 = .ok (.iconst (-1), 1) := dc_2 (show ((cX12_fault.data.toList.drop 28).take 1).map UInt8.toNat = [2] by decide +kernel)
theorem dX12_fault_29 : decode cX12_fault 29 = .ok (.ireturn, 1) := dc_172 (show ((cX12_fault.data.toList.drop 29).take 1).map UInt8.toNat = [172] by decide +kernel)
theorem dX12_fault_18 : decode cX12_fault 18 = .ok (.aload_n 0, 1) := dc_42 (show ((cX12_fault.data.toList.drop 18).take 1).map UInt8.toNat = [42] by decide +kernel)
theorem dX12_fault_19 : decode cX12_fault 19 = .ok (.getfield 7, 3) := dc_180 (show ((cX12_fault.data.toList.drop 19).take 3).map UInt8.toNat = [180, 0, 7] by decide +kernel) rfl
theorem dX12_fault_22 : decode cX12_fault 22 = .ok (.bipush 6, 2) := dc_16 (show ((cX12_fault.data.toList.drop 22).take 2).map UInt8.toNat = [16, 6] by decide +kernel) rfl
theorem dX12_fault_24 : decode cX12_fault 24 = .ok (.iaload, 1) := dc_46 (show ((cX12_fault.data.toList.drop 24).take 1).map UInt8.toNat = [46] by decide +kernel)
theorem dX12_fault_25 : decode cX12_fault 25 = .ok (.goto 4, 3) := dc_167 (show ((cX12_fault.data.toList.drop 25).take 3).map UInt8.toNat = [167, 0, 4] by decide +kernel) rfl
theorem dX12_fault_4 : decode cX12_fault 4 = .ok (.aload_n 0, 1) := dc_42 (show ((cX12_fault.data.toList.drop 4).take 1).map UInt8.toNat = [42] by decide +kernel)
theorem dX12_fault_5 : decode cX12_fault 5 = .ok (.getfield 7, 3) := dc_180 (show ((cX12_fault.data.toList.drop 5).take 3).map UInt8.toNat = [180, 0, 7] by decide +kernel) rfl
theorem dX12_fault_8 : decode cX12_fault 8 = .ok (.iconst 5, 1) := dc_8 (show ((cX12_fault.data.toList.drop 8).take 1).map UInt8.toNat = [8] by decide +kernel)
theorem dX12_fault_9 : decode cX12_fault 9 = .ok (.iaload, 1) := dc_46 (show ((cX12_fault.data.toList.drop 9).take 1).map UInt8.toNat = [46] by decide +kernel)
theorem dX12_fault_10 : decode cX12_fault 10 = .ok (.goto 19, 3) := dc_167 (show ((cX12_fault.data.toList.drop 10).take 3).map UInt8.toNat = [167, 0, 19] by decide +kernel) rfl
def ms_fault (n : Nat) (f : gb_F) (w : Int64) (p1 : Int32) : gb_MR Int32 := (if p1 = 0 then gb_lt (f 1 (Int32.toNatClampNeg 5)) (fun x_4 => some (f, w, x_4)) else (if p1 = 1 then gb_lt (f 1 (Int32.toNatClampNeg 6)) (fun x_3 => some (f, w, x_3)) else some (f, w, (-1))))
set_option maxHeartbeats 8000000 in
set_option maxRecDepth 100000 in
theorem mc_fault (l : Launch) (D : va_G) (cT : Nat → ClassId) (tt : Nat → Nat) (b1 b : Nat) (hb1 : b1 ≤ b) (n : Nat) (f : gb_F) (w : Int64) (p1 : Int32) (fE : gb_F) (wE : Int64) (rE : Int32) (h : ms_fault n f w p1 = some (fE, wE, rE)) : Met l yX12_fault (.code yX12_fault cX12_fault 2 (some FieldType.int) :: gb_wA) ({ frames := 0, cells := 0, slots := 0, locals := 0 }) (gb_Pc D cT tt b1 [.ref (b + 0), .int p1] (fun h => va_P D vwCl (gb_wl b (gb_MW cT b f w)) h)) (gb_Qi (fun r h => r = rE ∧ va_P D vwCl (gb_wl b (gb_MW cT b fE wE)) h) (gb_fr b 22)) 0 0 (gb_fr b 22) := by
  refine Met.ofW (cc := cX12_fault) (maxL := 2) (ret := (some FieldType.int)) (by decide) rfl ?_
  intro p e s m args below meth c s₁ B hml hv
  obtain ⟨rfl, hSt, hP⟩ := hv
  have hx := B.exec
  have hb := B.bytes
  have hr := B.returns
  have hts := atoms_spec (ws := .code yX12_fault cX12_fault 2 (some FieldType.int) :: gb_wA) B.pre
  have hq : ∀ w ∈ gb_wA, w.before _ s = true := fun w h => hts w (List.mem_cons_of_mem _ h)
  have hown : s.vm.findClass RX12 = some m.cls := findClass_of_methodNamed B.named
  have hlocks := B.notSynchronized
  clear B hts
  have hK := hSt.1
  have hS : va_S (gb_fr b 22) s.heap s.heap [] := va_S.rf
  have hl := lv_entry ([.ref (b + 0), .int p1]) (n := 2) (Nat.le_of_ble_eq_true rfl)
  rw [lg_entry_eq]
  generalize (lg_sl ([.ref (b + 0), .int p1]) ++ List.replicate (2 - (lg_sl ([.ref (b + 0), .int p1])).length) Slot.unset).toArray = ls at hl ⊢
  replace hl : lv_has ls 2 [(0, .ref (b + 0)), (1, .int p1)] := hl
  unfold ms_fault at h
  refine lv_iload_n hx hb dX12_fault_0 rfl (lv_at hl 1 rfl) ?_
  refine lv_if_ne (tgt := 13) hx hb dX12_fault_1 (by decide) (fun c_1 => ?_) (fun c_1 => ?_)
  · rw [if_neg c_1] at h
    refine lv_iload_n hx hb dX12_fault_13 rfl (lv_at hl 1 rfl) ?_
    refine lv_iconst (v := 1) hx hb dX12_fault_14 (by decide) ?_
    refine lv_icmp_ne (tgt := 28) hx hb dX12_fault_15 (by decide) (fun c_2 => ?_) (fun c_2 => ?_)
    · rw [if_neg c_2] at h
      refine lv_iconst (v := (-1)) hx hb dX12_fault_28 (by decide) ?_
      obtain ⟨e1, e2, e3⟩ := gb_eq3 h
      exact W.iret (v := (-1)) hx hb hr (fun t ht hW => gb_ri ht ⟨e3, by rw [← e1, ← e2]; exact hP⟩ hS) hS.2.2 dX12_fault_29
    · rw [if_pos c_2] at h
      refine lv_aload_n hx hb dX12_fault_18 rfl (lv_at hl 0 rfl) ?_
      refine va_get (ci := 10) (v := (.ref (b + 1))) (C := RX12) (T := TX12) (N := 44) hx hb hq i_X12 hown hK hP 0 (gb_at b rfl) rfl 0 (by decide) (hq _ w_1124) (fun _ h9 => h9) rfl dX12_fault_19 ?_
      refine lv_bipush (v := 6) hx hb dX12_fault_22 (by decide) ?_
      refine va_iald hx hb hK hP 1 0 (gb_at b rfl) rfl (gb_in rfl) dX12_fault_24 ?_
      refine lv_topi (fun x_3 ex_3 => ?_)
      replace h := gb_lt_s ex_3 h
      refine lv_goto (tgt := 29) hx hb dX12_fault_25 (by decide) ?_
      obtain ⟨e1, e2, e3⟩ := gb_eq3 h
      exact W.iret (v := x_3) hx hb hr (fun t ht hW => gb_ri ht ⟨e3, by rw [← e1, ← e2]; exact hP⟩ hS) hS.2.2 dX12_fault_29
  · rw [if_pos c_1] at h
    refine lv_aload_n hx hb dX12_fault_4 rfl (lv_at hl 0 rfl) ?_
    refine va_get (ci := 10) (v := (.ref (b + 1))) (C := RX12) (T := TX12) (N := 44) hx hb hq i_X12 hown hK hP 0 (gb_at b rfl) rfl 0 (by decide) (hq _ w_1124) (fun _ h9 => h9) rfl dX12_fault_5 ?_
    refine lv_iconst (v := 5) hx hb dX12_fault_8 (by decide) ?_
    refine va_iald hx hb hK hP 1 0 (gb_at b rfl) rfl (gb_in rfl) dX12_fault_9 ?_
    refine lv_topi (fun x_4 ex_4 => ?_)
    replace h := gb_lt_s ex_4 h
    refine lv_goto (tgt := 29) hx hb dX12_fault_10 (by decide) ?_
    obtain ⟨e1, e2, e3⟩ := gb_eq3 h
    exact W.iret (v := x_4) hx hb hr (fun t ht hW => gb_ri ht ⟨e3, by rw [← e1, ← e2]; exact hP⟩ hS) hS.2.2 dX12_fault_29
theorem dX12_isBorder_0 : decode cX12_isBorder 0 = .ok (.aload_n 0, 1) := dc_42 (show ((cX12_isBorder.data.toList.drop 0).take 1).map UInt8.toNat = [42] by decide +kernel)
theorem dX12_isBorder_1 : decode cX12_isBorder 1 = .ok (.iconst 0, 1) := dc_3 (show ((cX12_isBorder.data.toList.drop 1).take 1).map UInt8.toNat = [3] by decide +kernel)
theorem dX12_isBorder_2 : decode cX12_isBorder 2 = .ok (.iload_n 1, 1) := dc_27 (show ((cX12_isBorder.data.toList.drop 2).take 1).map UInt8.toNat = [27] by decide +kernel)
theorem dX12_isBorder_3 : decode cX12_isBorder 3 = .ok (.invokevirtual 171, 3) := dc_182 (show ((cX12_isBorder.data.toList.drop 3).take 3).map UInt8.toNat = [182, 0, 171] by decide +kernel) rfl
theorem dX12_isBorder_6 : decode cX12_isBorder 6 = .ok (.ifCond .ne 5, 3) := dc_154 (show ((cX12_isBorder.data.toList.drop 6).take 3).map UInt8.toNat = [154, 0, 5] by decide +kernel) rfl
theorem dX12_isBorder_11 : decode cX12_isBorder 11 = .ok (.aload_n 0, 1) := dc_42 (show ((cX12_isBorder.data.toList.drop 11).take 1).map UInt8.toNat = [42] by decide +kernel)
theorem dX12_isBorder_12 : decode cX12_isBorder 12 = .ok (.iconst 0, 1) := dc_3 (show ((cX12_isBorder.data.toList.drop 12).take 1).map UInt8.toNat = [3] by decide +kernel)
theorem dX12_isBorder_13 : decode cX12_isBorder 13 = .ok (.iload_n 1, 1) := dc_27 (show ((cX12_isBorder.data.toList.drop 13).take 1).map UInt8.toNat = [27] by decide +kernel)
theorem dX12_isBorder_14 : decode cX12_isBorder 14 = .ok (.invokestatic 190, 3) := dc_184 (show ((cX12_isBorder.data.toList.drop 14).take 3).map UInt8.toNat = [184, 0, 190] by decide +kernel) rfl
theorem dX12_isBorder_17 : decode cX12_isBorder 17 = .ok (.putfield 193, 3) := dc_181 (show ((cX12_isBorder.data.toList.drop 17).take 3).map UInt8.toNat = [181, 0, 193] by decide +kernel) rfl
theorem w_1135 : (Cond.fieldLink "GooseBorderModel" (193 : Nat) "GooseBorderModel" "b0" "I") ∈ gb_wA := gb_t5 175 rfl rfl
theorem dX12_isBorder_20 : decode cX12_isBorder 20 = .ok (.iconst 1, 1) := dc_4 (show ((cX12_isBorder.data.toList.drop 20).take 1).map UInt8.toNat = [4] by decide +kernel)
theorem dX12_isBorder_21 : decode cX12_isBorder 21 = .ok (.ireturn, 1) := dc_172 (show ((cX12_isBorder.data.toList.drop 21).take 1).map UInt8.toNat = [172] by decide +kernel)
theorem dX12_isBorder_9 : decode cX12_isBorder 9 = .ok (.iconst 0, 1) := dc_3 (show ((cX12_isBorder.data.toList.drop 9).take 1).map UInt8.toNat = [3] by decide +kernel)
theorem dX12_isBorder_10 : decode cX12_isBorder 10 = .ok (.ireturn, 1) := dc_172 (show ((cX12_isBorder.data.toList.drop 10).take 1).map UInt8.toNat = [172] by decide +kernel)
def ms_isBorder (n : Nat) (f : gb_F) (w : Int64) (p1 : Int32) : gb_MR Int32 := gb_bd (ms_isOf n f w 0 p1) (fun f_1 wl_2 r_3 => (if r_3 = 0 then some (f_1, wl_2, 0) else gb_bd (ms_placeOf n f_1 wl_2 0 p1) (fun f_7 wl_8 r_9 => gb_lt (gb_u f_7 0 (upd (f_7 0) 11 r_9)) (fun f_12 => some (f_12, wl_8, 1)))))
set_option maxHeartbeats 8000000 in
set_option maxRecDepth 100000 in
theorem mc_isBorder (l : Launch) (D : va_G) (cT : Nat → ClassId) (tt : Nat → Nat) (b1 b : Nat) (hb1 : b1 ≤ b) (n : Nat) (f : gb_F) (w : Int64) (p1 : Int32) (fE : gb_F) (wE : Int64) (rE : Int32) (h : ms_isBorder n f w p1 = some (fE, wE, rE)) : Met l yX12_isBorder (.code yX12_isBorder cX12_isBorder 2 (some FieldType.boolean) :: gb_wA) ({ frames := 2, cells := 0, slots := 0, locals := 44 }) (gb_Pc D cT tt b1 [.ref (b + 0), .int p1] (fun h => va_P D vwCl (gb_wl b (gb_MW cT b f w)) h)) (gb_Qi (fun r h => r = rE ∧ va_P D vwCl (gb_wl b (gb_MW cT b fE wE)) h) (gb_fr b 22)) 0 0 (gb_fr b 22) := by
  refine Met.ofW (cc := cX12_isBorder) (maxL := 2) (ret := (some FieldType.boolean)) (by decide) rfl ?_
  intro p e s m args below meth c s₁ B hml hv
  obtain ⟨rfl, hSt, hP⟩ := hv
  have hx := B.exec
  have hb := B.bytes
  have hr := B.returns
  have hts := atoms_spec (ws := .code yX12_isBorder cX12_isBorder 2 (some FieldType.boolean) :: gb_wA) B.pre
  have hq : ∀ w ∈ gb_wA, w.before _ s = true := fun w h => hts w (List.mem_cons_of_mem _ h)
  have hown : s.vm.findClass RX12 = some m.cls := findClass_of_methodNamed B.named
  have hlocks := B.notSynchronized
  clear B hts
  have hK := hSt.1
  have hS : va_S (gb_fr b 22) s.heap s.heap [] := va_S.rf
  have hl := lv_entry ([.ref (b + 0), .int p1]) (n := 2) (Nat.le_of_ble_eq_true rfl)
  rw [lg_entry_eq]
  generalize (lg_sl ([.ref (b + 0), .int p1]) ++ List.replicate (2 - (lg_sl ([.ref (b + 0), .int p1])).length) Slot.unset).toArray = ls at hl ⊢
  replace hl : lv_has ls 2 [(0, .ref (b + 0)), (1, .int p1)] := hl
  unfold ms_isBorder at h
  refine lv_aload_n hx hb dX12_isBorder_0 rfl (lv_at hl 0 rfl) ?_
  refine lv_iconst (v := 0) hx hb dX12_isBorder_1 (by decide) ?_
  refine lv_iload_n hx hb dX12_isBorder_2 rfl (lv_at hl 1 rfl) ?_
  obtain ⟨f_1, wl_2, r_3, z_4, h⟩ := gb_bd_s h
  refine gb_calli (va_runV (C := RX12) (As := [.int 0, .int p1]) (rest := []) ⟨hx, hb, hml, hown, hq⟩ (mc_isOf l D cT tt b1 b hb1 n f w 0 p1 f_1 wl_2 r_3 z_4) (cwV 2 hq (gb_gV w_1272 w_1274 s_3_0 w_14 w_1275) rfl rfl rfl (by decide +kernel) ⟨Nat.le_of_ble_eq_true rfl, Nat.le_of_ble_eq_true rfl⟩) (gb_preV (r := (RX12, TX12, 44)) (ci := 10) (q0 := 0) hSt hP rfl (gb_at b rfl) hS (fun q h => Nat.le_trans hb1 h.1) hP) rfl rfl hl.1 rfl (lv_room (Nat.le_of_ble_eq_true rfl)) dX12_isBorder_3 ⟨Nat.le_of_ble_eq_true rfl, Nat.le_of_ble_eq_true rfl⟩) hS (fun _ h => h) (fun _ h => h) (fun q_5 H locs hY hk hS => ?_)
  obtain ⟨hq_5, hP⟩ := hY
  replace hq_5 := hq_5.symm
  subst hq_5
  refine lv_if_ne (tgt := 11) hx hb dX12_isBorder_6 (by decide) (fun c_6 => ?_) (fun c_6 => ?_)
  · rw [if_neg c_6] at h
    refine lv_aload_n hx hb dX12_isBorder_11 rfl (lv_at hl 0 rfl) ?_
    refine lv_iconst (v := 0) hx hb dX12_isBorder_12 (by decide) ?_
    refine lv_iload_n hx hb dX12_isBorder_13 rfl (lv_at hl 1 rfl) ?_
    obtain ⟨f_7, wl_8, r_9, z_10, h⟩ := gb_bd_s h
    refine gb_calli (va_runS (As := [.int 0, .int p1]) (rest := [.ref (b + 0)]) ⟨hx, hb, hml, hown, hq⟩ (mc_placeOf l D cT tt b1 b hb1 n f_1 wl_2 0 p1 f_7 wl_8 r_9 z_10) (va_cwS 2 hq (gb_gS w_1361 w_1362 w_14 w_1363) rfl rfl rfl (by decide +kernel) ⟨Nat.le_of_ble_eq_true rfl, Nat.le_of_ble_eq_true rfl⟩) (gb_preS hSt hS (fun q h => Nat.le_trans hb1 h.1) hP) rfl rfl hl.1 rfl (lv_room (Nat.le_of_ble_eq_true rfl)) dX12_isBorder_14 ⟨Nat.le_of_ble_eq_true rfl, Nat.le_of_ble_eq_true rfl⟩) hS (fun _ h => h) (fun _ h => h) (fun q_11 H locs hY hk hS => ?_)
    obtain ⟨hq_11, hP⟩ := hY
    replace hq_11 := hq_11.symm
    subst hq_11
    refine gb_put (ci := 10) (v := (.int r_9)) (ty := .int) (C := RX12) (T := TX12) (N := 44) hx hb hq i_X12 tyX12 tyX12_ok nmX12 hown hK hP (fun k h => ⟨Nat.le_add_right b k, Nat.add_lt_add_left h b⟩) hS rfl 0 rfl rfl 11 (by decide) (hq _ w_1135) (fun _ h9 => h9) rfl (by decide +kernel) rfl rfl (Nat.le_of_ble_eq_true rfl) dX12_isBorder_17 (fun H locs hP hz_ hS => ?_)
    obtain ⟨f_12, ef_12⟩ : ∃ q, q = (gb_u f_7 0 (upd (f_7 0) 11 r_9)) := ⟨_, rfl⟩
    replace hP : va_P D vwCl (gb_wl b (gb_MW cT b f_12 wl_8)) H := by rw [ef_12]; exact hP
    replace h := gb_lt_s ef_12 h
    refine lv_iconst (v := 1) hx hb dX12_isBorder_20 (by decide) ?_
    obtain ⟨e1, e2, e3⟩ := gb_eq3 h
    exact W.zret (v := 1) hx hb hr (by decide) (fun t ht hW => gb_ri ht ⟨e3, by rw [← e1, ← e2]; exact hP⟩ hS) hS.2.2 dX12_isBorder_21
  · rw [if_pos c_6] at h
    refine lv_iconst (v := 0) hx hb dX12_isBorder_9 (by decide) ?_
    obtain ⟨e1, e2, e3⟩ := gb_eq3 h
    exact W.zret (v := 0) hx hb hr (by decide) (fun t ht hW => gb_ri ht ⟨e3, by rw [← e1, ← e2]; exact hP⟩ hS) hS.2.2 dX12_isBorder_10
theorem dX12_of_0 : decode cX12_of 0 = .ok (.aload_n 0, 1) := dc_42 (show ((cX12_of.data.toList.drop 0).take 1).map UInt8.toNat = [42] by decide +kernel)
theorem dX12_of_1 : decode cX12_of 1 = .ok (.getfield 7, 3) := dc_180 (show ((cX12_of.data.toList.drop 1).take 3).map UInt8.toNat = [180, 0, 7] by decide +kernel) rfl
theorem dX12_of_4 : decode cX12_of 4 = .ok (.aload_n 0, 1) := dc_42 (show ((cX12_of.data.toList.drop 4).take 1).map UInt8.toNat = [42] by decide +kernel)
theorem dX12_of_5 : decode cX12_of 5 = .ok (.getfield 193, 3) := dc_180 (show ((cX12_of.data.toList.drop 5).take 3).map UInt8.toNat = [180, 0, 193] by decide +kernel) rfl
theorem dX12_of_8 : decode cX12_of 8 = .ok (.iload_n 1, 1) := dc_27 (show ((cX12_of.data.toList.drop 8).take 1).map UInt8.toNat = [27] by decide +kernel)
theorem dX12_of_9 : decode cX12_of 9 = .ok (.iadd, 1) := dc_96 (show ((cX12_of.data.toList.drop 9).take 1).map UInt8.toNat = [96] by decide +kernel)
theorem dX12_of_10 : decode cX12_of 10 = .ok (.iaload, 1) := dc_46 (show ((cX12_of.data.toList.drop 10).take 1).map UInt8.toNat = [46] by decide +kernel)
theorem dX12_of_11 : decode cX12_of 11 = .ok (.ireturn, 1) := dc_172 (show ((cX12_of.data.toList.drop 11).take 1).map UInt8.toNat = [172] by decide +kernel)
def ms_of (n : Nat) (f : gb_F) (w : Int64) (p1 : Int32) : gb_MR Int32 := gb_ck ((f 0 11) + p1) 3968 (gb_lt (f 1 (Int32.toNatClampNeg ((f 0 11) + p1))) (fun x_2 => some (f, w, x_2)))
set_option maxHeartbeats 8000000 in
set_option maxRecDepth 100000 in
theorem mc_of (l : Launch) (D : va_G) (cT : Nat → ClassId) (tt : Nat → Nat) (b1 b : Nat) (hb1 : b1 ≤ b) (n : Nat) (f : gb_F) (w : Int64) (p1 : Int32) (fE : gb_F) (wE : Int64) (rE : Int32) (h : ms_of n f w p1 = some (fE, wE, rE)) : Met l yX12_of (.code yX12_of cX12_of 2 (some FieldType.int) :: gb_wA) ({ frames := 0, cells := 0, slots := 0, locals := 0 }) (gb_Pc D cT tt b1 [.ref (b + 0), .int p1] (fun h => va_P D vwCl (gb_wl b (gb_MW cT b f w)) h)) (gb_Qi (fun r h => r = rE ∧ va_P D vwCl (gb_wl b (gb_MW cT b fE wE)) h) (gb_fr b 22)) 0 0 (gb_fr b 22) := by
  refine Met.ofW (cc := cX12_of) (maxL := 2) (ret := (some FieldType.int)) (by decide) rfl ?_
  intro p e s m args below meth c s₁ B hml hv
  obtain ⟨rfl, hSt, hP⟩ := hv
  have hx := B.exec
  have hb := B.bytes
  have hr := B.returns
  have hts := atoms_spec (ws := .code yX12_of cX12_of 2 (some FieldType.int) :: gb_wA) B.pre
  have hq : ∀ w ∈ gb_wA, w.before _ s = true := fun w h => hts w (List.mem_cons_of_mem _ h)
  have hown : s.vm.findClass RX12 = some m.cls := findClass_of_methodNamed B.named
  have hlocks := B.notSynchronized
  clear B hts
  have hK := hSt.1
  have hS : va_S (gb_fr b 22) s.heap s.heap [] := va_S.rf
  have hl := lv_entry ([.ref (b + 0), .int p1]) (n := 2) (Nat.le_of_ble_eq_true rfl)
  rw [lg_entry_eq]
  generalize (lg_sl ([.ref (b + 0), .int p1]) ++ List.replicate (2 - (lg_sl ([.ref (b + 0), .int p1])).length) Slot.unset).toArray = ls at hl ⊢
  replace hl : lv_has ls 2 [(0, .ref (b + 0)), (1, .int p1)] := hl
  unfold ms_of at h
  refine lv_aload_n hx hb dX12_of_0 rfl (lv_at hl 0 rfl) ?_
  refine va_get (ci := 10) (v := (.ref (b + 1))) (C := RX12) (T := TX12) (N := 44) hx hb hq i_X12 hown hK hP 0 (gb_at b rfl) rfl 0 (by decide) (hq _ w_1124) (fun _ h9 => h9) rfl dX12_of_1 ?_
  refine lv_aload_n hx hb dX12_of_4 rfl (lv_at hl 0 rfl) ?_
  refine va_get (ci := 10) (v := (.int (f 0 11))) (C := RX12) (T := TX12) (N := 44) hx hb hq i_X12 hown hK hP 0 (gb_at b rfl) rfl 11 (by decide) (hq _ w_1135) (fun _ h9 => h9) rfl dX12_of_5 ?_
  refine lv_iload_n hx hb dX12_of_8 rfl (lv_at hl 1 rfl) ?_
  refine lv_iadd hx hb dX12_of_9 ?_
  obtain ⟨z_1, h⟩ := gb_ck_s h
  refine va_iald hx hb hK hP 1 0 (gb_at b rfl) rfl z_1 dX12_of_10 ?_
  refine lv_topi (fun x_2 ex_2 => ?_)
  replace h := gb_lt_s ex_2 h
  obtain ⟨e1, e2, e3⟩ := gb_eq3 h
  exact W.iret (v := x_2) hx hb hr (fun t ht hW => gb_ri ht ⟨e3, by rw [← e1, ← e2]; exact hP⟩ hS) hS.2.2 dX12_of_11
theorem dX12_paths_0 : decode cX12_paths 0 = .ok (.aload_n 0, 1) := dc_42 (show ((cX12_paths.data.toList.drop 0).take 1).map UInt8.toNat = [42] by decide +kernel)
theorem dX12_paths_1 : decode cX12_paths 1 = .ok (.iconst 0, 1) := dc_3 (show ((cX12_paths.data.toList.drop 1).take 1).map UInt8.toNat = [3] by decide +kernel)
theorem dX12_paths_2 : decode cX12_paths 2 = .ok (.invokevirtual 196, 3) := dc_182 (show ((cX12_paths.data.toList.drop 2).take 3).map UInt8.toNat = [182, 0, 196] by decide +kernel) rfl
theorem w_1379 : (Cond.code ({ cls := "GooseBorderModel", name := "of", desc := "(I)I" } : MethodName) prog_14_method_32_code (2 : Nat) (Option.some FieldType.int)) ∈ gb_wA := gb_t6 179 rfl rfl
theorem w_1376 : (Cond.methodLink "GooseBorderModel" (196 : Nat) ({ cls := "GooseBorderModel", name := "of", desc := "(I)I" } : MethodName)) ∈ gb_wA := gb_t6 176 rfl rfl
theorem w_1378 : (Cond.instanceMethod ({ cls := "GooseBorderModel", name := "of", desc := "(I)I" } : MethodName)) ∈ gb_wA := gb_t6 178 rfl rfl
theorem s_4_2 : Cond.selects "GooseBorderModel" (⟨"GooseBorderModel", "of", "(I)I"⟩ : MethodName) (⟨"GooseBorderModel", "of", "(I)I"⟩ : MethodName) ∈ gb_wA := gb_s4 2 rfl rfl
theorem dX12_paths_5 : decode cX12_paths 5 = .ok (.ireturn, 1) := dc_172 (show ((cX12_paths.data.toList.drop 5).take 1).map UInt8.toNat = [172] by decide +kernel)
def ms_paths (n : Nat) (f : gb_F) (w : Int64) : gb_MR Int32 := gb_bd (ms_of n f w 0) (fun f_1 wl_2 r_3 => some (f_1, wl_2, r_3))
set_option maxHeartbeats 8000000 in
set_option maxRecDepth 100000 in
theorem mc_paths (l : Launch) (D : va_G) (cT : Nat → ClassId) (tt : Nat → Nat) (b1 b : Nat) (hb1 : b1 ≤ b) (n : Nat) (f : gb_F) (w : Int64) (fE : gb_F) (wE : Int64) (rE : Int32) (h : ms_paths n f w = some (fE, wE, rE)) : Met l yX12_paths (.code yX12_paths cX12_paths 1 (some FieldType.int) :: gb_wA) ({ frames := 1, cells := 0, slots := 0, locals := 21 }) (gb_Pc D cT tt b1 [.ref (b + 0)] (fun h => va_P D vwCl (gb_wl b (gb_MW cT b f w)) h)) (gb_Qi (fun r h => r = rE ∧ va_P D vwCl (gb_wl b (gb_MW cT b fE wE)) h) (gb_fr b 22)) 0 0 (gb_fr b 22) := by
  refine Met.ofW (cc := cX12_paths) (maxL := 1) (ret := (some FieldType.int)) (by decide) rfl ?_
  intro p e s m args below meth c s₁ B hml hv
  obtain ⟨rfl, hSt, hP⟩ := hv
  have hx := B.exec
  have hb := B.bytes
  have hr := B.returns
  have hts := atoms_spec (ws := .code yX12_paths cX12_paths 1 (some FieldType.int) :: gb_wA) B.pre
  have hq : ∀ w ∈ gb_wA, w.before _ s = true := fun w h => hts w (List.mem_cons_of_mem _ h)
  have hown : s.vm.findClass RX12 = some m.cls := findClass_of_methodNamed B.named
  have hlocks := B.notSynchronized
  clear B hts
  have hK := hSt.1
  have hS : va_S (gb_fr b 22) s.heap s.heap [] := va_S.rf
  have hl := lv_entry ([.ref (b + 0)]) (n := 1) (Nat.le_of_ble_eq_true rfl)
  rw [lg_entry_eq]
  generalize (lg_sl ([.ref (b + 0)]) ++ List.replicate (1 - (lg_sl ([.ref (b + 0)])).length) Slot.unset).toArray = ls at hl ⊢
  replace hl : lv_has ls 1 [(0, .ref (b + 0))] := hl
  unfold ms_paths at h
  refine lv_aload_n hx hb dX12_paths_0 rfl (lv_at hl 0 rfl) ?_
  refine lv_iconst (v := 0) hx hb dX12_paths_1 (by decide) ?_
  obtain ⟨f_1, wl_2, r_3, z_4, h⟩ := gb_bd_s h
  refine gb_calli (va_runV (C := RX12) (As := [.int 0]) (rest := []) ⟨hx, hb, hml, hown, hq⟩ (mc_of l D cT tt b1 b hb1 n f w 0 f_1 wl_2 r_3 z_4) (cwV 1 hq (gb_gV w_1376 w_1378 s_4_2 w_14 w_1379) rfl rfl rfl (by decide +kernel) ⟨Nat.le_of_ble_eq_true rfl, Nat.le_of_ble_eq_true rfl⟩) (gb_preV (r := (RX12, TX12, 44)) (ci := 10) (q0 := 0) hSt hP rfl (gb_at b rfl) hS (fun q h => Nat.le_trans hb1 h.1) hP) rfl rfl hl.1 rfl (lv_room (Nat.le_of_ble_eq_true rfl)) dX12_paths_2 ⟨Nat.le_of_ble_eq_true rfl, Nat.le_of_ble_eq_true rfl⟩) hS (fun _ h => h) (fun _ h => h) (fun q_5 H locs hY hk hS => ?_)
  obtain ⟨hq_5, hP⟩ := hY
  replace hq_5 := hq_5.symm
  subst hq_5
  obtain ⟨e1, e2, e3⟩ := gb_eq3 h
  exact W.iret (v := r_3) hx hb hr (fun t ht hW => gb_ri ht ⟨e3, by rw [← e1, ← e2]; exact hP⟩ hS) hS.2.2 dX12_paths_5
theorem dX12_geese_0 : decode cX12_geese 0 = .ok (.aload_n 0, 1) := dc_42 (show ((cX12_geese.data.toList.drop 0).take 1).map UInt8.toNat = [42] by decide +kernel)
theorem dX12_geese_1 : decode cX12_geese 1 = .ok (.iconst 1, 1) := dc_4 (show ((cX12_geese.data.toList.drop 1).take 1).map UInt8.toNat = [4] by decide +kernel)
theorem dX12_geese_2 : decode cX12_geese 2 = .ok (.invokevirtual 196, 3) := dc_182 (show ((cX12_geese.data.toList.drop 2).take 3).map UInt8.toNat = [182, 0, 196] by decide +kernel) rfl
theorem dX12_geese_5 : decode cX12_geese 5 = .ok (.ireturn, 1) := dc_172 (show ((cX12_geese.data.toList.drop 5).take 1).map UInt8.toNat = [172] by decide +kernel)
def ms_geese (n : Nat) (f : gb_F) (w : Int64) : gb_MR Int32 := gb_bd (ms_of n f w 1) (fun f_1 wl_2 r_3 => some (f_1, wl_2, r_3))
set_option maxHeartbeats 8000000 in
set_option maxRecDepth 100000 in
theorem mc_geese (l : Launch) (D : va_G) (cT : Nat → ClassId) (tt : Nat → Nat) (b1 b : Nat) (hb1 : b1 ≤ b) (n : Nat) (f : gb_F) (w : Int64) (fE : gb_F) (wE : Int64) (rE : Int32) (h : ms_geese n f w = some (fE, wE, rE)) : Met l yX12_geese (.code yX12_geese cX12_geese 1 (some FieldType.int) :: gb_wA) ({ frames := 1, cells := 0, slots := 0, locals := 21 }) (gb_Pc D cT tt b1 [.ref (b + 0)] (fun h => va_P D vwCl (gb_wl b (gb_MW cT b f w)) h)) (gb_Qi (fun r h => r = rE ∧ va_P D vwCl (gb_wl b (gb_MW cT b fE wE)) h) (gb_fr b 22)) 0 0 (gb_fr b 22) := by
  refine Met.ofW (cc := cX12_geese) (maxL := 1) (ret := (some FieldType.int)) (by decide) rfl ?_
  intro p e s m args below meth c s₁ B hml hv
  obtain ⟨rfl, hSt, hP⟩ := hv
  have hx := B.exec
  have hb := B.bytes
  have hr := B.returns
  have hts := atoms_spec (ws := .code yX12_geese cX12_geese 1 (some FieldType.int) :: gb_wA) B.pre
  have hq : ∀ w ∈ gb_wA, w.before _ s = true := fun w h => hts w (List.mem_cons_of_mem _ h)
  have hown : s.vm.findClass RX12 = some m.cls := findClass_of_methodNamed B.named
  have hlocks := B.notSynchronized
  clear B hts
  have hK := hSt.1
  have hS : va_S (gb_fr b 22) s.heap s.heap [] := va_S.rf
  have hl := lv_entry ([.ref (b + 0)]) (n := 1) (Nat.le_of_ble_eq_true rfl)
  rw [lg_entry_eq]
  generalize (lg_sl ([.ref (b + 0)]) ++ List.replicate (1 - (lg_sl ([.ref (b + 0)])).length) Slot.unset).toArray = ls at hl ⊢
  replace hl : lv_has ls 1 [(0, .ref (b + 0))] := hl
  unfold ms_geese at h
  refine lv_aload_n hx hb dX12_geese_0 rfl (lv_at hl 0 rfl) ?_
  refine lv_iconst (v := 1) hx hb dX12_geese_1 (by decide) ?_
  obtain ⟨f_1, wl_2, r_3, z_4, h⟩ := gb_bd_s h
  refine gb_calli (va_runV (C := RX12) (As := [.int 1]) (rest := []) ⟨hx, hb, hml, hown, hq⟩ (mc_of l D cT tt b1 b hb1 n f w 1 f_1 wl_2 r_3 z_4) (cwV 1 hq (gb_gV w_1376 w_1378 s_4_2 w_14 w_1379) rfl rfl rfl (by decide +kernel) ⟨Nat.le_of_ble_eq_true rfl, Nat.le_of_ble_eq_true rfl⟩) (gb_preV (r := (RX12, TX12, 44)) (ci := 10) (q0 := 0) hSt hP rfl (gb_at b rfl) hS (fun q h => Nat.le_trans hb1 h.1) hP) rfl rfl hl.1 rfl (lv_room (Nat.le_of_ble_eq_true rfl)) dX12_geese_2 ⟨Nat.le_of_ble_eq_true rfl, Nat.le_of_ble_eq_true rfl⟩) hS (fun _ h => h) (fun _ h => h) (fun q_5 H locs hY hk hS => ?_)
  obtain ⟨hq_5, hP⟩ := hY
  replace hq_5 := hq_5.symm
  subst hq_5
  obtain ⟨e1, e2, e3⟩ := gb_eq3 h
  exact W.iret (v := r_3) hx hb hr (fun t ht hW => gb_ri ht ⟨e3, by rw [← e1, ← e2]; exact hP⟩ hS) hS.2.2 dX12_geese_5
theorem dX12_isPath_0 : decode cX12_isPath 0 = .ok (.iload_n 1, 1) := dc_27 (show ((cX12_isPath.data.toList.drop 0).take 1).map UInt8.toNat = [27] by decide +kernel)
theorem dX12_isPath_1 : decode cX12_isPath 1 = .ok (.iconst 0, 1) := dc_3 (show ((cX12_isPath.data.toList.drop 1).take 1).map UInt8.toNat = [3] by decide +kernel)
theorem dX12_isPath_2 : decode cX12_isPath 2 = .ok (.aload_n 0, 1) := dc_42 (show ((cX12_isPath.data.toList.drop 2).take 1).map UInt8.toNat = [42] by decide +kernel)
theorem dX12_isPath_3 : decode cX12_isPath 3 = .ok (.invokevirtual 199, 3) := dc_182 (show ((cX12_isPath.data.toList.drop 3).take 3).map UInt8.toNat = [182, 0, 199] by decide +kernel) rfl
theorem w_1387 : (Cond.code ({ cls := "GooseBorderModel", name := "paths", desc := "()I" } : MethodName) prog_14_method_33_code (1 : Nat) (Option.some FieldType.int)) ∈ gb_wA := gb_t6 187 rfl rfl
theorem w_1384 : (Cond.methodLink "GooseBorderModel" (199 : Nat) ({ cls := "GooseBorderModel", name := "paths", desc := "()I" } : MethodName)) ∈ gb_wA := gb_t6 184 rfl rfl
theorem w_1386 : (Cond.instanceMethod ({ cls := "GooseBorderModel", name := "paths", desc := "()I" } : MethodName)) ∈ gb_wA := gb_t6 186 rfl rfl
theorem s_4_4 : Cond.selects "GooseBorderModel" (⟨"GooseBorderModel", "paths", "()I"⟩ : MethodName) (⟨"GooseBorderModel", "paths", "()I"⟩ : MethodName) ∈ gb_wA := gb_s4 4 rfl rfl
theorem dX12_isPath_6 : decode cX12_isPath 6 = .ok (.iconst 1, 1) := dc_4 (show ((cX12_isPath.data.toList.drop 6).take 1).map UInt8.toNat = [4] by decide +kernel)
theorem dX12_isPath_7 : decode cX12_isPath 7 = .ok (.isub, 1) := dc_100 (show ((cX12_isPath.data.toList.drop 7).take 1).map UInt8.toNat = [100] by decide +kernel)
theorem dX12_isPath_8 : decode cX12_isPath 8 = .ok (.invokestatic 129, 3) := dc_184 (show ((cX12_isPath.data.toList.drop 8).take 3).map UInt8.toNat = [184, 0, 129] by decide +kernel) rfl
theorem dX12_isPath_11 : decode cX12_isPath 11 = .ok (.ireturn, 1) := dc_172 (show ((cX12_isPath.data.toList.drop 11).take 1).map UInt8.toNat = [172] by decide +kernel)
def ms_isPath (n : Nat) (f : gb_F) (w : Int64) (p1 : Int32) : gb_MR Int32 := gb_bd (ms_paths n f w) (fun f_1 wl_2 r_3 => gb_bd (ms_isIn n f_1 wl_2 p1 0 (r_3 - 1)) (fun f_6 wl_7 r_8 => gb_cb r_8 (some (f_6, wl_7, r_8))))
set_option maxHeartbeats 8000000 in
set_option maxRecDepth 100000 in
theorem mc_isPath (l : Launch) (D : va_G) (cT : Nat → ClassId) (tt : Nat → Nat) (b1 b : Nat) (hb1 : b1 ≤ b) (n : Nat) (f : gb_F) (w : Int64) (p1 : Int32) (fE : gb_F) (wE : Int64) (rE : Int32) (h : ms_isPath n f w p1 = some (fE, wE, rE)) : Met l yX12_isPath (.code yX12_isPath cX12_isPath 2 (some FieldType.boolean) :: gb_wA) ({ frames := 2, cells := 0, slots := 0, locals := 41 }) (gb_Pc D cT tt b1 [.ref (b + 0), .int p1] (fun h => va_P D vwCl (gb_wl b (gb_MW cT b f w)) h)) (gb_Qi (fun r h => r = rE ∧ va_P D vwCl (gb_wl b (gb_MW cT b fE wE)) h) (gb_fr b 22)) 0 0 (gb_fr b 22) := by
  refine Met.ofW (cc := cX12_isPath) (maxL := 2) (ret := (some FieldType.boolean)) (by decide) rfl ?_
  intro p e s m args below meth c s₁ B hml hv
  obtain ⟨rfl, hSt, hP⟩ := hv
  have hx := B.exec
  have hb := B.bytes
  have hr := B.returns
  have hts := atoms_spec (ws := .code yX12_isPath cX12_isPath 2 (some FieldType.boolean) :: gb_wA) B.pre
  have hq : ∀ w ∈ gb_wA, w.before _ s = true := fun w h => hts w (List.mem_cons_of_mem _ h)
  have hown : s.vm.findClass RX12 = some m.cls := findClass_of_methodNamed B.named
  have hlocks := B.notSynchronized
  clear B hts
  have hK := hSt.1
  have hS : va_S (gb_fr b 22) s.heap s.heap [] := va_S.rf
  have hl := lv_entry ([.ref (b + 0), .int p1]) (n := 2) (Nat.le_of_ble_eq_true rfl)
  rw [lg_entry_eq]
  generalize (lg_sl ([.ref (b + 0), .int p1]) ++ List.replicate (2 - (lg_sl ([.ref (b + 0), .int p1])).length) Slot.unset).toArray = ls at hl ⊢
  replace hl : lv_has ls 2 [(0, .ref (b + 0)), (1, .int p1)] := hl
  unfold ms_isPath at h
  refine lv_iload_n hx hb dX12_isPath_0 rfl (lv_at hl 1 rfl) ?_
  refine lv_iconst (v := 0) hx hb dX12_isPath_1 (by decide) ?_
  refine lv_aload_n hx hb dX12_isPath_2 rfl (lv_at hl 0 rfl) ?_
  obtain ⟨f_1, wl_2, r_3, z_4, h⟩ := gb_bd_s h
  refine gb_calli (va_runV (C := RX12) (As := []) (rest := [.int 0, .int p1]) ⟨hx, hb, hml, hown, hq⟩ (mc_paths l D cT tt b1 b hb1 n f w f_1 wl_2 r_3 z_4) (cwV 0 hq (gb_gV w_1384 w_1386 s_4_4 w_14 w_1387) rfl rfl rfl (by decide +kernel) ⟨Nat.le_of_ble_eq_true rfl, Nat.le_of_ble_eq_true rfl⟩) (gb_preV (r := (RX12, TX12, 44)) (ci := 10) (q0 := 0) hSt hP rfl (gb_at b rfl) hS (fun q h => Nat.le_trans hb1 h.1) hP) rfl rfl hl.1 rfl (lv_room (Nat.le_of_ble_eq_true rfl)) dX12_isPath_3 ⟨Nat.le_of_ble_eq_true rfl, Nat.le_of_ble_eq_true rfl⟩) hS (fun _ h => h) (fun _ h => h) (fun q_5 H locs hY hk hS => ?_)
  obtain ⟨hq_5, hP⟩ := hY
  replace hq_5 := hq_5.symm
  subst hq_5
  refine lv_iconst (v := 1) hx hb dX12_isPath_6 (by decide) ?_
  refine lv_isub hx hb dX12_isPath_7 ?_
  obtain ⟨f_6, wl_7, r_8, z_9, h⟩ := gb_bd_s h
  refine gb_calli (va_runS (As := [.int p1, .int 0, .int (r_3 - 1)]) (rest := []) ⟨hx, hb, hml, hown, hq⟩ (mc_isIn l D cT tt b1 b hb1 n f_1 wl_2 p1 0 (r_3 - 1) f_6 wl_7 r_8 z_9) (va_cwS 3 hq (gb_gS w_1269 w_1270 w_14 w_1271) rfl rfl rfl (by decide +kernel) ⟨Nat.le_of_ble_eq_true rfl, Nat.le_of_ble_eq_true rfl⟩) (gb_preS hSt hS (fun q h => Nat.le_trans hb1 h.1) hP) rfl rfl hl.1 rfl (lv_room (Nat.le_of_ble_eq_true rfl)) dX12_isPath_8 ⟨Nat.le_of_ble_eq_true rfl, Nat.le_of_ble_eq_true rfl⟩) hS (fun _ h => h) (fun _ h => h) (fun q_10 H locs hY hk hS => ?_)
  obtain ⟨hq_10, hP⟩ := hY
  replace hq_10 := hq_10.symm
  subst hq_10
  obtain ⟨z_11, h⟩ := gb_cb_s h
  obtain ⟨e1, e2, e3⟩ := gb_eq3 h
  exact W.zret (v := r_8) hx hb hr z_11.1 (fun t ht hW => gb_ri ht ⟨e3, by rw [← e1, ← e2]; exact hP⟩ hS) hS.2.2 dX12_isPath_11
theorem dX12_isGoose_0 : decode cX12_isGoose 0 = .ok (.iload_n 1, 1) := dc_27 (show ((cX12_isGoose.data.toList.drop 0).take 1).map UInt8.toNat = [27] by decide +kernel)
theorem dX12_isGoose_1 : decode cX12_isGoose 1 = .ok (.iconst 0, 1) := dc_3 (show ((cX12_isGoose.data.toList.drop 1).take 1).map UInt8.toNat = [3] by decide +kernel)
theorem dX12_isGoose_2 : decode cX12_isGoose 2 = .ok (.aload_n 0, 1) := dc_42 (show ((cX12_isGoose.data.toList.drop 2).take 1).map UInt8.toNat = [42] by decide +kernel)
theorem dX12_isGoose_3 : decode cX12_isGoose 3 = .ok (.invokevirtual 202, 3) := dc_182 (show ((cX12_isGoose.data.toList.drop 3).take 3).map UInt8.toNat = [182, 0, 202] by decide +kernel) rfl
theorem w_1399 : (Cond.code ({ cls := "GooseBorderModel", name := "geese", desc := "()I" } : MethodName) prog_14_method_34_code (1 : Nat) (Option.some FieldType.int)) ∈ gb_wA := gb_t6 199 rfl rfl
theorem w_1396 : (Cond.methodLink "GooseBorderModel" (202 : Nat) ({ cls := "GooseBorderModel", name := "geese", desc := "()I" } : MethodName)) ∈ gb_wA := gb_t6 196 rfl rfl
theorem w_1398 : (Cond.instanceMethod ({ cls := "GooseBorderModel", name := "geese", desc := "()I" } : MethodName)) ∈ gb_wA := gb_t6 198 rfl rfl
theorem s_4_7 : Cond.selects "GooseBorderModel" (⟨"GooseBorderModel", "geese", "()I"⟩ : MethodName) (⟨"GooseBorderModel", "geese", "()I"⟩ : MethodName) ∈ gb_wA := gb_s4 7 rfl rfl
theorem dX12_isGoose_6 : decode cX12_isGoose 6 = .ok (.iconst 1, 1) := dc_4 (show ((cX12_isGoose.data.toList.drop 6).take 1).map UInt8.toNat = [4] by decide +kernel)
theorem dX12_isGoose_7 : decode cX12_isGoose 7 = .ok (.isub, 1) := dc_100 (show ((cX12_isGoose.data.toList.drop 7).take 1).map UInt8.toNat = [100] by decide +kernel)
theorem dX12_isGoose_8 : decode cX12_isGoose 8 = .ok (.invokestatic 129, 3) := dc_184 (show ((cX12_isGoose.data.toList.drop 8).take 3).map UInt8.toNat = [184, 0, 129] by decide +kernel) rfl
theorem dX12_isGoose_11 : decode cX12_isGoose 11 = .ok (.ireturn, 1) := dc_172 (show ((cX12_isGoose.data.toList.drop 11).take 1).map UInt8.toNat = [172] by decide +kernel)
def ms_isGoose (n : Nat) (f : gb_F) (w : Int64) (p1 : Int32) : gb_MR Int32 := gb_bd (ms_geese n f w) (fun f_1 wl_2 r_3 => gb_bd (ms_isIn n f_1 wl_2 p1 0 (r_3 - 1)) (fun f_6 wl_7 r_8 => gb_cb r_8 (some (f_6, wl_7, r_8))))
set_option maxHeartbeats 8000000 in
set_option maxRecDepth 100000 in
theorem mc_isGoose (l : Launch) (D : va_G) (cT : Nat → ClassId) (tt : Nat → Nat) (b1 b : Nat) (hb1 : b1 ≤ b) (n : Nat) (f : gb_F) (w : Int64) (p1 : Int32) (fE : gb_F) (wE : Int64) (rE : Int32) (h : ms_isGoose n f w p1 = some (fE, wE, rE)) : Met l yX12_isGoose (.code yX12_isGoose cX12_isGoose 2 (some FieldType.boolean) :: gb_wA) ({ frames := 2, cells := 0, slots := 0, locals := 41 }) (gb_Pc D cT tt b1 [.ref (b + 0), .int p1] (fun h => va_P D vwCl (gb_wl b (gb_MW cT b f w)) h)) (gb_Qi (fun r h => r = rE ∧ va_P D vwCl (gb_wl b (gb_MW cT b fE wE)) h) (gb_fr b 22)) 0 0 (gb_fr b 22) := by
  refine Met.ofW (cc := cX12_isGoose) (maxL := 2) (ret := (some FieldType.boolean)) (by decide) rfl ?_
  intro p e s m args below meth c s₁ B hml hv
  obtain ⟨rfl, hSt, hP⟩ := hv
  have hx := B.exec
  have hb := B.bytes
  have hr := B.returns
  have hts := atoms_spec (ws := .code yX12_isGoose cX12_isGoose 2 (some FieldType.boolean) :: gb_wA) B.pre
  have hq : ∀ w ∈ gb_wA, w.before _ s = true := fun w h => hts w (List.mem_cons_of_mem _ h)
  have hown : s.vm.findClass RX12 = some m.cls := findClass_of_methodNamed B.named
  have hlocks := B.notSynchronized
  clear B hts
  have hK := hSt.1
  have hS : va_S (gb_fr b 22) s.heap s.heap [] := va_S.rf
  have hl := lv_entry ([.ref (b + 0), .int p1]) (n := 2) (Nat.le_of_ble_eq_true rfl)
  rw [lg_entry_eq]
  generalize (lg_sl ([.ref (b + 0), .int p1]) ++ List.replicate (2 - (lg_sl ([.ref (b + 0), .int p1])).length) Slot.unset).toArray = ls at hl ⊢
  replace hl : lv_has ls 2 [(0, .ref (b + 0)), (1, .int p1)] := hl
  unfold ms_isGoose at h
  refine lv_iload_n hx hb dX12_isGoose_0 rfl (lv_at hl 1 rfl) ?_
  refine lv_iconst (v := 0) hx hb dX12_isGoose_1 (by decide) ?_
  refine lv_aload_n hx hb dX12_isGoose_2 rfl (lv_at hl 0 rfl) ?_
  obtain ⟨f_1, wl_2, r_3, z_4, h⟩ := gb_bd_s h
  refine gb_calli (va_runV (C := RX12) (As := []) (rest := [.int 0, .int p1]) ⟨hx, hb, hml, hown, hq⟩ (mc_geese l D cT tt b1 b hb1 n f w f_1 wl_2 r_3 z_4) (cwV 0 hq (gb_gV w_1396 w_1398 s_4_7 w_14 w_1399) rfl rfl rfl (by decide +kernel) ⟨Nat.le_of_ble_eq_true rfl, Nat.le_of_ble_eq_true rfl⟩) (gb_preV (r := (RX12, TX12, 44)) (ci := 10) (q0 := 0) hSt hP rfl (gb_at b rfl) hS (fun q h => Nat.le_trans hb1 h.1) hP) rfl rfl hl.1 rfl (lv_room (Nat.le_of_ble_eq_true rfl)) dX12_isGoose_3 ⟨Nat.le_of_ble_eq_true rfl, Nat.le_of_ble_eq_true rfl⟩) hS (fun _ h => h) (fun _ h => h) (fun q_5 H locs hY hk hS => ?_)
  obtain ⟨hq_5, hP⟩ := hY
  replace hq_5 := hq_5.symm
  subst hq_5
  refine lv_iconst (v := 1) hx hb dX12_isGoose_6 (by decide) ?_
  refine lv_isub hx hb dX12_isGoose_7 ?_
  obtain ⟨f_6, wl_7, r_8, z_9, h⟩ := gb_bd_s h
  refine gb_calli (va_runS (As := [.int p1, .int 0, .int (r_3 - 1)]) (rest := []) ⟨hx, hb, hml, hown, hq⟩ (mc_isIn l D cT tt b1 b hb1 n f_1 wl_2 p1 0 (r_3 - 1) f_6 wl_7 r_8 z_9) (va_cwS 3 hq (gb_gS w_1269 w_1270 w_14 w_1271) rfl rfl rfl (by decide +kernel) ⟨Nat.le_of_ble_eq_true rfl, Nat.le_of_ble_eq_true rfl⟩) (gb_preS hSt hS (fun q h => Nat.le_trans hb1 h.1) hP) rfl rfl hl.1 rfl (lv_room (Nat.le_of_ble_eq_true rfl)) dX12_isGoose_8 ⟨Nat.le_of_ble_eq_true rfl, Nat.le_of_ble_eq_true rfl⟩) hS (fun _ h => h) (fun _ h => h) (fun q_10 H locs hY hk hS => ?_)
  obtain ⟨hq_10, hP⟩ := hY
  replace hq_10 := hq_10.symm
  subst hq_10
  obtain ⟨z_11, h⟩ := gb_cb_s h
  obtain ⟨e1, e2, e3⟩ := gb_eq3 h
  exact W.zret (v := r_8) hx hb hr z_11.1 (fun t ht hW => gb_ri ht ⟨e3, by rw [← e1, ← e2]; exact hP⟩ hS) hS.2.2 dX12_isGoose_11
theorem dX12_ofPath_0 : decode cX12_ofPath 0 = .ok (.aload_n 0, 1) := dc_42 (show ((cX12_ofPath.data.toList.drop 0).take 1).map UInt8.toNat = [42] by decide +kernel)
theorem dX12_ofPath_1 : decode cX12_ofPath 1 = .ok (.iconst 3, 1) := dc_6 (show ((cX12_ofPath.data.toList.drop 1).take 1).map UInt8.toNat = [6] by decide +kernel)
theorem dX12_ofPath_2 : decode cX12_ofPath 2 = .ok (.iconst 3, 1) := dc_6 (show ((cX12_ofPath.data.toList.drop 2).take 1).map UInt8.toNat = [6] by decide +kernel)
theorem dX12_ofPath_3 : decode cX12_ofPath 3 = .ok (.iload_n 1, 1) := dc_27 (show ((cX12_ofPath.data.toList.drop 3).take 1).map UInt8.toNat = [27] by decide +kernel)
theorem dX12_ofPath_4 : decode cX12_ofPath 4 = .ok (.imul, 1) := dc_104 (show ((cX12_ofPath.data.toList.drop 4).take 1).map UInt8.toNat = [104] by decide +kernel)
theorem dX12_ofPath_5 : decode cX12_ofPath 5 = .ok (.iadd, 1) := dc_96 (show ((cX12_ofPath.data.toList.drop 5).take 1).map UInt8.toNat = [96] by decide +kernel)
theorem dX12_ofPath_6 : decode cX12_ofPath 6 = .ok (.iload_n 2, 1) := dc_28 (show ((cX12_ofPath.data.toList.drop 6).take 1).map UInt8.toNat = [28] by decide +kernel)
theorem dX12_ofPath_7 : decode cX12_ofPath 7 = .ok (.iadd, 1) := dc_96 (show ((cX12_ofPath.data.toList.drop 7).take 1).map UInt8.toNat = [96] by decide +kernel)
theorem dX12_ofPath_8 : decode cX12_ofPath 8 = .ok (.invokevirtual 196, 3) := dc_182 (show ((cX12_ofPath.data.toList.drop 8).take 3).map UInt8.toNat = [182, 0, 196] by decide +kernel) rfl
theorem dX12_ofPath_11 : decode cX12_ofPath 11 = .ok (.ireturn, 1) := dc_172 (show ((cX12_ofPath.data.toList.drop 11).take 1).map UInt8.toNat = [172] by decide +kernel)
def ms_ofPath (n : Nat) (f : gb_F) (w : Int64) (p1 : Int32) (p2 : Int32) : gb_MR Int32 := gb_bd (ms_of n f w ((3 + (3 * p1)) + p2)) (fun f_1 wl_2 r_3 => some (f_1, wl_2, r_3))
set_option maxHeartbeats 8000000 in
set_option maxRecDepth 100000 in
theorem mc_ofPath (l : Launch) (D : va_G) (cT : Nat → ClassId) (tt : Nat → Nat) (b1 b : Nat) (hb1 : b1 ≤ b) (n : Nat) (f : gb_F) (w : Int64) (p1 : Int32) (p2 : Int32) (fE : gb_F) (wE : Int64) (rE : Int32) (h : ms_ofPath n f w p1 p2 = some (fE, wE, rE)) : Met l yX12_ofPath (.code yX12_ofPath cX12_ofPath 3 (some FieldType.int) :: gb_wA) ({ frames := 1, cells := 0, slots := 0, locals := 21 }) (gb_Pc D cT tt b1 [.ref (b + 0), .int p1, .int p2] (fun h => va_P D vwCl (gb_wl b (gb_MW cT b f w)) h)) (gb_Qi (fun r h => r = rE ∧ va_P D vwCl (gb_wl b (gb_MW cT b fE wE)) h) (gb_fr b 22)) 0 0 (gb_fr b 22) := by
  refine Met.ofW (cc := cX12_ofPath) (maxL := 3) (ret := (some FieldType.int)) (by decide) rfl ?_
  intro p e s m args below meth c s₁ B hml hv
  obtain ⟨rfl, hSt, hP⟩ := hv
  have hx := B.exec
  have hb := B.bytes
  have hr := B.returns
  have hts := atoms_spec (ws := .code yX12_ofPath cX12_ofPath 3 (some FieldType.int) :: gb_wA) B.pre
  have hq : ∀ w ∈ gb_wA, w.before _ s = true := fun w h => hts w (List.mem_cons_of_mem _ h)
  have hown : s.vm.findClass RX12 = some m.cls := findClass_of_methodNamed B.named
  have hlocks := B.notSynchronized
  clear B hts
  have hK := hSt.1
  have hS : va_S (gb_fr b 22) s.heap s.heap [] := va_S.rf
  have hl := lv_entry ([.ref (b + 0), .int p1, .int p2]) (n := 3) (Nat.le_of_ble_eq_true rfl)
  rw [lg_entry_eq]
  generalize (lg_sl ([.ref (b + 0), .int p1, .int p2]) ++ List.replicate (3 - (lg_sl ([.ref (b + 0), .int p1, .int p2])).length) Slot.unset).toArray = ls at hl ⊢
  replace hl : lv_has ls 3 [(0, .ref (b + 0)), (1, .int p1), (2, .int p2)] := hl
  unfold ms_ofPath at h
  refine lv_aload_n hx hb dX12_ofPath_0 rfl (lv_at hl 0 rfl) ?_
  refine lv_iconst (v := 3) hx hb dX12_ofPath_1 (by decide) ?_
  refine lv_iconst (v := 3) hx hb dX12_ofPath_2 (by decide) ?_
  refine lv_iload_n hx hb dX12_ofPath_3 rfl (lv_at hl 1 rfl) ?_
  refine lv_imul hx hb dX12_ofPath_4 ?_
  refine lv_iadd hx hb dX12_ofPath_5 ?_
  refine lv_iload_n hx hb dX12_ofPath_6 rfl (lv_at hl 2 rfl) ?_
  refine lv_iadd hx hb dX12_ofPath_7 ?_
  obtain ⟨f_1, wl_2, r_3, z_4, h⟩ := gb_bd_s h
  refine gb_calli (va_runV (C := RX12) (As := [.int ((3 + (3 * p1)) + p2)]) (rest := []) ⟨hx, hb, hml, hown, hq⟩ (mc_of l D cT tt b1 b hb1 n f w ((3 + (3 * p1)) + p2) f_1 wl_2 r_3 z_4) (cwV 1 hq (gb_gV w_1376 w_1378 s_4_2 w_14 w_1379) rfl rfl rfl (by decide +kernel) ⟨Nat.le_of_ble_eq_true rfl, Nat.le_of_ble_eq_true rfl⟩) (gb_preV (r := (RX12, TX12, 44)) (ci := 10) (q0 := 0) hSt hP rfl (gb_at b rfl) hS (fun q h => Nat.le_trans hb1 h.1) hP) rfl rfl hl.1 rfl (lv_room (Nat.le_of_ble_eq_true rfl)) dX12_ofPath_8 ⟨Nat.le_of_ble_eq_true rfl, Nat.le_of_ble_eq_true rfl⟩) hS (fun _ h => h) (fun _ h => h) (fun q_5 H locs hY hk hS => ?_)
  obtain ⟨hq_5, hP⟩ := hY
  replace hq_5 := hq_5.symm
  subst hq_5
  obtain ⟨e1, e2, e3⟩ := gb_eq3 h
  exact W.iret (v := r_3) hx hb hr (fun t ht hW => gb_ri ht ⟨e3, by rw [← e1, ← e2]; exact hP⟩ hS) hS.2.2 dX12_ofPath_11
theorem dX12_ofGoose_0 : decode cX12_ofGoose 0 = .ok (.aload_n 0, 1) := dc_42 (show ((cX12_ofGoose.data.toList.drop 0).take 1).map UInt8.toNat = [42] by decide +kernel)
theorem dX12_ofGoose_1 : decode cX12_ofGoose 1 = .ok (.bipush 18, 2) := dc_16 (show ((cX12_ofGoose.data.toList.drop 1).take 2).map UInt8.toNat = [16, 18] by decide +kernel) rfl
theorem dX12_ofGoose_3 : decode cX12_ofGoose 3 = .ok (.iconst 5, 1) := dc_8 (show ((cX12_ofGoose.data.toList.drop 3).take 1).map UInt8.toNat = [8] by decide +kernel)
theorem dX12_ofGoose_4 : decode cX12_ofGoose 4 = .ok (.iload_n 1, 1) := dc_27 (show ((cX12_ofGoose.data.toList.drop 4).take 1).map UInt8.toNat = [27] by decide +kernel)
theorem dX12_ofGoose_5 : decode cX12_ofGoose 5 = .ok (.imul, 1) := dc_104 (show ((cX12_ofGoose.data.toList.drop 5).take 1).map UInt8.toNat = [104] by decide +kernel)
theorem dX12_ofGoose_6 : decode cX12_ofGoose 6 = .ok (.iadd, 1) := dc_96 (show ((cX12_ofGoose.data.toList.drop 6).take 1).map UInt8.toNat = [96] by decide +kernel)
theorem dX12_ofGoose_7 : decode cX12_ofGoose 7 = .ok (.iload_n 2, 1) := dc_28 (show ((cX12_ofGoose.data.toList.drop 7).take 1).map UInt8.toNat = [28] by decide +kernel)
theorem dX12_ofGoose_8 : decode cX12_ofGoose 8 = .ok (.iadd, 1) := dc_96 (show ((cX12_ofGoose.data.toList.drop 8).take 1).map UInt8.toNat = [96] by decide +kernel)
theorem dX12_ofGoose_9 : decode cX12_ofGoose 9 = .ok (.invokevirtual 196, 3) := dc_182 (show ((cX12_ofGoose.data.toList.drop 9).take 3).map UInt8.toNat = [182, 0, 196] by decide +kernel) rfl
theorem dX12_ofGoose_12 : decode cX12_ofGoose 12 = .ok (.ireturn, 1) := dc_172 (show ((cX12_ofGoose.data.toList.drop 12).take 1).map UInt8.toNat = [172] by decide +kernel)
def ms_ofGoose (n : Nat) (f : gb_F) (w : Int64) (p1 : Int32) (p2 : Int32) : gb_MR Int32 := gb_bd (ms_of n f w ((18 + (5 * p1)) + p2)) (fun f_1 wl_2 r_3 => some (f_1, wl_2, r_3))
set_option maxHeartbeats 8000000 in
set_option maxRecDepth 100000 in
theorem mc_ofGoose (l : Launch) (D : va_G) (cT : Nat → ClassId) (tt : Nat → Nat) (b1 b : Nat) (hb1 : b1 ≤ b) (n : Nat) (f : gb_F) (w : Int64) (p1 : Int32) (p2 : Int32) (fE : gb_F) (wE : Int64) (rE : Int32) (h : ms_ofGoose n f w p1 p2 = some (fE, wE, rE)) : Met l yX12_ofGoose (.code yX12_ofGoose cX12_ofGoose 3 (some FieldType.int) :: gb_wA) ({ frames := 1, cells := 0, slots := 0, locals := 21 }) (gb_Pc D cT tt b1 [.ref (b + 0), .int p1, .int p2] (fun h => va_P D vwCl (gb_wl b (gb_MW cT b f w)) h)) (gb_Qi (fun r h => r = rE ∧ va_P D vwCl (gb_wl b (gb_MW cT b fE wE)) h) (gb_fr b 22)) 0 0 (gb_fr b 22) := by
  refine Met.ofW (cc := cX12_ofGoose) (maxL := 3) (ret := (some FieldType.int)) (by decide) rfl ?_
  intro p e s m args below meth c s₁ B hml hv
  obtain ⟨rfl, hSt, hP⟩ := hv
  have hx := B.exec
  have hb := B.bytes
  have hr := B.returns
  have hts := atoms_spec (ws := .code yX12_ofGoose cX12_ofGoose 3 (some FieldType.int) :: gb_wA) B.pre
  have hq : ∀ w ∈ gb_wA, w.before _ s = true := fun w h => hts w (List.mem_cons_of_mem _ h)
  have hown : s.vm.findClass RX12 = some m.cls := findClass_of_methodNamed B.named
  have hlocks := B.notSynchronized
  clear B hts
  have hK := hSt.1
  have hS : va_S (gb_fr b 22) s.heap s.heap [] := va_S.rf
  have hl := lv_entry ([.ref (b + 0), .int p1, .int p2]) (n := 3) (Nat.le_of_ble_eq_true rfl)
  rw [lg_entry_eq]
  generalize (lg_sl ([.ref (b + 0), .int p1, .int p2]) ++ List.replicate (3 - (lg_sl ([.ref (b + 0), .int p1, .int p2])).length) Slot.unset).toArray = ls at hl ⊢
  replace hl : lv_has ls 3 [(0, .ref (b + 0)), (1, .int p1), (2, .int p2)] := hl
  unfold ms_ofGoose at h
  refine lv_aload_n hx hb dX12_ofGoose_0 rfl (lv_at hl 0 rfl) ?_
  refine lv_bipush (v := 18) hx hb dX12_ofGoose_1 (by decide) ?_
  refine lv_iconst (v := 5) hx hb dX12_ofGoose_3 (by decide) ?_
  refine lv_iload_n hx hb dX12_ofGoose_4 rfl (lv_at hl 1 rfl) ?_
  refine lv_imul hx hb dX12_ofGoose_5 ?_
  refine lv_iadd hx hb dX12_ofGoose_6 ?_
  refine lv_iload_n hx hb dX12_ofGoose_7 rfl (lv_at hl 2 rfl) ?_
  refine lv_iadd hx hb dX12_ofGoose_8 ?_
  obtain ⟨f_1, wl_2, r_3, z_4, h⟩ := gb_bd_s h
  refine gb_calli (va_runV (C := RX12) (As := [.int ((18 + (5 * p1)) + p2)]) (rest := []) ⟨hx, hb, hml, hown, hq⟩ (mc_of l D cT tt b1 b hb1 n f w ((18 + (5 * p1)) + p2) f_1 wl_2 r_3 z_4) (cwV 1 hq (gb_gV w_1376 w_1378 s_4_2 w_14 w_1379) rfl rfl rfl (by decide +kernel) ⟨Nat.le_of_ble_eq_true rfl, Nat.le_of_ble_eq_true rfl⟩) (gb_preV (r := (RX12, TX12, 44)) (ci := 10) (q0 := 0) hSt hP rfl (gb_at b rfl) hS (fun q h => Nat.le_trans hb1 h.1) hP) rfl rfl hl.1 rfl (lv_room (Nat.le_of_ble_eq_true rfl)) dX12_ofGoose_9 ⟨Nat.le_of_ble_eq_true rfl, Nat.le_of_ble_eq_true rfl⟩) hS (fun _ h => h) (fun _ h => h) (fun q_5 H locs hY hk hS => ?_)
  obtain ⟨hq_5, hP⟩ := hY
  replace hq_5 := hq_5.symm
  subst hq_5
  obtain ⟨e1, e2, e3⟩ := gb_eq3 h
  exact W.iret (v := r_3) hx hb hr (fun t ht hW => gb_ri ht ⟨e3, by rw [← e1, ← e2]; exact hP⟩ hS) hS.2.2 dX12_ofGoose_12
theorem dX12_border_0 : decode cX12_border 0 = .ok (.aload_n 0, 1) := dc_42 (show ((cX12_border.data.toList.drop 0).take 1).map UInt8.toNat = [42] by decide +kernel)
theorem dX12_border_1 : decode cX12_border 1 = .ok (.iload_n 1, 1) := dc_27 (show ((cX12_border.data.toList.drop 1).take 1).map UInt8.toNat = [27] by decide +kernel)
theorem dX12_border_2 : decode cX12_border 2 = .ok (.invokevirtual 205, 3) := dc_182 (show ((cX12_border.data.toList.drop 2).take 3).map UInt8.toNat = [182, 0, 205] by decide +kernel) rfl
theorem w_1375 : (Cond.code ({ cls := "GooseBorderModel", name := "isBorder", desc := "(I)Z" } : MethodName) prog_14_method_31_code (2 : Nat) (Option.some FieldType.boolean)) ∈ gb_wA := gb_t6 175 rfl rfl
theorem w_1372 : (Cond.methodLink "GooseBorderModel" (205 : Nat) ({ cls := "GooseBorderModel", name := "isBorder", desc := "(I)Z" } : MethodName)) ∈ gb_wA := gb_t6 172 rfl rfl
theorem w_1374 : (Cond.instanceMethod ({ cls := "GooseBorderModel", name := "isBorder", desc := "(I)Z" } : MethodName)) ∈ gb_wA := gb_t6 174 rfl rfl
theorem s_4_1 : Cond.selects "GooseBorderModel" (⟨"GooseBorderModel", "isBorder", "(I)Z"⟩ : MethodName) (⟨"GooseBorderModel", "isBorder", "(I)Z"⟩ : MethodName) ∈ gb_wA := gb_s4 1 rfl rfl
theorem dX12_border_5 : decode cX12_border 5 = .ok (.ifCond .ne 6, 3) := dc_154 (show ((cX12_border.data.toList.drop 5).take 3).map UInt8.toNat = [154, 0, 6] by decide +kernel) rfl
theorem dX12_border_11 : decode cX12_border 11 = .ok (.iload_n 2, 1) := dc_28 (show ((cX12_border.data.toList.drop 11).take 1).map UInt8.toNat = [28] by decide +kernel)
theorem dX12_border_12 : decode cX12_border 12 = .ok (.iconst 0, 1) := dc_3 (show ((cX12_border.data.toList.drop 12).take 1).map UInt8.toNat = [3] by decide +kernel)
theorem dX12_border_13 : decode cX12_border 13 = .ok (.iconst 2, 1) := dc_5 (show ((cX12_border.data.toList.drop 13).take 1).map UInt8.toNat = [5] by decide +kernel)
theorem dX12_border_14 : decode cX12_border 14 = .ok (.invokestatic 129, 3) := dc_184 (show ((cX12_border.data.toList.drop 14).take 3).map UInt8.toNat = [184, 0, 129] by decide +kernel) rfl
theorem dX12_border_17 : decode cX12_border 17 = .ok (.ifCond .eq 9, 3) := dc_153 (show ((cX12_border.data.toList.drop 17).take 3).map UInt8.toNat = [153, 0, 9] by decide +kernel) rfl
theorem dX12_border_26 : decode cX12_border 26 = .ok (.iload_n 2, 1) := dc_28 (show ((cX12_border.data.toList.drop 26).take 1).map UInt8.toNat = [28] by decide +kernel)
theorem dX12_border_27 : decode cX12_border 27 = .ok (.bipush 10, 2) := dc_16 (show ((cX12_border.data.toList.drop 27).take 2).map UInt8.toNat = [16, 10] by decide +kernel) rfl
theorem dX12_border_29 : decode cX12_border 29 = .ok (.irem, 1) := dc_112 (show ((cX12_border.data.toList.drop 29).take 1).map UInt8.toNat = [112] by decide +kernel)
theorem dX12_border_30 : decode cX12_border 30 = .ok (.istore_n 3, 1) := dc_62 (show ((cX12_border.data.toList.drop 30).take 1).map UInt8.toNat = [62] by decide +kernel)
theorem dX12_border_31 : decode cX12_border 31 = .ok (.iload_n 2, 1) := dc_28 (show ((cX12_border.data.toList.drop 31).take 1).map UInt8.toNat = [28] by decide +kernel)
theorem dX12_border_32 : decode cX12_border 32 = .ok (.bipush 10, 2) := dc_16 (show ((cX12_border.data.toList.drop 32).take 2).map UInt8.toNat = [16, 10] by decide +kernel) rfl
theorem dX12_border_34 : decode cX12_border 34 = .ok (.bipush 39, 2) := dc_16 (show ((cX12_border.data.toList.drop 34).take 2).map UInt8.toNat = [16, 39] by decide +kernel) rfl
theorem dX12_border_36 : decode cX12_border 36 = .ok (.invokestatic 129, 3) := dc_184 (show ((cX12_border.data.toList.drop 36).take 3).map UInt8.toNat = [184, 0, 129] by decide +kernel) rfl
theorem dX12_border_39 : decode cX12_border 39 = .ok (.ifCond .eq 28, 3) := dc_153 (show ((cX12_border.data.toList.drop 39).take 3).map UInt8.toNat = [153, 0, 28] by decide +kernel) rfl
theorem dX12_border_67 : decode cX12_border 67 = .ok (.iload_n 2, 1) := dc_28 (show ((cX12_border.data.toList.drop 67).take 1).map UInt8.toNat = [28] by decide +kernel)
theorem dX12_border_68 : decode cX12_border 68 = .ok (.bipush 40, 2) := dc_16 (show ((cX12_border.data.toList.drop 68).take 2).map UInt8.toNat = [16, 40] by decide +kernel) rfl
theorem dX12_border_70 : decode cX12_border 70 = .ok (.bipush 89, 2) := dc_16 (show ((cX12_border.data.toList.drop 70).take 2).map UInt8.toNat = [16, 89] by decide +kernel) rfl
theorem dX12_border_72 : decode cX12_border 72 = .ok (.invokestatic 129, 3) := dc_184 (show ((cX12_border.data.toList.drop 72).take 3).map UInt8.toNat = [184, 0, 129] by decide +kernel) rfl
theorem dX12_border_75 : decode cX12_border 75 = .ok (.ifCond .eq 25, 3) := dc_153 (show ((cX12_border.data.toList.drop 75).take 3).map UInt8.toNat = [153, 0, 25] by decide +kernel) rfl
theorem dX12_border_100 : decode cX12_border 100 = .ok (.bipush (-2), 2) := dc_16 (show ((cX12_border.data.toList.drop 100).take 2).map UInt8.toNat = [16, 254] by decide +kernel) rfl
theorem dX12_border_102 : decode cX12_border 102 = .ok (.ireturn, 1) := dc_172 (show ((cX12_border.data.toList.drop 102).take 1).map UInt8.toNat = [172] by decide +kernel)
theorem dX12_border_78 : decode cX12_border 78 = .ok (.aload_n 0, 1) := dc_42 (show ((cX12_border.data.toList.drop 78).take 1).map UInt8.toNat = [42] by decide +kernel)
theorem dX12_border_79 : decode cX12_border 79 = .ok (.iload_n 3, 1) := dc_29 (show ((cX12_border.data.toList.drop 79).take 1).map UInt8.toNat = [29] by decide +kernel)
theorem dX12_border_80 : decode cX12_border 80 = .ok (.invokevirtual 214, 3) := dc_182 (show ((cX12_border.data.toList.drop 80).take 3).map UInt8.toNat = [182, 0, 214] by decide +kernel) rfl
theorem w_1395 : (Cond.code ({ cls := "GooseBorderModel", name := "isGoose", desc := "(I)Z" } : MethodName) prog_14_method_36_code (2 : Nat) (Option.some FieldType.boolean)) ∈ gb_wA := gb_t6 195 rfl rfl
theorem w_1392 : (Cond.methodLink "GooseBorderModel" (214 : Nat) ({ cls := "GooseBorderModel", name := "isGoose", desc := "(I)Z" } : MethodName)) ∈ gb_wA := gb_t6 192 rfl rfl
theorem w_1394 : (Cond.instanceMethod ({ cls := "GooseBorderModel", name := "isGoose", desc := "(I)Z" } : MethodName)) ∈ gb_wA := gb_t6 194 rfl rfl
theorem s_4_6 : Cond.selects "GooseBorderModel" (⟨"GooseBorderModel", "isGoose", "(I)Z"⟩ : MethodName) (⟨"GooseBorderModel", "isGoose", "(I)Z"⟩ : MethodName) ∈ gb_wA := gb_s4 6 rfl rfl
theorem dX12_border_83 : decode cX12_border 83 = .ok (.ifCond .eq 17, 3) := dc_153 (show ((cX12_border.data.toList.drop 83).take 3).map UInt8.toNat = [153, 0, 17] by decide +kernel) rfl
theorem dX12_border_86 : decode cX12_border 86 = .ok (.aload_n 0, 1) := dc_42 (show ((cX12_border.data.toList.drop 86).take 1).map UInt8.toNat = [42] by decide +kernel)
theorem dX12_border_87 : decode cX12_border 87 = .ok (.iload_n 3, 1) := dc_29 (show ((cX12_border.data.toList.drop 87).take 1).map UInt8.toNat = [29] by decide +kernel)
theorem dX12_border_88 : decode cX12_border 88 = .ok (.iload_n 2, 1) := dc_28 (show ((cX12_border.data.toList.drop 88).take 1).map UInt8.toNat = [28] by decide +kernel)
theorem dX12_border_89 : decode cX12_border 89 = .ok (.bipush 10, 2) := dc_16 (show ((cX12_border.data.toList.drop 89).take 2).map UInt8.toNat = [16, 10] by decide +kernel) rfl
theorem dX12_border_91 : decode cX12_border 91 = .ok (.idiv, 1) := dc_108 (show ((cX12_border.data.toList.drop 91).take 1).map UInt8.toNat = [108] by decide +kernel)
theorem dX12_border_92 : decode cX12_border 92 = .ok (.iconst 4, 1) := dc_7 (show ((cX12_border.data.toList.drop 92).take 1).map UInt8.toNat = [7] by decide +kernel)
theorem dX12_border_93 : decode cX12_border 93 = .ok (.isub, 1) := dc_100 (show ((cX12_border.data.toList.drop 93).take 1).map UInt8.toNat = [100] by decide +kernel)
theorem dX12_border_94 : decode cX12_border 94 = .ok (.invokevirtual 217, 3) := dc_182 (show ((cX12_border.data.toList.drop 94).take 3).map UInt8.toNat = [182, 0, 217] by decide +kernel) rfl
theorem w_1403 : (Cond.code ({ cls := "GooseBorderModel", name := "ofGoose", desc := "(II)I" } : MethodName) prog_14_method_38_code (3 : Nat) (Option.some FieldType.int)) ∈ gb_wA := gb_t6 203 rfl rfl
theorem w_1400 : (Cond.methodLink "GooseBorderModel" (217 : Nat) ({ cls := "GooseBorderModel", name := "ofGoose", desc := "(II)I" } : MethodName)) ∈ gb_wA := gb_t6 200 rfl rfl
theorem w_1402 : (Cond.instanceMethod ({ cls := "GooseBorderModel", name := "ofGoose", desc := "(II)I" } : MethodName)) ∈ gb_wA := gb_t6 202 rfl rfl
theorem s_4_8 : Cond.selects "GooseBorderModel" (⟨"GooseBorderModel", "ofGoose", "(II)I"⟩ : MethodName) (⟨"GooseBorderModel", "ofGoose", "(II)I"⟩ : MethodName) ∈ gb_wA := gb_s4 8 rfl rfl
theorem dX12_border_97 : decode cX12_border 97 = .ok (.goto 5, 3) := dc_167 (show ((cX12_border.data.toList.drop 97).take 3).map UInt8.toNat = [167, 0, 5] by decide +kernel) rfl
theorem dX12_border_42 : decode cX12_border 42 = .ok (.aload_n 0, 1) := dc_42 (show ((cX12_border.data.toList.drop 42).take 1).map UInt8.toNat = [42] by decide +kernel)
theorem dX12_border_43 : decode cX12_border 43 = .ok (.iload_n 3, 1) := dc_29 (show ((cX12_border.data.toList.drop 43).take 1).map UInt8.toNat = [29] by decide +kernel)
theorem dX12_border_44 : decode cX12_border 44 = .ok (.invokevirtual 208, 3) := dc_182 (show ((cX12_border.data.toList.drop 44).take 3).map UInt8.toNat = [182, 0, 208] by decide +kernel) rfl
theorem w_1383 : (Cond.code ({ cls := "GooseBorderModel", name := "isPath", desc := "(I)Z" } : MethodName) prog_14_method_35_code (2 : Nat) (Option.some FieldType.boolean)) ∈ gb_wA := gb_t6 183 rfl rfl
theorem w_1380 : (Cond.methodLink "GooseBorderModel" (208 : Nat) ({ cls := "GooseBorderModel", name := "isPath", desc := "(I)Z" } : MethodName)) ∈ gb_wA := gb_t6 180 rfl rfl
theorem w_1382 : (Cond.instanceMethod ({ cls := "GooseBorderModel", name := "isPath", desc := "(I)Z" } : MethodName)) ∈ gb_wA := gb_t6 182 rfl rfl
theorem s_4_3 : Cond.selects "GooseBorderModel" (⟨"GooseBorderModel", "isPath", "(I)Z"⟩ : MethodName) (⟨"GooseBorderModel", "isPath", "(I)Z"⟩ : MethodName) ∈ gb_wA := gb_s4 3 rfl rfl
theorem dX12_border_47 : decode cX12_border 47 = .ok (.ifCond .eq 17, 3) := dc_153 (show ((cX12_border.data.toList.drop 47).take 3).map UInt8.toNat = [153, 0, 17] by decide +kernel) rfl
theorem dX12_border_64 : decode cX12_border 64 = .ok (.bipush (-2), 2) := dc_16 (show ((cX12_border.data.toList.drop 64).take 2).map UInt8.toNat = [16, 254] by decide +kernel) rfl
theorem dX12_border_66 : decode cX12_border 66 = .ok (.ireturn, 1) := dc_172 (show ((cX12_border.data.toList.drop 66).take 1).map UInt8.toNat = [172] by decide +kernel)
theorem dX12_border_50 : decode cX12_border 50 = .ok (.aload_n 0, 1) := dc_42 (show ((cX12_border.data.toList.drop 50).take 1).map UInt8.toNat = [42] by decide +kernel)
theorem dX12_border_51 : decode cX12_border 51 = .ok (.iload_n 3, 1) := dc_29 (show ((cX12_border.data.toList.drop 51).take 1).map UInt8.toNat = [29] by decide +kernel)
theorem dX12_border_52 : decode cX12_border 52 = .ok (.iload_n 2, 1) := dc_28 (show ((cX12_border.data.toList.drop 52).take 1).map UInt8.toNat = [28] by decide +kernel)
theorem dX12_border_53 : decode cX12_border 53 = .ok (.bipush 10, 2) := dc_16 (show ((cX12_border.data.toList.drop 53).take 2).map UInt8.toNat = [16, 10] by decide +kernel) rfl
theorem dX12_border_55 : decode cX12_border 55 = .ok (.idiv, 1) := dc_108 (show ((cX12_border.data.toList.drop 55).take 1).map UInt8.toNat = [108] by decide +kernel)
theorem dX12_border_56 : decode cX12_border 56 = .ok (.iconst 1, 1) := dc_4 (show ((cX12_border.data.toList.drop 56).take 1).map UInt8.toNat = [4] by decide +kernel)
theorem dX12_border_57 : decode cX12_border 57 = .ok (.isub, 1) := dc_100 (show ((cX12_border.data.toList.drop 57).take 1).map UInt8.toNat = [100] by decide +kernel)
theorem dX12_border_58 : decode cX12_border 58 = .ok (.invokevirtual 211, 3) := dc_182 (show ((cX12_border.data.toList.drop 58).take 3).map UInt8.toNat = [182, 0, 211] by decide +kernel) rfl
theorem w_1391 : (Cond.code ({ cls := "GooseBorderModel", name := "ofPath", desc := "(II)I" } : MethodName) prog_14_method_37_code (3 : Nat) (Option.some FieldType.int)) ∈ gb_wA := gb_t6 191 rfl rfl
theorem w_1388 : (Cond.methodLink "GooseBorderModel" (211 : Nat) ({ cls := "GooseBorderModel", name := "ofPath", desc := "(II)I" } : MethodName)) ∈ gb_wA := gb_t6 188 rfl rfl
theorem w_1390 : (Cond.instanceMethod ({ cls := "GooseBorderModel", name := "ofPath", desc := "(II)I" } : MethodName)) ∈ gb_wA := gb_t6 190 rfl rfl
theorem s_4_5 : Cond.selects "GooseBorderModel" (⟨"GooseBorderModel", "ofPath", "(II)I"⟩ : MethodName) (⟨"GooseBorderModel", "ofPath", "(II)I"⟩ : MethodName) ∈ gb_wA := gb_s4 5 rfl rfl
theorem dX12_border_61 : decode cX12_border 61 = .ok (.goto 5, 3) := dc_167 (show ((cX12_border.data.toList.drop 61).take 3).map UInt8.toNat = [167, 0, 5] by decide +kernel) rfl
theorem dX12_border_20 : decode cX12_border 20 = .ok (.aload_n 0, 1) := dc_42 (show ((cX12_border.data.toList.drop 20).take 1).map UInt8.toNat = [42] by decide +kernel)
theorem dX12_border_21 : decode cX12_border 21 = .ok (.iload_n 2, 1) := dc_28 (show ((cX12_border.data.toList.drop 21).take 1).map UInt8.toNat = [28] by decide +kernel)
theorem dX12_border_22 : decode cX12_border 22 = .ok (.invokevirtual 196, 3) := dc_182 (show ((cX12_border.data.toList.drop 22).take 3).map UInt8.toNat = [182, 0, 196] by decide +kernel) rfl
theorem dX12_border_25 : decode cX12_border 25 = .ok (.ireturn, 1) := dc_172 (show ((cX12_border.data.toList.drop 25).take 1).map UInt8.toNat = [172] by decide +kernel)
theorem dX12_border_8 : decode cX12_border 8 = .ok (.bipush (-2), 2) := dc_16 (show ((cX12_border.data.toList.drop 8).take 2).map UInt8.toNat = [16, 254] by decide +kernel) rfl
theorem dX12_border_10 : decode cX12_border 10 = .ok (.ireturn, 1) := dc_172 (show ((cX12_border.data.toList.drop 10).take 1).map UInt8.toNat = [172] by decide +kernel)
def ms_border (n : Nat) (f : gb_F) (w : Int64) (p1 : Int32) (p2 : Int32) : gb_MR Int32 := gb_bd (ms_isBorder n f w p1) (fun f_1 wl_2 r_3 => (if r_3 = 0 then some (f_1, wl_2, (-2)) else gb_bd (ms_isIn n f_1 wl_2 p2 0 2) (fun f_7 wl_8 r_9 => (if r_9 = 0 then gb_lt (p2 - p2 / 10 * 10) (fun x_13 => gb_bd (ms_isIn n f_7 wl_8 p2 10 39) (fun f_14 wl_15 r_16 => (if r_16 = 0 then gb_bd (ms_isIn n f_14 wl_15 p2 40 89) (fun f_20 wl_21 r_22 => (if r_22 = 0 then some (f_20, wl_21, (-2)) else gb_bd (ms_isGoose n f_20 wl_21 x_13) (fun f_26 wl_27 r_28 => (if r_28 = 0 then some (f_26, wl_27, (-2)) else gb_lt (p2 / 10) (fun x_32 => gb_bd (ms_ofGoose n f_26 wl_27 x_13 (x_32 - 4)) (fun f_33 wl_34 r_35 => some (f_33, wl_34, r_35))))))) else gb_bd (ms_isPath n f_14 wl_15 x_13) (fun f_38 wl_39 r_40 => (if r_40 = 0 then some (f_38, wl_39, (-2)) else gb_lt (p2 / 10) (fun x_44 => gb_bd (ms_ofPath n f_38 wl_39 x_13 (x_44 - 1)) (fun f_45 wl_46 r_47 => some (f_45, wl_46, r_47)))))))) else gb_bd (ms_of n f_7 wl_8 p2) (fun f_50 wl_51 r_52 => some (f_50, wl_51, r_52))))))
set_option maxHeartbeats 8000000 in
set_option maxRecDepth 100000 in
theorem mc_border (l : Launch) (D : va_G) (cT : Nat → ClassId) (tt : Nat → Nat) (b1 b : Nat) (hb1 : b1 ≤ b) (n : Nat) (f : gb_F) (w : Int64) (p1 : Int32) (p2 : Int32) (fE : gb_F) (wE : Int64) (rE : Int32) (h : ms_border n f w p1 p2 = some (fE, wE, rE)) : Met l yX12_border (.code yX12_border cX12_border 4 (some FieldType.int) :: gb_wA) ({ frames := 3, cells := 0, slots := 0, locals := 65 }) (gb_Pc D cT tt b1 [.ref (b + 0), .int p1, .int p2] (fun h => va_P D vwCl (gb_wl b (gb_MW cT b f w)) h)) (gb_Qi (fun r h => r = rE ∧ va_P D vwCl (gb_wl b (gb_MW cT b fE wE)) h) (gb_fr b 22)) 0 0 (gb_fr b 22) := by
  refine Met.ofW (cc := cX12_border) (maxL := 4) (ret := (some FieldType.int)) (by decide) rfl ?_
  intro p e s m args below meth c s₁ B hml hv
  obtain ⟨rfl, hSt, hP⟩ := hv
  have hx := B.exec
  have hb := B.bytes
  have hr := B.returns
  have hts := atoms_spec (ws := .code yX12_border cX12_border 4 (some FieldType.int) :: gb_wA) B.pre
  have hq : ∀ w ∈ gb_wA, w.before _ s = true := fun w h => hts w (List.mem_cons_of_mem _ h)
  have hown : s.vm.findClass RX12 = some m.cls := findClass_of_methodNamed B.named
  have hlocks := B.notSynchronized
  clear B hts
  have hK := hSt.1
  have hS : va_S (gb_fr b 22) s.heap s.heap [] := va_S.rf
  have hl := lv_entry ([.ref (b + 0), .int p1, .int p2]) (n := 4) (Nat.le_of_ble_eq_true rfl)
  rw [lg_entry_eq]
  generalize (lg_sl ([.ref (b + 0), .int p1, .int p2]) ++ List.replicate (4 - (lg_sl ([.ref (b + 0), .int p1, .int p2])).length) Slot.unset).toArray = ls at hl ⊢
  replace hl : lv_has ls 4 [(0, .ref (b + 0)), (1, .int p1), (2, .int p2)] := hl
  unfold ms_border at h
  refine lv_aload_n hx hb dX12_border_0 rfl (lv_at hl 0 rfl) ?_
  refine lv_iload_n hx hb dX12_border_1 rfl (lv_at hl 1 rfl) ?_
  obtain ⟨f_1, wl_2, r_3, z_4, h⟩ := gb_bd_s h
  refine gb_calli (va_runV (C := RX12) (As := [.int p1]) (rest := []) ⟨hx, hb, hml, hown, hq⟩ (mc_isBorder l D cT tt b1 b hb1 n f w p1 f_1 wl_2 r_3 z_4) (cwV 1 hq (gb_gV w_1372 w_1374 s_4_1 w_14 w_1375) rfl rfl rfl (by decide +kernel) ⟨Nat.le_of_ble_eq_true rfl, Nat.le_of_ble_eq_true rfl⟩) (gb_preV (r := (RX12, TX12, 44)) (ci := 10) (q0 := 0) hSt hP rfl (gb_at b rfl) hS (fun q h => Nat.le_trans hb1 h.1) hP) rfl rfl hl.1 rfl (lv_room (Nat.le_of_ble_eq_true rfl)) dX12_border_2 ⟨Nat.le_of_ble_eq_true rfl, Nat.le_of_ble_eq_true rfl⟩) hS (fun _ h => h) (fun _ h => h) (fun q_5 H locs hY hk hS => ?_)
  obtain ⟨hq_5, hP⟩ := hY
  replace hq_5 := hq_5.symm
  subst hq_5
  refine lv_if_ne (tgt := 11) hx hb dX12_border_5 (by decide) (fun c_6 => ?_) (fun c_6 => ?_)
  · rw [if_neg c_6] at h
    refine lv_iload_n hx hb dX12_border_11 rfl (lv_at hl 2 rfl) ?_
    refine lv_iconst (v := 0) hx hb dX12_border_12 (by decide) ?_
    refine lv_iconst (v := 2) hx hb dX12_border_13 (by decide) ?_
    obtain ⟨f_7, wl_8, r_9, z_10, h⟩ := gb_bd_s h
    refine gb_calli (va_runS (As := [.int p2, .int 0, .int 2]) (rest := []) ⟨hx, hb, hml, hown, hq⟩ (mc_isIn l D cT tt b1 b hb1 n f_1 wl_2 p2 0 2 f_7 wl_8 r_9 z_10) (va_cwS 3 hq (gb_gS w_1269 w_1270 w_14 w_1271) rfl rfl rfl (by decide +kernel) ⟨Nat.le_of_ble_eq_true rfl, Nat.le_of_ble_eq_true rfl⟩) (gb_preS hSt hS (fun q h => Nat.le_trans hb1 h.1) hP) rfl rfl hl.1 rfl (lv_room (Nat.le_of_ble_eq_true rfl)) dX12_border_14 ⟨Nat.le_of_ble_eq_true rfl, Nat.le_of_ble_eq_true rfl⟩) hS (fun _ h => h) (fun _ h => h) (fun q_11 H locs hY hk hS => ?_)
    obtain ⟨hq_11, hP⟩ := hY
    replace hq_11 := hq_11.symm
    subst hq_11
    refine lv_if_eq (tgt := 26) hx hb dX12_border_17 (by decide) (fun c_12 => ?_) (fun c_12 => ?_)
    · rw [if_pos c_12] at h
      refine lv_iload_n hx hb dX12_border_26 rfl (lv_at hl 2 rfl) ?_
      refine lv_bipush (v := 10) hx hb dX12_border_27 (by decide) ?_
      refine lv_irem hx hb dX12_border_29 (by decide) ?_
      refine lv_topi (fun x_13 ex_13 => ?_)
      replace h := gb_lt_s ex_13 h
      refine lv_istore_n (lv' := [(3, .int x_13), (0, .ref (b + 0)), (1, .int p1), (2, .int p2)]) hx hb dX12_border_30 rfl hl (by decide) rfl (fun ls hl => ?_)
      refine lv_iload_n hx hb dX12_border_31 rfl (lv_at hl 3 rfl) ?_
      refine lv_bipush (v := 10) hx hb dX12_border_32 (by decide) ?_
      refine lv_bipush (v := 39) hx hb dX12_border_34 (by decide) ?_
      obtain ⟨f_14, wl_15, r_16, z_17, h⟩ := gb_bd_s h
      refine gb_calli (va_runS (As := [.int p2, .int 10, .int 39]) (rest := []) ⟨hx, hb, hml, hown, hq⟩ (mc_isIn l D cT tt b1 b hb1 n f_7 wl_8 p2 10 39 f_14 wl_15 r_16 z_17) (va_cwS 3 hq (gb_gS w_1269 w_1270 w_14 w_1271) rfl rfl rfl (by decide +kernel) ⟨Nat.le_of_ble_eq_true rfl, Nat.le_of_ble_eq_true rfl⟩) (gb_preS hSt hS (fun q h => Nat.le_trans hb1 h.1) hP) rfl rfl hl.1 rfl (lv_room (Nat.le_of_ble_eq_true rfl)) dX12_border_36 ⟨Nat.le_of_ble_eq_true rfl, Nat.le_of_ble_eq_true rfl⟩) hS (fun _ h => h) (fun _ h => h) (fun q_18 H locs hY hk hS => ?_)
      obtain ⟨hq_18, hP⟩ := hY
      replace hq_18 := hq_18.symm
      subst hq_18
      refine lv_if_eq (tgt := 67) hx hb dX12_border_39 (by decide) (fun c_19 => ?_) (fun c_19 => ?_)
      · rw [if_pos c_19] at h
        refine lv_iload_n hx hb dX12_border_67 rfl (lv_at hl 3 rfl) ?_
        refine lv_bipush (v := 40) hx hb dX12_border_68 (by decide) ?_
        refine lv_bipush (v := 89) hx hb dX12_border_70 (by decide) ?_
        obtain ⟨f_20, wl_21, r_22, z_23, h⟩ := gb_bd_s h
        refine gb_calli (va_runS (As := [.int p2, .int 40, .int 89]) (rest := []) ⟨hx, hb, hml, hown, hq⟩ (mc_isIn l D cT tt b1 b hb1 n f_14 wl_15 p2 40 89 f_20 wl_21 r_22 z_23) (va_cwS 3 hq (gb_gS w_1269 w_1270 w_14 w_1271) rfl rfl rfl (by decide +kernel) ⟨Nat.le_of_ble_eq_true rfl, Nat.le_of_ble_eq_true rfl⟩) (gb_preS hSt hS (fun q h => Nat.le_trans hb1 h.1) hP) rfl rfl hl.1 rfl (lv_room (Nat.le_of_ble_eq_true rfl)) dX12_border_72 ⟨Nat.le_of_ble_eq_true rfl, Nat.le_of_ble_eq_true rfl⟩) hS (fun _ h => h) (fun _ h => h) (fun q_24 H locs hY hk hS => ?_)
        obtain ⟨hq_24, hP⟩ := hY
        replace hq_24 := hq_24.symm
        subst hq_24
        refine lv_if_eq (tgt := 100) hx hb dX12_border_75 (by decide) (fun c_25 => ?_) (fun c_25 => ?_)
        · rw [if_pos c_25] at h
          refine lv_bipush (v := (-2)) hx hb dX12_border_100 (by decide) ?_
          obtain ⟨e1, e2, e3⟩ := gb_eq3 h
          exact W.iret (v := (-2)) hx hb hr (fun t ht hW => gb_ri ht ⟨e3, by rw [← e1, ← e2]; exact hP⟩ hS) hS.2.2 dX12_border_102
        · rw [if_neg c_25] at h
          refine lv_aload_n hx hb dX12_border_78 rfl (lv_at hl 1 rfl) ?_
          refine lv_iload_n hx hb dX12_border_79 rfl (lv_at hl 0 rfl) ?_
          obtain ⟨f_26, wl_27, r_28, z_29, h⟩ := gb_bd_s h
          refine gb_calli (va_runV (C := RX12) (As := [.int x_13]) (rest := []) ⟨hx, hb, hml, hown, hq⟩ (mc_isGoose l D cT tt b1 b hb1 n f_20 wl_21 x_13 f_26 wl_27 r_28 z_29) (cwV 1 hq (gb_gV w_1392 w_1394 s_4_6 w_14 w_1395) rfl rfl rfl (by decide +kernel) ⟨Nat.le_of_ble_eq_true rfl, Nat.le_of_ble_eq_true rfl⟩) (gb_preV (r := (RX12, TX12, 44)) (ci := 10) (q0 := 0) hSt hP rfl (gb_at b rfl) hS (fun q h => Nat.le_trans hb1 h.1) hP) rfl rfl hl.1 rfl (lv_room (Nat.le_of_ble_eq_true rfl)) dX12_border_80 ⟨Nat.le_of_ble_eq_true rfl, Nat.le_of_ble_eq_true rfl⟩) hS (fun _ h => h) (fun _ h => h) (fun q_30 H locs hY hk hS => ?_)
          obtain ⟨hq_30, hP⟩ := hY
          replace hq_30 := hq_30.symm
          subst hq_30
          refine lv_if_eq (tgt := 100) hx hb dX12_border_83 (by decide) (fun c_31 => ?_) (fun c_31 => ?_)
          · rw [if_pos c_31] at h
            refine lv_bipush (v := (-2)) hx hb dX12_border_100 (by decide) ?_
            obtain ⟨e1, e2, e3⟩ := gb_eq3 h
            exact W.iret (v := (-2)) hx hb hr (fun t ht hW => gb_ri ht ⟨e3, by rw [← e1, ← e2]; exact hP⟩ hS) hS.2.2 dX12_border_102
          · rw [if_neg c_31] at h
            refine lv_aload_n hx hb dX12_border_86 rfl (lv_at hl 1 rfl) ?_
            refine lv_iload_n hx hb dX12_border_87 rfl (lv_at hl 0 rfl) ?_
            refine lv_iload_n hx hb dX12_border_88 rfl (lv_at hl 3 rfl) ?_
            refine lv_bipush (v := 10) hx hb dX12_border_89 (by decide) ?_
            refine lv_idiv hx hb dX12_border_91 (by decide) ?_
            refine lv_topi (fun x_32 ex_32 => ?_)
            replace h := gb_lt_s ex_32 h
            refine lv_iconst (v := 4) hx hb dX12_border_92 (by decide) ?_
            refine lv_isub hx hb dX12_border_93 ?_
            obtain ⟨f_33, wl_34, r_35, z_36, h⟩ := gb_bd_s h
            refine gb_calli (va_runV (C := RX12) (As := [.int x_13, .int (x_32 - 4)]) (rest := []) ⟨hx, hb, hml, hown, hq⟩ (mc_ofGoose l D cT tt b1 b hb1 n f_26 wl_27 x_13 (x_32 - 4) f_33 wl_34 r_35 z_36) (cwV 2 hq (gb_gV w_1400 w_1402 s_4_8 w_14 w_1403) rfl rfl rfl (by decide +kernel) ⟨Nat.le_of_ble_eq_true rfl, Nat.le_of_ble_eq_true rfl⟩) (gb_preV (r := (RX12, TX12, 44)) (ci := 10) (q0 := 0) hSt hP rfl (gb_at b rfl) hS (fun q h => Nat.le_trans hb1 h.1) hP) rfl rfl hl.1 rfl (lv_room (Nat.le_of_ble_eq_true rfl)) dX12_border_94 ⟨Nat.le_of_ble_eq_true rfl, Nat.le_of_ble_eq_true rfl⟩) hS (fun _ h => h) (fun _ h => h) (fun q_37 H locs hY hk hS => ?_)
            obtain ⟨hq_37, hP⟩ := hY
            replace hq_37 := hq_37.symm
            subst hq_37
            refine lv_goto (tgt := 102) hx hb dX12_border_97 (by decide) ?_
            obtain ⟨e1, e2, e3⟩ := gb_eq3 h
            exact W.iret (v := r_35) hx hb hr (fun t ht hW => gb_ri ht ⟨e3, by rw [← e1, ← e2]; exact hP⟩ hS) hS.2.2 dX12_border_102
      · rw [if_neg c_19] at h
        refine lv_aload_n hx hb dX12_border_42 rfl (lv_at hl 1 rfl) ?_
        refine lv_iload_n hx hb dX12_border_43 rfl (lv_at hl 0 rfl) ?_
        obtain ⟨f_38, wl_39, r_40, z_41, h⟩ := gb_bd_s h
        refine gb_calli (va_runV (C := RX12) (As := [.int x_13]) (rest := []) ⟨hx, hb, hml, hown, hq⟩ (mc_isPath l D cT tt b1 b hb1 n f_14 wl_15 x_13 f_38 wl_39 r_40 z_41) (cwV 1 hq (gb_gV w_1380 w_1382 s_4_3 w_14 w_1383) rfl rfl rfl (by decide +kernel) ⟨Nat.le_of_ble_eq_true rfl, Nat.le_of_ble_eq_true rfl⟩) (gb_preV (r := (RX12, TX12, 44)) (ci := 10) (q0 := 0) hSt hP rfl (gb_at b rfl) hS (fun q h => Nat.le_trans hb1 h.1) hP) rfl rfl hl.1 rfl (lv_room (Nat.le_of_ble_eq_true rfl)) dX12_border_44 ⟨Nat.le_of_ble_eq_true rfl, Nat.le_of_ble_eq_true rfl⟩) hS (fun _ h => h) (fun _ h => h) (fun q_42 H locs hY hk hS => ?_)
        obtain ⟨hq_42, hP⟩ := hY
        replace hq_42 := hq_42.symm
        subst hq_42
        refine lv_if_eq (tgt := 64) hx hb dX12_border_47 (by decide) (fun c_43 => ?_) (fun c_43 => ?_)
        · rw [if_pos c_43] at h
          refine lv_bipush (v := (-2)) hx hb dX12_border_64 (by decide) ?_
          obtain ⟨e1, e2, e3⟩ := gb_eq3 h
          exact W.iret (v := (-2)) hx hb hr (fun t ht hW => gb_ri ht ⟨e3, by rw [← e1, ← e2]; exact hP⟩ hS) hS.2.2 dX12_border_66
        · rw [if_neg c_43] at h
          refine lv_aload_n hx hb dX12_border_50 rfl (lv_at hl 1 rfl) ?_
          refine lv_iload_n hx hb dX12_border_51 rfl (lv_at hl 0 rfl) ?_
          refine lv_iload_n hx hb dX12_border_52 rfl (lv_at hl 3 rfl) ?_
          refine lv_bipush (v := 10) hx hb dX12_border_53 (by decide) ?_
          refine lv_idiv hx hb dX12_border_55 (by decide) ?_
          refine lv_topi (fun x_44 ex_44 => ?_)
          replace h := gb_lt_s ex_44 h
          refine lv_iconst (v := 1) hx hb dX12_border_56 (by decide) ?_
          refine lv_isub hx hb dX12_border_57 ?_
          obtain ⟨f_45, wl_46, r_47, z_48, h⟩ := gb_bd_s h
          refine gb_calli (va_runV (C := RX12) (As := [.int x_13, .int (x_44 - 1)]) (rest := []) ⟨hx, hb, hml, hown, hq⟩ (mc_ofPath l D cT tt b1 b hb1 n f_38 wl_39 x_13 (x_44 - 1) f_45 wl_46 r_47 z_48) (cwV 2 hq (gb_gV w_1388 w_1390 s_4_5 w_14 w_1391) rfl rfl rfl (by decide +kernel) ⟨Nat.le_of_ble_eq_true rfl, Nat.le_of_ble_eq_true rfl⟩) (gb_preV (r := (RX12, TX12, 44)) (ci := 10) (q0 := 0) hSt hP rfl (gb_at b rfl) hS (fun q h => Nat.le_trans hb1 h.1) hP) rfl rfl hl.1 rfl (lv_room (Nat.le_of_ble_eq_true rfl)) dX12_border_58 ⟨Nat.le_of_ble_eq_true rfl, Nat.le_of_ble_eq_true rfl⟩) hS (fun _ h => h) (fun _ h => h) (fun q_49 H locs hY hk hS => ?_)
          obtain ⟨hq_49, hP⟩ := hY
          replace hq_49 := hq_49.symm
          subst hq_49
          refine lv_goto (tgt := 66) hx hb dX12_border_61 (by decide) ?_
          obtain ⟨e1, e2, e3⟩ := gb_eq3 h
          exact W.iret (v := r_47) hx hb hr (fun t ht hW => gb_ri ht ⟨e3, by rw [← e1, ← e2]; exact hP⟩ hS) hS.2.2 dX12_border_66
    · rw [if_neg c_12] at h
      refine lv_aload_n hx hb dX12_border_20 rfl (lv_at hl 0 rfl) ?_
      refine lv_iload_n hx hb dX12_border_21 rfl (lv_at hl 2 rfl) ?_
      obtain ⟨f_50, wl_51, r_52, z_53, h⟩ := gb_bd_s h
      refine gb_calli (va_runV (C := RX12) (As := [.int p2]) (rest := []) ⟨hx, hb, hml, hown, hq⟩ (mc_of l D cT tt b1 b hb1 n f_7 wl_8 p2 f_50 wl_51 r_52 z_53) (cwV 1 hq (gb_gV w_1376 w_1378 s_4_2 w_14 w_1379) rfl rfl rfl (by decide +kernel) ⟨Nat.le_of_ble_eq_true rfl, Nat.le_of_ble_eq_true rfl⟩) (gb_preV (r := (RX12, TX12, 44)) (ci := 10) (q0 := 0) hSt hP rfl (gb_at b rfl) hS (fun q h => Nat.le_trans hb1 h.1) hP) rfl rfl hl.1 rfl (lv_room (Nat.le_of_ble_eq_true rfl)) dX12_border_22 ⟨Nat.le_of_ble_eq_true rfl, Nat.le_of_ble_eq_true rfl⟩) hS (fun _ h => h) (fun _ h => h) (fun q_54 H locs hY hk hS => ?_)
      obtain ⟨hq_54, hP⟩ := hY
      replace hq_54 := hq_54.symm
      subst hq_54
      obtain ⟨e1, e2, e3⟩ := gb_eq3 h
      exact W.iret (v := r_52) hx hb hr (fun t ht hW => gb_ri ht ⟨e3, by rw [← e1, ← e2]; exact hP⟩ hS) hS.2.2 dX12_border_25
  · rw [if_pos c_6] at h
    refine lv_bipush (v := (-2)) hx hb dX12_border_8 (by decide) ?_
    obtain ⟨e1, e2, e3⟩ := gb_eq3 h
    exact W.iret (v := (-2)) hx hb hr (fun t ht hW => gb_ri ht ⟨e3, by rw [← e1, ← e2]; exact hP⟩ hS) hS.2.2 dX12_border_10
theorem dX12_left_0 : decode cX12_left 0 = .ok (.iload_n 3, 1) := dc_29 (show ((cX12_left.data.toList.drop 0).take 1).map UInt8.toNat = [29] by decide +kernel)
theorem dX12_left_1 : decode cX12_left 1 = .ok (.iload_n 2, 1) := dc_28 (show ((cX12_left.data.toList.drop 1).take 1).map UInt8.toNat = [28] by decide +kernel)
theorem dX12_left_2 : decode cX12_left 2 = .ok (.if_icmp .ge 7, 3) := dc_162 (show ((cX12_left.data.toList.drop 2).take 3).map UInt8.toNat = [162, 0, 7] by decide +kernel) rfl
theorem dX12_left_9 : decode cX12_left 9 = .ok (.iload_n 2, 1) := dc_28 (show ((cX12_left.data.toList.drop 9).take 1).map UInt8.toNat = [28] by decide +kernel)
theorem dX12_left_10 : decode cX12_left 10 = .ok (.istore 6, 2) := dc_54 (show ((cX12_left.data.toList.drop 10).take 2).map UInt8.toNat = [54, 6] by decide +kernel) rfl
theorem dX12_left_12 : decode cX12_left 12 = .ok (.aload_n 0, 1) := dc_42 (show ((cX12_left.data.toList.drop 12).take 1).map UInt8.toNat = [42] by decide +kernel)
theorem dX12_left_13 : decode cX12_left 13 = .ok (.iload_n 1, 1) := dc_27 (show ((cX12_left.data.toList.drop 13).take 1).map UInt8.toNat = [27] by decide +kernel)
theorem dX12_left_14 : decode cX12_left 14 = .ok (.iconst 0, 1) := dc_3 (show ((cX12_left.data.toList.drop 14).take 1).map UInt8.toNat = [3] by decide +kernel)
theorem dX12_left_15 : decode cX12_left 15 = .ok (.invokevirtual 217, 3) := dc_182 (show ((cX12_left.data.toList.drop 15).take 3).map UInt8.toNat = [182, 0, 217] by decide +kernel) rfl
theorem dX12_left_18 : decode cX12_left 18 = .ok (.aload_n 0, 1) := dc_42 (show ((cX12_left.data.toList.drop 18).take 1).map UInt8.toNat = [42] by decide +kernel)
theorem dX12_left_19 : decode cX12_left 19 = .ok (.iload_n 1, 1) := dc_27 (show ((cX12_left.data.toList.drop 19).take 1).map UInt8.toNat = [27] by decide +kernel)
theorem dX12_left_20 : decode cX12_left 20 = .ok (.iconst 1, 1) := dc_4 (show ((cX12_left.data.toList.drop 20).take 1).map UInt8.toNat = [4] by decide +kernel)
theorem dX12_left_21 : decode cX12_left 21 = .ok (.invokevirtual 217, 3) := dc_182 (show ((cX12_left.data.toList.drop 21).take 3).map UInt8.toNat = [182, 0, 217] by decide +kernel) rfl
theorem dX12_left_24 : decode cX12_left 24 = .ok (.iadd, 1) := dc_96 (show ((cX12_left.data.toList.drop 24).take 1).map UInt8.toNat = [96] by decide +kernel)
theorem dX12_left_25 : decode cX12_left 25 = .ok (.istore 7, 2) := dc_54 (show ((cX12_left.data.toList.drop 25).take 2).map UInt8.toNat = [54, 7] by decide +kernel) rfl
theorem dX12_left_27 : decode cX12_left 27 = .ok (.iload 4, 2) := dc_21 (show ((cX12_left.data.toList.drop 27).take 2).map UInt8.toNat = [21, 4] by decide +kernel) rfl
theorem dX12_left_29 : decode cX12_left 29 = .ok (.ifCond .eq 7, 3) := dc_153 (show ((cX12_left.data.toList.drop 29).take 3).map UInt8.toNat = [153, 0, 7] by decide +kernel) rfl
theorem dX12_left_36 : decode cX12_left 36 = .ok (.iconst 2, 1) := dc_5 (show ((cX12_left.data.toList.drop 36).take 1).map UInt8.toNat = [5] by decide +kernel)
theorem dX12_left_37 : decode cX12_left 37 = .ok (.iload 6, 2) := dc_21 (show ((cX12_left.data.toList.drop 37).take 2).map UInt8.toNat = [21, 6] by decide +kernel) rfl
theorem dX12_left_39 : decode cX12_left 39 = .ok (.imul, 1) := dc_104 (show ((cX12_left.data.toList.drop 39).take 1).map UInt8.toNat = [104] by decide +kernel)
theorem dX12_left_40 : decode cX12_left 40 = .ok (.iload 7, 2) := dc_21 (show ((cX12_left.data.toList.drop 40).take 2).map UInt8.toNat = [21, 7] by decide +kernel) rfl
theorem dX12_left_42 : decode cX12_left 42 = .ok (.iload_n 2, 1) := dc_28 (show ((cX12_left.data.toList.drop 42).take 1).map UInt8.toNat = [28] by decide +kernel)
theorem dX12_left_43 : decode cX12_left 43 = .ok (.iload 6, 2) := dc_21 (show ((cX12_left.data.toList.drop 43).take 2).map UInt8.toNat = [21, 6] by decide +kernel) rfl
theorem dX12_left_45 : decode cX12_left 45 = .ok (.isub, 1) := dc_100 (show ((cX12_left.data.toList.drop 45).take 1).map UInt8.toNat = [100] by decide +kernel)
theorem dX12_left_46 : decode cX12_left 46 = .ok (.imul, 1) := dc_104 (show ((cX12_left.data.toList.drop 46).take 1).map UInt8.toNat = [104] by decide +kernel)
theorem dX12_left_47 : decode cX12_left 47 = .ok (.iadd, 1) := dc_96 (show ((cX12_left.data.toList.drop 47).take 1).map UInt8.toNat = [96] by decide +kernel)
theorem dX12_left_48 : decode cX12_left 48 = .ok (.iconst 1, 1) := dc_4 (show ((cX12_left.data.toList.drop 48).take 1).map UInt8.toNat = [4] by decide +kernel)
theorem dX12_left_49 : decode cX12_left 49 = .ok (.iload 5, 2) := dc_21 (show ((cX12_left.data.toList.drop 49).take 2).map UInt8.toNat = [21, 5] by decide +kernel) rfl
theorem dX12_left_51 : decode cX12_left 51 = .ok (.iadd, 1) := dc_96 (show ((cX12_left.data.toList.drop 51).take 1).map UInt8.toNat = [96] by decide +kernel)
theorem dX12_left_52 : decode cX12_left 52 = .ok (.imul, 1) := dc_104 (show ((cX12_left.data.toList.drop 52).take 1).map UInt8.toNat = [104] by decide +kernel)
theorem dX12_left_53 : decode cX12_left 53 = .ok (.ireturn, 1) := dc_172 (show ((cX12_left.data.toList.drop 53).take 1).map UInt8.toNat = [172] by decide +kernel)
theorem dX12_left_32 : decode cX12_left 32 = .ok (.iconst 0, 1) := dc_3 (show ((cX12_left.data.toList.drop 32).take 1).map UInt8.toNat = [3] by decide +kernel)
theorem dX12_left_33 : decode cX12_left 33 = .ok (.goto 7, 3) := dc_167 (show ((cX12_left.data.toList.drop 33).take 3).map UInt8.toNat = [167, 0, 7] by decide +kernel) rfl
theorem dX12_left_5 : decode cX12_left 5 = .ok (.iload_n 3, 1) := dc_29 (show ((cX12_left.data.toList.drop 5).take 1).map UInt8.toNat = [29] by decide +kernel)
theorem dX12_left_6 : decode cX12_left 6 = .ok (.goto 4, 3) := dc_167 (show ((cX12_left.data.toList.drop 6).take 3).map UInt8.toNat = [167, 0, 4] by decide +kernel) rfl
def ms_left_10 (n : Nat) (f : gb_F) (w : Int64) (v1 : Int32) (v2 : Int32) (v4 : Int32) (v5 : Int32) (t0 : Int32) : gb_MR Int32 := gb_bd (ms_ofGoose n f w v1 0) (fun f_2 wl_3 r_4 => gb_bd (ms_ofGoose n f_2 wl_3 v1 1) (fun f_7 wl_8 r_9 => gb_lt (r_4 + r_9) (fun x_12 => (if v4 = 0 then some (f_7, wl_8, (((2 * t0) + (x_12 * (v2 - t0))) * (1 + v5))) else some (f_7, wl_8, ((0 + (x_12 * (v2 - t0))) * (1 + v5)))))))
def ms_left (n : Nat) (f : gb_F) (w : Int64) (p1 : Int32) (p2 : Int32) (p3 : Int32) (p4 : Int32) (p5 : Int32) : gb_MR Int32 := (if p2 ≤ p3 then ms_left_10 n f w p1 p2 p4 p5 p2 else ms_left_10 n f w p1 p2 p4 p5 p3)
set_option maxHeartbeats 8000000 in
set_option maxRecDepth 100000 in
theorem mc_left (l : Launch) (D : va_G) (cT : Nat → ClassId) (tt : Nat → Nat) (b1 b : Nat) (hb1 : b1 ≤ b) (n : Nat) (f : gb_F) (w : Int64) (p1 : Int32) (p2 : Int32) (p3 : Int32) (p4 : Int32) (p5 : Int32) (fE : gb_F) (wE : Int64) (rE : Int32) (h : ms_left n f w p1 p2 p3 p4 p5 = some (fE, wE, rE)) : Met l yX12_left (.code yX12_left cX12_left 8 (some FieldType.int) :: gb_wA) ({ frames := 2, cells := 0, slots := 0, locals := 43 }) (gb_Pc D cT tt b1 [.ref (b + 0), .int p1, .int p2, .int p3, .int p4, .int p5] (fun h => va_P D vwCl (gb_wl b (gb_MW cT b f w)) h)) (gb_Qi (fun r h => r = rE ∧ va_P D vwCl (gb_wl b (gb_MW cT b fE wE)) h) (gb_fr b 22)) 0 0 (gb_fr b 22) := by
  refine Met.ofW (cc := cX12_left) (maxL := 8) (ret := (some FieldType.int)) (by decide) rfl ?_
  intro p e s m args below meth c s₁ B hml hv
  obtain ⟨rfl, hSt, hP⟩ := hv
  have hx := B.exec
  have hb := B.bytes
  have hr := B.returns
  have hts := atoms_spec (ws := .code yX12_left cX12_left 8 (some FieldType.int) :: gb_wA) B.pre
  have hq : ∀ w ∈ gb_wA, w.before _ s = true := fun w h => hts w (List.mem_cons_of_mem _ h)
  have hown : s.vm.findClass RX12 = some m.cls := findClass_of_methodNamed B.named
  have hlocks := B.notSynchronized
  clear B hts
  have hK := hSt.1
  have hS : va_S (gb_fr b 22) s.heap s.heap [] := va_S.rf
  have hl := lv_entry ([.ref (b + 0), .int p1, .int p2, .int p3, .int p4, .int p5]) (n := 8) (Nat.le_of_ble_eq_true rfl)
  rw [lg_entry_eq]
  generalize (lg_sl ([.ref (b + 0), .int p1, .int p2, .int p3, .int p4, .int p5]) ++ List.replicate (8 - (lg_sl ([.ref (b + 0), .int p1, .int p2, .int p3, .int p4, .int p5])).length) Slot.unset).toArray = ls at hl ⊢
  replace hl : lv_has ls 8 [(0, .ref (b + 0)), (1, .int p1), (2, .int p2), (3, .int p3), (4, .int p4), (5, .int p5)] := hl
  have L10 : ∀ (f : gb_F) (w : Int64) (v1 : Int32) (v2 : Int32) (v4 : Int32) (v5 : Int32) (t0 : Int32) (H : Heap) (locs : List Loc) (ls : Array Slot), ms_left_10 n f w v1 v2 v4 v5 t0 = some (fE, wE, rE) → va_P D vwCl (gb_wl b (gb_MW cT b f w)) H → va_S (gb_fr b 22) s.heap H locs → lv_has ls 8 [(0, .ref (b + 0)), (1, .int v1), (2, .int v2), (4, .int v4), (5, .int v5)] → W p l e (headSpec (.code yX12_left cX12_left 8 (some FieldType.int) :: gb_wA) ({ frames := 2, cells := 0, slots := 0, locals := 43 })).room s m ([.ref (b + 0), .int p1, .int p2, .int p3, .int p4, .int p5]).toArray below meth c H locs 0 0 (MQ below (gb_Qi (fun r h => r = rE ∧ va_P D vwCl (gb_wl b (gb_MW cT b fE wE)) h) (gb_fr b 22)) ([.ref (b + 0), .int p1, .int p2, .int p3, .int p4, .int p5]).toArray s 0 0 (gb_fr b 22)) (F0 m 10 ls [.int t0]) := by
    clear h hP hS hl ls f w
    intro f w v1 v2 v4 v5 t0 H locs ls h hP hS hl
    unfold ms_left_10 at h
    refine lv_istore (lv' := [(6, .int t0), (0, .ref (b + 0)), (1, .int v1), (2, .int v2), (4, .int v4), (5, .int v5)]) hx hb dX12_left_10 hl (by decide) rfl (fun ls hl => ?_)
    refine lv_aload_n hx hb dX12_left_12 rfl (lv_at hl 1 rfl) ?_
    refine lv_iload_n hx hb dX12_left_13 rfl (lv_at hl 2 rfl) ?_
    refine lv_iconst (v := 0) hx hb dX12_left_14 (by decide) ?_
    obtain ⟨f_2, wl_3, r_4, z_5, h⟩ := gb_bd_s h
    refine gb_calli (va_runV (C := RX12) (As := [.int v1, .int 0]) (rest := []) ⟨hx, hb, hml, hown, hq⟩ (mc_ofGoose l D cT tt b1 b hb1 n f w v1 0 f_2 wl_3 r_4 z_5) (cwV 2 hq (gb_gV w_1400 w_1402 s_4_8 w_14 w_1403) rfl rfl rfl (by decide +kernel) ⟨Nat.le_of_ble_eq_true rfl, Nat.le_of_ble_eq_true rfl⟩) (gb_preV (r := (RX12, TX12, 44)) (ci := 10) (q0 := 0) hSt hP rfl (gb_at b rfl) hS (fun q h => Nat.le_trans hb1 h.1) hP) rfl rfl hl.1 rfl (lv_room (Nat.le_of_ble_eq_true rfl)) dX12_left_15 ⟨Nat.le_of_ble_eq_true rfl, Nat.le_of_ble_eq_true rfl⟩) hS (fun _ h => h) (fun _ h => h) (fun q_6 H locs hY hk hS => ?_)
    obtain ⟨hq_6, hP⟩ := hY
    replace hq_6 := hq_6.symm
    subst hq_6
    refine lv_aload_n hx hb dX12_left_18 rfl (lv_at hl 1 rfl) ?_
    refine lv_iload_n hx hb dX12_left_19 rfl (lv_at hl 2 rfl) ?_
    refine lv_iconst (v := 1) hx hb dX12_left_20 (by decide) ?_
    obtain ⟨f_7, wl_8, r_9, z_10, h⟩ := gb_bd_s h
    refine gb_calli (va_runV (C := RX12) (As := [.int v1, .int 1]) (rest := [.int r_4]) ⟨hx, hb, hml, hown, hq⟩ (mc_ofGoose l D cT tt b1 b hb1 n f_2 wl_3 v1 1 f_7 wl_8 r_9 z_10) (cwV 2 hq (gb_gV w_1400 w_1402 s_4_8 w_14 w_1403) rfl rfl rfl (by decide +kernel) ⟨Nat.le_of_ble_eq_true rfl, Nat.le_of_ble_eq_true rfl⟩) (gb_preV (r := (RX12, TX12, 44)) (ci := 10) (q0 := 0) hSt hP rfl (gb_at b rfl) hS (fun q h => Nat.le_trans hb1 h.1) hP) rfl rfl hl.1 rfl (lv_room (Nat.le_of_ble_eq_true rfl)) dX12_left_21 ⟨Nat.le_of_ble_eq_true rfl, Nat.le_of_ble_eq_true rfl⟩) hS (fun _ h => h) (fun _ h => h) (fun q_11 H locs hY hk hS => ?_)
    obtain ⟨hq_11, hP⟩ := hY
    replace hq_11 := hq_11.symm
    subst hq_11
    refine lv_iadd hx hb dX12_left_24 ?_
    refine lv_topi (fun x_12 ex_12 => ?_)
    replace h := gb_lt_s ex_12 h
    refine lv_istore (lv' := [(7, .int x_12), (6, .int t0), (0, .ref (b + 0)), (1, .int v1), (2, .int v2), (4, .int v4), (5, .int v5)]) hx hb dX12_left_25 hl (by decide) rfl (fun ls hl => ?_)
    refine lv_iload hx hb dX12_left_27 (lv_at hl 5 rfl) ?_
    refine lv_if_eq (tgt := 36) hx hb dX12_left_29 (by decide) (fun c_13 => ?_) (fun c_13 => ?_)
    · rw [if_pos c_13] at h
      refine lv_iconst (v := 2) hx hb dX12_left_36 (by decide) ?_
      refine lv_iload hx hb dX12_left_37 (lv_at hl 1 rfl) ?_
      refine lv_imul hx hb dX12_left_39 ?_
      refine lv_iload hx hb dX12_left_40 (lv_at hl 0 rfl) ?_
      refine lv_iload_n hx hb dX12_left_42 rfl (lv_at hl 4 rfl) ?_
      refine lv_iload hx hb dX12_left_43 (lv_at hl 1 rfl) ?_
      refine lv_isub hx hb dX12_left_45 ?_
      refine lv_imul hx hb dX12_left_46 ?_
      refine lv_iadd hx hb dX12_left_47 ?_
      refine lv_iconst (v := 1) hx hb dX12_left_48 (by decide) ?_
      refine lv_iload hx hb dX12_left_49 (lv_at hl 6 rfl) ?_
      refine lv_iadd hx hb dX12_left_51 ?_
      refine lv_imul hx hb dX12_left_52 ?_
      obtain ⟨e1, e2, e3⟩ := gb_eq3 h
      exact W.iret (v := (((2 * t0) + (x_12 * (v2 - t0))) * (1 + v5))) hx hb hr (fun t ht hW => gb_ri ht ⟨e3, by rw [← e1, ← e2]; exact hP⟩ hS) hS.2.2 dX12_left_53
    · rw [if_neg c_13] at h
      refine lv_iconst (v := 0) hx hb dX12_left_32 (by decide) ?_
      refine lv_goto (tgt := 40) hx hb dX12_left_33 (by decide) ?_
      refine lv_iload hx hb dX12_left_40 (lv_at hl 0 rfl) ?_
      refine lv_iload_n hx hb dX12_left_42 rfl (lv_at hl 4 rfl) ?_
      refine lv_iload hx hb dX12_left_43 (lv_at hl 1 rfl) ?_
      refine lv_isub hx hb dX12_left_45 ?_
      refine lv_imul hx hb dX12_left_46 ?_
      refine lv_iadd hx hb dX12_left_47 ?_
      refine lv_iconst (v := 1) hx hb dX12_left_48 (by decide) ?_
      refine lv_iload hx hb dX12_left_49 (lv_at hl 6 rfl) ?_
      refine lv_iadd hx hb dX12_left_51 ?_
      refine lv_imul hx hb dX12_left_52 ?_
      obtain ⟨e1, e2, e3⟩ := gb_eq3 h
      exact W.iret (v := ((0 + (x_12 * (v2 - t0))) * (1 + v5))) hx hb hr (fun t ht hW => gb_ri ht ⟨e3, by rw [← e1, ← e2]; exact hP⟩ hS) hS.2.2 dX12_left_53
  unfold ms_left at h
  refine lv_iload_n hx hb dX12_left_0 rfl (lv_at hl 3 rfl) ?_
  refine lv_iload_n hx hb dX12_left_1 rfl (lv_at hl 2 rfl) ?_
  refine lv_icmp_ge (tgt := 9) hx hb dX12_left_2 (by decide) (fun c_1 => ?_) (fun c_1 => ?_)
  · rw [if_pos c_1] at h
    refine lv_iload_n hx hb dX12_left_9 rfl (lv_at hl 2 rfl) ?_
    exact L10 _ _ _ _ _ _ _ _ _ _ h hP hS (lv_sub hl [0, 1, 2, 4, 5] rfl)
  · rw [if_neg c_1] at h
    refine lv_iload_n hx hb dX12_left_5 rfl (lv_at hl 3 rfl) ?_
    refine lv_goto (tgt := 10) hx hb dX12_left_6 (by decide) ?_
    exact L10 _ _ _ _ _ _ _ _ _ _ h hP hS (lv_sub hl [0, 1, 2, 4, 5] rfl)
theorem dX12_firstMarks_0 : decode cX12_firstMarks 0 = .ok (.aload_n 0, 1) := dc_42 (show ((cX12_firstMarks.data.toList.drop 0).take 1).map UInt8.toNat = [42] by decide +kernel)
theorem dX12_firstMarks_1 : decode cX12_firstMarks 1 = .ok (.iload_n 1, 1) := dc_27 (show ((cX12_firstMarks.data.toList.drop 1).take 1).map UInt8.toNat = [27] by decide +kernel)
theorem dX12_firstMarks_2 : decode cX12_firstMarks 2 = .ok (.aload_n 0, 1) := dc_42 (show ((cX12_firstMarks.data.toList.drop 2).take 1).map UInt8.toNat = [42] by decide +kernel)
theorem dX12_firstMarks_3 : decode cX12_firstMarks 3 = .ok (.iload_n 2, 1) := dc_28 (show ((cX12_firstMarks.data.toList.drop 3).take 1).map UInt8.toNat = [28] by decide +kernel)
theorem dX12_firstMarks_4 : decode cX12_firstMarks 4 = .ok (.iconst 0, 1) := dc_3 (show ((cX12_firstMarks.data.toList.drop 4).take 1).map UInt8.toNat = [3] by decide +kernel)
theorem dX12_firstMarks_5 : decode cX12_firstMarks 5 = .ok (.invokevirtual 211, 3) := dc_182 (show ((cX12_firstMarks.data.toList.drop 5).take 3).map UInt8.toNat = [182, 0, 211] by decide +kernel) rfl
theorem dX12_firstMarks_8 : decode cX12_firstMarks 8 = .ok (.aload_n 0, 1) := dc_42 (show ((cX12_firstMarks.data.toList.drop 8).take 1).map UInt8.toNat = [42] by decide +kernel)
theorem dX12_firstMarks_9 : decode cX12_firstMarks 9 = .ok (.iload_n 1, 1) := dc_27 (show ((cX12_firstMarks.data.toList.drop 9).take 1).map UInt8.toNat = [27] by decide +kernel)
theorem dX12_firstMarks_10 : decode cX12_firstMarks 10 = .ok (.iconst 2, 1) := dc_5 (show ((cX12_firstMarks.data.toList.drop 10).take 1).map UInt8.toNat = [5] by decide +kernel)
theorem dX12_firstMarks_11 : decode cX12_firstMarks 11 = .ok (.invokevirtual 217, 3) := dc_182 (show ((cX12_firstMarks.data.toList.drop 11).take 3).map UInt8.toNat = [182, 0, 217] by decide +kernel) rfl
theorem dX12_firstMarks_14 : decode cX12_firstMarks 14 = .ok (.iconst 0, 1) := dc_3 (show ((cX12_firstMarks.data.toList.drop 14).take 1).map UInt8.toNat = [3] by decide +kernel)
theorem dX12_firstMarks_15 : decode cX12_firstMarks 15 = .ok (.aload_n 0, 1) := dc_42 (show ((cX12_firstMarks.data.toList.drop 15).take 1).map UInt8.toNat = [42] by decide +kernel)
theorem dX12_firstMarks_16 : decode cX12_firstMarks 16 = .ok (.iload_n 1, 1) := dc_27 (show ((cX12_firstMarks.data.toList.drop 16).take 1).map UInt8.toNat = [27] by decide +kernel)
theorem dX12_firstMarks_17 : decode cX12_firstMarks 17 = .ok (.iconst 3, 1) := dc_6 (show ((cX12_firstMarks.data.toList.drop 17).take 1).map UInt8.toNat = [6] by decide +kernel)
theorem dX12_firstMarks_18 : decode cX12_firstMarks 18 = .ok (.invokevirtual 217, 3) := dc_182 (show ((cX12_firstMarks.data.toList.drop 18).take 3).map UInt8.toNat = [182, 0, 217] by decide +kernel) rfl
theorem dX12_firstMarks_21 : decode cX12_firstMarks 21 = .ok (.invokevirtual 220, 3) := dc_182 (show ((cX12_firstMarks.data.toList.drop 21).take 3).map UInt8.toNat = [182, 0, 220] by decide +kernel) rfl
theorem w_1411 : (Cond.code ({ cls := "GooseBorderModel", name := "left", desc := "(IIIZI)I" } : MethodName) prog_14_method_40_code (8 : Nat) (Option.some FieldType.int)) ∈ gb_wA := gb_t6 211 rfl rfl
theorem w_1408 : (Cond.methodLink "GooseBorderModel" (220 : Nat) ({ cls := "GooseBorderModel", name := "left", desc := "(IIIZI)I" } : MethodName)) ∈ gb_wA := gb_t6 208 rfl rfl
theorem w_1410 : (Cond.instanceMethod ({ cls := "GooseBorderModel", name := "left", desc := "(IIIZI)I" } : MethodName)) ∈ gb_wA := gb_t6 210 rfl rfl
theorem s_4_9 : Cond.selects "GooseBorderModel" (⟨"GooseBorderModel", "left", "(IIIZI)I"⟩ : MethodName) (⟨"GooseBorderModel", "left", "(IIIZI)I"⟩ : MethodName) ∈ gb_wA := gb_s4 9 rfl rfl
theorem dX12_firstMarks_24 : decode cX12_firstMarks 24 = .ok (.ireturn, 1) := dc_172 (show ((cX12_firstMarks.data.toList.drop 24).take 1).map UInt8.toNat = [172] by decide +kernel)
def ms_firstMarks (n : Nat) (f : gb_F) (w : Int64) (p1 : Int32) (p2 : Int32) : gb_MR Int32 := gb_bd (ms_ofPath n f w p2 0) (fun f_1 wl_2 r_3 => gb_bd (ms_ofGoose n f_1 wl_2 p1 2) (fun f_6 wl_7 r_8 => gb_bd (ms_ofGoose n f_6 wl_7 p1 3) (fun f_11 wl_12 r_13 => gb_bd (ms_left n f_11 wl_12 p1 r_3 r_8 0 r_13) (fun f_16 wl_17 r_18 => some (f_16, wl_17, r_18)))))
set_option maxHeartbeats 8000000 in
set_option maxRecDepth 100000 in
theorem mc_firstMarks (l : Launch) (D : va_G) (cT : Nat → ClassId) (tt : Nat → Nat) (b1 b : Nat) (hb1 : b1 ≤ b) (n : Nat) (f : gb_F) (w : Int64) (p1 : Int32) (p2 : Int32) (fE : gb_F) (wE : Int64) (rE : Int32) (h : ms_firstMarks n f w p1 p2 = some (fE, wE, rE)) : Met l yX12_firstMarks (.code yX12_firstMarks cX12_firstMarks 3 (some FieldType.int) :: gb_wA) ({ frames := 3, cells := 0, slots := 0, locals := 70 }) (gb_Pc D cT tt b1 [.ref (b + 0), .int p1, .int p2] (fun h => va_P D vwCl (gb_wl b (gb_MW cT b f w)) h)) (gb_Qi (fun r h => r = rE ∧ va_P D vwCl (gb_wl b (gb_MW cT b fE wE)) h) (gb_fr b 22)) 0 0 (gb_fr b 22) := by
  refine Met.ofW (cc := cX12_firstMarks) (maxL := 3) (ret := (some FieldType.int)) (by decide) rfl ?_
  intro p e s m args below meth c s₁ B hml hv
  obtain ⟨rfl, hSt, hP⟩ := hv
  have hx := B.exec
  have hb := B.bytes
  have hr := B.returns
  have hts := atoms_spec (ws := .code yX12_firstMarks cX12_firstMarks 3 (some FieldType.int) :: gb_wA) B.pre
  have hq : ∀ w ∈ gb_wA, w.before _ s = true := fun w h => hts w (List.mem_cons_of_mem _ h)
  have hown : s.vm.findClass RX12 = some m.cls := findClass_of_methodNamed B.named
  have hlocks := B.notSynchronized
  clear B hts
  have hK := hSt.1
  have hS : va_S (gb_fr b 22) s.heap s.heap [] := va_S.rf
  have hl := lv_entry ([.ref (b + 0), .int p1, .int p2]) (n := 3) (Nat.le_of_ble_eq_true rfl)
  rw [lg_entry_eq]
  generalize (lg_sl ([.ref (b + 0), .int p1, .int p2]) ++ List.replicate (3 - (lg_sl ([.ref (b + 0), .int p1, .int p2])).length) Slot.unset).toArray = ls at hl ⊢
  replace hl : lv_has ls 3 [(0, .ref (b + 0)), (1, .int p1), (2, .int p2)] := hl
  unfold ms_firstMarks at h
  refine lv_aload_n hx hb dX12_firstMarks_0 rfl (lv_at hl 0 rfl) ?_
  refine lv_iload_n hx hb dX12_firstMarks_1 rfl (lv_at hl 1 rfl) ?_
  refine lv_aload_n hx hb dX12_firstMarks_2 rfl (lv_at hl 0 rfl) ?_
  refine lv_iload_n hx hb dX12_firstMarks_3 rfl (lv_at hl 2 rfl) ?_
  refine lv_iconst (v := 0) hx hb dX12_firstMarks_4 (by decide) ?_
  obtain ⟨f_1, wl_2, r_3, z_4, h⟩ := gb_bd_s h
  refine gb_calli (va_runV (C := RX12) (As := [.int p2, .int 0]) (rest := [.int p1, .ref (b + 0)]) ⟨hx, hb, hml, hown, hq⟩ (mc_ofPath l D cT tt b1 b hb1 n f w p2 0 f_1 wl_2 r_3 z_4) (cwV 2 hq (gb_gV w_1388 w_1390 s_4_5 w_14 w_1391) rfl rfl rfl (by decide +kernel) ⟨Nat.le_of_ble_eq_true rfl, Nat.le_of_ble_eq_true rfl⟩) (gb_preV (r := (RX12, TX12, 44)) (ci := 10) (q0 := 0) hSt hP rfl (gb_at b rfl) hS (fun q h => Nat.le_trans hb1 h.1) hP) rfl rfl hl.1 rfl (lv_room (Nat.le_of_ble_eq_true rfl)) dX12_firstMarks_5 ⟨Nat.le_of_ble_eq_true rfl, Nat.le_of_ble_eq_true rfl⟩) hS (fun _ h => h) (fun _ h => h) (fun q_5 H locs hY hk hS => ?_)
  obtain ⟨hq_5, hP⟩ := hY
  replace hq_5 := hq_5.symm
  subst hq_5
  refine lv_aload_n hx hb dX12_firstMarks_8 rfl (lv_at hl 0 rfl) ?_
  refine lv_iload_n hx hb dX12_firstMarks_9 rfl (lv_at hl 1 rfl) ?_
  refine lv_iconst (v := 2) hx hb dX12_firstMarks_10 (by decide) ?_
  obtain ⟨f_6, wl_7, r_8, z_9, h⟩ := gb_bd_s h
  refine gb_calli (va_runV (C := RX12) (As := [.int p1, .int 2]) (rest := [.int r_3, .int p1, .ref (b + 0)]) ⟨hx, hb, hml, hown, hq⟩ (mc_ofGoose l D cT tt b1 b hb1 n f_1 wl_2 p1 2 f_6 wl_7 r_8 z_9) (cwV 2 hq (gb_gV w_1400 w_1402 s_4_8 w_14 w_1403) rfl rfl rfl (by decide +kernel) ⟨Nat.le_of_ble_eq_true rfl, Nat.le_of_ble_eq_true rfl⟩) (gb_preV (r := (RX12, TX12, 44)) (ci := 10) (q0 := 0) hSt hP rfl (gb_at b rfl) hS (fun q h => Nat.le_trans hb1 h.1) hP) rfl rfl hl.1 rfl (lv_room (Nat.le_of_ble_eq_true rfl)) dX12_firstMarks_11 ⟨Nat.le_of_ble_eq_true rfl, Nat.le_of_ble_eq_true rfl⟩) hS (fun _ h => h) (fun _ h => h) (fun q_10 H locs hY hk hS => ?_)
  obtain ⟨hq_10, hP⟩ := hY
  replace hq_10 := hq_10.symm
  subst hq_10
  refine lv_iconst (v := 0) hx hb dX12_firstMarks_14 (by decide) ?_
  refine lv_aload_n hx hb dX12_firstMarks_15 rfl (lv_at hl 0 rfl) ?_
  refine lv_iload_n hx hb dX12_firstMarks_16 rfl (lv_at hl 1 rfl) ?_
  refine lv_iconst (v := 3) hx hb dX12_firstMarks_17 (by decide) ?_
  obtain ⟨f_11, wl_12, r_13, z_14, h⟩ := gb_bd_s h
  refine gb_calli (va_runV (C := RX12) (As := [.int p1, .int 3]) (rest := [.int 0, .int r_8, .int r_3, .int p1, .ref (b + 0)]) ⟨hx, hb, hml, hown, hq⟩ (mc_ofGoose l D cT tt b1 b hb1 n f_6 wl_7 p1 3 f_11 wl_12 r_13 z_14) (cwV 2 hq (gb_gV w_1400 w_1402 s_4_8 w_14 w_1403) rfl rfl rfl (by decide +kernel) ⟨Nat.le_of_ble_eq_true rfl, Nat.le_of_ble_eq_true rfl⟩) (gb_preV (r := (RX12, TX12, 44)) (ci := 10) (q0 := 0) hSt hP rfl (gb_at b rfl) hS (fun q h => Nat.le_trans hb1 h.1) hP) rfl rfl hl.1 rfl (lv_room (Nat.le_of_ble_eq_true rfl)) dX12_firstMarks_18 ⟨Nat.le_of_ble_eq_true rfl, Nat.le_of_ble_eq_true rfl⟩) hS (fun _ h => h) (fun _ h => h) (fun q_15 H locs hY hk hS => ?_)
  obtain ⟨hq_15, hP⟩ := hY
  replace hq_15 := hq_15.symm
  subst hq_15
  obtain ⟨f_16, wl_17, r_18, z_19, h⟩ := gb_bd_s h
  refine gb_calli (va_runV (C := RX12) (As := [.int p1, .int r_3, .int r_8, .int 0, .int r_13]) (rest := []) ⟨hx, hb, hml, hown, hq⟩ (mc_left l D cT tt b1 b hb1 n f_11 wl_12 p1 r_3 r_8 0 r_13 f_16 wl_17 r_18 z_19) (cwV 5 hq (gb_gV w_1408 w_1410 s_4_9 w_14 w_1411) rfl rfl rfl (by decide +kernel) ⟨Nat.le_of_ble_eq_true rfl, Nat.le_of_ble_eq_true rfl⟩) (gb_preV (r := (RX12, TX12, 44)) (ci := 10) (q0 := 0) hSt hP rfl (gb_at b rfl) hS (fun q h => Nat.le_trans hb1 h.1) hP) rfl rfl hl.1 rfl (lv_room (Nat.le_of_ble_eq_true rfl)) dX12_firstMarks_21 ⟨Nat.le_of_ble_eq_true rfl, Nat.le_of_ble_eq_true rfl⟩) hS (fun _ h => h) (fun _ h => h) (fun q_20 H locs hY hk hS => ?_)
  obtain ⟨hq_20, hP⟩ := hY
  replace hq_20 := hq_20.symm
  subst hq_20
  obtain ⟨e1, e2, e3⟩ := gb_eq3 h
  exact W.iret (v := r_18) hx hb hr (fun t ht hW => gb_ri ht ⟨e3, by rw [← e1, ← e2]; exact hP⟩ hS) hS.2.2 dX12_firstMarks_24
theorem dX12_marks_0 : decode cX12_marks 0 = .ok (.aload_n 0, 1) := dc_42 (show ((cX12_marks.data.toList.drop 0).take 1).map UInt8.toNat = [42] by decide +kernel)
theorem dX12_marks_1 : decode cX12_marks 1 = .ok (.iload_n 1, 1) := dc_27 (show ((cX12_marks.data.toList.drop 1).take 1).map UInt8.toNat = [27] by decide +kernel)
theorem dX12_marks_2 : decode cX12_marks 2 = .ok (.invokevirtual 205, 3) := dc_182 (show ((cX12_marks.data.toList.drop 2).take 3).map UInt8.toNat = [182, 0, 205] by decide +kernel) rfl
theorem dX12_marks_5 : decode cX12_marks 5 = .ok (.ifCond .eq 47, 3) := dc_153 (show ((cX12_marks.data.toList.drop 5).take 3).map UInt8.toNat = [153, 0, 47] by decide +kernel) rfl
theorem dX12_marks_52 : decode cX12_marks 52 = .ok (.iconst (-1), 1) := dc_2 (show ((cX12_marks.data.toList.drop 52).take 1).map UInt8.toNat = [2] by decide +kernel)
theorem dX12_marks_53 : decode cX12_marks 53 = .ok (.ireturn, 1) := dc_172 (show ((cX12_marks.data.toList.drop 53).take 1).map UInt8.toNat = [172] by decide +kernel)
theorem dX12_marks_8 : decode cX12_marks 8 = .ok (.aload_n 0, 1) := dc_42 (show ((cX12_marks.data.toList.drop 8).take 1).map UInt8.toNat = [42] by decide +kernel)
theorem dX12_marks_9 : decode cX12_marks 9 = .ok (.iload_n 2, 1) := dc_28 (show ((cX12_marks.data.toList.drop 9).take 1).map UInt8.toNat = [28] by decide +kernel)
theorem dX12_marks_10 : decode cX12_marks 10 = .ok (.invokevirtual 214, 3) := dc_182 (show ((cX12_marks.data.toList.drop 10).take 3).map UInt8.toNat = [182, 0, 214] by decide +kernel) rfl
theorem dX12_marks_13 : decode cX12_marks 13 = .ok (.ifCond .eq 39, 3) := dc_153 (show ((cX12_marks.data.toList.drop 13).take 3).map UInt8.toNat = [153, 0, 39] by decide +kernel) rfl
theorem dX12_marks_16 : decode cX12_marks 16 = .ok (.aload_n 0, 1) := dc_42 (show ((cX12_marks.data.toList.drop 16).take 1).map UInt8.toNat = [42] by decide +kernel)
theorem dX12_marks_17 : decode cX12_marks 17 = .ok (.iload_n 3, 1) := dc_29 (show ((cX12_marks.data.toList.drop 17).take 1).map UInt8.toNat = [29] by decide +kernel)
theorem dX12_marks_18 : decode cX12_marks 18 = .ok (.invokevirtual 208, 3) := dc_182 (show ((cX12_marks.data.toList.drop 18).take 3).map UInt8.toNat = [182, 0, 208] by decide +kernel) rfl
theorem dX12_marks_21 : decode cX12_marks 21 = .ok (.ifCond .eq 31, 3) := dc_153 (show ((cX12_marks.data.toList.drop 21).take 3).map UInt8.toNat = [153, 0, 31] by decide +kernel) rfl
theorem dX12_marks_24 : decode cX12_marks 24 = .ok (.aload_n 0, 1) := dc_42 (show ((cX12_marks.data.toList.drop 24).take 1).map UInt8.toNat = [42] by decide +kernel)
theorem dX12_marks_25 : decode cX12_marks 25 = .ok (.iload_n 2, 1) := dc_28 (show ((cX12_marks.data.toList.drop 25).take 1).map UInt8.toNat = [28] by decide +kernel)
theorem dX12_marks_26 : decode cX12_marks 26 = .ok (.aload_n 0, 1) := dc_42 (show ((cX12_marks.data.toList.drop 26).take 1).map UInt8.toNat = [42] by decide +kernel)
theorem dX12_marks_27 : decode cX12_marks 27 = .ok (.iload_n 3, 1) := dc_29 (show ((cX12_marks.data.toList.drop 27).take 1).map UInt8.toNat = [29] by decide +kernel)
theorem dX12_marks_28 : decode cX12_marks 28 = .ok (.iconst 0, 1) := dc_3 (show ((cX12_marks.data.toList.drop 28).take 1).map UInt8.toNat = [3] by decide +kernel)
theorem dX12_marks_29 : decode cX12_marks 29 = .ok (.invokevirtual 211, 3) := dc_182 (show ((cX12_marks.data.toList.drop 29).take 3).map UInt8.toNat = [182, 0, 211] by decide +kernel) rfl
theorem dX12_marks_32 : decode cX12_marks 32 = .ok (.aload_n 0, 1) := dc_42 (show ((cX12_marks.data.toList.drop 32).take 1).map UInt8.toNat = [42] by decide +kernel)
theorem dX12_marks_33 : decode cX12_marks 33 = .ok (.iload_n 2, 1) := dc_28 (show ((cX12_marks.data.toList.drop 33).take 1).map UInt8.toNat = [28] by decide +kernel)
theorem dX12_marks_34 : decode cX12_marks 34 = .ok (.iconst 2, 1) := dc_5 (show ((cX12_marks.data.toList.drop 34).take 1).map UInt8.toNat = [5] by decide +kernel)
theorem dX12_marks_35 : decode cX12_marks 35 = .ok (.invokevirtual 217, 3) := dc_182 (show ((cX12_marks.data.toList.drop 35).take 3).map UInt8.toNat = [182, 0, 217] by decide +kernel) rfl
theorem dX12_marks_38 : decode cX12_marks 38 = .ok (.iload 4, 2) := dc_21 (show ((cX12_marks.data.toList.drop 38).take 2).map UInt8.toNat = [21, 4] by decide +kernel) rfl
theorem dX12_marks_40 : decode cX12_marks 40 = .ok (.aload_n 0, 1) := dc_42 (show ((cX12_marks.data.toList.drop 40).take 1).map UInt8.toNat = [42] by decide +kernel)
theorem dX12_marks_41 : decode cX12_marks 41 = .ok (.iload_n 2, 1) := dc_28 (show ((cX12_marks.data.toList.drop 41).take 1).map UInt8.toNat = [28] by decide +kernel)
theorem dX12_marks_42 : decode cX12_marks 42 = .ok (.iconst 3, 1) := dc_6 (show ((cX12_marks.data.toList.drop 42).take 1).map UInt8.toNat = [6] by decide +kernel)
theorem dX12_marks_43 : decode cX12_marks 43 = .ok (.invokevirtual 217, 3) := dc_182 (show ((cX12_marks.data.toList.drop 43).take 3).map UInt8.toNat = [182, 0, 217] by decide +kernel) rfl
theorem dX12_marks_46 : decode cX12_marks 46 = .ok (.invokevirtual 220, 3) := dc_182 (show ((cX12_marks.data.toList.drop 46).take 3).map UInt8.toNat = [182, 0, 220] by decide +kernel) rfl
theorem dX12_marks_49 : decode cX12_marks 49 = .ok (.goto 4, 3) := dc_167 (show ((cX12_marks.data.toList.drop 49).take 3).map UInt8.toNat = [167, 0, 4] by decide +kernel) rfl
def ms_marks (n : Nat) (f : gb_F) (w : Int64) (p1 : Int32) (p2 : Int32) (p3 : Int32) (p4 : Int32) : gb_MR Int32 := gb_bd (ms_isBorder n f w p1) (fun f_1 wl_2 r_3 => (if r_3 = 0 then some (f_1, wl_2, (-1)) else gb_bd (ms_isGoose n f_1 wl_2 p2) (fun f_7 wl_8 r_9 => (if r_9 = 0 then some (f_7, wl_8, (-1)) else gb_bd (ms_isPath n f_7 wl_8 p3) (fun f_13 wl_14 r_15 => (if r_15 = 0 then some (f_13, wl_14, (-1)) else gb_bd (ms_ofPath n f_13 wl_14 p3 0) (fun f_19 wl_20 r_21 => gb_bd (ms_ofGoose n f_19 wl_20 p2 2) (fun f_24 wl_25 r_26 => gb_bd (ms_ofGoose n f_24 wl_25 p2 3) (fun f_29 wl_30 r_31 => gb_bd (ms_left n f_29 wl_30 p2 r_21 r_26 p4 r_31) (fun f_34 wl_35 r_36 => some (f_34, wl_35, r_36)))))))))))
set_option maxHeartbeats 8000000 in
set_option maxRecDepth 100000 in
theorem mc_marks (l : Launch) (D : va_G) (cT : Nat → ClassId) (tt : Nat → Nat) (b1 b : Nat) (hb1 : b1 ≤ b) (n : Nat) (f : gb_F) (w : Int64) (p1 : Int32) (p2 : Int32) (p3 : Int32) (p4 : Int32) (fE : gb_F) (wE : Int64) (rE : Int32) (h : ms_marks n f w p1 p2 p3 p4 = some (fE, wE, rE)) : Met l yX12_marks (.code yX12_marks cX12_marks 5 (some FieldType.int) :: gb_wA) ({ frames := 3, cells := 0, slots := 0, locals := 70 }) (gb_Pc D cT tt b1 [.ref (b + 0), .int p1, .int p2, .int p3, .int p4] (fun h => va_P D vwCl (gb_wl b (gb_MW cT b f w)) h)) (gb_Qi (fun r h => r = rE ∧ va_P D vwCl (gb_wl b (gb_MW cT b fE wE)) h) (gb_fr b 22)) 0 0 (gb_fr b 22) := by
  refine Met.ofW (cc := cX12_marks) (maxL := 5) (ret := (some FieldType.int)) (by decide) rfl ?_
  intro p e s m args below meth c s₁ B hml hv
  obtain ⟨rfl, hSt, hP⟩ := hv
  have hx := B.exec
  have hb := B.bytes
  have hr := B.returns
  have hts := atoms_spec (ws := .code yX12_marks cX12_marks 5 (some FieldType.int) :: gb_wA) B.pre
  have hq : ∀ w ∈ gb_wA, w.before _ s = true := fun w h => hts w (List.mem_cons_of_mem _ h)
  have hown : s.vm.findClass RX12 = some m.cls := findClass_of_methodNamed B.named
  have hlocks := B.notSynchronized
  clear B hts
  have hK := hSt.1
  have hS : va_S (gb_fr b 22) s.heap s.heap [] := va_S.rf
  have hl := lv_entry ([.ref (b + 0), .int p1, .int p2, .int p3, .int p4]) (n := 5) (Nat.le_of_ble_eq_true rfl)
  rw [lg_entry_eq]
  generalize (lg_sl ([.ref (b + 0), .int p1, .int p2, .int p3, .int p4]) ++ List.replicate (5 - (lg_sl ([.ref (b + 0), .int p1, .int p2, .int p3, .int p4])).length) Slot.unset).toArray = ls at hl ⊢
  replace hl : lv_has ls 5 [(0, .ref (b + 0)), (1, .int p1), (2, .int p2), (3, .int p3), (4, .int p4)] := hl
  unfold ms_marks at h
  refine lv_aload_n hx hb dX12_marks_0 rfl (lv_at hl 0 rfl) ?_
  refine lv_iload_n hx hb dX12_marks_1 rfl (lv_at hl 1 rfl) ?_
  obtain ⟨f_1, wl_2, r_3, z_4, h⟩ := gb_bd_s h
  refine gb_calli (va_runV (C := RX12) (As := [.int p1]) (rest := []) ⟨hx, hb, hml, hown, hq⟩ (mc_isBorder l D cT tt b1 b hb1 n f w p1 f_1 wl_2 r_3 z_4) (cwV 1 hq (gb_gV w_1372 w_1374 s_4_1 w_14 w_1375) rfl rfl rfl (by decide +kernel) ⟨Nat.le_of_ble_eq_true rfl, Nat.le_of_ble_eq_true rfl⟩) (gb_preV (r := (RX12, TX12, 44)) (ci := 10) (q0 := 0) hSt hP rfl (gb_at b rfl) hS (fun q h => Nat.le_trans hb1 h.1) hP) rfl rfl hl.1 rfl (lv_room (Nat.le_of_ble_eq_true rfl)) dX12_marks_2 ⟨Nat.le_of_ble_eq_true rfl, Nat.le_of_ble_eq_true rfl⟩) hS (fun _ h => h) (fun _ h => h) (fun q_5 H locs hY hk hS => ?_)
  obtain ⟨hq_5, hP⟩ := hY
  replace hq_5 := hq_5.symm
  subst hq_5
  refine lv_if_eq (tgt := 52) hx hb dX12_marks_5 (by decide) (fun c_6 => ?_) (fun c_6 => ?_)
  · rw [if_pos c_6] at h
    refine lv_iconst (v := (-1)) hx hb dX12_marks_52 (by decide) ?_
    obtain ⟨e1, e2, e3⟩ := gb_eq3 h
    exact W.iret (v := (-1)) hx hb hr (fun t ht hW => gb_ri ht ⟨e3, by rw [← e1, ← e2]; exact hP⟩ hS) hS.2.2 dX12_marks_53
  · rw [if_neg c_6] at h
    refine lv_aload_n hx hb dX12_marks_8 rfl (lv_at hl 0 rfl) ?_
    refine lv_iload_n hx hb dX12_marks_9 rfl (lv_at hl 2 rfl) ?_
    obtain ⟨f_7, wl_8, r_9, z_10, h⟩ := gb_bd_s h
    refine gb_calli (va_runV (C := RX12) (As := [.int p2]) (rest := []) ⟨hx, hb, hml, hown, hq⟩ (mc_isGoose l D cT tt b1 b hb1 n f_1 wl_2 p2 f_7 wl_8 r_9 z_10) (cwV 1 hq (gb_gV w_1392 w_1394 s_4_6 w_14 w_1395) rfl rfl rfl (by decide +kernel) ⟨Nat.le_of_ble_eq_true rfl, Nat.le_of_ble_eq_true rfl⟩) (gb_preV (r := (RX12, TX12, 44)) (ci := 10) (q0 := 0) hSt hP rfl (gb_at b rfl) hS (fun q h => Nat.le_trans hb1 h.1) hP) rfl rfl hl.1 rfl (lv_room (Nat.le_of_ble_eq_true rfl)) dX12_marks_10 ⟨Nat.le_of_ble_eq_true rfl, Nat.le_of_ble_eq_true rfl⟩) hS (fun _ h => h) (fun _ h => h) (fun q_11 H locs hY hk hS => ?_)
    obtain ⟨hq_11, hP⟩ := hY
    replace hq_11 := hq_11.symm
    subst hq_11
    refine lv_if_eq (tgt := 52) hx hb dX12_marks_13 (by decide) (fun c_12 => ?_) (fun c_12 => ?_)
    · rw [if_pos c_12] at h
      refine lv_iconst (v := (-1)) hx hb dX12_marks_52 (by decide) ?_
      obtain ⟨e1, e2, e3⟩ := gb_eq3 h
      exact W.iret (v := (-1)) hx hb hr (fun t ht hW => gb_ri ht ⟨e3, by rw [← e1, ← e2]; exact hP⟩ hS) hS.2.2 dX12_marks_53
    · rw [if_neg c_12] at h
      refine lv_aload_n hx hb dX12_marks_16 rfl (lv_at hl 0 rfl) ?_
      refine lv_iload_n hx hb dX12_marks_17 rfl (lv_at hl 3 rfl) ?_
      obtain ⟨f_13, wl_14, r_15, z_16, h⟩ := gb_bd_s h
      refine gb_calli (va_runV (C := RX12) (As := [.int p3]) (rest := []) ⟨hx, hb, hml, hown, hq⟩ (mc_isPath l D cT tt b1 b hb1 n f_7 wl_8 p3 f_13 wl_14 r_15 z_16) (cwV 1 hq (gb_gV w_1380 w_1382 s_4_3 w_14 w_1383) rfl rfl rfl (by decide +kernel) ⟨Nat.le_of_ble_eq_true rfl, Nat.le_of_ble_eq_true rfl⟩) (gb_preV (r := (RX12, TX12, 44)) (ci := 10) (q0 := 0) hSt hP rfl (gb_at b rfl) hS (fun q h => Nat.le_trans hb1 h.1) hP) rfl rfl hl.1 rfl (lv_room (Nat.le_of_ble_eq_true rfl)) dX12_marks_18 ⟨Nat.le_of_ble_eq_true rfl, Nat.le_of_ble_eq_true rfl⟩) hS (fun _ h => h) (fun _ h => h) (fun q_17 H locs hY hk hS => ?_)
      obtain ⟨hq_17, hP⟩ := hY
      replace hq_17 := hq_17.symm
      subst hq_17
      refine lv_if_eq (tgt := 52) hx hb dX12_marks_21 (by decide) (fun c_18 => ?_) (fun c_18 => ?_)
      · rw [if_pos c_18] at h
        refine lv_iconst (v := (-1)) hx hb dX12_marks_52 (by decide) ?_
        obtain ⟨e1, e2, e3⟩ := gb_eq3 h
        exact W.iret (v := (-1)) hx hb hr (fun t ht hW => gb_ri ht ⟨e3, by rw [← e1, ← e2]; exact hP⟩ hS) hS.2.2 dX12_marks_53
      · rw [if_neg c_18] at h
        refine lv_aload_n hx hb dX12_marks_24 rfl (lv_at hl 0 rfl) ?_
        refine lv_iload_n hx hb dX12_marks_25 rfl (lv_at hl 2 rfl) ?_
        refine lv_aload_n hx hb dX12_marks_26 rfl (lv_at hl 0 rfl) ?_
        refine lv_iload_n hx hb dX12_marks_27 rfl (lv_at hl 3 rfl) ?_
        refine lv_iconst (v := 0) hx hb dX12_marks_28 (by decide) ?_
        obtain ⟨f_19, wl_20, r_21, z_22, h⟩ := gb_bd_s h
        refine gb_calli (va_runV (C := RX12) (As := [.int p3, .int 0]) (rest := [.int p2, .ref (b + 0)]) ⟨hx, hb, hml, hown, hq⟩ (mc_ofPath l D cT tt b1 b hb1 n f_13 wl_14 p3 0 f_19 wl_20 r_21 z_22) (cwV 2 hq (gb_gV w_1388 w_1390 s_4_5 w_14 w_1391) rfl rfl rfl (by decide +kernel) ⟨Nat.le_of_ble_eq_true rfl, Nat.le_of_ble_eq_true rfl⟩) (gb_preV (r := (RX12, TX12, 44)) (ci := 10) (q0 := 0) hSt hP rfl (gb_at b rfl) hS (fun q h => Nat.le_trans hb1 h.1) hP) rfl rfl hl.1 rfl (lv_room (Nat.le_of_ble_eq_true rfl)) dX12_marks_29 ⟨Nat.le_of_ble_eq_true rfl, Nat.le_of_ble_eq_true rfl⟩) hS (fun _ h => h) (fun _ h => h) (fun q_23 H locs hY hk hS => ?_)
        obtain ⟨hq_23, hP⟩ := hY
        replace hq_23 := hq_23.symm
        subst hq_23
        refine lv_aload_n hx hb dX12_marks_32 rfl (lv_at hl 0 rfl) ?_
        refine lv_iload_n hx hb dX12_marks_33 rfl (lv_at hl 2 rfl) ?_
        refine lv_iconst (v := 2) hx hb dX12_marks_34 (by decide) ?_
        obtain ⟨f_24, wl_25, r_26, z_27, h⟩ := gb_bd_s h
        refine gb_calli (va_runV (C := RX12) (As := [.int p2, .int 2]) (rest := [.int r_21, .int p2, .ref (b + 0)]) ⟨hx, hb, hml, hown, hq⟩ (mc_ofGoose l D cT tt b1 b hb1 n f_19 wl_20 p2 2 f_24 wl_25 r_26 z_27) (cwV 2 hq (gb_gV w_1400 w_1402 s_4_8 w_14 w_1403) rfl rfl rfl (by decide +kernel) ⟨Nat.le_of_ble_eq_true rfl, Nat.le_of_ble_eq_true rfl⟩) (gb_preV (r := (RX12, TX12, 44)) (ci := 10) (q0 := 0) hSt hP rfl (gb_at b rfl) hS (fun q h => Nat.le_trans hb1 h.1) hP) rfl rfl hl.1 rfl (lv_room (Nat.le_of_ble_eq_true rfl)) dX12_marks_35 ⟨Nat.le_of_ble_eq_true rfl, Nat.le_of_ble_eq_true rfl⟩) hS (fun _ h => h) (fun _ h => h) (fun q_28 H locs hY hk hS => ?_)
        obtain ⟨hq_28, hP⟩ := hY
        replace hq_28 := hq_28.symm
        subst hq_28
        refine lv_iload hx hb dX12_marks_38 (lv_at hl 4 rfl) ?_
        refine lv_aload_n hx hb dX12_marks_40 rfl (lv_at hl 0 rfl) ?_
        refine lv_iload_n hx hb dX12_marks_41 rfl (lv_at hl 2 rfl) ?_
        refine lv_iconst (v := 3) hx hb dX12_marks_42 (by decide) ?_
        obtain ⟨f_29, wl_30, r_31, z_32, h⟩ := gb_bd_s h
        refine gb_calli (va_runV (C := RX12) (As := [.int p2, .int 3]) (rest := [.int p4, .int r_26, .int r_21, .int p2, .ref (b + 0)]) ⟨hx, hb, hml, hown, hq⟩ (mc_ofGoose l D cT tt b1 b hb1 n f_24 wl_25 p2 3 f_29 wl_30 r_31 z_32) (cwV 2 hq (gb_gV w_1400 w_1402 s_4_8 w_14 w_1403) rfl rfl rfl (by decide +kernel) ⟨Nat.le_of_ble_eq_true rfl, Nat.le_of_ble_eq_true rfl⟩) (gb_preV (r := (RX12, TX12, 44)) (ci := 10) (q0 := 0) hSt hP rfl (gb_at b rfl) hS (fun q h => Nat.le_trans hb1 h.1) hP) rfl rfl hl.1 rfl (lv_room (Nat.le_of_ble_eq_true rfl)) dX12_marks_43 ⟨Nat.le_of_ble_eq_true rfl, Nat.le_of_ble_eq_true rfl⟩) hS (fun _ h => h) (fun _ h => h) (fun q_33 H locs hY hk hS => ?_)
        obtain ⟨hq_33, hP⟩ := hY
        replace hq_33 := hq_33.symm
        subst hq_33
        obtain ⟨f_34, wl_35, r_36, z_37, h⟩ := gb_bd_s h
        refine gb_calli (va_runV (C := RX12) (As := [.int p2, .int r_21, .int r_26, .int p4, .int r_31]) (rest := []) ⟨hx, hb, hml, hown, hq⟩ (mc_left l D cT tt b1 b hb1 n f_29 wl_30 p2 r_21 r_26 p4 r_31 f_34 wl_35 r_36 z_37) (cwV 5 hq (gb_gV w_1408 w_1410 s_4_9 w_14 w_1411) rfl rfl rfl (by decide +kernel) ⟨Nat.le_of_ble_eq_true rfl, Nat.le_of_ble_eq_true rfl⟩) (gb_preV (r := (RX12, TX12, 44)) (ci := 10) (q0 := 0) hSt hP rfl (gb_at b rfl) hS (fun q h => Nat.le_trans hb1 h.1) hP) rfl rfl hl.1 rfl (lv_room (Nat.le_of_ble_eq_true rfl)) dX12_marks_46 ⟨Nat.le_of_ble_eq_true rfl, Nat.le_of_ble_eq_true rfl⟩) hS (fun _ h => h) (fun _ h => h) (fun q_38 H locs hY hk hS => ?_)
        obtain ⟨hq_38, hP⟩ := hY
        replace hq_38 := hq_38.symm
        subst hq_38
        refine lv_goto (tgt := 53) hx hb dX12_marks_49 (by decide) ?_
        obtain ⟨e1, e2, e3⟩ := gb_eq3 h
        exact W.iret (v := r_36) hx hb hr (fun t ht hW => gb_ri ht ⟨e3, by rw [← e1, ← e2]; exact hP⟩ hS) hS.2.2 dX12_marks_53
theorem dX12_deeds_0 : decode cX12_deeds 0 = .ok (.aload_n 0, 1) := dc_42 (show ((cX12_deeds.data.toList.drop 0).take 1).map UInt8.toNat = [42] by decide +kernel)
theorem dX12_deeds_1 : decode cX12_deeds 1 = .ok (.getfield 7, 3) := dc_180 (show ((cX12_deeds.data.toList.drop 1).take 3).map UInt8.toNat = [180, 0, 7] by decide +kernel) rfl
theorem dX12_deeds_4 : decode cX12_deeds 4 = .ok (.aload_n 0, 1) := dc_42 (show ((cX12_deeds.data.toList.drop 4).take 1).map UInt8.toNat = [42] by decide +kernel)
theorem dX12_deeds_5 : decode cX12_deeds 5 = .ok (.getfield 224, 3) := dc_180 (show ((cX12_deeds.data.toList.drop 5).take 3).map UInt8.toNat = [180, 0, 224] by decide +kernel) rfl
theorem w_1136 : (Cond.fieldLink "GooseBorderModel" (224 : Nat) "GooseBorderModel" "n0" "I") ∈ gb_wA := gb_t5 176 rfl rfl
theorem dX12_deeds_8 : decode cX12_deeds 8 = .ok (.iaload, 1) := dc_46 (show ((cX12_deeds.data.toList.drop 8).take 1).map UInt8.toNat = [46] by decide +kernel)
theorem dX12_deeds_9 : decode cX12_deeds 9 = .ok (.ireturn, 1) := dc_172 (show ((cX12_deeds.data.toList.drop 9).take 1).map UInt8.toNat = [172] by decide +kernel)
def ms_deeds (n : Nat) (f : gb_F) (w : Int64) : gb_MR Int32 := gb_ck (f 0 12) 3968 (gb_lt (f 1 (Int32.toNatClampNeg (f 0 12))) (fun x_2 => some (f, w, x_2)))
set_option maxHeartbeats 8000000 in
set_option maxRecDepth 100000 in
theorem mc_deeds (l : Launch) (D : va_G) (cT : Nat → ClassId) (tt : Nat → Nat) (b1 b : Nat) (hb1 : b1 ≤ b) (n : Nat) (f : gb_F) (w : Int64) (fE : gb_F) (wE : Int64) (rE : Int32) (h : ms_deeds n f w = some (fE, wE, rE)) : Met l yX12_deeds (.code yX12_deeds cX12_deeds 1 (some FieldType.int) :: gb_wA) ({ frames := 0, cells := 0, slots := 0, locals := 0 }) (gb_Pc D cT tt b1 [.ref (b + 0)] (fun h => va_P D vwCl (gb_wl b (gb_MW cT b f w)) h)) (gb_Qi (fun r h => r = rE ∧ va_P D vwCl (gb_wl b (gb_MW cT b fE wE)) h) (gb_fr b 22)) 0 0 (gb_fr b 22) := by
  refine Met.ofW (cc := cX12_deeds) (maxL := 1) (ret := (some FieldType.int)) (by decide) rfl ?_
  intro p e s m args below meth c s₁ B hml hv
  obtain ⟨rfl, hSt, hP⟩ := hv
  have hx := B.exec
  have hb := B.bytes
  have hr := B.returns
  have hts := atoms_spec (ws := .code yX12_deeds cX12_deeds 1 (some FieldType.int) :: gb_wA) B.pre
  have hq : ∀ w ∈ gb_wA, w.before _ s = true := fun w h => hts w (List.mem_cons_of_mem _ h)
  have hown : s.vm.findClass RX12 = some m.cls := findClass_of_methodNamed B.named
  have hlocks := B.notSynchronized
  clear B hts
  have hK := hSt.1
  have hS : va_S (gb_fr b 22) s.heap s.heap [] := va_S.rf
  have hl := lv_entry ([.ref (b + 0)]) (n := 1) (Nat.le_of_ble_eq_true rfl)
  rw [lg_entry_eq]
  generalize (lg_sl ([.ref (b + 0)]) ++ List.replicate (1 - (lg_sl ([.ref (b + 0)])).length) Slot.unset).toArray = ls at hl ⊢
  replace hl : lv_has ls 1 [(0, .ref (b + 0))] := hl
  unfold ms_deeds at h
  refine lv_aload_n hx hb dX12_deeds_0 rfl (lv_at hl 0 rfl) ?_
  refine va_get (ci := 10) (v := (.ref (b + 1))) (C := RX12) (T := TX12) (N := 44) hx hb hq i_X12 hown hK hP 0 (gb_at b rfl) rfl 0 (by decide) (hq _ w_1124) (fun _ h9 => h9) rfl dX12_deeds_1 ?_
  refine lv_aload_n hx hb dX12_deeds_4 rfl (lv_at hl 0 rfl) ?_
  refine va_get (ci := 10) (v := (.int (f 0 12))) (C := RX12) (T := TX12) (N := 44) hx hb hq i_X12 hown hK hP 0 (gb_at b rfl) rfl 12 (by decide) (hq _ w_1136) (fun _ h9 => h9) rfl dX12_deeds_5 ?_
  obtain ⟨z_1, h⟩ := gb_ck_s h
  refine va_iald hx hb hK hP 1 0 (gb_at b rfl) rfl z_1 dX12_deeds_8 ?_
  refine lv_topi (fun x_2 ex_2 => ?_)
  replace h := gb_lt_s ex_2 h
  obtain ⟨e1, e2, e3⟩ := gb_eq3 h
  exact W.iret (v := x_2) hx hb hr (fun t ht hW => gb_ri ht ⟨e3, by rw [← e1, ← e2]; exact hP⟩ hS) hS.2.2 dX12_deeds_9
theorem dX12_deedOf_0 : decode cX12_deedOf 0 = .ok (.aload_n 0, 1) := dc_42 (show ((cX12_deedOf.data.toList.drop 0).take 1).map UInt8.toNat = [42] by decide +kernel)
theorem dX12_deedOf_1 : decode cX12_deedOf 1 = .ok (.getfield 7, 3) := dc_180 (show ((cX12_deedOf.data.toList.drop 1).take 3).map UInt8.toNat = [180, 0, 7] by decide +kernel) rfl
theorem dX12_deedOf_4 : decode cX12_deedOf 4 = .ok (.aload_n 0, 1) := dc_42 (show ((cX12_deedOf.data.toList.drop 4).take 1).map UInt8.toNat = [42] by decide +kernel)
theorem dX12_deedOf_5 : decode cX12_deedOf 5 = .ok (.getfield 224, 3) := dc_180 (show ((cX12_deedOf.data.toList.drop 5).take 3).map UInt8.toNat = [180, 0, 224] by decide +kernel) rfl
theorem dX12_deedOf_8 : decode cX12_deedOf 8 = .ok (.iconst 1, 1) := dc_4 (show ((cX12_deedOf.data.toList.drop 8).take 1).map UInt8.toNat = [4] by decide +kernel)
theorem dX12_deedOf_9 : decode cX12_deedOf 9 = .ok (.iadd, 1) := dc_96 (show ((cX12_deedOf.data.toList.drop 9).take 1).map UInt8.toNat = [96] by decide +kernel)
theorem dX12_deedOf_10 : decode cX12_deedOf 10 = .ok (.iconst 4, 1) := dc_7 (show ((cX12_deedOf.data.toList.drop 10).take 1).map UInt8.toNat = [7] by decide +kernel)
theorem dX12_deedOf_11 : decode cX12_deedOf 11 = .ok (.iload_n 1, 1) := dc_27 (show ((cX12_deedOf.data.toList.drop 11).take 1).map UInt8.toNat = [27] by decide +kernel)
theorem dX12_deedOf_12 : decode cX12_deedOf 12 = .ok (.imul, 1) := dc_104 (show ((cX12_deedOf.data.toList.drop 12).take 1).map UInt8.toNat = [104] by decide +kernel)
theorem dX12_deedOf_13 : decode cX12_deedOf 13 = .ok (.iadd, 1) := dc_96 (show ((cX12_deedOf.data.toList.drop 13).take 1).map UInt8.toNat = [96] by decide +kernel)
theorem dX12_deedOf_14 : decode cX12_deedOf 14 = .ok (.iload_n 2, 1) := dc_28 (show ((cX12_deedOf.data.toList.drop 14).take 1).map UInt8.toNat = [28] by decide +kernel)
theorem dX12_deedOf_15 : decode cX12_deedOf 15 = .ok (.iadd, 1) := dc_96 (show ((cX12_deedOf.data.toList.drop 15).take 1).map UInt8.toNat = [96] by decide +kernel)
theorem dX12_deedOf_16 : decode cX12_deedOf 16 = .ok (.iaload, 1) := dc_46 (show ((cX12_deedOf.data.toList.drop 16).take 1).map UInt8.toNat = [46] by decide +kernel)
theorem dX12_deedOf_17 : decode cX12_deedOf 17 = .ok (.ireturn, 1) := dc_172 (show ((cX12_deedOf.data.toList.drop 17).take 1).map UInt8.toNat = [172] by decide +kernel)
def ms_deedOf (n : Nat) (f : gb_F) (w : Int64) (p1 : Int32) (p2 : Int32) : gb_MR Int32 := gb_ck ((((f 0 12) + 1) + (4 * p1)) + p2) 3968 (gb_lt (f 1 (Int32.toNatClampNeg ((((f 0 12) + 1) + (4 * p1)) + p2))) (fun x_2 => some (f, w, x_2)))
set_option maxHeartbeats 8000000 in
set_option maxRecDepth 100000 in
theorem mc_deedOf (l : Launch) (D : va_G) (cT : Nat → ClassId) (tt : Nat → Nat) (b1 b : Nat) (hb1 : b1 ≤ b) (n : Nat) (f : gb_F) (w : Int64) (p1 : Int32) (p2 : Int32) (fE : gb_F) (wE : Int64) (rE : Int32) (h : ms_deedOf n f w p1 p2 = some (fE, wE, rE)) : Met l yX12_deedOf (.code yX12_deedOf cX12_deedOf 3 (some FieldType.int) :: gb_wA) ({ frames := 0, cells := 0, slots := 0, locals := 0 }) (gb_Pc D cT tt b1 [.ref (b + 0), .int p1, .int p2] (fun h => va_P D vwCl (gb_wl b (gb_MW cT b f w)) h)) (gb_Qi (fun r h => r = rE ∧ va_P D vwCl (gb_wl b (gb_MW cT b fE wE)) h) (gb_fr b 22)) 0 0 (gb_fr b 22) := by
  refine Met.ofW (cc := cX12_deedOf) (maxL := 3) (ret := (some FieldType.int)) (by decide) rfl ?_
  intro p e s m args below meth c s₁ B hml hv
  obtain ⟨rfl, hSt, hP⟩ := hv
  have hx := B.exec
  have hb := B.bytes
  have hr := B.returns
  have hts := atoms_spec (ws := .code yX12_deedOf cX12_deedOf 3 (some FieldType.int) :: gb_wA) B.pre
  have hq : ∀ w ∈ gb_wA, w.before _ s = true := fun w h => hts w (List.mem_cons_of_mem _ h)
  have hown : s.vm.findClass RX12 = some m.cls := findClass_of_methodNamed B.named
  have hlocks := B.notSynchronized
  clear B hts
  have hK := hSt.1
  have hS : va_S (gb_fr b 22) s.heap s.heap [] := va_S.rf
  have hl := lv_entry ([.ref (b + 0), .int p1, .int p2]) (n := 3) (Nat.le_of_ble_eq_true rfl)
  rw [lg_entry_eq]
  generalize (lg_sl ([.ref (b + 0), .int p1, .int p2]) ++ List.replicate (3 - (lg_sl ([.ref (b + 0), .int p1, .int p2])).length) Slot.unset).toArray = ls at hl ⊢
  replace hl : lv_has ls 3 [(0, .ref (b + 0)), (1, .int p1), (2, .int p2)] := hl
  unfold ms_deedOf at h
  refine lv_aload_n hx hb dX12_deedOf_0 rfl (lv_at hl 0 rfl) ?_
  refine va_get (ci := 10) (v := (.ref (b + 1))) (C := RX12) (T := TX12) (N := 44) hx hb hq i_X12 hown hK hP 0 (gb_at b rfl) rfl 0 (by decide) (hq _ w_1124) (fun _ h9 => h9) rfl dX12_deedOf_1 ?_
  refine lv_aload_n hx hb dX12_deedOf_4 rfl (lv_at hl 0 rfl) ?_
  refine va_get (ci := 10) (v := (.int (f 0 12))) (C := RX12) (T := TX12) (N := 44) hx hb hq i_X12 hown hK hP 0 (gb_at b rfl) rfl 12 (by decide) (hq _ w_1136) (fun _ h9 => h9) rfl dX12_deedOf_5 ?_
  refine lv_iconst (v := 1) hx hb dX12_deedOf_8 (by decide) ?_
  refine lv_iadd hx hb dX12_deedOf_9 ?_
  refine lv_iconst (v := 4) hx hb dX12_deedOf_10 (by decide) ?_
  refine lv_iload_n hx hb dX12_deedOf_11 rfl (lv_at hl 1 rfl) ?_
  refine lv_imul hx hb dX12_deedOf_12 ?_
  refine lv_iadd hx hb dX12_deedOf_13 ?_
  refine lv_iload_n hx hb dX12_deedOf_14 rfl (lv_at hl 2 rfl) ?_
  refine lv_iadd hx hb dX12_deedOf_15 ?_
  obtain ⟨z_1, h⟩ := gb_ck_s h
  refine va_iald hx hb hK hP 1 0 (gb_at b rfl) rfl z_1 dX12_deedOf_16 ?_
  refine lv_topi (fun x_2 ex_2 => ?_)
  replace h := gb_lt_s ex_2 h
  obtain ⟨e1, e2, e3⟩ := gb_eq3 h
  exact W.iret (v := x_2) hx hb hr (fun t ht hW => gb_ri ht ⟨e3, by rw [← e1, ← e2]; exact hP⟩ hS) hS.2.2 dX12_deedOf_17
theorem dX12_deed_0 : decode cX12_deed 0 = .ok (.aload_n 0, 1) := dc_42 (show ((cX12_deed.data.toList.drop 0).take 1).map UInt8.toNat = [42] by decide +kernel)
theorem dX12_deed_1 : decode cX12_deed 1 = .ok (.iconst 1, 1) := dc_4 (show ((cX12_deed.data.toList.drop 1).take 1).map UInt8.toNat = [4] by decide +kernel)
theorem dX12_deed_2 : decode cX12_deed 2 = .ok (.iload_n 1, 1) := dc_27 (show ((cX12_deed.data.toList.drop 2).take 1).map UInt8.toNat = [27] by decide +kernel)
theorem dX12_deed_3 : decode cX12_deed 3 = .ok (.invokevirtual 171, 3) := dc_182 (show ((cX12_deed.data.toList.drop 3).take 3).map UInt8.toNat = [182, 0, 171] by decide +kernel) rfl
theorem dX12_deed_6 : decode cX12_deed 6 = .ok (.ifCond .ne 6, 3) := dc_154 (show ((cX12_deed.data.toList.drop 6).take 3).map UInt8.toNat = [154, 0, 6] by decide +kernel) rfl
theorem dX12_deed_12 : decode cX12_deed 12 = .ok (.aload_n 0, 1) := dc_42 (show ((cX12_deed.data.toList.drop 12).take 1).map UInt8.toNat = [42] by decide +kernel)
theorem dX12_deed_13 : decode cX12_deed 13 = .ok (.iconst 1, 1) := dc_4 (show ((cX12_deed.data.toList.drop 13).take 1).map UInt8.toNat = [4] by decide +kernel)
theorem dX12_deed_14 : decode cX12_deed 14 = .ok (.iload_n 1, 1) := dc_27 (show ((cX12_deed.data.toList.drop 14).take 1).map UInt8.toNat = [27] by decide +kernel)
theorem dX12_deed_15 : decode cX12_deed 15 = .ok (.invokestatic 190, 3) := dc_184 (show ((cX12_deed.data.toList.drop 15).take 3).map UInt8.toNat = [184, 0, 190] by decide +kernel) rfl
theorem dX12_deed_18 : decode cX12_deed 18 = .ok (.putfield 224, 3) := dc_181 (show ((cX12_deed.data.toList.drop 18).take 3).map UInt8.toNat = [181, 0, 224] by decide +kernel) rfl
theorem dX12_deed_21 : decode cX12_deed 21 = .ok (.iload_n 2, 1) := dc_28 (show ((cX12_deed.data.toList.drop 21).take 1).map UInt8.toNat = [28] by decide +kernel)
theorem dX12_deed_22 : decode cX12_deed 22 = .ok (.iconst (-1), 1) := dc_2 (show ((cX12_deed.data.toList.drop 22).take 1).map UInt8.toNat = [2] by decide +kernel)
theorem dX12_deed_23 : decode cX12_deed 23 = .ok (.if_icmp .ne 17, 3) := dc_160 (show ((cX12_deed.data.toList.drop 23).take 3).map UInt8.toNat = [160, 0, 17] by decide +kernel) rfl
theorem dX12_deed_40 : decode cX12_deed 40 = .ok (.iload_n 2, 1) := dc_28 (show ((cX12_deed.data.toList.drop 40).take 1).map UInt8.toNat = [28] by decide +kernel)
theorem dX12_deed_41 : decode cX12_deed 41 = .ok (.iconst 0, 1) := dc_3 (show ((cX12_deed.data.toList.drop 41).take 1).map UInt8.toNat = [3] by decide +kernel)
theorem dX12_deed_42 : decode cX12_deed 42 = .ok (.aload_n 0, 1) := dc_42 (show ((cX12_deed.data.toList.drop 42).take 1).map UInt8.toNat = [42] by decide +kernel)
theorem dX12_deed_43 : decode cX12_deed 43 = .ok (.invokevirtual 227, 3) := dc_182 (show ((cX12_deed.data.toList.drop 43).take 3).map UInt8.toNat = [182, 0, 227] by decide +kernel) rfl
theorem w_1419 : (Cond.code ({ cls := "GooseBorderModel", name := "deeds", desc := "()I" } : MethodName) prog_14_method_43_code (1 : Nat) (Option.some FieldType.int)) ∈ gb_wA := gb_t6 219 rfl rfl
theorem w_1416 : (Cond.methodLink "GooseBorderModel" (227 : Nat) ({ cls := "GooseBorderModel", name := "deeds", desc := "()I" } : MethodName)) ∈ gb_wA := gb_t6 216 rfl rfl
theorem w_1418 : (Cond.instanceMethod ({ cls := "GooseBorderModel", name := "deeds", desc := "()I" } : MethodName)) ∈ gb_wA := gb_t6 218 rfl rfl
theorem s_4_10 : Cond.selects "GooseBorderModel" (⟨"GooseBorderModel", "deeds", "()I"⟩ : MethodName) (⟨"GooseBorderModel", "deeds", "()I"⟩ : MethodName) ∈ gb_wA := gb_s4 10 rfl rfl
theorem dX12_deed_46 : decode cX12_deed 46 = .ok (.iconst 1, 1) := dc_4 (show ((cX12_deed.data.toList.drop 46).take 1).map UInt8.toNat = [4] by decide +kernel)
theorem dX12_deed_47 : decode cX12_deed 47 = .ok (.isub, 1) := dc_100 (show ((cX12_deed.data.toList.drop 47).take 1).map UInt8.toNat = [100] by decide +kernel)
theorem dX12_deed_48 : decode cX12_deed 48 = .ok (.invokestatic 129, 3) := dc_184 (show ((cX12_deed.data.toList.drop 48).take 3).map UInt8.toNat = [184, 0, 129] by decide +kernel) rfl
theorem dX12_deed_51 : decode cX12_deed 51 = .ok (.ifCond .eq 21, 3) := dc_153 (show ((cX12_deed.data.toList.drop 51).take 3).map UInt8.toNat = [153, 0, 21] by decide +kernel) rfl
theorem dX12_deed_72 : decode cX12_deed 72 = .ok (.bipush (-2), 2) := dc_16 (show ((cX12_deed.data.toList.drop 72).take 2).map UInt8.toNat = [16, 254] by decide +kernel) rfl
theorem dX12_deed_74 : decode cX12_deed 74 = .ok (.ireturn, 1) := dc_172 (show ((cX12_deed.data.toList.drop 74).take 1).map UInt8.toNat = [172] by decide +kernel)
theorem dX12_deed_54 : decode cX12_deed 54 = .ok (.iload_n 3, 1) := dc_29 (show ((cX12_deed.data.toList.drop 54).take 1).map UInt8.toNat = [29] by decide +kernel)
theorem dX12_deed_55 : decode cX12_deed 55 = .ok (.iconst 0, 1) := dc_3 (show ((cX12_deed.data.toList.drop 55).take 1).map UInt8.toNat = [3] by decide +kernel)
theorem dX12_deed_56 : decode cX12_deed 56 = .ok (.iconst 3, 1) := dc_6 (show ((cX12_deed.data.toList.drop 56).take 1).map UInt8.toNat = [6] by decide +kernel)
theorem dX12_deed_57 : decode cX12_deed 57 = .ok (.invokestatic 129, 3) := dc_184 (show ((cX12_deed.data.toList.drop 57).take 3).map UInt8.toNat = [184, 0, 129] by decide +kernel) rfl
theorem dX12_deed_60 : decode cX12_deed 60 = .ok (.ifCond .eq 12, 3) := dc_153 (show ((cX12_deed.data.toList.drop 60).take 3).map UInt8.toNat = [153, 0, 12] by decide +kernel) rfl
theorem dX12_deed_63 : decode cX12_deed 63 = .ok (.aload_n 0, 1) := dc_42 (show ((cX12_deed.data.toList.drop 63).take 1).map UInt8.toNat = [42] by decide +kernel)
theorem dX12_deed_64 : decode cX12_deed 64 = .ok (.iload_n 2, 1) := dc_28 (show ((cX12_deed.data.toList.drop 64).take 1).map UInt8.toNat = [28] by decide +kernel)
theorem dX12_deed_65 : decode cX12_deed 65 = .ok (.iload_n 3, 1) := dc_29 (show ((cX12_deed.data.toList.drop 65).take 1).map UInt8.toNat = [29] by decide +kernel)
theorem dX12_deed_66 : decode cX12_deed 66 = .ok (.invokevirtual 230, 3) := dc_182 (show ((cX12_deed.data.toList.drop 66).take 3).map UInt8.toNat = [182, 0, 230] by decide +kernel) rfl
theorem w_1423 : (Cond.code ({ cls := "GooseBorderModel", name := "deedOf", desc := "(II)I" } : MethodName) prog_14_method_44_code (3 : Nat) (Option.some FieldType.int)) ∈ gb_wA := gb_t6 223 rfl rfl
theorem w_1420 : (Cond.methodLink "GooseBorderModel" (230 : Nat) ({ cls := "GooseBorderModel", name := "deedOf", desc := "(II)I" } : MethodName)) ∈ gb_wA := gb_t6 220 rfl rfl
theorem w_1422 : (Cond.instanceMethod ({ cls := "GooseBorderModel", name := "deedOf", desc := "(II)I" } : MethodName)) ∈ gb_wA := gb_t6 222 rfl rfl
theorem s_4_11 : Cond.selects "GooseBorderModel" (⟨"GooseBorderModel", "deedOf", "(II)I"⟩ : MethodName) (⟨"GooseBorderModel", "deedOf", "(II)I"⟩ : MethodName) ∈ gb_wA := gb_s4 11 rfl rfl
theorem dX12_deed_69 : decode cX12_deed 69 = .ok (.goto 5, 3) := dc_167 (show ((cX12_deed.data.toList.drop 69).take 3).map UInt8.toNat = [167, 0, 5] by decide +kernel) rfl
theorem dX12_deed_26 : decode cX12_deed 26 = .ok (.iload_n 3, 1) := dc_29 (show ((cX12_deed.data.toList.drop 26).take 1).map UInt8.toNat = [29] by decide +kernel)
theorem dX12_deed_27 : decode cX12_deed 27 = .ok (.ifCond .ne 10, 3) := dc_154 (show ((cX12_deed.data.toList.drop 27).take 3).map UInt8.toNat = [154, 0, 10] by decide +kernel) rfl
theorem dX12_deed_37 : decode cX12_deed 37 = .ok (.bipush (-2), 2) := dc_16 (show ((cX12_deed.data.toList.drop 37).take 2).map UInt8.toNat = [16, 254] by decide +kernel) rfl
theorem dX12_deed_39 : decode cX12_deed 39 = .ok (.ireturn, 1) := dc_172 (show ((cX12_deed.data.toList.drop 39).take 1).map UInt8.toNat = [172] by decide +kernel)
theorem dX12_deed_30 : decode cX12_deed 30 = .ok (.aload_n 0, 1) := dc_42 (show ((cX12_deed.data.toList.drop 30).take 1).map UInt8.toNat = [42] by decide +kernel)
theorem dX12_deed_31 : decode cX12_deed 31 = .ok (.invokevirtual 227, 3) := dc_182 (show ((cX12_deed.data.toList.drop 31).take 3).map UInt8.toNat = [182, 0, 227] by decide +kernel) rfl
theorem dX12_deed_34 : decode cX12_deed 34 = .ok (.goto 5, 3) := dc_167 (show ((cX12_deed.data.toList.drop 34).take 3).map UInt8.toNat = [167, 0, 5] by decide +kernel) rfl
theorem dX12_deed_9 : decode cX12_deed 9 = .ok (.bipush (-2), 2) := dc_16 (show ((cX12_deed.data.toList.drop 9).take 2).map UInt8.toNat = [16, 254] by decide +kernel) rfl
theorem dX12_deed_11 : decode cX12_deed 11 = .ok (.ireturn, 1) := dc_172 (show ((cX12_deed.data.toList.drop 11).take 1).map UInt8.toNat = [172] by decide +kernel)
def ms_deed (n : Nat) (f : gb_F) (w : Int64) (p1 : Int32) (p2 : Int32) (p3 : Int32) : gb_MR Int32 := gb_bd (ms_isOf n f w 1 p1) (fun f_1 wl_2 r_3 => (if r_3 = 0 then some (f_1, wl_2, (-2)) else gb_bd (ms_placeOf n f_1 wl_2 1 p1) (fun f_7 wl_8 r_9 => gb_lt (gb_u f_7 0 (upd (f_7 0) 12 r_9)) (fun f_12 => (if p2 = (-1) then (if p3 = 0 then gb_bd (ms_deeds n f_12 wl_8) (fun f_37 wl_38 r_39 => some (f_37, wl_38, r_39)) else some (f_12, wl_8, (-2))) else gb_bd (ms_deeds n f_12 wl_8) (fun f_14 wl_15 r_16 => gb_bd (ms_isIn n f_14 wl_15 p2 0 (r_16 - 1)) (fun f_19 wl_20 r_21 => (if r_21 = 0 then some (f_19, wl_20, (-2)) else gb_bd (ms_isIn n f_19 wl_20 p3 0 3) (fun f_25 wl_26 r_27 => (if r_27 = 0 then some (f_25, wl_26, (-2)) else gb_bd (ms_deedOf n f_25 wl_26 p2 p3) (fun f_31 wl_32 r_33 => some (f_31, wl_32, r_33))))))))))))
set_option maxHeartbeats 8000000 in
set_option maxRecDepth 100000 in
theorem mc_deed (l : Launch) (D : va_G) (cT : Nat → ClassId) (tt : Nat → Nat) (b1 b : Nat) (hb1 : b1 ≤ b) (n : Nat) (f : gb_F) (w : Int64) (p1 : Int32) (p2 : Int32) (p3 : Int32) (fE : gb_F) (wE : Int64) (rE : Int32) (h : ms_deed n f w p1 p2 p3 = some (fE, wE, rE)) : Met l yX12_deed (.code yX12_deed cX12_deed 4 (some FieldType.int) :: gb_wA) ({ frames := 2, cells := 0, slots := 0, locals := 44 }) (gb_Pc D cT tt b1 [.ref (b + 0), .int p1, .int p2, .int p3] (fun h => va_P D vwCl (gb_wl b (gb_MW cT b f w)) h)) (gb_Qi (fun r h => r = rE ∧ va_P D vwCl (gb_wl b (gb_MW cT b fE wE)) h) (gb_fr b 22)) 0 0 (gb_fr b 22) := by
  refine Met.ofW (cc := cX12_deed) (maxL := 4) (ret := (some FieldType.int)) (by decide) rfl ?_
  intro p e s m args below meth c s₁ B hml hv
  obtain ⟨rfl, hSt, hP⟩ := hv
  have hx := B.exec
  have hb := B.bytes
  have hr := B.returns
  have hts := atoms_spec (ws := .code yX12_deed cX12_deed 4 (some FieldType.int) :: gb_wA) B.pre
  have hq : ∀ w ∈ gb_wA, w.before _ s = true := fun w h => hts w (List.mem_cons_of_mem _ h)
  have hown : s.vm.findClass RX12 = some m.cls := findClass_of_methodNamed B.named
  have hlocks := B.notSynchronized
  clear B hts
  have hK := hSt.1
  have hS : va_S (gb_fr b 22) s.heap s.heap [] := va_S.rf
  have hl := lv_entry ([.ref (b + 0), .int p1, .int p2, .int p3]) (n := 4) (Nat.le_of_ble_eq_true rfl)
  rw [lg_entry_eq]
  generalize (lg_sl ([.ref (b + 0), .int p1, .int p2, .int p3]) ++ List.replicate (4 - (lg_sl ([.ref (b + 0), .int p1, .int p2, .int p3])).length) Slot.unset).toArray = ls at hl ⊢
  replace hl : lv_has ls 4 [(0, .ref (b + 0)), (1, .int p1), (2, .int p2), (3, .int p3)] := hl
  unfold ms_deed at h
  refine lv_aload_n hx hb dX12_deed_0 rfl (lv_at hl 0 rfl) ?_
  refine lv_iconst (v := 1) hx hb dX12_deed_1 (by decide) ?_
  refine lv_iload_n hx hb dX12_deed_2 rfl (lv_at hl 1 rfl) ?_
  obtain ⟨f_1, wl_2, r_3, z_4, h⟩ := gb_bd_s h
  refine gb_calli (va_runV (C := RX12) (As := [.int 1, .int p1]) (rest := []) ⟨hx, hb, hml, hown, hq⟩ (mc_isOf l D cT tt b1 b hb1 n f w 1 p1 f_1 wl_2 r_3 z_4) (cwV 2 hq (gb_gV w_1272 w_1274 s_3_0 w_14 w_1275) rfl rfl rfl (by decide +kernel) ⟨Nat.le_of_ble_eq_true rfl, Nat.le_of_ble_eq_true rfl⟩) (gb_preV (r := (RX12, TX12, 44)) (ci := 10) (q0 := 0) hSt hP rfl (gb_at b rfl) hS (fun q h => Nat.le_trans hb1 h.1) hP) rfl rfl hl.1 rfl (lv_room (Nat.le_of_ble_eq_true rfl)) dX12_deed_3 ⟨Nat.le_of_ble_eq_true rfl, Nat.le_of_ble_eq_true rfl⟩) hS (fun _ h => h) (fun _ h => h) (fun q_5 H locs hY hk hS => ?_)
  obtain ⟨hq_5, hP⟩ := hY
  replace hq_5 := hq_5.symm
  subst hq_5
  refine lv_if_ne (tgt := 12) hx hb dX12_deed_6 (by decide) (fun c_6 => ?_) (fun c_6 => ?_)
  · rw [if_neg c_6] at h
    refine lv_aload_n hx hb dX12_deed_12 rfl (lv_at hl 0 rfl) ?_
    refine lv_iconst (v := 1) hx hb dX12_deed_13 (by decide) ?_
    refine lv_iload_n hx hb dX12_deed_14 rfl (lv_at hl 1 rfl) ?_
    obtain ⟨f_7, wl_8, r_9, z_10, h⟩ := gb_bd_s h
    refine gb_calli (va_runS (As := [.int 1, .int p1]) (rest := [.ref (b + 0)]) ⟨hx, hb, hml, hown, hq⟩ (mc_placeOf l D cT tt b1 b hb1 n f_1 wl_2 1 p1 f_7 wl_8 r_9 z_10) (va_cwS 2 hq (gb_gS w_1361 w_1362 w_14 w_1363) rfl rfl rfl (by decide +kernel) ⟨Nat.le_of_ble_eq_true rfl, Nat.le_of_ble_eq_true rfl⟩) (gb_preS hSt hS (fun q h => Nat.le_trans hb1 h.1) hP) rfl rfl hl.1 rfl (lv_room (Nat.le_of_ble_eq_true rfl)) dX12_deed_15 ⟨Nat.le_of_ble_eq_true rfl, Nat.le_of_ble_eq_true rfl⟩) hS (fun _ h => h) (fun _ h => h) (fun q_11 H locs hY hk hS => ?_)
    obtain ⟨hq_11, hP⟩ := hY
    replace hq_11 := hq_11.symm
    subst hq_11
    refine gb_put (ci := 10) (v := (.int r_9)) (ty := .int) (C := RX12) (T := TX12) (N := 44) hx hb hq i_X12 tyX12 tyX12_ok nmX12 hown hK hP (fun k h => ⟨Nat.le_add_right b k, Nat.add_lt_add_left h b⟩) hS rfl 0 rfl rfl 12 (by decide) (hq _ w_1136) (fun _ h9 => h9) rfl (by decide +kernel) rfl rfl (Nat.le_of_ble_eq_true rfl) dX12_deed_18 (fun H locs hP hz_ hS => ?_)
    obtain ⟨f_12, ef_12⟩ : ∃ q, q = (gb_u f_7 0 (upd (f_7 0) 12 r_9)) := ⟨_, rfl⟩
    replace hP : va_P D vwCl (gb_wl b (gb_MW cT b f_12 wl_8)) H := by rw [ef_12]; exact hP
    replace h := gb_lt_s ef_12 h
    refine lv_iload_n hx hb dX12_deed_21 rfl (lv_at hl 2 rfl) ?_
    refine lv_iconst (v := (-1)) hx hb dX12_deed_22 (by decide) ?_
    refine lv_icmp_ne (tgt := 40) hx hb dX12_deed_23 (by decide) (fun c_13 => ?_) (fun c_13 => ?_)
    · rw [if_neg c_13] at h
      refine lv_iload_n hx hb dX12_deed_40 rfl (lv_at hl 2 rfl) ?_
      refine lv_iconst (v := 0) hx hb dX12_deed_41 (by decide) ?_
      refine lv_aload_n hx hb dX12_deed_42 rfl (lv_at hl 0 rfl) ?_
      obtain ⟨f_14, wl_15, r_16, z_17, h⟩ := gb_bd_s h
      refine gb_calli (va_runV (C := RX12) (As := []) (rest := [.int 0, .int p2]) ⟨hx, hb, hml, hown, hq⟩ (mc_deeds l D cT tt b1 b hb1 n f_12 wl_8 f_14 wl_15 r_16 z_17) (cwV 0 hq (gb_gV w_1416 w_1418 s_4_10 w_14 w_1419) rfl rfl rfl (by decide +kernel) ⟨Nat.le_of_ble_eq_true rfl, Nat.le_of_ble_eq_true rfl⟩) (gb_preV (r := (RX12, TX12, 44)) (ci := 10) (q0 := 0) hSt hP rfl (gb_at b rfl) hS (fun q h => Nat.le_trans hb1 h.1) hP) rfl rfl hl.1 rfl (lv_room (Nat.le_of_ble_eq_true rfl)) dX12_deed_43 ⟨Nat.le_of_ble_eq_true rfl, Nat.le_of_ble_eq_true rfl⟩) hS (fun _ h => h) (fun _ h => h) (fun q_18 H locs hY hk hS => ?_)
      obtain ⟨hq_18, hP⟩ := hY
      replace hq_18 := hq_18.symm
      subst hq_18
      refine lv_iconst (v := 1) hx hb dX12_deed_46 (by decide) ?_
      refine lv_isub hx hb dX12_deed_47 ?_
      obtain ⟨f_19, wl_20, r_21, z_22, h⟩ := gb_bd_s h
      refine gb_calli (va_runS (As := [.int p2, .int 0, .int (r_16 - 1)]) (rest := []) ⟨hx, hb, hml, hown, hq⟩ (mc_isIn l D cT tt b1 b hb1 n f_14 wl_15 p2 0 (r_16 - 1) f_19 wl_20 r_21 z_22) (va_cwS 3 hq (gb_gS w_1269 w_1270 w_14 w_1271) rfl rfl rfl (by decide +kernel) ⟨Nat.le_of_ble_eq_true rfl, Nat.le_of_ble_eq_true rfl⟩) (gb_preS hSt hS (fun q h => Nat.le_trans hb1 h.1) hP) rfl rfl hl.1 rfl (lv_room (Nat.le_of_ble_eq_true rfl)) dX12_deed_48 ⟨Nat.le_of_ble_eq_true rfl, Nat.le_of_ble_eq_true rfl⟩) hS (fun _ h => h) (fun _ h => h) (fun q_23 H locs hY hk hS => ?_)
      obtain ⟨hq_23, hP⟩ := hY
      replace hq_23 := hq_23.symm
      subst hq_23
      refine lv_if_eq (tgt := 72) hx hb dX12_deed_51 (by decide) (fun c_24 => ?_) (fun c_24 => ?_)
      · rw [if_pos c_24] at h
        refine lv_bipush (v := (-2)) hx hb dX12_deed_72 (by decide) ?_
        obtain ⟨e1, e2, e3⟩ := gb_eq3 h
        exact W.iret (v := (-2)) hx hb hr (fun t ht hW => gb_ri ht ⟨e3, by rw [← e1, ← e2]; exact hP⟩ hS) hS.2.2 dX12_deed_74
      · rw [if_neg c_24] at h
        refine lv_iload_n hx hb dX12_deed_54 rfl (lv_at hl 3 rfl) ?_
        refine lv_iconst (v := 0) hx hb dX12_deed_55 (by decide) ?_
        refine lv_iconst (v := 3) hx hb dX12_deed_56 (by decide) ?_
        obtain ⟨f_25, wl_26, r_27, z_28, h⟩ := gb_bd_s h
        refine gb_calli (va_runS (As := [.int p3, .int 0, .int 3]) (rest := []) ⟨hx, hb, hml, hown, hq⟩ (mc_isIn l D cT tt b1 b hb1 n f_19 wl_20 p3 0 3 f_25 wl_26 r_27 z_28) (va_cwS 3 hq (gb_gS w_1269 w_1270 w_14 w_1271) rfl rfl rfl (by decide +kernel) ⟨Nat.le_of_ble_eq_true rfl, Nat.le_of_ble_eq_true rfl⟩) (gb_preS hSt hS (fun q h => Nat.le_trans hb1 h.1) hP) rfl rfl hl.1 rfl (lv_room (Nat.le_of_ble_eq_true rfl)) dX12_deed_57 ⟨Nat.le_of_ble_eq_true rfl, Nat.le_of_ble_eq_true rfl⟩) hS (fun _ h => h) (fun _ h => h) (fun q_29 H locs hY hk hS => ?_)
        obtain ⟨hq_29, hP⟩ := hY
        replace hq_29 := hq_29.symm
        subst hq_29
        refine lv_if_eq (tgt := 72) hx hb dX12_deed_60 (by decide) (fun c_30 => ?_) (fun c_30 => ?_)
        · rw [if_pos c_30] at h
          refine lv_bipush (v := (-2)) hx hb dX12_deed_72 (by decide) ?_
          obtain ⟨e1, e2, e3⟩ := gb_eq3 h
          exact W.iret (v := (-2)) hx hb hr (fun t ht hW => gb_ri ht ⟨e3, by rw [← e1, ← e2]; exact hP⟩ hS) hS.2.2 dX12_deed_74
        · rw [if_neg c_30] at h
          refine lv_aload_n hx hb dX12_deed_63 rfl (lv_at hl 0 rfl) ?_
          refine lv_iload_n hx hb dX12_deed_64 rfl (lv_at hl 2 rfl) ?_
          refine lv_iload_n hx hb dX12_deed_65 rfl (lv_at hl 3 rfl) ?_
          obtain ⟨f_31, wl_32, r_33, z_34, h⟩ := gb_bd_s h
          refine gb_calli (va_runV (C := RX12) (As := [.int p2, .int p3]) (rest := []) ⟨hx, hb, hml, hown, hq⟩ (mc_deedOf l D cT tt b1 b hb1 n f_25 wl_26 p2 p3 f_31 wl_32 r_33 z_34) (cwV 2 hq (gb_gV w_1420 w_1422 s_4_11 w_14 w_1423) rfl rfl rfl (by decide +kernel) ⟨Nat.le_of_ble_eq_true rfl, Nat.le_of_ble_eq_true rfl⟩) (gb_preV (r := (RX12, TX12, 44)) (ci := 10) (q0 := 0) hSt hP rfl (gb_at b rfl) hS (fun q h => Nat.le_trans hb1 h.1) hP) rfl rfl hl.1 rfl (lv_room (Nat.le_of_ble_eq_true rfl)) dX12_deed_66 ⟨Nat.le_of_ble_eq_true rfl, Nat.le_of_ble_eq_true rfl⟩) hS (fun _ h => h) (fun _ h => h) (fun q_35 H locs hY hk hS => ?_)
          obtain ⟨hq_35, hP⟩ := hY
          replace hq_35 := hq_35.symm
          subst hq_35
          refine lv_goto (tgt := 74) hx hb dX12_deed_69 (by decide) ?_
          obtain ⟨e1, e2, e3⟩ := gb_eq3 h
          exact W.iret (v := r_33) hx hb hr (fun t ht hW => gb_ri ht ⟨e3, by rw [← e1, ← e2]; exact hP⟩ hS) hS.2.2 dX12_deed_74
    · rw [if_pos c_13] at h
      refine lv_iload_n hx hb dX12_deed_26 rfl (lv_at hl 3 rfl) ?_
      refine lv_if_ne (tgt := 37) hx hb dX12_deed_27 (by decide) (fun c_36 => ?_) (fun c_36 => ?_)
      · rw [if_neg c_36] at h
        refine lv_bipush (v := (-2)) hx hb dX12_deed_37 (by decide) ?_
        obtain ⟨e1, e2, e3⟩ := gb_eq3 h
        exact W.iret (v := (-2)) hx hb hr (fun t ht hW => gb_ri ht ⟨e3, by rw [← e1, ← e2]; exact hP⟩ hS) hS.2.2 dX12_deed_39
      · rw [if_pos c_36] at h
        refine lv_aload_n hx hb dX12_deed_30 rfl (lv_at hl 0 rfl) ?_
        obtain ⟨f_37, wl_38, r_39, z_40, h⟩ := gb_bd_s h
        refine gb_calli (va_runV (C := RX12) (As := []) (rest := []) ⟨hx, hb, hml, hown, hq⟩ (mc_deeds l D cT tt b1 b hb1 n f_12 wl_8 f_37 wl_38 r_39 z_40) (cwV 0 hq (gb_gV w_1416 w_1418 s_4_10 w_14 w_1419) rfl rfl rfl (by decide +kernel) ⟨Nat.le_of_ble_eq_true rfl, Nat.le_of_ble_eq_true rfl⟩) (gb_preV (r := (RX12, TX12, 44)) (ci := 10) (q0 := 0) hSt hP rfl (gb_at b rfl) hS (fun q h => Nat.le_trans hb1 h.1) hP) rfl rfl hl.1 rfl (lv_room (Nat.le_of_ble_eq_true rfl)) dX12_deed_31 ⟨Nat.le_of_ble_eq_true rfl, Nat.le_of_ble_eq_true rfl⟩) hS (fun _ h => h) (fun _ h => h) (fun q_41 H locs hY hk hS => ?_)
        obtain ⟨hq_41, hP⟩ := hY
        replace hq_41 := hq_41.symm
        subst hq_41
        refine lv_goto (tgt := 39) hx hb dX12_deed_34 (by decide) ?_
        obtain ⟨e1, e2, e3⟩ := gb_eq3 h
        exact W.iret (v := r_39) hx hb hr (fun t ht hW => gb_ri ht ⟨e3, by rw [← e1, ← e2]; exact hP⟩ hS) hS.2.2 dX12_deed_39
  · rw [if_pos c_6] at h
    refine lv_bipush (v := (-2)) hx hb dX12_deed_9 (by decide) ?_
    obtain ⟨e1, e2, e3⟩ := gb_eq3 h
    exact W.iret (v := (-2)) hx hb hr (fun t ht hW => gb_ri ht ⟨e3, by rw [← e1, ← e2]; exact hP⟩ hS) hS.2.2 dX12_deed_11
theorem dX12_begins_0 : decode cX12_begins 0 = .ok (.iconst 0, 1) := dc_3 (show ((cX12_begins.data.toList.drop 0).take 1).map UInt8.toNat = [3] by decide +kernel)
theorem dX12_begins_1 : decode cX12_begins 1 = .ok (.istore_n 1, 1) := dc_60 (show ((cX12_begins.data.toList.drop 1).take 1).map UInt8.toNat = [60] by decide +kernel)
theorem dX12_begins_2 : decode cX12_begins 2 = .ok (.iload_n 1, 1) := dc_27 (show ((cX12_begins.data.toList.drop 2).take 1).map UInt8.toNat = [27] by decide +kernel)
theorem dX12_begins_3 : decode cX12_begins 3 = .ok (.bipush 8, 2) := dc_16 (show ((cX12_begins.data.toList.drop 3).take 2).map UInt8.toNat = [16, 8] by decide +kernel) rfl
theorem dX12_begins_5 : decode cX12_begins 5 = .ok (.if_icmp .ge 98, 3) := dc_162 (show ((cX12_begins.data.toList.drop 5).take 3).map UInt8.toNat = [162, 0, 98] by decide +kernel) rfl
theorem dX12_begins_103 : decode cX12_begins 103 = .ok (.iconst 0, 1) := dc_3 (show ((cX12_begins.data.toList.drop 103).take 1).map UInt8.toNat = [3] by decide +kernel)
theorem dX12_begins_104 : decode cX12_begins 104 = .ok (.istore_n 1, 1) := dc_60 (show ((cX12_begins.data.toList.drop 104).take 1).map UInt8.toNat = [60] by decide +kernel)
theorem dX12_begins_105 : decode cX12_begins 105 = .ok (.iload_n 1, 1) := dc_27 (show ((cX12_begins.data.toList.drop 105).take 1).map UInt8.toNat = [27] by decide +kernel)
theorem dX12_begins_106 : decode cX12_begins 106 = .ok (.iconst 5, 1) := dc_8 (show ((cX12_begins.data.toList.drop 106).take 1).map UInt8.toNat = [8] by decide +kernel)
theorem dX12_begins_107 : decode cX12_begins 107 = .ok (.if_icmp .ge 30, 3) := dc_162 (show ((cX12_begins.data.toList.drop 107).take 3).map UInt8.toNat = [162, 0, 30] by decide +kernel) rfl
theorem dX12_begins_137 : decode cX12_begins 137 = .ok (.aload_n 0, 1) := dc_42 (show ((cX12_begins.data.toList.drop 137).take 1).map UInt8.toNat = [42] by decide +kernel)
theorem dX12_begins_138 : decode cX12_begins 138 = .ok (.iconst 0, 1) := dc_3 (show ((cX12_begins.data.toList.drop 138).take 1).map UInt8.toNat = [3] by decide +kernel)
theorem dX12_begins_139 : decode cX12_begins 139 = .ok (.putfield 233, 3) := dc_181 (show ((cX12_begins.data.toList.drop 139).take 3).map UInt8.toNat = [181, 0, 233] by decide +kernel) rfl
theorem w_1146 : (Cond.fieldLink "GooseBorderModel" (233 : Nat) "GooseBorderModel" "frost" "Z") ∈ gb_wA := gb_t5 186 rfl rfl
theorem dX12_begins_142 : decode cX12_begins 142 = .ok (.aload_n 0, 1) := dc_42 (show ((cX12_begins.data.toList.drop 142).take 1).map UInt8.toNat = [42] by decide +kernel)
theorem dX12_begins_143 : decode cX12_begins 143 = .ok (.iconst 0, 1) := dc_3 (show ((cX12_begins.data.toList.drop 143).take 1).map UInt8.toNat = [3] by decide +kernel)
theorem dX12_begins_144 : decode cX12_begins 144 = .ok (.putfield 236, 3) := dc_181 (show ((cX12_begins.data.toList.drop 144).take 3).map UInt8.toNat = [181, 0, 236] by decide +kernel) rfl
theorem w_1147 : (Cond.fieldLink "GooseBorderModel" (236 : Nat) "GooseBorderModel" "done" "I") ∈ gb_wA := gb_t5 187 rfl rfl
theorem dX12_begins_147 : decode cX12_begins 147 = .ok (.return_, 1) := dc_177 (show ((cX12_begins.data.toList.drop 147).take 1).map UInt8.toNat = [177] by decide +kernel)
theorem dX12_begins_110 : decode cX12_begins 110 = .ok (.aload_n 0, 1) := dc_42 (show ((cX12_begins.data.toList.drop 110).take 1).map UInt8.toNat = [42] by decide +kernel)
theorem dX12_begins_111 : decode cX12_begins 111 = .ok (.getfield 38, 3) := dc_180 (show ((cX12_begins.data.toList.drop 111).take 3).map UInt8.toNat = [180, 0, 38] by decide +kernel) rfl
theorem dX12_begins_114 : decode cX12_begins 114 = .ok (.iload_n 1, 1) := dc_27 (show ((cX12_begins.data.toList.drop 114).take 1).map UInt8.toNat = [27] by decide +kernel)
theorem dX12_begins_115 : decode cX12_begins 115 = .ok (.iconst 0, 1) := dc_3 (show ((cX12_begins.data.toList.drop 115).take 1).map UInt8.toNat = [3] by decide +kernel)
theorem dX12_begins_116 : decode cX12_begins 116 = .ok (.iastore, 1) := dc_79 (show ((cX12_begins.data.toList.drop 116).take 1).map UInt8.toNat = [79] by decide +kernel)
theorem dX12_begins_117 : decode cX12_begins 117 = .ok (.aload_n 0, 1) := dc_42 (show ((cX12_begins.data.toList.drop 117).take 1).map UInt8.toNat = [42] by decide +kernel)
theorem dX12_begins_118 : decode cX12_begins 118 = .ok (.getfield 41, 3) := dc_180 (show ((cX12_begins.data.toList.drop 118).take 3).map UInt8.toNat = [180, 0, 41] by decide +kernel) rfl
theorem dX12_begins_121 : decode cX12_begins 121 = .ok (.iload_n 1, 1) := dc_27 (show ((cX12_begins.data.toList.drop 121).take 1).map UInt8.toNat = [27] by decide +kernel)
theorem dX12_begins_122 : decode cX12_begins 122 = .ok (.iconst 0, 1) := dc_3 (show ((cX12_begins.data.toList.drop 122).take 1).map UInt8.toNat = [3] by decide +kernel)
theorem dX12_begins_123 : decode cX12_begins 123 = .ok (.iastore, 1) := dc_79 (show ((cX12_begins.data.toList.drop 123).take 1).map UInt8.toNat = [79] by decide +kernel)
theorem dX12_begins_124 : decode cX12_begins 124 = .ok (.aload_n 0, 1) := dc_42 (show ((cX12_begins.data.toList.drop 124).take 1).map UInt8.toNat = [42] by decide +kernel)
theorem dX12_begins_125 : decode cX12_begins 125 = .ok (.getfield 44, 3) := dc_180 (show ((cX12_begins.data.toList.drop 125).take 3).map UInt8.toNat = [180, 0, 44] by decide +kernel) rfl
theorem dX12_begins_128 : decode cX12_begins 128 = .ok (.iload_n 1, 1) := dc_27 (show ((cX12_begins.data.toList.drop 128).take 1).map UInt8.toNat = [27] by decide +kernel)
theorem dX12_begins_129 : decode cX12_begins 129 = .ok (.iconst 0, 1) := dc_3 (show ((cX12_begins.data.toList.drop 129).take 1).map UInt8.toNat = [3] by decide +kernel)
theorem dX12_begins_130 : decode cX12_begins 130 = .ok (.iastore, 1) := dc_79 (show ((cX12_begins.data.toList.drop 130).take 1).map UInt8.toNat = [79] by decide +kernel)
theorem dX12_begins_131 : decode cX12_begins 131 = .ok (.iinc 1 1, 3) := dc_132 (show ((cX12_begins.data.toList.drop 131).take 3).map UInt8.toNat = [132, 1, 1] by decide +kernel) rfl
theorem dX12_begins_134 : decode cX12_begins 134 = .ok (.goto (-29), 3) := dc_167 (show ((cX12_begins.data.toList.drop 134).take 3).map UInt8.toNat = [167, 255, 227] by decide +kernel) rfl
theorem dX12_begins_8 : decode cX12_begins 8 = .ok (.aload_n 0, 1) := dc_42 (show ((cX12_begins.data.toList.drop 8).take 1).map UInt8.toNat = [42] by decide +kernel)
theorem dX12_begins_9 : decode cX12_begins 9 = .ok (.getfield 20, 3) := dc_180 (show ((cX12_begins.data.toList.drop 9).take 3).map UInt8.toNat = [180, 0, 20] by decide +kernel) rfl
theorem dX12_begins_12 : decode cX12_begins 12 = .ok (.iload_n 1, 1) := dc_27 (show ((cX12_begins.data.toList.drop 12).take 1).map UInt8.toNat = [27] by decide +kernel)
theorem dX12_begins_13 : decode cX12_begins 13 = .ok (.iconst 0, 1) := dc_3 (show ((cX12_begins.data.toList.drop 13).take 1).map UInt8.toNat = [3] by decide +kernel)
theorem dX12_begins_14 : decode cX12_begins 14 = .ok (.iastore, 1) := dc_79 (show ((cX12_begins.data.toList.drop 14).take 1).map UInt8.toNat = [79] by decide +kernel)
theorem dX12_begins_15 : decode cX12_begins 15 = .ok (.aload_n 0, 1) := dc_42 (show ((cX12_begins.data.toList.drop 15).take 1).map UInt8.toNat = [42] by decide +kernel)
theorem dX12_begins_16 : decode cX12_begins 16 = .ok (.getfield 23, 3) := dc_180 (show ((cX12_begins.data.toList.drop 16).take 3).map UInt8.toNat = [180, 0, 23] by decide +kernel) rfl
theorem dX12_begins_19 : decode cX12_begins 19 = .ok (.iload_n 1, 1) := dc_27 (show ((cX12_begins.data.toList.drop 19).take 1).map UInt8.toNat = [27] by decide +kernel)
theorem dX12_begins_20 : decode cX12_begins 20 = .ok (.aload_n 0, 1) := dc_42 (show ((cX12_begins.data.toList.drop 20).take 1).map UInt8.toNat = [42] by decide +kernel)
theorem dX12_begins_21 : decode cX12_begins 21 = .ok (.iload_n 1, 1) := dc_27 (show ((cX12_begins.data.toList.drop 21).take 1).map UInt8.toNat = [27] by decide +kernel)
theorem dX12_begins_22 : decode cX12_begins 22 = .ok (.invokevirtual 214, 3) := dc_182 (show ((cX12_begins.data.toList.drop 22).take 3).map UInt8.toNat = [182, 0, 214] by decide +kernel) rfl
theorem dX12_begins_25 : decode cX12_begins 25 = .ok (.ifCond .eq 12, 3) := dc_153 (show ((cX12_begins.data.toList.drop 25).take 3).map UInt8.toNat = [153, 0, 12] by decide +kernel) rfl
theorem dX12_begins_37 : decode cX12_begins 37 = .ok (.iconst 0, 1) := dc_3 (show ((cX12_begins.data.toList.drop 37).take 1).map UInt8.toNat = [3] by decide +kernel)
theorem dX12_begins_38 : decode cX12_begins 38 = .ok (.iastore, 1) := dc_79 (show ((cX12_begins.data.toList.drop 38).take 1).map UInt8.toNat = [79] by decide +kernel)
theorem dX12_begins_39 : decode cX12_begins 39 = .ok (.aload_n 0, 1) := dc_42 (show ((cX12_begins.data.toList.drop 39).take 1).map UInt8.toNat = [42] by decide +kernel)
theorem dX12_begins_40 : decode cX12_begins 40 = .ok (.getfield 32, 3) := dc_180 (show ((cX12_begins.data.toList.drop 40).take 3).map UInt8.toNat = [180, 0, 32] by decide +kernel) rfl
theorem dX12_begins_43 : decode cX12_begins 43 = .ok (.iload_n 1, 1) := dc_27 (show ((cX12_begins.data.toList.drop 43).take 1).map UInt8.toNat = [27] by decide +kernel)
theorem dX12_begins_44 : decode cX12_begins 44 = .ok (.aload_n 0, 1) := dc_42 (show ((cX12_begins.data.toList.drop 44).take 1).map UInt8.toNat = [42] by decide +kernel)
theorem dX12_begins_45 : decode cX12_begins 45 = .ok (.getfield 23, 3) := dc_180 (show ((cX12_begins.data.toList.drop 45).take 3).map UInt8.toNat = [180, 0, 23] by decide +kernel) rfl
theorem dX12_begins_48 : decode cX12_begins 48 = .ok (.iload_n 1, 1) := dc_27 (show ((cX12_begins.data.toList.drop 48).take 1).map UInt8.toNat = [27] by decide +kernel)
theorem dX12_begins_49 : decode cX12_begins 49 = .ok (.iaload, 1) := dc_46 (show ((cX12_begins.data.toList.drop 49).take 1).map UInt8.toNat = [46] by decide +kernel)
theorem dX12_begins_50 : decode cX12_begins 50 = .ok (.ifCond .le 7, 3) := dc_158 (show ((cX12_begins.data.toList.drop 50).take 3).map UInt8.toNat = [158, 0, 7] by decide +kernel) rfl
theorem dX12_begins_57 : decode cX12_begins 57 = .ok (.iconst 0, 1) := dc_3 (show ((cX12_begins.data.toList.drop 57).take 1).map UInt8.toNat = [3] by decide +kernel)
theorem dX12_begins_58 : decode cX12_begins 58 = .ok (.bastore, 1) := dc_84 (show ((cX12_begins.data.toList.drop 58).take 1).map UInt8.toNat = [84] by decide +kernel)
theorem dX12_begins_59 : decode cX12_begins 59 = .ok (.aload_n 0, 1) := dc_42 (show ((cX12_begins.data.toList.drop 59).take 1).map UInt8.toNat = [42] by decide +kernel)
theorem dX12_begins_60 : decode cX12_begins 60 = .ok (.getfield 26, 3) := dc_180 (show ((cX12_begins.data.toList.drop 60).take 3).map UInt8.toNat = [180, 0, 26] by decide +kernel) rfl
theorem dX12_begins_63 : decode cX12_begins 63 = .ok (.iload_n 1, 1) := dc_27 (show ((cX12_begins.data.toList.drop 63).take 1).map UInt8.toNat = [27] by decide +kernel)
theorem dX12_begins_64 : decode cX12_begins 64 = .ok (.iconst 0, 1) := dc_3 (show ((cX12_begins.data.toList.drop 64).take 1).map UInt8.toNat = [3] by decide +kernel)
theorem dX12_begins_65 : decode cX12_begins 65 = .ok (.iastore, 1) := dc_79 (show ((cX12_begins.data.toList.drop 65).take 1).map UInt8.toNat = [79] by decide +kernel)
theorem dX12_begins_66 : decode cX12_begins 66 = .ok (.aload_n 0, 1) := dc_42 (show ((cX12_begins.data.toList.drop 66).take 1).map UInt8.toNat = [42] by decide +kernel)
theorem dX12_begins_67 : decode cX12_begins 67 = .ok (.getfield 29, 3) := dc_180 (show ((cX12_begins.data.toList.drop 67).take 3).map UInt8.toNat = [180, 0, 29] by decide +kernel) rfl
theorem dX12_begins_70 : decode cX12_begins 70 = .ok (.iload_n 1, 1) := dc_27 (show ((cX12_begins.data.toList.drop 70).take 1).map UInt8.toNat = [27] by decide +kernel)
theorem dX12_begins_71 : decode cX12_begins 71 = .ok (.iconst (-1), 1) := dc_2 (show ((cX12_begins.data.toList.drop 71).take 1).map UInt8.toNat = [2] by decide +kernel)
theorem dX12_begins_72 : decode cX12_begins 72 = .ok (.iastore, 1) := dc_79 (show ((cX12_begins.data.toList.drop 72).take 1).map UInt8.toNat = [79] by decide +kernel)
theorem dX12_begins_73 : decode cX12_begins 73 = .ok (.iconst 0, 1) := dc_3 (show ((cX12_begins.data.toList.drop 73).take 1).map UInt8.toNat = [3] by decide +kernel)
theorem dX12_begins_74 : decode cX12_begins 74 = .ok (.istore_n 2, 1) := dc_61 (show ((cX12_begins.data.toList.drop 74).take 1).map UInt8.toNat = [61] by decide +kernel)
theorem dX12_begins_75 : decode cX12_begins 75 = .ok (.iload_n 2, 1) := dc_28 (show ((cX12_begins.data.toList.drop 75).take 1).map UInt8.toNat = [28] by decide +kernel)
theorem dX12_begins_76 : decode cX12_begins 76 = .ok (.iconst 5, 1) := dc_8 (show ((cX12_begins.data.toList.drop 76).take 1).map UInt8.toNat = [8] by decide +kernel)
theorem dX12_begins_77 : decode cX12_begins 77 = .ok (.if_icmp .ge 20, 3) := dc_162 (show ((cX12_begins.data.toList.drop 77).take 3).map UInt8.toNat = [162, 0, 20] by decide +kernel) rfl
theorem dX12_begins_97 : decode cX12_begins 97 = .ok (.iinc 1 1, 3) := dc_132 (show ((cX12_begins.data.toList.drop 97).take 3).map UInt8.toNat = [132, 1, 1] by decide +kernel) rfl
theorem dX12_begins_100 : decode cX12_begins 100 = .ok (.goto (-98), 3) := dc_167 (show ((cX12_begins.data.toList.drop 100).take 3).map UInt8.toNat = [167, 255, 158] by decide +kernel) rfl
theorem dX12_begins_80 : decode cX12_begins 80 = .ok (.aload_n 0, 1) := dc_42 (show ((cX12_begins.data.toList.drop 80).take 1).map UInt8.toNat = [42] by decide +kernel)
theorem dX12_begins_81 : decode cX12_begins 81 = .ok (.getfield 35, 3) := dc_180 (show ((cX12_begins.data.toList.drop 81).take 3).map UInt8.toNat = [180, 0, 35] by decide +kernel) rfl
theorem dX12_begins_84 : decode cX12_begins 84 = .ok (.iconst 5, 1) := dc_8 (show ((cX12_begins.data.toList.drop 84).take 1).map UInt8.toNat = [8] by decide +kernel)
theorem dX12_begins_85 : decode cX12_begins 85 = .ok (.iload_n 1, 1) := dc_27 (show ((cX12_begins.data.toList.drop 85).take 1).map UInt8.toNat = [27] by decide +kernel)
theorem dX12_begins_86 : decode cX12_begins 86 = .ok (.imul, 1) := dc_104 (show ((cX12_begins.data.toList.drop 86).take 1).map UInt8.toNat = [104] by decide +kernel)
theorem dX12_begins_87 : decode cX12_begins 87 = .ok (.iload_n 2, 1) := dc_28 (show ((cX12_begins.data.toList.drop 87).take 1).map UInt8.toNat = [28] by decide +kernel)
theorem dX12_begins_88 : decode cX12_begins 88 = .ok (.iadd, 1) := dc_96 (show ((cX12_begins.data.toList.drop 88).take 1).map UInt8.toNat = [96] by decide +kernel)
theorem dX12_begins_89 : decode cX12_begins 89 = .ok (.iconst (-1), 1) := dc_2 (show ((cX12_begins.data.toList.drop 89).take 1).map UInt8.toNat = [2] by decide +kernel)
theorem dX12_begins_90 : decode cX12_begins 90 = .ok (.iastore, 1) := dc_79 (show ((cX12_begins.data.toList.drop 90).take 1).map UInt8.toNat = [79] by decide +kernel)
theorem dX12_begins_91 : decode cX12_begins 91 = .ok (.iinc 2 1, 3) := dc_132 (show ((cX12_begins.data.toList.drop 91).take 3).map UInt8.toNat = [132, 2, 1] by decide +kernel) rfl
theorem dX12_begins_94 : decode cX12_begins 94 = .ok (.goto (-19), 3) := dc_167 (show ((cX12_begins.data.toList.drop 94).take 3).map UInt8.toNat = [167, 255, 237] by decide +kernel) rfl
theorem dX12_begins_53 : decode cX12_begins 53 = .ok (.iconst 1, 1) := dc_4 (show ((cX12_begins.data.toList.drop 53).take 1).map UInt8.toNat = [4] by decide +kernel)
theorem dX12_begins_54 : decode cX12_begins 54 = .ok (.goto 4, 3) := dc_167 (show ((cX12_begins.data.toList.drop 54).take 3).map UInt8.toNat = [167, 0, 4] by decide +kernel) rfl
theorem dX12_begins_28 : decode cX12_begins 28 = .ok (.aload_n 0, 1) := dc_42 (show ((cX12_begins.data.toList.drop 28).take 1).map UInt8.toNat = [42] by decide +kernel)
theorem dX12_begins_29 : decode cX12_begins 29 = .ok (.iload_n 1, 1) := dc_27 (show ((cX12_begins.data.toList.drop 29).take 1).map UInt8.toNat = [27] by decide +kernel)
theorem dX12_begins_30 : decode cX12_begins 30 = .ok (.iconst 2, 1) := dc_5 (show ((cX12_begins.data.toList.drop 30).take 1).map UInt8.toNat = [5] by decide +kernel)
theorem dX12_begins_31 : decode cX12_begins 31 = .ok (.invokevirtual 217, 3) := dc_182 (show ((cX12_begins.data.toList.drop 31).take 3).map UInt8.toNat = [182, 0, 217] by decide +kernel) rfl
theorem dX12_begins_34 : decode cX12_begins 34 = .ok (.goto 4, 3) := dc_167 (show ((cX12_begins.data.toList.drop 34).take 3).map UInt8.toNat = [167, 0, 4] by decide +kernel) rfl
def ms_begins_105 (n : Nat) : Nat → gb_F → Int64 → Int32 → gb_MR Unit
  | 0, _, _, _ => none
  | mm + 1, f, w, v1 => (if (5 : Int32) ≤ v1 then gb_lt (gb_u f 0 (upd (f 0) 22 0)) (fun f_3 => gb_lt (gb_u f_3 0 (upd (f_3 0) 23 0)) (fun f_4 => some (f_4, w, ()))) else gb_ck v1 5 (gb_lt (gb_u f 10 (upd (f 10) (Int32.toNatClampNeg v1) 0)) (fun f_6 => gb_ck v1 5 (gb_lt (gb_u f_6 11 (upd (f_6 11) (Int32.toNatClampNeg v1) 0)) (fun f_8 => gb_ck v1 5 (gb_lt (gb_u f_8 12 (upd (f_8 12) (Int32.toNatClampNeg v1) 0)) (fun f_10 => gb_lt (v1 + 1) (fun x_11 => ms_begins_105 n mm f_10 w x_11))))))))
def ms_begins_75 (n : Nat) (k2 : gb_F → Int64 → Int32 → gb_MR Unit) : Nat → gb_F → Int64 → Int32 → Int32 → gb_MR Unit
  | 0, _, _, _, _ => none
  | mm + 1, f, w, v1, v2 => (if (5 : Int32) ≤ v2 then gb_lt (v1 + 1) (fun x_32 => k2 f w x_32) else gb_ck ((5 * v1) + v2) 40 (gb_lt (gb_u f 9 (upd (f 9) (Int32.toNatClampNeg ((5 * v1) + v2)) (-1))) (fun f_34 => gb_lt (v2 + 1) (fun x_35 => ms_begins_75 n k2 mm f_34 w v1 x_35))))
def ms_begins_38 (n : Nat) (k2 : gb_F → Int64 → Int32 → gb_MR Unit) (f : gb_F) (w : Int64) (v1 : Int32) (t0 : Int32) (t1 : Int32) : gb_MR Unit := gb_ck t1 8 (gb_lt (gb_u f 5 (upd (f 5) (Int32.toNatClampNeg t1) t0)) (fun f_21 => gb_ck v1 8 (gb_lt (f_21 5 (Int32.toNatClampNeg v1)) (fun x_23 => (if x_23 ≤ 0 then gb_ck v1 8 (gb_lt (gb_u f_21 8 (upd (f_21 8) (Int32.toNatClampNeg v1) (vp_nar .boolean 0))) (fun f_26 => gb_ck v1 8 (gb_lt (gb_u f_26 6 (upd (f_26 6) (Int32.toNatClampNeg v1) 0)) (fun f_28 => gb_ck v1 8 (gb_lt (gb_u f_28 7 (upd (f_28 7) (Int32.toNatClampNeg v1) (-1))) (fun f_30 => ms_begins_75 n k2 n f_30 w v1 0)))))) else gb_ck v1 8 (gb_lt (gb_u f_21 8 (upd (f_21 8) (Int32.toNatClampNeg v1) (vp_nar .boolean 1))) (fun f_37 => gb_ck v1 8 (gb_lt (gb_u f_37 6 (upd (f_37 6) (Int32.toNatClampNeg v1) 0)) (fun f_39 => gb_ck v1 8 (gb_lt (gb_u f_39 7 (upd (f_39 7) (Int32.toNatClampNeg v1) (-1))) (fun f_41 => ms_begins_75 n k2 n f_41 w v1 0)))))))))))
def ms_begins_2 (n : Nat) : Nat → gb_F → Int64 → Int32 → gb_MR Unit
  | 0, _, _, _ => none
  | mm + 1, f, w, v1 => (if (8 : Int32) ≤ v1 then ms_begins_105 n n f w 0 else gb_ck v1 8 (gb_lt (gb_u f 4 (upd (f 4) (Int32.toNatClampNeg v1) 0)) (fun f_13 => gb_bd (ms_isGoose n f_13 w v1) (fun f_14 wl_15 r_16 => (if r_16 = 0 then ms_begins_38 n (fun f w v1 => ms_begins_2 n mm f w v1) f_14 wl_15 v1 0 v1 else gb_bd (ms_ofGoose n f_14 wl_15 v1 2) (fun f_42 wl_43 r_44 => ms_begins_38 n (fun f w v1 => ms_begins_2 n mm f w v1) f_42 wl_43 v1 r_44 v1))))))
def ms_begins (n : Nat) (f : gb_F) (w : Int64) : gb_MR Unit := ms_begins_2 n n f w 0
set_option maxHeartbeats 8000000 in
set_option maxRecDepth 100000 in
theorem mc_begins (l : Launch) (D : va_G) (cT : Nat → ClassId) (tt : Nat → Nat) (b1 b : Nat) (hb1 : b1 ≤ b) (n : Nat) (f : gb_F) (w : Int64) (fE : gb_F) (wE : Int64) (rE : Unit) (h : ms_begins n f w = some (fE, wE, rE)) : Met l yX12_begins (.code yX12_begins cX12_begins 3 none :: gb_wA) ({ frames := 3, cells := 0, slots := 0, locals := 62 }) (gb_Pc D cT tt b1 [.ref (b + 0)] (fun h => va_P D vwCl (gb_wl b (gb_MW cT b f w)) h)) (gb_Qv (fun h => va_P D vwCl (gb_wl b (gb_MW cT b fE wE)) h) (gb_fr b 22)) 0 0 (gb_fr b 22) := by
  refine Met.ofW (cc := cX12_begins) (maxL := 3) (ret := none) (by decide) rfl ?_
  intro p e s m args below meth c s₁ B hml hv
  obtain ⟨rfl, hSt, hP⟩ := hv
  have hx := B.exec
  have hb := B.bytes
  have hr := B.returns
  have hts := atoms_spec (ws := .code yX12_begins cX12_begins 3 none :: gb_wA) B.pre
  have hq : ∀ w ∈ gb_wA, w.before _ s = true := fun w h => hts w (List.mem_cons_of_mem _ h)
  have hown : s.vm.findClass RX12 = some m.cls := findClass_of_methodNamed B.named
  have hlocks := B.notSynchronized
  clear B hts
  have hK := hSt.1
  have hS : va_S (gb_fr b 22) s.heap s.heap [] := va_S.rf
  have hl := lv_entry ([.ref (b + 0)]) (n := 3) (Nat.le_of_ble_eq_true rfl)
  rw [lg_entry_eq]
  generalize (lg_sl ([.ref (b + 0)]) ++ List.replicate (3 - (lg_sl ([.ref (b + 0)])).length) Slot.unset).toArray = ls at hl ⊢
  replace hl : lv_has ls 3 [(0, .ref (b + 0))] := hl
  have L105 : ∀ (mm : Nat) (f : gb_F) (w : Int64) (v1 : Int32) (H : Heap) (locs : List Loc) (ls : Array Slot), ms_begins_105 n mm f w v1 = some (fE, wE, rE) → va_P D vwCl (gb_wl b (gb_MW cT b f w)) H → va_S (gb_fr b 22) s.heap H locs → lv_has ls 3 [(0, .ref (b + 0)), (1, .int v1)] → W p l e (headSpec (.code yX12_begins cX12_begins 3 none :: gb_wA) ({ frames := 3, cells := 0, slots := 0, locals := 62 })).room s m ([.ref (b + 0)]).toArray below meth c H locs 0 0 (MQ below (gb_Qv (fun h => va_P D vwCl (gb_wl b (gb_MW cT b fE wE)) h) (gb_fr b 22)) ([.ref (b + 0)]).toArray s 0 0 (gb_fr b 22)) (F0 m 105 ls []) := by
    clear h hP hS hl ls f w
    intro mm
    induction mm with
    | zero =>
      intro f w v1 H locs ls h
      cases h
    | succ mm ih =>
      intro f w v1 H locs ls h hP hS hl
      rw [ms_begins_105] at h
      refine lv_iload_n hx hb dX12_begins_105 rfl (lv_at hl 1 rfl) ?_
      refine lv_iconst (v := 5) hx hb dX12_begins_106 (by decide) ?_
      refine lv_icmp_ge (tgt := 137) hx hb dX12_begins_107 (by decide) (fun c_2 => ?_) (fun c_2 => ?_)
      · rw [if_pos c_2] at h
        refine lv_aload_n hx hb dX12_begins_137 rfl (lv_at hl 0 rfl) ?_
        refine lv_iconst (v := 0) hx hb dX12_begins_138 (by decide) ?_
        refine gb_put (ci := 10) (v := (.int 0)) (ty := .boolean) (C := RX12) (T := TX12) (N := 44) hx hb hq i_X12 tyX12 tyX12_ok nmX12 hown hK hP (fun k h => ⟨Nat.le_add_right b k, Nat.add_lt_add_left h b⟩) hS rfl 0 rfl rfl 22 (by decide) (hq _ w_1146) (fun _ h9 => h9) rfl (by decide +kernel) (by decide) (by decide) (Nat.le_of_ble_eq_true rfl) dX12_begins_139 (fun H locs hP hz_ hS => ?_)
        obtain ⟨f_3, ef_3⟩ : ∃ q, q = (gb_u f 0 (upd (f 0) 22 0)) := ⟨_, rfl⟩
        replace hP : va_P D vwCl (gb_wl b (gb_MW cT b f_3 w)) H := by rw [ef_3]; exact hP
        replace h := gb_lt_s ef_3 h
        refine lv_aload_n hx hb dX12_begins_142 rfl (lv_at hl 0 rfl) ?_
        refine lv_iconst (v := 0) hx hb dX12_begins_143 (by decide) ?_
        refine gb_put (ci := 10) (v := (.int 0)) (ty := .int) (C := RX12) (T := TX12) (N := 44) hx hb hq i_X12 tyX12 tyX12_ok nmX12 hown hK hP (fun k h => ⟨Nat.le_add_right b k, Nat.add_lt_add_left h b⟩) hS rfl 0 rfl rfl 23 (by decide) (hq _ w_1147) (fun _ h9 => h9) rfl (by decide +kernel) rfl rfl (Nat.le_of_ble_eq_true rfl) dX12_begins_144 (fun H locs hP hz_ hS => ?_)
        obtain ⟨f_4, ef_4⟩ : ∃ q, q = (gb_u f_3 0 (upd (f_3 0) 23 0)) := ⟨_, rfl⟩
        replace hP : va_P D vwCl (gb_wl b (gb_MW cT b f_4 w)) H := by rw [ef_4]; exact hP
        replace h := gb_lt_s ef_4 h
        obtain ⟨e1, e2, -⟩ := gb_eq3 h
        exact W.vret hx hb hr (fun t ht hW => gb_rv ht (by rw [← e1, ← e2]; exact hP) hS) hS.2.2 dX12_begins_147
      · rw [if_neg c_2] at h
        refine lv_aload_n hx hb dX12_begins_110 rfl (lv_at hl 0 rfl) ?_
        refine va_get (ci := 10) (v := (.ref (b + 10))) (C := RX12) (T := TX12) (N := 44) hx hb hq i_X12 hown hK hP 0 (gb_at b rfl) rfl 19 (by decide) (hq _ w_1143) (fun _ h9 => h9) rfl dX12_begins_111 ?_
        refine lv_iload_n hx hb dX12_begins_114 rfl (lv_at hl 1 rfl) ?_
        refine lv_iconst (v := 0) hx hb dX12_begins_115 (by decide) ?_
        obtain ⟨z_5, h⟩ := gb_ck_s h
        refine gb_iast (x := 0) hx hb hK hP (fun k h => ⟨Nat.le_add_right b k, Nat.add_lt_add_left h b⟩) hS rfl 10 0 rfl rfl z_5 dX12_begins_116 (fun H locs hP hz_ hS => ?_)
        obtain ⟨f_6, ef_6⟩ : ∃ q, q = (gb_u f 10 (upd (f 10) (Int32.toNatClampNeg v1) 0)) := ⟨_, rfl⟩
        replace hP : va_P D vwCl (gb_wl b (gb_MW cT b f_6 w)) H := by rw [ef_6]; exact hP
        replace h := gb_lt_s ef_6 h
        refine lv_aload_n hx hb dX12_begins_117 rfl (lv_at hl 0 rfl) ?_
        refine va_get (ci := 10) (v := (.ref (b + 11))) (C := RX12) (T := TX12) (N := 44) hx hb hq i_X12 hown hK hP 0 (gb_at b rfl) rfl 20 (by decide) (hq _ w_1144) (fun _ h9 => h9) rfl dX12_begins_118 ?_
        refine lv_iload_n hx hb dX12_begins_121 rfl (lv_at hl 1 rfl) ?_
        refine lv_iconst (v := 0) hx hb dX12_begins_122 (by decide) ?_
        obtain ⟨z_7, h⟩ := gb_ck_s h
        refine gb_iast (x := 0) hx hb hK hP (fun k h => ⟨Nat.le_add_right b k, Nat.add_lt_add_left h b⟩) hS rfl 11 0 rfl rfl z_7 dX12_begins_123 (fun H locs hP hz_ hS => ?_)
        obtain ⟨f_8, ef_8⟩ : ∃ q, q = (gb_u f_6 11 (upd (f_6 11) (Int32.toNatClampNeg v1) 0)) := ⟨_, rfl⟩
        replace hP : va_P D vwCl (gb_wl b (gb_MW cT b f_8 w)) H := by rw [ef_8]; exact hP
        replace h := gb_lt_s ef_8 h
        refine lv_aload_n hx hb dX12_begins_124 rfl (lv_at hl 0 rfl) ?_
        refine va_get (ci := 10) (v := (.ref (b + 12))) (C := RX12) (T := TX12) (N := 44) hx hb hq i_X12 hown hK hP 0 (gb_at b rfl) rfl 21 (by decide) (hq _ w_1145) (fun _ h9 => h9) rfl dX12_begins_125 ?_
        refine lv_iload_n hx hb dX12_begins_128 rfl (lv_at hl 1 rfl) ?_
        refine lv_iconst (v := 0) hx hb dX12_begins_129 (by decide) ?_
        obtain ⟨z_9, h⟩ := gb_ck_s h
        refine gb_iast (x := 0) hx hb hK hP (fun k h => ⟨Nat.le_add_right b k, Nat.add_lt_add_left h b⟩) hS rfl 12 0 rfl rfl z_9 dX12_begins_130 (fun H locs hP hz_ hS => ?_)
        obtain ⟨f_10, ef_10⟩ : ∃ q, q = (gb_u f_8 12 (upd (f_8 12) (Int32.toNatClampNeg v1) 0)) := ⟨_, rfl⟩
        replace hP : va_P D vwCl (gb_wl b (gb_MW cT b f_10 w)) H := by rw [ef_10]; exact hP
        replace h := gb_lt_s ef_10 h
        obtain ⟨x_11, ex_11⟩ : ∃ q, q = (v1 + 1) := ⟨_, rfl⟩
        replace h := gb_lt_s ex_11 h
        refine lv_iinc (v := x_11) (lv' := [(1, .int x_11), (0, .ref (b + 0))]) hx hb dX12_begins_131 hl (k := 1) rfl (by rw [ex_11]; rfl) (by decide) rfl (fun ls hl => ?_)
        refine lv_goto (tgt := 105) hx hb dX12_begins_134 (by decide) ?_
        exact ih _ _ _ _ _ _ h hP hS (lv_sub hl [1, 0] rfl)
  have L75 : ∀ (k2 : gb_F → Int64 → Int32 → gb_MR Unit) (hk2 : ∀ (f : gb_F) (w : Int64) (v1 : Int32) (H : Heap) (locs : List Loc) (ls : Array Slot), k2 f w v1 = some (fE, wE, rE) → va_P D vwCl (gb_wl b (gb_MW cT b f w)) H → va_S (gb_fr b 22) s.heap H locs → lv_has ls 3 [(0, .ref (b + 0)), (1, .int v1)] → W p l e (headSpec (.code yX12_begins cX12_begins 3 none :: gb_wA) ({ frames := 3, cells := 0, slots := 0, locals := 62 })).room s m ([.ref (b + 0)]).toArray below meth c H locs 0 0 (MQ below (gb_Qv (fun h => va_P D vwCl (gb_wl b (gb_MW cT b fE wE)) h) (gb_fr b 22)) ([.ref (b + 0)]).toArray s 0 0 (gb_fr b 22)) (F0 m 2 ls [])) (mm : Nat) (f : gb_F) (w : Int64) (v1 : Int32) (v2 : Int32) (H : Heap) (locs : List Loc) (ls : Array Slot), ms_begins_75 n k2 mm f w v1 v2 = some (fE, wE, rE) → va_P D vwCl (gb_wl b (gb_MW cT b f w)) H → va_S (gb_fr b 22) s.heap H locs → lv_has ls 3 [(0, .ref (b + 0)), (1, .int v1), (2, .int v2)] → W p l e (headSpec (.code yX12_begins cX12_begins 3 none :: gb_wA) ({ frames := 3, cells := 0, slots := 0, locals := 62 })).room s m ([.ref (b + 0)]).toArray below meth c H locs 0 0 (MQ below (gb_Qv (fun h => va_P D vwCl (gb_wl b (gb_MW cT b fE wE)) h) (gb_fr b 22)) ([.ref (b + 0)]).toArray s 0 0 (gb_fr b 22)) (F0 m 75 ls []) := by
    clear h hP hS hl ls f w
    intro k2 hk2 mm
    induction mm with
    | zero =>
      intro f w v1 v2 H locs ls h
      cases h
    | succ mm ih =>
      intro f w v1 v2 H locs ls h hP hS hl
      rw [ms_begins_75] at h
      refine lv_iload_n hx hb dX12_begins_75 rfl (lv_at hl 2 rfl) ?_
      refine lv_iconst (v := 5) hx hb dX12_begins_76 (by decide) ?_
      refine lv_icmp_ge (tgt := 97) hx hb dX12_begins_77 (by decide) (fun c_31 => ?_) (fun c_31 => ?_)
      · rw [if_pos c_31] at h
        obtain ⟨x_32, ex_32⟩ : ∃ q, q = (v1 + 1) := ⟨_, rfl⟩
        replace h := gb_lt_s ex_32 h
        refine lv_iinc (v := x_32) (lv' := [(1, .int x_32), (0, .ref (b + 0)), (2, .int v2)]) hx hb dX12_begins_97 hl (k := 1) rfl (by rw [ex_32]; rfl) (by decide) rfl (fun ls hl => ?_)
        refine lv_goto (tgt := 2) hx hb dX12_begins_100 (by decide) ?_
        exact hk2 _ _ _ _ _ _ h hP hS (lv_sub hl [1, 0] rfl)
      · rw [if_neg c_31] at h
        refine lv_aload_n hx hb dX12_begins_80 rfl (lv_at hl 0 rfl) ?_
        refine va_get (ci := 10) (v := (.ref (b + 9))) (C := RX12) (T := TX12) (N := 44) hx hb hq i_X12 hown hK hP 0 (gb_at b rfl) rfl 18 (by decide) (hq _ w_1142) (fun _ h9 => h9) rfl dX12_begins_81 ?_
        refine lv_iconst (v := 5) hx hb dX12_begins_84 (by decide) ?_
        refine lv_iload_n hx hb dX12_begins_85 rfl (lv_at hl 1 rfl) ?_
        refine lv_imul hx hb dX12_begins_86 ?_
        refine lv_iload_n hx hb dX12_begins_87 rfl (lv_at hl 2 rfl) ?_
        refine lv_iadd hx hb dX12_begins_88 ?_
        refine lv_iconst (v := (-1)) hx hb dX12_begins_89 (by decide) ?_
        obtain ⟨z_33, h⟩ := gb_ck_s h
        refine gb_iast (x := (-1)) hx hb hK hP (fun k h => ⟨Nat.le_add_right b k, Nat.add_lt_add_left h b⟩) hS rfl 9 0 rfl rfl z_33 dX12_begins_90 (fun H locs hP hz_ hS => ?_)
        obtain ⟨f_34, ef_34⟩ : ∃ q, q = (gb_u f 9 (upd (f 9) (Int32.toNatClampNeg ((5 * v1) + v2)) (-1))) := ⟨_, rfl⟩
        replace hP : va_P D vwCl (gb_wl b (gb_MW cT b f_34 w)) H := by rw [ef_34]; exact hP
        replace h := gb_lt_s ef_34 h
        obtain ⟨x_35, ex_35⟩ : ∃ q, q = (v2 + 1) := ⟨_, rfl⟩
        replace h := gb_lt_s ex_35 h
        refine lv_iinc (v := x_35) (lv' := [(2, .int x_35), (0, .ref (b + 0)), (1, .int v1)]) hx hb dX12_begins_91 hl (k := 2) rfl (by rw [ex_35]; rfl) (by decide) rfl (fun ls hl => ?_)
        refine lv_goto (tgt := 75) hx hb dX12_begins_94 (by decide) ?_
        exact ih _ _ _ _ _ _ _ h hP hS (lv_sub hl [1, 2, 0] rfl)
  have L38 : ∀ (k2 : gb_F → Int64 → Int32 → gb_MR Unit) (hk2 : ∀ (f : gb_F) (w : Int64) (v1 : Int32) (H : Heap) (locs : List Loc) (ls : Array Slot), k2 f w v1 = some (fE, wE, rE) → va_P D vwCl (gb_wl b (gb_MW cT b f w)) H → va_S (gb_fr b 22) s.heap H locs → lv_has ls 3 [(0, .ref (b + 0)), (1, .int v1)] → W p l e (headSpec (.code yX12_begins cX12_begins 3 none :: gb_wA) ({ frames := 3, cells := 0, slots := 0, locals := 62 })).room s m ([.ref (b + 0)]).toArray below meth c H locs 0 0 (MQ below (gb_Qv (fun h => va_P D vwCl (gb_wl b (gb_MW cT b fE wE)) h) (gb_fr b 22)) ([.ref (b + 0)]).toArray s 0 0 (gb_fr b 22)) (F0 m 2 ls [])) (f : gb_F) (w : Int64) (v1 : Int32) (t0 : Int32) (t1 : Int32) (H : Heap) (locs : List Loc) (ls : Array Slot), ms_begins_38 n k2 f w v1 t0 t1 = some (fE, wE, rE) → va_P D vwCl (gb_wl b (gb_MW cT b f w)) H → va_S (gb_fr b 22) s.heap H locs → lv_has ls 3 [(0, .ref (b + 0)), (1, .int v1)] → W p l e (headSpec (.code yX12_begins cX12_begins 3 none :: gb_wA) ({ frames := 3, cells := 0, slots := 0, locals := 62 })).room s m ([.ref (b + 0)]).toArray below meth c H locs 0 0 (MQ below (gb_Qv (fun h => va_P D vwCl (gb_wl b (gb_MW cT b fE wE)) h) (gb_fr b 22)) ([.ref (b + 0)]).toArray s 0 0 (gb_fr b 22)) (F0 m 38 ls [.int t0, .int t1, .ref (b + 5)]) := by
    clear h hP hS hl ls f w
    intro k2 hk2 f w v1 t0 t1 H locs ls h hP hS hl
    unfold ms_begins_38 at h
    obtain ⟨z_20, h⟩ := gb_ck_s h
    refine gb_iast (x := t0) hx hb hK hP (fun k h => ⟨Nat.le_add_right b k, Nat.add_lt_add_left h b⟩) hS rfl 5 0 rfl rfl z_20 dX12_begins_38 (fun H locs hP hz_ hS => ?_)
    obtain ⟨f_21, ef_21⟩ : ∃ q, q = (gb_u f 5 (upd (f 5) (Int32.toNatClampNeg t1) t0)) := ⟨_, rfl⟩
    replace hP : va_P D vwCl (gb_wl b (gb_MW cT b f_21 w)) H := by rw [ef_21]; exact hP
    replace h := gb_lt_s ef_21 h
    refine lv_aload_n hx hb dX12_begins_39 rfl (lv_at hl 0 rfl) ?_
    refine va_get (ci := 10) (v := (.ref (b + 8))) (C := RX12) (T := TX12) (N := 44) hx hb hq i_X12 hown hK hP 0 (gb_at b rfl) rfl 17 (by decide) (hq _ w_1141) (fun _ h9 => h9) rfl dX12_begins_40 ?_
    refine lv_iload_n hx hb dX12_begins_43 rfl (lv_at hl 1 rfl) ?_
    refine lv_aload_n hx hb dX12_begins_44 rfl (lv_at hl 0 rfl) ?_
    refine va_get (ci := 10) (v := (.ref (b + 5))) (C := RX12) (T := TX12) (N := 44) hx hb hq i_X12 hown hK hP 0 (gb_at b rfl) rfl 14 (by decide) (hq _ w_1138) (fun _ h9 => h9) rfl dX12_begins_45 ?_
    refine lv_iload_n hx hb dX12_begins_48 rfl (lv_at hl 1 rfl) ?_
    obtain ⟨z_22, h⟩ := gb_ck_s h
    refine va_iald hx hb hK hP 5 0 (gb_at b rfl) rfl z_22 dX12_begins_49 ?_
    refine lv_topi (fun x_23 ex_23 => ?_)
    replace h := gb_lt_s ex_23 h
    refine lv_if_le (tgt := 57) hx hb dX12_begins_50 (by decide) (fun c_24 => ?_) (fun c_24 => ?_)
    · rw [if_pos c_24] at h
      refine lv_iconst (v := 0) hx hb dX12_begins_57 (by decide) ?_
      obtain ⟨z_25, h⟩ := gb_ck_s h
      refine va_zast (x := 0) hx hb hK hP (gb_D (fun k h => ⟨Nat.le_add_right b k, Nat.add_lt_add_left h b⟩)) hS 8 2 (gb_at b rfl) rfl z_25 dX12_begins_58 (fun H locs hP hD hS => ?_)
      rw [gb_set] at hP
      obtain ⟨f_26, ef_26⟩ : ∃ q, q = (gb_u f_21 8 (upd (f_21 8) (Int32.toNatClampNeg v1) (vp_nar .boolean 0))) := ⟨_, rfl⟩
      replace hP : va_P D vwCl (gb_wl b (gb_MW cT b f_26 w)) H := by rw [ef_26]; exact hP
      replace h := gb_lt_s ef_26 h
      refine lv_aload_n hx hb dX12_begins_59 rfl (lv_at hl 0 rfl) ?_
      refine va_get (ci := 10) (v := (.ref (b + 6))) (C := RX12) (T := TX12) (N := 44) hx hb hq i_X12 hown hK hP 0 (gb_at b rfl) rfl 15 (by decide) (hq _ w_1139) (fun _ h9 => h9) rfl dX12_begins_60 ?_
      refine lv_iload_n hx hb dX12_begins_63 rfl (lv_at hl 1 rfl) ?_
      refine lv_iconst (v := 0) hx hb dX12_begins_64 (by decide) ?_
      obtain ⟨z_27, h⟩ := gb_ck_s h
      refine gb_iast (x := 0) hx hb hK hP (fun k h => ⟨Nat.le_add_right b k, Nat.add_lt_add_left h b⟩) hS rfl 6 0 rfl rfl z_27 dX12_begins_65 (fun H locs hP hz_ hS => ?_)
      obtain ⟨f_28, ef_28⟩ : ∃ q, q = (gb_u f_26 6 (upd (f_26 6) (Int32.toNatClampNeg v1) 0)) := ⟨_, rfl⟩
      replace hP : va_P D vwCl (gb_wl b (gb_MW cT b f_28 w)) H := by rw [ef_28]; exact hP
      replace h := gb_lt_s ef_28 h
      refine lv_aload_n hx hb dX12_begins_66 rfl (lv_at hl 0 rfl) ?_
      refine va_get (ci := 10) (v := (.ref (b + 7))) (C := RX12) (T := TX12) (N := 44) hx hb hq i_X12 hown hK hP 0 (gb_at b rfl) rfl 16 (by decide) (hq _ w_1140) (fun _ h9 => h9) rfl dX12_begins_67 ?_
      refine lv_iload_n hx hb dX12_begins_70 rfl (lv_at hl 1 rfl) ?_
      refine lv_iconst (v := (-1)) hx hb dX12_begins_71 (by decide) ?_
      obtain ⟨z_29, h⟩ := gb_ck_s h
      refine gb_iast (x := (-1)) hx hb hK hP (fun k h => ⟨Nat.le_add_right b k, Nat.add_lt_add_left h b⟩) hS rfl 7 0 rfl rfl z_29 dX12_begins_72 (fun H locs hP hz_ hS => ?_)
      obtain ⟨f_30, ef_30⟩ : ∃ q, q = (gb_u f_28 7 (upd (f_28 7) (Int32.toNatClampNeg v1) (-1))) := ⟨_, rfl⟩
      replace hP : va_P D vwCl (gb_wl b (gb_MW cT b f_30 w)) H := by rw [ef_30]; exact hP
      replace h := gb_lt_s ef_30 h
      refine lv_iconst (v := 0) hx hb dX12_begins_73 (by decide) ?_
      refine lv_istore_n (lv' := [(2, .int 0), (0, .ref (b + 0)), (1, .int v1)]) hx hb dX12_begins_74 rfl hl (by decide) rfl (fun ls hl => ?_)
      exact L75 k2 hk2 n _ _ _ _ _ _ _ h hP hS (lv_sub hl [1, 2, 0] rfl)
    · rw [if_neg c_24] at h
      refine lv_iconst (v := 1) hx hb dX12_begins_53 (by decide) ?_
      refine lv_goto (tgt := 58) hx hb dX12_begins_54 (by decide) ?_
      obtain ⟨z_36, h⟩ := gb_ck_s h
      refine va_zast (x := 1) hx hb hK hP (gb_D (fun k h => ⟨Nat.le_add_right b k, Nat.add_lt_add_left h b⟩)) hS 8 2 (gb_at b rfl) rfl z_36 dX12_begins_58 (fun H locs hP hD hS => ?_)
      rw [gb_set] at hP
      obtain ⟨f_37, ef_37⟩ : ∃ q, q = (gb_u f_21 8 (upd (f_21 8) (Int32.toNatClampNeg v1) (vp_nar .boolean 1))) := ⟨_, rfl⟩
      replace hP : va_P D vwCl (gb_wl b (gb_MW cT b f_37 w)) H := by rw [ef_37]; exact hP
      replace h := gb_lt_s ef_37 h
      refine lv_aload_n hx hb dX12_begins_59 rfl (lv_at hl 0 rfl) ?_
      refine va_get (ci := 10) (v := (.ref (b + 6))) (C := RX12) (T := TX12) (N := 44) hx hb hq i_X12 hown hK hP 0 (gb_at b rfl) rfl 15 (by decide) (hq _ w_1139) (fun _ h9 => h9) rfl dX12_begins_60 ?_
      refine lv_iload_n hx hb dX12_begins_63 rfl (lv_at hl 1 rfl) ?_
      refine lv_iconst (v := 0) hx hb dX12_begins_64 (by decide) ?_
      obtain ⟨z_38, h⟩ := gb_ck_s h
      refine gb_iast (x := 0) hx hb hK hP (fun k h => ⟨Nat.le_add_right b k, Nat.add_lt_add_left h b⟩) hS rfl 6 0 rfl rfl z_38 dX12_begins_65 (fun H locs hP hz_ hS => ?_)
      obtain ⟨f_39, ef_39⟩ : ∃ q, q = (gb_u f_37 6 (upd (f_37 6) (Int32.toNatClampNeg v1) 0)) := ⟨_, rfl⟩
      replace hP : va_P D vwCl (gb_wl b (gb_MW cT b f_39 w)) H := by rw [ef_39]; exact hP
      replace h := gb_lt_s ef_39 h
      refine lv_aload_n hx hb dX12_begins_66 rfl (lv_at hl 0 rfl) ?_
      refine va_get (ci := 10) (v := (.ref (b + 7))) (C := RX12) (T := TX12) (N := 44) hx hb hq i_X12 hown hK hP 0 (gb_at b rfl) rfl 16 (by decide) (hq _ w_1140) (fun _ h9 => h9) rfl dX12_begins_67 ?_
      refine lv_iload_n hx hb dX12_begins_70 rfl (lv_at hl 1 rfl) ?_
      refine lv_iconst (v := (-1)) hx hb dX12_begins_71 (by decide) ?_
      obtain ⟨z_40, h⟩ := gb_ck_s h
      refine gb_iast (x := (-1)) hx hb hK hP (fun k h => ⟨Nat.le_add_right b k, Nat.add_lt_add_left h b⟩) hS rfl 7 0 rfl rfl z_40 dX12_begins_72 (fun H locs hP hz_ hS => ?_)
      obtain ⟨f_41, ef_41⟩ : ∃ q, q = (gb_u f_39 7 (upd (f_39 7) (Int32.toNatClampNeg v1) (-1))) := ⟨_, rfl⟩
      replace hP : va_P D vwCl (gb_wl b (gb_MW cT b f_41 w)) H := by rw [ef_41]; exact hP
      replace h := gb_lt_s ef_41 h
      refine lv_iconst (v := 0) hx hb dX12_begins_73 (by decide) ?_
      refine lv_istore_n (lv' := [(2, .int 0), (0, .ref (b + 0)), (1, .int v1)]) hx hb dX12_begins_74 rfl hl (by decide) rfl (fun ls hl => ?_)
      exact L75 k2 hk2 n _ _ _ _ _ _ _ h hP hS (lv_sub hl [1, 2, 0] rfl)
  have L2 : ∀ (mm : Nat) (f : gb_F) (w : Int64) (v1 : Int32) (H : Heap) (locs : List Loc) (ls : Array Slot), ms_begins_2 n mm f w v1 = some (fE, wE, rE) → va_P D vwCl (gb_wl b (gb_MW cT b f w)) H → va_S (gb_fr b 22) s.heap H locs → lv_has ls 3 [(0, .ref (b + 0)), (1, .int v1)] → W p l e (headSpec (.code yX12_begins cX12_begins 3 none :: gb_wA) ({ frames := 3, cells := 0, slots := 0, locals := 62 })).room s m ([.ref (b + 0)]).toArray below meth c H locs 0 0 (MQ below (gb_Qv (fun h => va_P D vwCl (gb_wl b (gb_MW cT b fE wE)) h) (gb_fr b 22)) ([.ref (b + 0)]).toArray s 0 0 (gb_fr b 22)) (F0 m 2 ls []) := by
    clear h hP hS hl ls f w
    intro mm
    induction mm with
    | zero =>
      intro f w v1 H locs ls h
      cases h
    | succ mm ih =>
      intro f w v1 H locs ls h hP hS hl
      rw [ms_begins_2] at h
      refine lv_iload_n hx hb dX12_begins_2 rfl (lv_at hl 1 rfl) ?_
      refine lv_bipush (v := 8) hx hb dX12_begins_3 (by decide) ?_
      refine lv_icmp_ge (tgt := 103) hx hb dX12_begins_5 (by decide) (fun c_1 => ?_) (fun c_1 => ?_)
      · rw [if_pos c_1] at h
        refine lv_iconst (v := 0) hx hb dX12_begins_103 (by decide) ?_
        refine lv_istore_n (lv' := [(1, .int 0), (0, .ref (b + 0))]) hx hb dX12_begins_104 rfl hl (by decide) rfl (fun ls hl => ?_)
        exact L105 n _ _ _ _ _ _ h hP hS (lv_sub hl [1, 0] rfl)
      · rw [if_neg c_1] at h
        refine lv_aload_n hx hb dX12_begins_8 rfl (lv_at hl 0 rfl) ?_
        refine va_get (ci := 10) (v := (.ref (b + 4))) (C := RX12) (T := TX12) (N := 44) hx hb hq i_X12 hown hK hP 0 (gb_at b rfl) rfl 13 (by decide) (hq _ w_1137) (fun _ h9 => h9) rfl dX12_begins_9 ?_
        refine lv_iload_n hx hb dX12_begins_12 rfl (lv_at hl 1 rfl) ?_
        refine lv_iconst (v := 0) hx hb dX12_begins_13 (by decide) ?_
        obtain ⟨z_12, h⟩ := gb_ck_s h
        refine gb_iast (x := 0) hx hb hK hP (fun k h => ⟨Nat.le_add_right b k, Nat.add_lt_add_left h b⟩) hS rfl 4 0 rfl rfl z_12 dX12_begins_14 (fun H locs hP hz_ hS => ?_)
        obtain ⟨f_13, ef_13⟩ : ∃ q, q = (gb_u f 4 (upd (f 4) (Int32.toNatClampNeg v1) 0)) := ⟨_, rfl⟩
        replace hP : va_P D vwCl (gb_wl b (gb_MW cT b f_13 w)) H := by rw [ef_13]; exact hP
        replace h := gb_lt_s ef_13 h
        refine lv_aload_n hx hb dX12_begins_15 rfl (lv_at hl 0 rfl) ?_
        refine va_get (ci := 10) (v := (.ref (b + 5))) (C := RX12) (T := TX12) (N := 44) hx hb hq i_X12 hown hK hP 0 (gb_at b rfl) rfl 14 (by decide) (hq _ w_1138) (fun _ h9 => h9) rfl dX12_begins_16 ?_
        refine lv_iload_n hx hb dX12_begins_19 rfl (lv_at hl 1 rfl) ?_
        refine lv_aload_n hx hb dX12_begins_20 rfl (lv_at hl 0 rfl) ?_
        refine lv_iload_n hx hb dX12_begins_21 rfl (lv_at hl 1 rfl) ?_
        obtain ⟨f_14, wl_15, r_16, z_17, h⟩ := gb_bd_s h
        refine gb_calli (va_runV (C := RX12) (As := [.int v1]) (rest := [.int v1, .ref (b + 5)]) ⟨hx, hb, hml, hown, hq⟩ (mc_isGoose l D cT tt b1 b hb1 n f_13 w v1 f_14 wl_15 r_16 z_17) (cwV 1 hq (gb_gV w_1392 w_1394 s_4_6 w_14 w_1395) rfl rfl rfl (by decide +kernel) ⟨Nat.le_of_ble_eq_true rfl, Nat.le_of_ble_eq_true rfl⟩) (gb_preV (r := (RX12, TX12, 44)) (ci := 10) (q0 := 0) hSt hP rfl (gb_at b rfl) hS (fun q h => Nat.le_trans hb1 h.1) hP) rfl rfl hl.1 rfl (lv_room (Nat.le_of_ble_eq_true rfl)) dX12_begins_22 ⟨Nat.le_of_ble_eq_true rfl, Nat.le_of_ble_eq_true rfl⟩) hS (fun _ h => h) (fun _ h => h) (fun q_18 H locs hY hk hS => ?_)
        obtain ⟨hq_18, hP⟩ := hY
        replace hq_18 := hq_18.symm
        subst hq_18
        refine lv_if_eq (tgt := 37) hx hb dX12_begins_25 (by decide) (fun c_19 => ?_) (fun c_19 => ?_)
        · rw [if_pos c_19] at h
          refine lv_iconst (v := 0) hx hb dX12_begins_37 (by decide) ?_
          exact L38 _ ih _ _ _ _ _ _ _ _ h hP hS (lv_sub hl [0, 1] rfl)
        · rw [if_neg c_19] at h
          refine lv_aload_n hx hb dX12_begins_28 rfl (lv_at hl 0 rfl) ?_
          refine lv_iload_n hx hb dX12_begins_29 rfl (lv_at hl 1 rfl) ?_
          refine lv_iconst (v := 2) hx hb dX12_begins_30 (by decide) ?_
          obtain ⟨f_42, wl_43, r_44, z_45, h⟩ := gb_bd_s h
          refine gb_calli (va_runV (C := RX12) (As := [.int v1, .int 2]) (rest := [.int v1, .ref (b + 5)]) ⟨hx, hb, hml, hown, hq⟩ (mc_ofGoose l D cT tt b1 b hb1 n f_14 wl_15 v1 2 f_42 wl_43 r_44 z_45) (cwV 2 hq (gb_gV w_1400 w_1402 s_4_8 w_14 w_1403) rfl rfl rfl (by decide +kernel) ⟨Nat.le_of_ble_eq_true rfl, Nat.le_of_ble_eq_true rfl⟩) (gb_preV (r := (RX12, TX12, 44)) (ci := 10) (q0 := 0) hSt hP rfl (gb_at b rfl) hS (fun q h => Nat.le_trans hb1 h.1) hP) rfl rfl hl.1 rfl (lv_room (Nat.le_of_ble_eq_true rfl)) dX12_begins_31 ⟨Nat.le_of_ble_eq_true rfl, Nat.le_of_ble_eq_true rfl⟩) hS (fun _ h => h) (fun _ h => h) (fun q_46 H locs hY hk hS => ?_)
          obtain ⟨hq_46, hP⟩ := hY
          replace hq_46 := hq_46.symm
          subst hq_46
          refine lv_goto (tgt := 38) hx hb dX12_begins_34 (by decide) ?_
          exact L38 _ ih _ _ _ _ _ _ _ _ h hP hS (lv_sub hl [0, 1] rfl)
  unfold ms_begins at h
  refine lv_iconst (v := 0) hx hb dX12_begins_0 (by decide) ?_
  refine lv_istore_n (lv' := [(1, .int 0), (0, .ref (b + 0))]) hx hb dX12_begins_1 rfl hl (by decide) rfl (fun ls hl => ?_)
  exact L2 n _ _ _ _ _ _ h hP hS (lv_sub hl [1, 0] rfl)
theorem dX12_foxed_0 : decode cX12_foxed 0 = .ok (.iconst (-1), 1) := dc_2 (show ((cX12_foxed.data.toList.drop 0).take 1).map UInt8.toNat = [2] by decide +kernel)
theorem dX12_foxed_1 : decode cX12_foxed 1 = .ok (.istore_n 2, 1) := dc_61 (show ((cX12_foxed.data.toList.drop 1).take 1).map UInt8.toNat = [61] by decide +kernel)
theorem dX12_foxed_2 : decode cX12_foxed 2 = .ok (.iconst 0, 1) := dc_3 (show ((cX12_foxed.data.toList.drop 2).take 1).map UInt8.toNat = [3] by decide +kernel)
theorem dX12_foxed_3 : decode cX12_foxed 3 = .ok (.istore_n 3, 1) := dc_62 (show ((cX12_foxed.data.toList.drop 3).take 1).map UInt8.toNat = [62] by decide +kernel)
theorem dX12_foxed_4 : decode cX12_foxed 4 = .ok (.iload_n 3, 1) := dc_29 (show ((cX12_foxed.data.toList.drop 4).take 1).map UInt8.toNat = [29] by decide +kernel)
theorem dX12_foxed_5 : decode cX12_foxed 5 = .ok (.aload_n 0, 1) := dc_42 (show ((cX12_foxed.data.toList.drop 5).take 1).map UInt8.toNat = [42] by decide +kernel)
theorem dX12_foxed_6 : decode cX12_foxed 6 = .ok (.invokevirtual 202, 3) := dc_182 (show ((cX12_foxed.data.toList.drop 6).take 3).map UInt8.toNat = [182, 0, 202] by decide +kernel) rfl
theorem dX12_foxed_9 : decode cX12_foxed 9 = .ok (.if_icmp .ge 66, 3) := dc_162 (show ((cX12_foxed.data.toList.drop 9).take 3).map UInt8.toNat = [162, 0, 66] by decide +kernel) rfl
theorem dX12_foxed_75 : decode cX12_foxed 75 = .ok (.iload_n 2, 1) := dc_28 (show ((cX12_foxed.data.toList.drop 75).take 1).map UInt8.toNat = [28] by decide +kernel)
theorem dX12_foxed_76 : decode cX12_foxed 76 = .ok (.ireturn, 1) := dc_172 (show ((cX12_foxed.data.toList.drop 76).take 1).map UInt8.toNat = [172] by decide +kernel)
theorem dX12_foxed_12 : decode cX12_foxed 12 = .ok (.aload_n 0, 1) := dc_42 (show ((cX12_foxed.data.toList.drop 12).take 1).map UInt8.toNat = [42] by decide +kernel)
theorem dX12_foxed_13 : decode cX12_foxed 13 = .ok (.getfield 20, 3) := dc_180 (show ((cX12_foxed.data.toList.drop 13).take 3).map UInt8.toNat = [180, 0, 20] by decide +kernel) rfl
theorem dX12_foxed_16 : decode cX12_foxed 16 = .ok (.iload_n 3, 1) := dc_29 (show ((cX12_foxed.data.toList.drop 16).take 1).map UInt8.toNat = [29] by decide +kernel)
theorem dX12_foxed_17 : decode cX12_foxed 17 = .ok (.iaload, 1) := dc_46 (show ((cX12_foxed.data.toList.drop 17).take 1).map UInt8.toNat = [46] by decide +kernel)
theorem dX12_foxed_18 : decode cX12_foxed 18 = .ok (.iconst 2, 1) := dc_5 (show ((cX12_foxed.data.toList.drop 18).take 1).map UInt8.toNat = [5] by decide +kernel)
theorem dX12_foxed_19 : decode cX12_foxed 19 = .ok (.if_icmp .eq 50, 3) := dc_159 (show ((cX12_foxed.data.toList.drop 19).take 3).map UInt8.toNat = [159, 0, 50] by decide +kernel) rfl
theorem dX12_foxed_69 : decode cX12_foxed 69 = .ok (.iinc 3 1, 3) := dc_132 (show ((cX12_foxed.data.toList.drop 69).take 3).map UInt8.toNat = [132, 3, 1] by decide +kernel) rfl
theorem dX12_foxed_72 : decode cX12_foxed 72 = .ok (.goto (-68), 3) := dc_167 (show ((cX12_foxed.data.toList.drop 72).take 3).map UInt8.toNat = [167, 255, 188] by decide +kernel) rfl
theorem dX12_foxed_22 : decode cX12_foxed 22 = .ok (.aload_n 0, 1) := dc_42 (show ((cX12_foxed.data.toList.drop 22).take 1).map UInt8.toNat = [42] by decide +kernel)
theorem dX12_foxed_23 : decode cX12_foxed 23 = .ok (.getfield 35, 3) := dc_180 (show ((cX12_foxed.data.toList.drop 23).take 3).map UInt8.toNat = [180, 0, 35] by decide +kernel) rfl
theorem dX12_foxed_26 : decode cX12_foxed 26 = .ok (.iconst 5, 1) := dc_8 (show ((cX12_foxed.data.toList.drop 26).take 1).map UInt8.toNat = [8] by decide +kernel)
theorem dX12_foxed_27 : decode cX12_foxed 27 = .ok (.iload_n 3, 1) := dc_29 (show ((cX12_foxed.data.toList.drop 27).take 1).map UInt8.toNat = [29] by decide +kernel)
theorem dX12_foxed_28 : decode cX12_foxed 28 = .ok (.imul, 1) := dc_104 (show ((cX12_foxed.data.toList.drop 28).take 1).map UInt8.toNat = [104] by decide +kernel)
theorem dX12_foxed_29 : decode cX12_foxed 29 = .ok (.iload_n 1, 1) := dc_27 (show ((cX12_foxed.data.toList.drop 29).take 1).map UInt8.toNat = [27] by decide +kernel)
theorem dX12_foxed_30 : decode cX12_foxed 30 = .ok (.iadd, 1) := dc_96 (show ((cX12_foxed.data.toList.drop 30).take 1).map UInt8.toNat = [96] by decide +kernel)
theorem dX12_foxed_31 : decode cX12_foxed 31 = .ok (.iaload, 1) := dc_46 (show ((cX12_foxed.data.toList.drop 31).take 1).map UInt8.toNat = [46] by decide +kernel)
theorem dX12_foxed_32 : decode cX12_foxed 32 = .ok (.iconst (-1), 1) := dc_2 (show ((cX12_foxed.data.toList.drop 32).take 1).map UInt8.toNat = [2] by decide +kernel)
theorem dX12_foxed_33 : decode cX12_foxed 33 = .ok (.if_icmp .ne 6, 3) := dc_160 (show ((cX12_foxed.data.toList.drop 33).take 3).map UInt8.toNat = [160, 0, 6] by decide +kernel) rfl
theorem dX12_foxed_39 : decode cX12_foxed 39 = .ok (.iload_n 2, 1) := dc_28 (show ((cX12_foxed.data.toList.drop 39).take 1).map UInt8.toNat = [28] by decide +kernel)
theorem dX12_foxed_40 : decode cX12_foxed 40 = .ok (.iconst (-1), 1) := dc_2 (show ((cX12_foxed.data.toList.drop 40).take 1).map UInt8.toNat = [2] by decide +kernel)
theorem dX12_foxed_41 : decode cX12_foxed 41 = .ok (.if_icmp .eq 26, 3) := dc_159 (show ((cX12_foxed.data.toList.drop 41).take 3).map UInt8.toNat = [159, 0, 26] by decide +kernel) rfl
theorem dX12_foxed_67 : decode cX12_foxed 67 = .ok (.iload_n 3, 1) := dc_29 (show ((cX12_foxed.data.toList.drop 67).take 1).map UInt8.toNat = [29] by decide +kernel)
theorem dX12_foxed_68 : decode cX12_foxed 68 = .ok (.istore_n 2, 1) := dc_61 (show ((cX12_foxed.data.toList.drop 68).take 1).map UInt8.toNat = [61] by decide +kernel)
theorem dX12_foxed_44 : decode cX12_foxed 44 = .ok (.aload_n 0, 1) := dc_42 (show ((cX12_foxed.data.toList.drop 44).take 1).map UInt8.toNat = [42] by decide +kernel)
theorem dX12_foxed_45 : decode cX12_foxed 45 = .ok (.getfield 35, 3) := dc_180 (show ((cX12_foxed.data.toList.drop 45).take 3).map UInt8.toNat = [180, 0, 35] by decide +kernel) rfl
theorem dX12_foxed_48 : decode cX12_foxed 48 = .ok (.iconst 5, 1) := dc_8 (show ((cX12_foxed.data.toList.drop 48).take 1).map UInt8.toNat = [8] by decide +kernel)
theorem dX12_foxed_49 : decode cX12_foxed 49 = .ok (.iload_n 3, 1) := dc_29 (show ((cX12_foxed.data.toList.drop 49).take 1).map UInt8.toNat = [29] by decide +kernel)
theorem dX12_foxed_50 : decode cX12_foxed 50 = .ok (.imul, 1) := dc_104 (show ((cX12_foxed.data.toList.drop 50).take 1).map UInt8.toNat = [104] by decide +kernel)
theorem dX12_foxed_51 : decode cX12_foxed 51 = .ok (.iload_n 1, 1) := dc_27 (show ((cX12_foxed.data.toList.drop 51).take 1).map UInt8.toNat = [27] by decide +kernel)
theorem dX12_foxed_52 : decode cX12_foxed 52 = .ok (.iadd, 1) := dc_96 (show ((cX12_foxed.data.toList.drop 52).take 1).map UInt8.toNat = [96] by decide +kernel)
theorem dX12_foxed_53 : decode cX12_foxed 53 = .ok (.iaload, 1) := dc_46 (show ((cX12_foxed.data.toList.drop 53).take 1).map UInt8.toNat = [46] by decide +kernel)
theorem dX12_foxed_54 : decode cX12_foxed 54 = .ok (.aload_n 0, 1) := dc_42 (show ((cX12_foxed.data.toList.drop 54).take 1).map UInt8.toNat = [42] by decide +kernel)
theorem dX12_foxed_55 : decode cX12_foxed 55 = .ok (.getfield 35, 3) := dc_180 (show ((cX12_foxed.data.toList.drop 55).take 3).map UInt8.toNat = [180, 0, 35] by decide +kernel) rfl
theorem dX12_foxed_58 : decode cX12_foxed 58 = .ok (.iconst 5, 1) := dc_8 (show ((cX12_foxed.data.toList.drop 58).take 1).map UInt8.toNat = [8] by decide +kernel)
theorem dX12_foxed_59 : decode cX12_foxed 59 = .ok (.iload_n 2, 1) := dc_28 (show ((cX12_foxed.data.toList.drop 59).take 1).map UInt8.toNat = [28] by decide +kernel)
theorem dX12_foxed_60 : decode cX12_foxed 60 = .ok (.imul, 1) := dc_104 (show ((cX12_foxed.data.toList.drop 60).take 1).map UInt8.toNat = [104] by decide +kernel)
theorem dX12_foxed_61 : decode cX12_foxed 61 = .ok (.iload_n 1, 1) := dc_27 (show ((cX12_foxed.data.toList.drop 61).take 1).map UInt8.toNat = [27] by decide +kernel)
theorem dX12_foxed_62 : decode cX12_foxed 62 = .ok (.iadd, 1) := dc_96 (show ((cX12_foxed.data.toList.drop 62).take 1).map UInt8.toNat = [96] by decide +kernel)
theorem dX12_foxed_63 : decode cX12_foxed 63 = .ok (.iaload, 1) := dc_46 (show ((cX12_foxed.data.toList.drop 63).take 1).map UInt8.toNat = [46] by decide +kernel)
theorem dX12_foxed_64 : decode cX12_foxed 64 = .ok (.if_icmp .le 5, 3) := dc_164 (show ((cX12_foxed.data.toList.drop 64).take 3).map UInt8.toNat = [164, 0, 5] by decide +kernel) rfl
theorem dX12_foxed_36 : decode cX12_foxed 36 = .ok (.goto 33, 3) := dc_167 (show ((cX12_foxed.data.toList.drop 36).take 3).map UInt8.toNat = [167, 0, 33] by decide +kernel) rfl
def ms_foxed_4 (n : Nat) : Nat → gb_F → Int64 → Int32 → Int32 → Int32 → gb_MR Int32
  | 0, _, _, _, _, _ => none
  | mm + 1, f, w, v1, v2, v3 => gb_bd (ms_geese n f w) (fun f_1 wl_2 r_3 => (if r_3 ≤ v3 then some (f_1, wl_2, v2) else gb_ck v3 8 (gb_lt (f_1 4 (Int32.toNatClampNeg v3)) (fun x_8 => (if x_8 = 2 then gb_lt (v3 + 1) (fun x_10 => ms_foxed_4 n mm f_1 wl_2 v1 v2 x_10) else gb_ck ((5 * v3) + v1) 40 (gb_lt (f_1 9 (Int32.toNatClampNeg ((5 * v3) + v1))) (fun x_12 => (if x_12 = (-1) then gb_lt (v3 + 1) (fun x_23 => ms_foxed_4 n mm f_1 wl_2 v1 v2 x_23) else (if v2 = (-1) then gb_lt (v3 + 1) (fun x_15 => ms_foxed_4 n mm f_1 wl_2 v1 v3 x_15) else gb_ck ((5 * v3) + v1) 40 (gb_lt (f_1 9 (Int32.toNatClampNeg ((5 * v3) + v1))) (fun x_17 => gb_ck ((5 * v2) + v1) 40 (gb_lt (f_1 9 (Int32.toNatClampNeg ((5 * v2) + v1))) (fun x_19 => (if x_17 ≤ x_19 then gb_lt (v3 + 1) (fun x_21 => ms_foxed_4 n mm f_1 wl_2 v1 v2 x_21) else gb_lt (v3 + 1) (fun x_22 => ms_foxed_4 n mm f_1 wl_2 v1 v3 x_22)))))))))))))))
def ms_foxed (n : Nat) (f : gb_F) (w : Int64) (p1 : Int32) : gb_MR Int32 := ms_foxed_4 n n f w p1 (-1) 0
set_option maxHeartbeats 8000000 in
set_option maxRecDepth 100000 in
theorem mc_foxed (l : Launch) (D : va_G) (cT : Nat → ClassId) (tt : Nat → Nat) (b1 b : Nat) (hb1 : b1 ≤ b) (n : Nat) (f : gb_F) (w : Int64) (p1 : Int32) (fE : gb_F) (wE : Int64) (rE : Int32) (h : ms_foxed n f w p1 = some (fE, wE, rE)) : Met l yX12_foxed (.code yX12_foxed cX12_foxed 4 (some FieldType.int) :: gb_wA) ({ frames := 2, cells := 0, slots := 0, locals := 41 }) (gb_Pc D cT tt b1 [.ref (b + 0), .int p1] (fun h => va_P D vwCl (gb_wl b (gb_MW cT b f w)) h)) (gb_Qi (fun r h => r = rE ∧ va_P D vwCl (gb_wl b (gb_MW cT b fE wE)) h) (gb_fr b 22)) 0 0 (gb_fr b 22) := by
  refine Met.ofW (cc := cX12_foxed) (maxL := 4) (ret := (some FieldType.int)) (by decide) rfl ?_
  intro p e s m args below meth c s₁ B hml hv
  obtain ⟨rfl, hSt, hP⟩ := hv
  have hx := B.exec
  have hb := B.bytes
  have hr := B.returns
  have hts := atoms_spec (ws := .code yX12_foxed cX12_foxed 4 (some FieldType.int) :: gb_wA) B.pre
  have hq : ∀ w ∈ gb_wA, w.before _ s = true := fun w h => hts w (List.mem_cons_of_mem _ h)
  have hown : s.vm.findClass RX12 = some m.cls := findClass_of_methodNamed B.named
  have hlocks := B.notSynchronized
  clear B hts
  have hK := hSt.1
  have hS : va_S (gb_fr b 22) s.heap s.heap [] := va_S.rf
  have hl := lv_entry ([.ref (b + 0), .int p1]) (n := 4) (Nat.le_of_ble_eq_true rfl)
  rw [lg_entry_eq]
  generalize (lg_sl ([.ref (b + 0), .int p1]) ++ List.replicate (4 - (lg_sl ([.ref (b + 0), .int p1])).length) Slot.unset).toArray = ls at hl ⊢
  replace hl : lv_has ls 4 [(0, .ref (b + 0)), (1, .int p1)] := hl
  have L4 : ∀ (mm : Nat) (f : gb_F) (w : Int64) (v1 : Int32) (v2 : Int32) (v3 : Int32) (H : Heap) (locs : List Loc) (ls : Array Slot), ms_foxed_4 n mm f w v1 v2 v3 = some (fE, wE, rE) → va_P D vwCl (gb_wl b (gb_MW cT b f w)) H → va_S (gb_fr b 22) s.heap H locs → lv_has ls 4 [(0, .ref (b + 0)), (1, .int v1), (2, .int v2), (3, .int v3)] → W p l e (headSpec (.code yX12_foxed cX12_foxed 4 (some FieldType.int) :: gb_wA) ({ frames := 2, cells := 0, slots := 0, locals := 41 })).room s m ([.ref (b + 0), .int p1]).toArray below meth c H locs 0 0 (MQ below (gb_Qi (fun r h => r = rE ∧ va_P D vwCl (gb_wl b (gb_MW cT b fE wE)) h) (gb_fr b 22)) ([.ref (b + 0), .int p1]).toArray s 0 0 (gb_fr b 22)) (F0 m 4 ls []) := by
    clear h hP hS hl ls f w
    intro mm
    induction mm with
    | zero =>
      intro f w v1 v2 v3 H locs ls h
      cases h
    | succ mm ih =>
      intro f w v1 v2 v3 H locs ls h hP hS hl
      rw [ms_foxed_4] at h
      refine lv_iload_n hx hb dX12_foxed_4 rfl (lv_at hl 3 rfl) ?_
      refine lv_aload_n hx hb dX12_foxed_5 rfl (lv_at hl 0 rfl) ?_
      obtain ⟨f_1, wl_2, r_3, z_4, h⟩ := gb_bd_s h
      refine gb_calli (va_runV (C := RX12) (As := []) (rest := [.int v3]) ⟨hx, hb, hml, hown, hq⟩ (mc_geese l D cT tt b1 b hb1 n f w f_1 wl_2 r_3 z_4) (cwV 0 hq (gb_gV w_1396 w_1398 s_4_7 w_14 w_1399) rfl rfl rfl (by decide +kernel) ⟨Nat.le_of_ble_eq_true rfl, Nat.le_of_ble_eq_true rfl⟩) (gb_preV (r := (RX12, TX12, 44)) (ci := 10) (q0 := 0) hSt hP rfl (gb_at b rfl) hS (fun q h => Nat.le_trans hb1 h.1) hP) rfl rfl hl.1 rfl (lv_room (Nat.le_of_ble_eq_true rfl)) dX12_foxed_6 ⟨Nat.le_of_ble_eq_true rfl, Nat.le_of_ble_eq_true rfl⟩) hS (fun _ h => h) (fun _ h => h) (fun q_5 H locs hY hk hS => ?_)
      obtain ⟨hq_5, hP⟩ := hY
      replace hq_5 := hq_5.symm
      subst hq_5
      refine lv_icmp_ge (tgt := 75) hx hb dX12_foxed_9 (by decide) (fun c_6 => ?_) (fun c_6 => ?_)
      · rw [if_pos c_6] at h
        refine lv_iload_n hx hb dX12_foxed_75 rfl (lv_at hl 2 rfl) ?_
        obtain ⟨e1, e2, e3⟩ := gb_eq3 h
        exact W.iret (v := v2) hx hb hr (fun t ht hW => gb_ri ht ⟨e3, by rw [← e1, ← e2]; exact hP⟩ hS) hS.2.2 dX12_foxed_76
      · rw [if_neg c_6] at h
        refine lv_aload_n hx hb dX12_foxed_12 rfl (lv_at hl 0 rfl) ?_
        refine va_get (ci := 10) (v := (.ref (b + 4))) (C := RX12) (T := TX12) (N := 44) hx hb hq i_X12 hown hK hP 0 (gb_at b rfl) rfl 13 (by decide) (hq _ w_1137) (fun _ h9 => h9) rfl dX12_foxed_13 ?_
        refine lv_iload_n hx hb dX12_foxed_16 rfl (lv_at hl 3 rfl) ?_
        obtain ⟨z_7, h⟩ := gb_ck_s h
        refine va_iald hx hb hK hP 4 0 (gb_at b rfl) rfl z_7 dX12_foxed_17 ?_
        refine lv_topi (fun x_8 ex_8 => ?_)
        replace h := gb_lt_s ex_8 h
        refine lv_iconst (v := 2) hx hb dX12_foxed_18 (by decide) ?_
        refine lv_icmp_eq (tgt := 69) hx hb dX12_foxed_19 (by decide) (fun c_9 => ?_) (fun c_9 => ?_)
        · rw [if_pos c_9] at h
          obtain ⟨x_10, ex_10⟩ : ∃ q, q = (v3 + 1) := ⟨_, rfl⟩
          replace h := gb_lt_s ex_10 h
          refine lv_iinc (v := x_10) (lv' := [(3, .int x_10), (0, .ref (b + 0)), (1, .int v1), (2, .int v2)]) hx hb dX12_foxed_69 hl (k := 3) rfl (by rw [ex_10]; rfl) (by decide) rfl (fun ls hl => ?_)
          refine lv_goto (tgt := 4) hx hb dX12_foxed_72 (by decide) ?_
          exact ih _ _ _ _ _ _ _ _ h hP hS (lv_sub hl [1, 2, 3, 0] rfl)
        · rw [if_neg c_9] at h
          refine lv_aload_n hx hb dX12_foxed_22 rfl (lv_at hl 0 rfl) ?_
          refine va_get (ci := 10) (v := (.ref (b + 9))) (C := RX12) (T := TX12) (N := 44) hx hb hq i_X12 hown hK hP 0 (gb_at b rfl) rfl 18 (by decide) (hq _ w_1142) (fun _ h9 => h9) rfl dX12_foxed_23 ?_
          refine lv_iconst (v := 5) hx hb dX12_foxed_26 (by decide) ?_
          refine lv_iload_n hx hb dX12_foxed_27 rfl (lv_at hl 3 rfl) ?_
          refine lv_imul hx hb dX12_foxed_28 ?_
          refine lv_iload_n hx hb dX12_foxed_29 rfl (lv_at hl 1 rfl) ?_
          refine lv_iadd hx hb dX12_foxed_30 ?_
          obtain ⟨z_11, h⟩ := gb_ck_s h
          refine va_iald hx hb hK hP 9 0 (gb_at b rfl) rfl z_11 dX12_foxed_31 ?_
          refine lv_topi (fun x_12 ex_12 => ?_)
          replace h := gb_lt_s ex_12 h
          refine lv_iconst (v := (-1)) hx hb dX12_foxed_32 (by decide) ?_
          refine lv_icmp_ne (tgt := 39) hx hb dX12_foxed_33 (by decide) (fun c_13 => ?_) (fun c_13 => ?_)
          · rw [if_neg c_13] at h
            refine lv_iload_n hx hb dX12_foxed_39 rfl (lv_at hl 2 rfl) ?_
            refine lv_iconst (v := (-1)) hx hb dX12_foxed_40 (by decide) ?_
            refine lv_icmp_eq (tgt := 67) hx hb dX12_foxed_41 (by decide) (fun c_14 => ?_) (fun c_14 => ?_)
            · rw [if_pos c_14] at h
              refine lv_iload_n hx hb dX12_foxed_67 rfl (lv_at hl 3 rfl) ?_
              refine lv_istore_n (lv' := [(2, .int v3), (0, .ref (b + 0)), (1, .int v1), (3, .int v3)]) hx hb dX12_foxed_68 rfl hl (by decide) rfl (fun ls hl => ?_)
              obtain ⟨x_15, ex_15⟩ : ∃ q, q = (v3 + 1) := ⟨_, rfl⟩
              replace h := gb_lt_s ex_15 h
              refine lv_iinc (v := x_15) (lv' := [(3, .int x_15), (2, .int v3), (0, .ref (b + 0)), (1, .int v1)]) hx hb dX12_foxed_69 hl (k := 3) rfl (by rw [ex_15]; rfl) (by decide) rfl (fun ls hl => ?_)
              refine lv_goto (tgt := 4) hx hb dX12_foxed_72 (by decide) ?_
              exact ih _ _ _ _ _ _ _ _ h hP hS (lv_sub hl [2, 3, 1, 0] rfl)
            · rw [if_neg c_14] at h
              refine lv_aload_n hx hb dX12_foxed_44 rfl (lv_at hl 0 rfl) ?_
              refine va_get (ci := 10) (v := (.ref (b + 9))) (C := RX12) (T := TX12) (N := 44) hx hb hq i_X12 hown hK hP 0 (gb_at b rfl) rfl 18 (by decide) (hq _ w_1142) (fun _ h9 => h9) rfl dX12_foxed_45 ?_
              refine lv_iconst (v := 5) hx hb dX12_foxed_48 (by decide) ?_
              refine lv_iload_n hx hb dX12_foxed_49 rfl (lv_at hl 3 rfl) ?_
              refine lv_imul hx hb dX12_foxed_50 ?_
              refine lv_iload_n hx hb dX12_foxed_51 rfl (lv_at hl 1 rfl) ?_
              refine lv_iadd hx hb dX12_foxed_52 ?_
              obtain ⟨z_16, h⟩ := gb_ck_s h
              refine va_iald hx hb hK hP 9 0 (gb_at b rfl) rfl z_16 dX12_foxed_53 ?_
              refine lv_topi (fun x_17 ex_17 => ?_)
              replace h := gb_lt_s ex_17 h
              refine lv_aload_n hx hb dX12_foxed_54 rfl (lv_at hl 0 rfl) ?_
              refine va_get (ci := 10) (v := (.ref (b + 9))) (C := RX12) (T := TX12) (N := 44) hx hb hq i_X12 hown hK hP 0 (gb_at b rfl) rfl 18 (by decide) (hq _ w_1142) (fun _ h9 => h9) rfl dX12_foxed_55 ?_
              refine lv_iconst (v := 5) hx hb dX12_foxed_58 (by decide) ?_
              refine lv_iload_n hx hb dX12_foxed_59 rfl (lv_at hl 2 rfl) ?_
              refine lv_imul hx hb dX12_foxed_60 ?_
              refine lv_iload_n hx hb dX12_foxed_61 rfl (lv_at hl 1 rfl) ?_
              refine lv_iadd hx hb dX12_foxed_62 ?_
              obtain ⟨z_18, h⟩ := gb_ck_s h
              refine va_iald hx hb hK hP 9 0 (gb_at b rfl) rfl z_18 dX12_foxed_63 ?_
              refine lv_topi (fun x_19 ex_19 => ?_)
              replace h := gb_lt_s ex_19 h
              refine lv_icmp_le (tgt := 69) hx hb dX12_foxed_64 (by decide) (fun c_20 => ?_) (fun c_20 => ?_)
              · rw [if_pos c_20] at h
                obtain ⟨x_21, ex_21⟩ : ∃ q, q = (v3 + 1) := ⟨_, rfl⟩
                replace h := gb_lt_s ex_21 h
                refine lv_iinc (v := x_21) (lv' := [(3, .int x_21), (0, .ref (b + 0)), (1, .int v1), (2, .int v2)]) hx hb dX12_foxed_69 hl (k := 3) rfl (by rw [ex_21]; rfl) (by decide) rfl (fun ls hl => ?_)
                refine lv_goto (tgt := 4) hx hb dX12_foxed_72 (by decide) ?_
                exact ih _ _ _ _ _ _ _ _ h hP hS (lv_sub hl [1, 2, 3, 0] rfl)
              · rw [if_neg c_20] at h
                refine lv_iload_n hx hb dX12_foxed_67 rfl (lv_at hl 3 rfl) ?_
                refine lv_istore_n (lv' := [(2, .int v3), (0, .ref (b + 0)), (1, .int v1), (3, .int v3)]) hx hb dX12_foxed_68 rfl hl (by decide) rfl (fun ls hl => ?_)
                obtain ⟨x_22, ex_22⟩ : ∃ q, q = (v3 + 1) := ⟨_, rfl⟩
                replace h := gb_lt_s ex_22 h
                refine lv_iinc (v := x_22) (lv' := [(3, .int x_22), (2, .int v3), (0, .ref (b + 0)), (1, .int v1)]) hx hb dX12_foxed_69 hl (k := 3) rfl (by rw [ex_22]; rfl) (by decide) rfl (fun ls hl => ?_)
                refine lv_goto (tgt := 4) hx hb dX12_foxed_72 (by decide) ?_
                exact ih _ _ _ _ _ _ _ _ h hP hS (lv_sub hl [2, 3, 1, 0] rfl)
          · rw [if_pos c_13] at h
            refine lv_goto (tgt := 69) hx hb dX12_foxed_36 (by decide) ?_
            obtain ⟨x_23, ex_23⟩ : ∃ q, q = (v3 + 1) := ⟨_, rfl⟩
            replace h := gb_lt_s ex_23 h
            refine lv_iinc (v := x_23) (lv' := [(3, .int x_23), (0, .ref (b + 0)), (1, .int v1), (2, .int v2)]) hx hb dX12_foxed_69 hl (k := 3) rfl (by rw [ex_23]; rfl) (by decide) rfl (fun ls hl => ?_)
            refine lv_goto (tgt := 4) hx hb dX12_foxed_72 (by decide) ?_
            exact ih _ _ _ _ _ _ _ _ h hP hS (lv_sub hl [1, 2, 3, 0] rfl)
  unfold ms_foxed at h
  refine lv_iconst (v := (-1)) hx hb dX12_foxed_0 (by decide) ?_
  refine lv_istore_n (lv' := [(2, .int (-1)), (0, .ref (b + 0)), (1, .int p1)]) hx hb dX12_foxed_1 rfl hl (by decide) rfl (fun ls hl => ?_)
  refine lv_iconst (v := 0) hx hb dX12_foxed_2 (by decide) ?_
  refine lv_istore_n (lv' := [(3, .int 0), (2, .int (-1)), (0, .ref (b + 0)), (1, .int p1)]) hx hb dX12_foxed_3 rfl hl (by decide) rfl (fun ls hl => ?_)
  exact L4 n _ _ _ _ _ _ _ _ h hP hS (lv_sub hl [2, 3, 1, 0] rfl)
theorem dX12_isAt_0 : decode cX12_isAt 0 = .ok (.aload_n 0, 1) := dc_42 (show ((cX12_isAt.data.toList.drop 0).take 1).map UInt8.toNat = [42] by decide +kernel)
theorem dX12_isAt_1 : decode cX12_isAt 1 = .ok (.iload_n 1, 1) := dc_27 (show ((cX12_isAt.data.toList.drop 1).take 1).map UInt8.toNat = [27] by decide +kernel)
theorem dX12_isAt_2 : decode cX12_isAt 2 = .ok (.invokevirtual 214, 3) := dc_182 (show ((cX12_isAt.data.toList.drop 2).take 3).map UInt8.toNat = [182, 0, 214] by decide +kernel) rfl
theorem dX12_isAt_5 : decode cX12_isAt 5 = .ok (.ifCond .eq 17, 3) := dc_153 (show ((cX12_isAt.data.toList.drop 5).take 3).map UInt8.toNat = [153, 0, 17] by decide +kernel) rfl
theorem dX12_isAt_22 : decode cX12_isAt 22 = .ok (.iconst 0, 1) := dc_3 (show ((cX12_isAt.data.toList.drop 22).take 1).map UInt8.toNat = [3] by decide +kernel)
theorem dX12_isAt_23 : decode cX12_isAt 23 = .ok (.ireturn, 1) := dc_172 (show ((cX12_isAt.data.toList.drop 23).take 1).map UInt8.toNat = [172] by decide +kernel)
theorem dX12_isAt_8 : decode cX12_isAt 8 = .ok (.aload_n 0, 1) := dc_42 (show ((cX12_isAt.data.toList.drop 8).take 1).map UInt8.toNat = [42] by decide +kernel)
theorem dX12_isAt_9 : decode cX12_isAt 9 = .ok (.getfield 20, 3) := dc_180 (show ((cX12_isAt.data.toList.drop 9).take 3).map UInt8.toNat = [180, 0, 20] by decide +kernel) rfl
theorem dX12_isAt_12 : decode cX12_isAt 12 = .ok (.iload_n 1, 1) := dc_27 (show ((cX12_isAt.data.toList.drop 12).take 1).map UInt8.toNat = [27] by decide +kernel)
theorem dX12_isAt_13 : decode cX12_isAt 13 = .ok (.iaload, 1) := dc_46 (show ((cX12_isAt.data.toList.drop 13).take 1).map UInt8.toNat = [46] by decide +kernel)
theorem dX12_isAt_14 : decode cX12_isAt 14 = .ok (.iload_n 2, 1) := dc_28 (show ((cX12_isAt.data.toList.drop 14).take 1).map UInt8.toNat = [28] by decide +kernel)
theorem dX12_isAt_15 : decode cX12_isAt 15 = .ok (.if_icmp .ne 7, 3) := dc_160 (show ((cX12_isAt.data.toList.drop 15).take 3).map UInt8.toNat = [160, 0, 7] by decide +kernel) rfl
theorem dX12_isAt_18 : decode cX12_isAt 18 = .ok (.iconst 1, 1) := dc_4 (show ((cX12_isAt.data.toList.drop 18).take 1).map UInt8.toNat = [4] by decide +kernel)
theorem dX12_isAt_19 : decode cX12_isAt 19 = .ok (.goto 4, 3) := dc_167 (show ((cX12_isAt.data.toList.drop 19).take 3).map UInt8.toNat = [167, 0, 4] by decide +kernel) rfl
def ms_isAt (n : Nat) (f : gb_F) (w : Int64) (p1 : Int32) (p2 : Int32) : gb_MR Int32 := gb_bd (ms_isGoose n f w p1) (fun f_1 wl_2 r_3 => (if r_3 = 0 then some (f_1, wl_2, 0) else gb_ck p1 8 (gb_lt (f_1 4 (Int32.toNatClampNeg p1)) (fun x_8 => (if x_8 = p2 then some (f_1, wl_2, 1) else some (f_1, wl_2, 0))))))
set_option maxHeartbeats 8000000 in
set_option maxRecDepth 100000 in
theorem mc_isAt (l : Launch) (D : va_G) (cT : Nat → ClassId) (tt : Nat → Nat) (b1 b : Nat) (hb1 : b1 ≤ b) (n : Nat) (f : gb_F) (w : Int64) (p1 : Int32) (p2 : Int32) (fE : gb_F) (wE : Int64) (rE : Int32) (h : ms_isAt n f w p1 p2 = some (fE, wE, rE)) : Met l yX12_isAt (.code yX12_isAt cX12_isAt 3 (some FieldType.boolean) :: gb_wA) ({ frames := 3, cells := 0, slots := 0, locals := 62 }) (gb_Pc D cT tt b1 [.ref (b + 0), .int p1, .int p2] (fun h => va_P D vwCl (gb_wl b (gb_MW cT b f w)) h)) (gb_Qi (fun r h => r = rE ∧ va_P D vwCl (gb_wl b (gb_MW cT b fE wE)) h) (gb_fr b 22)) 0 0 (gb_fr b 22) := by
  refine Met.ofW (cc := cX12_isAt) (maxL := 3) (ret := (some FieldType.boolean)) (by decide) rfl ?_
  intro p e s m args below meth c s₁ B hml hv
  obtain ⟨rfl, hSt, hP⟩ := hv
  have hx := B.exec
  have hb := B.bytes
  have hr := B.returns
  have hts := atoms_spec (ws := .code yX12_isAt cX12_isAt 3 (some FieldType.boolean) :: gb_wA) B.pre
  have hq : ∀ w ∈ gb_wA, w.before _ s = true := fun w h => hts w (List.mem_cons_of_mem _ h)
  have hown : s.vm.findClass RX12 = some m.cls := findClass_of_methodNamed B.named
  have hlocks := B.notSynchronized
  clear B hts
  have hK := hSt.1
  have hS : va_S (gb_fr b 22) s.heap s.heap [] := va_S.rf
  have hl := lv_entry ([.ref (b + 0), .int p1, .int p2]) (n := 3) (Nat.le_of_ble_eq_true rfl)
  rw [lg_entry_eq]
  generalize (lg_sl ([.ref (b + 0), .int p1, .int p2]) ++ List.replicate (3 - (lg_sl ([.ref (b + 0), .int p1, .int p2])).length) Slot.unset).toArray = ls at hl ⊢
  replace hl : lv_has ls 3 [(0, .ref (b + 0)), (1, .int p1), (2, .int p2)] := hl
  unfold ms_isAt at h
  refine lv_aload_n hx hb dX12_isAt_0 rfl (lv_at hl 0 rfl) ?_
  refine lv_iload_n hx hb dX12_isAt_1 rfl (lv_at hl 1 rfl) ?_
  obtain ⟨f_1, wl_2, r_3, z_4, h⟩ := gb_bd_s h
  refine gb_calli (va_runV (C := RX12) (As := [.int p1]) (rest := []) ⟨hx, hb, hml, hown, hq⟩ (mc_isGoose l D cT tt b1 b hb1 n f w p1 f_1 wl_2 r_3 z_4) (cwV 1 hq (gb_gV w_1392 w_1394 s_4_6 w_14 w_1395) rfl rfl rfl (by decide +kernel) ⟨Nat.le_of_ble_eq_true rfl, Nat.le_of_ble_eq_true rfl⟩) (gb_preV (r := (RX12, TX12, 44)) (ci := 10) (q0 := 0) hSt hP rfl (gb_at b rfl) hS (fun q h => Nat.le_trans hb1 h.1) hP) rfl rfl hl.1 rfl (lv_room (Nat.le_of_ble_eq_true rfl)) dX12_isAt_2 ⟨Nat.le_of_ble_eq_true rfl, Nat.le_of_ble_eq_true rfl⟩) hS (fun _ h => h) (fun _ h => h) (fun q_5 H locs hY hk hS => ?_)
  obtain ⟨hq_5, hP⟩ := hY
  replace hq_5 := hq_5.symm
  subst hq_5
  refine lv_if_eq (tgt := 22) hx hb dX12_isAt_5 (by decide) (fun c_6 => ?_) (fun c_6 => ?_)
  · rw [if_pos c_6] at h
    refine lv_iconst (v := 0) hx hb dX12_isAt_22 (by decide) ?_
    obtain ⟨e1, e2, e3⟩ := gb_eq3 h
    exact W.zret (v := 0) hx hb hr (by decide) (fun t ht hW => gb_ri ht ⟨e3, by rw [← e1, ← e2]; exact hP⟩ hS) hS.2.2 dX12_isAt_23
  · rw [if_neg c_6] at h
    refine lv_aload_n hx hb dX12_isAt_8 rfl (lv_at hl 0 rfl) ?_
    refine va_get (ci := 10) (v := (.ref (b + 4))) (C := RX12) (T := TX12) (N := 44) hx hb hq i_X12 hown hK hP 0 (gb_at b rfl) rfl 13 (by decide) (hq _ w_1137) (fun _ h9 => h9) rfl dX12_isAt_9 ?_
    refine lv_iload_n hx hb dX12_isAt_12 rfl (lv_at hl 1 rfl) ?_
    obtain ⟨z_7, h⟩ := gb_ck_s h
    refine va_iald hx hb hK hP 4 0 (gb_at b rfl) rfl z_7 dX12_isAt_13 ?_
    refine lv_topi (fun x_8 ex_8 => ?_)
    replace h := gb_lt_s ex_8 h
    refine lv_iload_n hx hb dX12_isAt_14 rfl (lv_at hl 2 rfl) ?_
    refine lv_icmp_ne (tgt := 22) hx hb dX12_isAt_15 (by decide) (fun c_9 => ?_) (fun c_9 => ?_)
    · rw [if_neg c_9] at h
      refine lv_iconst (v := 0) hx hb dX12_isAt_22 (by decide) ?_
      obtain ⟨e1, e2, e3⟩ := gb_eq3 h
      exact W.zret (v := 0) hx hb hr (by decide) (fun t ht hW => gb_ri ht ⟨e3, by rw [← e1, ← e2]; exact hP⟩ hS) hS.2.2 dX12_isAt_23
    · rw [if_pos c_9] at h
      refine lv_iconst (v := 1) hx hb dX12_isAt_18 (by decide) ?_
      refine lv_goto (tgt := 23) hx hb dX12_isAt_19 (by decide) ?_
      obtain ⟨e1, e2, e3⟩ := gb_eq3 h
      exact W.zret (v := 1) hx hb hr (by decide) (fun t ht hW => gb_ri ht ⟨e3, by rw [← e1, ← e2]; exact hP⟩ hS) hS.2.2 dX12_isAt_23
theorem dX12_can_0 : decode cX12_can 0 = .ok (.aload_n 0, 1) := dc_42 (show ((cX12_can.data.toList.drop 0).take 1).map UInt8.toNat = [42] by decide +kernel)
theorem dX12_can_1 : decode cX12_can 1 = .ok (.iload_n 1, 1) := dc_27 (show ((cX12_can.data.toList.drop 1).take 1).map UInt8.toNat = [27] by decide +kernel)
theorem dX12_can_2 : decode cX12_can 2 = .ok (.iconst 1, 1) := dc_4 (show ((cX12_can.data.toList.drop 2).take 1).map UInt8.toNat = [4] by decide +kernel)
theorem dX12_can_3 : decode cX12_can 3 = .ok (.invokevirtual 230, 3) := dc_182 (show ((cX12_can.data.toList.drop 3).take 3).map UInt8.toNat = [182, 0, 230] by decide +kernel) rfl
theorem dX12_can_6 : decode cX12_can 6 = .ok (.istore_n 2, 1) := dc_61 (show ((cX12_can.data.toList.drop 6).take 1).map UInt8.toNat = [61] by decide +kernel)
theorem dX12_can_7 : decode cX12_can 7 = .ok (.aload_n 0, 1) := dc_42 (show ((cX12_can.data.toList.drop 7).take 1).map UInt8.toNat = [42] by decide +kernel)
theorem dX12_can_8 : decode cX12_can 8 = .ok (.iload_n 1, 1) := dc_27 (show ((cX12_can.data.toList.drop 8).take 1).map UInt8.toNat = [27] by decide +kernel)
theorem dX12_can_9 : decode cX12_can 9 = .ok (.iconst 2, 1) := dc_5 (show ((cX12_can.data.toList.drop 9).take 1).map UInt8.toNat = [5] by decide +kernel)
theorem dX12_can_10 : decode cX12_can 10 = .ok (.invokevirtual 230, 3) := dc_182 (show ((cX12_can.data.toList.drop 10).take 3).map UInt8.toNat = [182, 0, 230] by decide +kernel) rfl
theorem dX12_can_13 : decode cX12_can 13 = .ok (.istore_n 3, 1) := dc_62 (show ((cX12_can.data.toList.drop 13).take 1).map UInt8.toNat = [62] by decide +kernel)
theorem dX12_can_14 : decode cX12_can 14 = .ok (.aload_n 0, 1) := dc_42 (show ((cX12_can.data.toList.drop 14).take 1).map UInt8.toNat = [42] by decide +kernel)
theorem dX12_can_15 : decode cX12_can 15 = .ok (.iload_n 1, 1) := dc_27 (show ((cX12_can.data.toList.drop 15).take 1).map UInt8.toNat = [27] by decide +kernel)
theorem dX12_can_16 : decode cX12_can 16 = .ok (.iconst 0, 1) := dc_3 (show ((cX12_can.data.toList.drop 16).take 1).map UInt8.toNat = [3] by decide +kernel)
theorem dX12_can_17 : decode cX12_can 17 = .ok (.invokevirtual 230, 3) := dc_182 (show ((cX12_can.data.toList.drop 17).take 3).map UInt8.toNat = [182, 0, 230] by decide +kernel) rfl
theorem dX12_can_20 : decode cX12_can 20 = .ok (.tableswitch 205 0 8 #[52, 75, 98, 121, 158, 205, 205, 205, 182], 52) := by decide +kernel
theorem dX12_can_72 : decode cX12_can 72 = .ok (.aload_n 0, 1) := dc_42 (show ((cX12_can.data.toList.drop 72).take 1).map UInt8.toNat = [42] by decide +kernel)
theorem dX12_can_73 : decode cX12_can 73 = .ok (.iload_n 2, 1) := dc_28 (show ((cX12_can.data.toList.drop 73).take 1).map UInt8.toNat = [28] by decide +kernel)
theorem dX12_can_74 : decode cX12_can 74 = .ok (.iconst 0, 1) := dc_3 (show ((cX12_can.data.toList.drop 74).take 1).map UInt8.toNat = [3] by decide +kernel)
theorem dX12_can_75 : decode cX12_can 75 = .ok (.invokevirtual 239, 3) := dc_182 (show ((cX12_can.data.toList.drop 75).take 3).map UInt8.toNat = [182, 0, 239] by decide +kernel) rfl
theorem w_1447 : (Cond.code ({ cls := "GooseBorderModel", name := "isAt", desc := "(II)Z" } : MethodName) prog_14_method_48_code (3 : Nat) (Option.some FieldType.boolean)) ∈ gb_wA := gb_t7 7 rfl rfl
theorem w_1444 : (Cond.methodLink "GooseBorderModel" (239 : Nat) ({ cls := "GooseBorderModel", name := "isAt", desc := "(II)Z" } : MethodName)) ∈ gb_wA := gb_t7 4 rfl rfl
theorem w_1446 : (Cond.instanceMethod ({ cls := "GooseBorderModel", name := "isAt", desc := "(II)Z" } : MethodName)) ∈ gb_wA := gb_t7 6 rfl rfl
theorem s_5_0 : Cond.selects "GooseBorderModel" (⟨"GooseBorderModel", "isAt", "(II)Z"⟩ : MethodName) (⟨"GooseBorderModel", "isAt", "(II)Z"⟩ : MethodName) ∈ gb_wA := gb_s5 0 rfl rfl
theorem dX12_can_78 : decode cX12_can 78 = .ok (.ifCond .eq 15, 3) := dc_153 (show ((cX12_can.data.toList.drop 78).take 3).map UInt8.toNat = [153, 0, 15] by decide +kernel) rfl
theorem dX12_can_93 : decode cX12_can 93 = .ok (.iconst 0, 1) := dc_3 (show ((cX12_can.data.toList.drop 93).take 1).map UInt8.toNat = [3] by decide +kernel)
theorem dX12_can_94 : decode cX12_can 94 = .ok (.ireturn, 1) := dc_172 (show ((cX12_can.data.toList.drop 94).take 1).map UInt8.toNat = [172] by decide +kernel)
theorem dX12_can_81 : decode cX12_can 81 = .ok (.aload_n 0, 1) := dc_42 (show ((cX12_can.data.toList.drop 81).take 1).map UInt8.toNat = [42] by decide +kernel)
theorem dX12_can_82 : decode cX12_can 82 = .ok (.iload_n 3, 1) := dc_29 (show ((cX12_can.data.toList.drop 82).take 1).map UInt8.toNat = [29] by decide +kernel)
theorem dX12_can_83 : decode cX12_can 83 = .ok (.invokevirtual 208, 3) := dc_182 (show ((cX12_can.data.toList.drop 83).take 3).map UInt8.toNat = [182, 0, 208] by decide +kernel) rfl
theorem dX12_can_86 : decode cX12_can 86 = .ok (.ifCond .eq 7, 3) := dc_153 (show ((cX12_can.data.toList.drop 86).take 3).map UInt8.toNat = [153, 0, 7] by decide +kernel) rfl
theorem dX12_can_89 : decode cX12_can 89 = .ok (.iconst 1, 1) := dc_4 (show ((cX12_can.data.toList.drop 89).take 1).map UInt8.toNat = [4] by decide +kernel)
theorem dX12_can_90 : decode cX12_can 90 = .ok (.goto 4, 3) := dc_167 (show ((cX12_can.data.toList.drop 90).take 3).map UInt8.toNat = [167, 0, 4] by decide +kernel) rfl
theorem dX12_can_95 : decode cX12_can 95 = .ok (.aload_n 0, 1) := dc_42 (show ((cX12_can.data.toList.drop 95).take 1).map UInt8.toNat = [42] by decide +kernel)
theorem dX12_can_96 : decode cX12_can 96 = .ok (.iload_n 2, 1) := dc_28 (show ((cX12_can.data.toList.drop 96).take 1).map UInt8.toNat = [28] by decide +kernel)
theorem dX12_can_97 : decode cX12_can 97 = .ok (.iconst 0, 1) := dc_3 (show ((cX12_can.data.toList.drop 97).take 1).map UInt8.toNat = [3] by decide +kernel)
theorem dX12_can_98 : decode cX12_can 98 = .ok (.invokevirtual 239, 3) := dc_182 (show ((cX12_can.data.toList.drop 98).take 3).map UInt8.toNat = [182, 0, 239] by decide +kernel) rfl
theorem dX12_can_101 : decode cX12_can 101 = .ok (.ifCond .eq 15, 3) := dc_153 (show ((cX12_can.data.toList.drop 101).take 3).map UInt8.toNat = [153, 0, 15] by decide +kernel) rfl
theorem dX12_can_116 : decode cX12_can 116 = .ok (.iconst 0, 1) := dc_3 (show ((cX12_can.data.toList.drop 116).take 1).map UInt8.toNat = [3] by decide +kernel)
theorem dX12_can_117 : decode cX12_can 117 = .ok (.ireturn, 1) := dc_172 (show ((cX12_can.data.toList.drop 117).take 1).map UInt8.toNat = [172] by decide +kernel)
theorem dX12_can_104 : decode cX12_can 104 = .ok (.aload_n 0, 1) := dc_42 (show ((cX12_can.data.toList.drop 104).take 1).map UInt8.toNat = [42] by decide +kernel)
theorem dX12_can_105 : decode cX12_can 105 = .ok (.iload_n 3, 1) := dc_29 (show ((cX12_can.data.toList.drop 105).take 1).map UInt8.toNat = [29] by decide +kernel)
theorem dX12_can_106 : decode cX12_can 106 = .ok (.invokevirtual 208, 3) := dc_182 (show ((cX12_can.data.toList.drop 106).take 3).map UInt8.toNat = [182, 0, 208] by decide +kernel) rfl
theorem dX12_can_109 : decode cX12_can 109 = .ok (.ifCond .eq 7, 3) := dc_153 (show ((cX12_can.data.toList.drop 109).take 3).map UInt8.toNat = [153, 0, 7] by decide +kernel) rfl
theorem dX12_can_112 : decode cX12_can 112 = .ok (.iconst 1, 1) := dc_4 (show ((cX12_can.data.toList.drop 112).take 1).map UInt8.toNat = [4] by decide +kernel)
theorem dX12_can_113 : decode cX12_can 113 = .ok (.goto 4, 3) := dc_167 (show ((cX12_can.data.toList.drop 113).take 3).map UInt8.toNat = [167, 0, 4] by decide +kernel) rfl
theorem dX12_can_118 : decode cX12_can 118 = .ok (.aload_n 0, 1) := dc_42 (show ((cX12_can.data.toList.drop 118).take 1).map UInt8.toNat = [42] by decide +kernel)
theorem dX12_can_119 : decode cX12_can 119 = .ok (.iload_n 2, 1) := dc_28 (show ((cX12_can.data.toList.drop 119).take 1).map UInt8.toNat = [28] by decide +kernel)
theorem dX12_can_120 : decode cX12_can 120 = .ok (.iconst 1, 1) := dc_4 (show ((cX12_can.data.toList.drop 120).take 1).map UInt8.toNat = [4] by decide +kernel)
theorem dX12_can_121 : decode cX12_can 121 = .ok (.invokevirtual 239, 3) := dc_182 (show ((cX12_can.data.toList.drop 121).take 3).map UInt8.toNat = [182, 0, 239] by decide +kernel) rfl
theorem dX12_can_124 : decode cX12_can 124 = .ok (.ifCond .eq 15, 3) := dc_153 (show ((cX12_can.data.toList.drop 124).take 3).map UInt8.toNat = [153, 0, 15] by decide +kernel) rfl
theorem dX12_can_139 : decode cX12_can 139 = .ok (.iconst 0, 1) := dc_3 (show ((cX12_can.data.toList.drop 139).take 1).map UInt8.toNat = [3] by decide +kernel)
theorem dX12_can_140 : decode cX12_can 140 = .ok (.ireturn, 1) := dc_172 (show ((cX12_can.data.toList.drop 140).take 1).map UInt8.toNat = [172] by decide +kernel)
theorem dX12_can_127 : decode cX12_can 127 = .ok (.aload_n 0, 1) := dc_42 (show ((cX12_can.data.toList.drop 127).take 1).map UInt8.toNat = [42] by decide +kernel)
theorem dX12_can_128 : decode cX12_can 128 = .ok (.iload_n 3, 1) := dc_29 (show ((cX12_can.data.toList.drop 128).take 1).map UInt8.toNat = [29] by decide +kernel)
theorem dX12_can_129 : decode cX12_can 129 = .ok (.invokevirtual 208, 3) := dc_182 (show ((cX12_can.data.toList.drop 129).take 3).map UInt8.toNat = [182, 0, 208] by decide +kernel) rfl
theorem dX12_can_132 : decode cX12_can 132 = .ok (.ifCond .eq 7, 3) := dc_153 (show ((cX12_can.data.toList.drop 132).take 3).map UInt8.toNat = [153, 0, 7] by decide +kernel) rfl
theorem dX12_can_135 : decode cX12_can 135 = .ok (.iconst 1, 1) := dc_4 (show ((cX12_can.data.toList.drop 135).take 1).map UInt8.toNat = [4] by decide +kernel)
theorem dX12_can_136 : decode cX12_can 136 = .ok (.goto 4, 3) := dc_167 (show ((cX12_can.data.toList.drop 136).take 3).map UInt8.toNat = [167, 0, 4] by decide +kernel) rfl
theorem dX12_can_141 : decode cX12_can 141 = .ok (.aload_n 0, 1) := dc_42 (show ((cX12_can.data.toList.drop 141).take 1).map UInt8.toNat = [42] by decide +kernel)
theorem dX12_can_142 : decode cX12_can 142 = .ok (.iload_n 2, 1) := dc_28 (show ((cX12_can.data.toList.drop 142).take 1).map UInt8.toNat = [28] by decide +kernel)
theorem dX12_can_143 : decode cX12_can 143 = .ok (.iconst 0, 1) := dc_3 (show ((cX12_can.data.toList.drop 143).take 1).map UInt8.toNat = [3] by decide +kernel)
theorem dX12_can_144 : decode cX12_can 144 = .ok (.invokevirtual 239, 3) := dc_182 (show ((cX12_can.data.toList.drop 144).take 3).map UInt8.toNat = [182, 0, 239] by decide +kernel) rfl
theorem dX12_can_147 : decode cX12_can 147 = .ok (.ifCond .eq 29, 3) := dc_153 (show ((cX12_can.data.toList.drop 147).take 3).map UInt8.toNat = [153, 0, 29] by decide +kernel) rfl
theorem dX12_can_176 : decode cX12_can 176 = .ok (.iconst 0, 1) := dc_3 (show ((cX12_can.data.toList.drop 176).take 1).map UInt8.toNat = [3] by decide +kernel)
theorem dX12_can_177 : decode cX12_can 177 = .ok (.ireturn, 1) := dc_172 (show ((cX12_can.data.toList.drop 177).take 1).map UInt8.toNat = [172] by decide +kernel)
theorem dX12_can_150 : decode cX12_can 150 = .ok (.aload_n 0, 1) := dc_42 (show ((cX12_can.data.toList.drop 150).take 1).map UInt8.toNat = [42] by decide +kernel)
theorem dX12_can_151 : decode cX12_can 151 = .ok (.iload_n 3, 1) := dc_29 (show ((cX12_can.data.toList.drop 151).take 1).map UInt8.toNat = [29] by decide +kernel)
theorem dX12_can_152 : decode cX12_can 152 = .ok (.iconst 0, 1) := dc_3 (show ((cX12_can.data.toList.drop 152).take 1).map UInt8.toNat = [3] by decide +kernel)
theorem dX12_can_153 : decode cX12_can 153 = .ok (.invokevirtual 239, 3) := dc_182 (show ((cX12_can.data.toList.drop 153).take 3).map UInt8.toNat = [182, 0, 239] by decide +kernel) rfl
theorem dX12_can_156 : decode cX12_can 156 = .ok (.ifCond .eq 20, 3) := dc_153 (show ((cX12_can.data.toList.drop 156).take 3).map UInt8.toNat = [153, 0, 20] by decide +kernel) rfl
theorem dX12_can_159 : decode cX12_can 159 = .ok (.aload_n 0, 1) := dc_42 (show ((cX12_can.data.toList.drop 159).take 1).map UInt8.toNat = [42] by decide +kernel)
theorem dX12_can_160 : decode cX12_can 160 = .ok (.aload_n 0, 1) := dc_42 (show ((cX12_can.data.toList.drop 160).take 1).map UInt8.toNat = [42] by decide +kernel)
theorem dX12_can_161 : decode cX12_can 161 = .ok (.iload_n 1, 1) := dc_27 (show ((cX12_can.data.toList.drop 161).take 1).map UInt8.toNat = [27] by decide +kernel)
theorem dX12_can_162 : decode cX12_can 162 = .ok (.iconst 3, 1) := dc_6 (show ((cX12_can.data.toList.drop 162).take 1).map UInt8.toNat = [6] by decide +kernel)
theorem dX12_can_163 : decode cX12_can 163 = .ok (.invokevirtual 230, 3) := dc_182 (show ((cX12_can.data.toList.drop 163).take 3).map UInt8.toNat = [182, 0, 230] by decide +kernel) rfl
theorem dX12_can_166 : decode cX12_can 166 = .ok (.invokevirtual 208, 3) := dc_182 (show ((cX12_can.data.toList.drop 166).take 3).map UInt8.toNat = [182, 0, 208] by decide +kernel) rfl
theorem dX12_can_169 : decode cX12_can 169 = .ok (.ifCond .eq 7, 3) := dc_153 (show ((cX12_can.data.toList.drop 169).take 3).map UInt8.toNat = [153, 0, 7] by decide +kernel) rfl
theorem dX12_can_172 : decode cX12_can 172 = .ok (.iconst 1, 1) := dc_4 (show ((cX12_can.data.toList.drop 172).take 1).map UInt8.toNat = [4] by decide +kernel)
theorem dX12_can_173 : decode cX12_can 173 = .ok (.goto 4, 3) := dc_167 (show ((cX12_can.data.toList.drop 173).take 3).map UInt8.toNat = [167, 0, 4] by decide +kernel) rfl
theorem dX12_can_178 : decode cX12_can 178 = .ok (.aload_n 0, 1) := dc_42 (show ((cX12_can.data.toList.drop 178).take 1).map UInt8.toNat = [42] by decide +kernel)
theorem dX12_can_179 : decode cX12_can 179 = .ok (.iload_n 2, 1) := dc_28 (show ((cX12_can.data.toList.drop 179).take 1).map UInt8.toNat = [28] by decide +kernel)
theorem dX12_can_180 : decode cX12_can 180 = .ok (.invokevirtual 214, 3) := dc_182 (show ((cX12_can.data.toList.drop 180).take 3).map UInt8.toNat = [182, 0, 214] by decide +kernel) rfl
theorem dX12_can_183 : decode cX12_can 183 = .ok (.ifCond .eq 17, 3) := dc_153 (show ((cX12_can.data.toList.drop 183).take 3).map UInt8.toNat = [153, 0, 17] by decide +kernel) rfl
theorem dX12_can_200 : decode cX12_can 200 = .ok (.iconst 0, 1) := dc_3 (show ((cX12_can.data.toList.drop 200).take 1).map UInt8.toNat = [3] by decide +kernel)
theorem dX12_can_201 : decode cX12_can 201 = .ok (.ireturn, 1) := dc_172 (show ((cX12_can.data.toList.drop 201).take 1).map UInt8.toNat = [172] by decide +kernel)
theorem dX12_can_186 : decode cX12_can 186 = .ok (.aload_n 0, 1) := dc_42 (show ((cX12_can.data.toList.drop 186).take 1).map UInt8.toNat = [42] by decide +kernel)
theorem dX12_can_187 : decode cX12_can 187 = .ok (.getfield 20, 3) := dc_180 (show ((cX12_can.data.toList.drop 187).take 3).map UInt8.toNat = [180, 0, 20] by decide +kernel) rfl
theorem dX12_can_190 : decode cX12_can 190 = .ok (.iload_n 2, 1) := dc_28 (show ((cX12_can.data.toList.drop 190).take 1).map UInt8.toNat = [28] by decide +kernel)
theorem dX12_can_191 : decode cX12_can 191 = .ok (.iaload, 1) := dc_46 (show ((cX12_can.data.toList.drop 191).take 1).map UInt8.toNat = [46] by decide +kernel)
theorem dX12_can_192 : decode cX12_can 192 = .ok (.iconst 2, 1) := dc_5 (show ((cX12_can.data.toList.drop 192).take 1).map UInt8.toNat = [5] by decide +kernel)
theorem dX12_can_193 : decode cX12_can 193 = .ok (.if_icmp .eq 7, 3) := dc_159 (show ((cX12_can.data.toList.drop 193).take 3).map UInt8.toNat = [159, 0, 7] by decide +kernel) rfl
theorem dX12_can_196 : decode cX12_can 196 = .ok (.iconst 1, 1) := dc_4 (show ((cX12_can.data.toList.drop 196).take 1).map UInt8.toNat = [4] by decide +kernel)
theorem dX12_can_197 : decode cX12_can 197 = .ok (.goto 4, 3) := dc_167 (show ((cX12_can.data.toList.drop 197).take 3).map UInt8.toNat = [167, 0, 4] by decide +kernel) rfl
theorem dX12_can_225 : decode cX12_can 225 = .ok (.iconst 1, 1) := dc_4 (show ((cX12_can.data.toList.drop 225).take 1).map UInt8.toNat = [4] by decide +kernel)
theorem dX12_can_226 : decode cX12_can 226 = .ok (.ireturn, 1) := dc_172 (show ((cX12_can.data.toList.drop 226).take 1).map UInt8.toNat = [172] by decide +kernel)
theorem dX12_can_202 : decode cX12_can 202 = .ok (.aload_n 0, 1) := dc_42 (show ((cX12_can.data.toList.drop 202).take 1).map UInt8.toNat = [42] by decide +kernel)
theorem dX12_can_203 : decode cX12_can 203 = .ok (.iload_n 2, 1) := dc_28 (show ((cX12_can.data.toList.drop 203).take 1).map UInt8.toNat = [28] by decide +kernel)
theorem dX12_can_204 : decode cX12_can 204 = .ok (.invokevirtual 208, 3) := dc_182 (show ((cX12_can.data.toList.drop 204).take 3).map UInt8.toNat = [182, 0, 208] by decide +kernel) rfl
theorem dX12_can_207 : decode cX12_can 207 = .ok (.ifCond .eq 16, 3) := dc_153 (show ((cX12_can.data.toList.drop 207).take 3).map UInt8.toNat = [153, 0, 16] by decide +kernel) rfl
theorem dX12_can_223 : decode cX12_can 223 = .ok (.iconst 0, 1) := dc_3 (show ((cX12_can.data.toList.drop 223).take 1).map UInt8.toNat = [3] by decide +kernel)
theorem dX12_can_224 : decode cX12_can 224 = .ok (.ireturn, 1) := dc_172 (show ((cX12_can.data.toList.drop 224).take 1).map UInt8.toNat = [172] by decide +kernel)
theorem dX12_can_210 : decode cX12_can 210 = .ok (.aload_n 0, 1) := dc_42 (show ((cX12_can.data.toList.drop 210).take 1).map UInt8.toNat = [42] by decide +kernel)
theorem dX12_can_211 : decode cX12_can 211 = .ok (.iload_n 2, 1) := dc_28 (show ((cX12_can.data.toList.drop 211).take 1).map UInt8.toNat = [28] by decide +kernel)
theorem dX12_can_212 : decode cX12_can 212 = .ok (.invokevirtual 242, 3) := dc_182 (show ((cX12_can.data.toList.drop 212).take 3).map UInt8.toNat = [182, 0, 242] by decide +kernel) rfl
theorem w_1451 : (Cond.code ({ cls := "GooseBorderModel", name := "foxed", desc := "(I)I" } : MethodName) prog_14_method_47_code (4 : Nat) (Option.some FieldType.int)) ∈ gb_wA := gb_t7 11 rfl rfl
theorem w_1448 : (Cond.methodLink "GooseBorderModel" (242 : Nat) ({ cls := "GooseBorderModel", name := "foxed", desc := "(I)I" } : MethodName)) ∈ gb_wA := gb_t7 8 rfl rfl
theorem w_1450 : (Cond.instanceMethod ({ cls := "GooseBorderModel", name := "foxed", desc := "(I)I" } : MethodName)) ∈ gb_wA := gb_t7 10 rfl rfl
theorem s_5_1 : Cond.selects "GooseBorderModel" (⟨"GooseBorderModel", "foxed", "(I)I"⟩ : MethodName) (⟨"GooseBorderModel", "foxed", "(I)I"⟩ : MethodName) ∈ gb_wA := gb_s5 1 rfl rfl
theorem dX12_can_215 : decode cX12_can 215 = .ok (.iconst (-1), 1) := dc_2 (show ((cX12_can.data.toList.drop 215).take 1).map UInt8.toNat = [2] by decide +kernel)
theorem dX12_can_216 : decode cX12_can 216 = .ok (.if_icmp .eq 7, 3) := dc_159 (show ((cX12_can.data.toList.drop 216).take 3).map UInt8.toNat = [159, 0, 7] by decide +kernel) rfl
theorem dX12_can_219 : decode cX12_can 219 = .ok (.iconst 1, 1) := dc_4 (show ((cX12_can.data.toList.drop 219).take 1).map UInt8.toNat = [4] by decide +kernel)
theorem dX12_can_220 : decode cX12_can 220 = .ok (.goto 4, 3) := dc_167 (show ((cX12_can.data.toList.drop 220).take 3).map UInt8.toNat = [167, 0, 4] by decide +kernel) rfl
def ms_can (n : Nat) (f : gb_F) (w : Int64) (p1 : Int32) : gb_MR Int32 := gb_bd (ms_deedOf n f w p1 1) (fun f_1 wl_2 r_3 => gb_bd (ms_deedOf n f_1 wl_2 p1 2) (fun f_6 wl_7 r_8 => gb_bd (ms_deedOf n f_6 wl_7 p1 0) (fun f_11 wl_12 r_13 => (if r_13 = (0 : Int32) then gb_bd (ms_isAt n f_11 wl_12 r_3 0) (fun f_17 wl_18 r_19 => (if r_19 = 0 then some (f_17, wl_18, 0) else gb_bd (ms_isPath n f_17 wl_18 r_8) (fun f_23 wl_24 r_25 => (if r_25 = 0 then some (f_23, wl_24, 0) else some (f_23, wl_24, 1))))) else (if r_13 = (1 : Int32) then gb_bd (ms_isAt n f_11 wl_12 r_3 0) (fun f_30 wl_31 r_32 => (if r_32 = 0 then some (f_30, wl_31, 0) else gb_bd (ms_isPath n f_30 wl_31 r_8) (fun f_36 wl_37 r_38 => (if r_38 = 0 then some (f_36, wl_37, 0) else some (f_36, wl_37, 1))))) else (if r_13 = (2 : Int32) then gb_bd (ms_isAt n f_11 wl_12 r_3 1) (fun f_43 wl_44 r_45 => (if r_45 = 0 then some (f_43, wl_44, 0) else gb_bd (ms_isPath n f_43 wl_44 r_8) (fun f_49 wl_50 r_51 => (if r_51 = 0 then some (f_49, wl_50, 0) else some (f_49, wl_50, 1))))) else (if r_13 = (3 : Int32) then gb_bd (ms_isAt n f_11 wl_12 r_3 0) (fun f_56 wl_57 r_58 => (if r_58 = 0 then some (f_56, wl_57, 0) else gb_bd (ms_isAt n f_56 wl_57 r_8 0) (fun f_62 wl_63 r_64 => (if r_64 = 0 then some (f_62, wl_63, 0) else gb_bd (ms_deedOf n f_62 wl_63 p1 3) (fun f_68 wl_69 r_70 => gb_bd (ms_isPath n f_68 wl_69 r_70) (fun f_73 wl_74 r_75 => (if r_75 = 0 then some (f_73, wl_74, 0) else some (f_73, wl_74, 1)))))))) else (if r_13 = (4 : Int32) then gb_bd (ms_isGoose n f_11 wl_12 r_3) (fun f_80 wl_81 r_82 => (if r_82 = 0 then some (f_80, wl_81, 0) else gb_ck r_3 8 (gb_lt (f_80 4 (Int32.toNatClampNeg r_3)) (fun x_87 => (if x_87 = 2 then some (f_80, wl_81, 0) else some (f_80, wl_81, 1)))))) else (if r_13 = (5 : Int32) then some (f_11, wl_12, 1) else (if r_13 = (6 : Int32) then some (f_11, wl_12, 1) else (if r_13 = (7 : Int32) then some (f_11, wl_12, 1) else (if r_13 = (8 : Int32) then gb_bd (ms_isPath n f_11 wl_12 r_3) (fun f_93 wl_94 r_95 => (if r_95 = 0 then some (f_93, wl_94, 0) else gb_bd (ms_foxed n f_93 wl_94 r_3) (fun f_99 wl_100 r_101 => (if r_101 = (-1) then some (f_99, wl_100, 0) else some (f_99, wl_100, 1))))) else some (f_11, wl_12, 1)))))))))))))
set_option maxHeartbeats 8000000 in
set_option maxRecDepth 100000 in
theorem mc_can (l : Launch) (D : va_G) (cT : Nat → ClassId) (tt : Nat → Nat) (b1 b : Nat) (hb1 : b1 ≤ b) (n : Nat) (f : gb_F) (w : Int64) (p1 : Int32) (fE : gb_F) (wE : Int64) (rE : Int32) (h : ms_can n f w p1 = some (fE, wE, rE)) : Met l yX12_can (.code yX12_can cX12_can 4 (some FieldType.boolean) :: gb_wA) ({ frames := 4, cells := 0, slots := 0, locals := 84 }) (gb_Pc D cT tt b1 [.ref (b + 0), .int p1] (fun h => va_P D vwCl (gb_wl b (gb_MW cT b f w)) h)) (gb_Qi (fun r h => r = rE ∧ va_P D vwCl (gb_wl b (gb_MW cT b fE wE)) h) (gb_fr b 22)) 0 0 (gb_fr b 22) := by
  refine Met.ofW (cc := cX12_can) (maxL := 4) (ret := (some FieldType.boolean)) (by decide) rfl ?_
  intro p e s m args below meth c s₁ B hml hv
  obtain ⟨rfl, hSt, hP⟩ := hv
  have hx := B.exec
  have hb := B.bytes
  have hr := B.returns
  have hts := atoms_spec (ws := .code yX12_can cX12_can 4 (some FieldType.boolean) :: gb_wA) B.pre
  have hq : ∀ w ∈ gb_wA, w.before _ s = true := fun w h => hts w (List.mem_cons_of_mem _ h)
  have hown : s.vm.findClass RX12 = some m.cls := findClass_of_methodNamed B.named
  have hlocks := B.notSynchronized
  clear B hts
  have hK := hSt.1
  have hS : va_S (gb_fr b 22) s.heap s.heap [] := va_S.rf
  have hl := lv_entry ([.ref (b + 0), .int p1]) (n := 4) (Nat.le_of_ble_eq_true rfl)
  rw [lg_entry_eq]
  generalize (lg_sl ([.ref (b + 0), .int p1]) ++ List.replicate (4 - (lg_sl ([.ref (b + 0), .int p1])).length) Slot.unset).toArray = ls at hl ⊢
  replace hl : lv_has ls 4 [(0, .ref (b + 0)), (1, .int p1)] := hl
  unfold ms_can at h
  refine lv_aload_n hx hb dX12_can_0 rfl (lv_at hl 0 rfl) ?_
  refine lv_iload_n hx hb dX12_can_1 rfl (lv_at hl 1 rfl) ?_
  refine lv_iconst (v := 1) hx hb dX12_can_2 (by decide) ?_
  obtain ⟨f_1, wl_2, r_3, z_4, h⟩ := gb_bd_s h
  refine gb_calli (va_runV (C := RX12) (As := [.int p1, .int 1]) (rest := []) ⟨hx, hb, hml, hown, hq⟩ (mc_deedOf l D cT tt b1 b hb1 n f w p1 1 f_1 wl_2 r_3 z_4) (cwV 2 hq (gb_gV w_1420 w_1422 s_4_11 w_14 w_1423) rfl rfl rfl (by decide +kernel) ⟨Nat.le_of_ble_eq_true rfl, Nat.le_of_ble_eq_true rfl⟩) (gb_preV (r := (RX12, TX12, 44)) (ci := 10) (q0 := 0) hSt hP rfl (gb_at b rfl) hS (fun q h => Nat.le_trans hb1 h.1) hP) rfl rfl hl.1 rfl (lv_room (Nat.le_of_ble_eq_true rfl)) dX12_can_3 ⟨Nat.le_of_ble_eq_true rfl, Nat.le_of_ble_eq_true rfl⟩) hS (fun _ h => h) (fun _ h => h) (fun q_5 H locs hY hk hS => ?_)
  obtain ⟨hq_5, hP⟩ := hY
  replace hq_5 := hq_5.symm
  subst hq_5
  refine lv_istore_n (lv' := [(2, .int r_3), (0, .ref (b + 0)), (1, .int p1)]) hx hb dX12_can_6 rfl hl (by decide) rfl (fun ls hl => ?_)
  refine lv_aload_n hx hb dX12_can_7 rfl (lv_at hl 1 rfl) ?_
  refine lv_iload_n hx hb dX12_can_8 rfl (lv_at hl 2 rfl) ?_
  refine lv_iconst (v := 2) hx hb dX12_can_9 (by decide) ?_
  obtain ⟨f_6, wl_7, r_8, z_9, h⟩ := gb_bd_s h
  refine gb_calli (va_runV (C := RX12) (As := [.int p1, .int 2]) (rest := []) ⟨hx, hb, hml, hown, hq⟩ (mc_deedOf l D cT tt b1 b hb1 n f_1 wl_2 p1 2 f_6 wl_7 r_8 z_9) (cwV 2 hq (gb_gV w_1420 w_1422 s_4_11 w_14 w_1423) rfl rfl rfl (by decide +kernel) ⟨Nat.le_of_ble_eq_true rfl, Nat.le_of_ble_eq_true rfl⟩) (gb_preV (r := (RX12, TX12, 44)) (ci := 10) (q0 := 0) hSt hP rfl (gb_at b rfl) hS (fun q h => Nat.le_trans hb1 h.1) hP) rfl rfl hl.1 rfl (lv_room (Nat.le_of_ble_eq_true rfl)) dX12_can_10 ⟨Nat.le_of_ble_eq_true rfl, Nat.le_of_ble_eq_true rfl⟩) hS (fun _ h => h) (fun _ h => h) (fun q_10 H locs hY hk hS => ?_)
  obtain ⟨hq_10, hP⟩ := hY
  replace hq_10 := hq_10.symm
  subst hq_10
  refine lv_istore_n (lv' := [(3, .int r_8), (2, .int r_3), (0, .ref (b + 0)), (1, .int p1)]) hx hb dX12_can_13 rfl hl (by decide) rfl (fun ls hl => ?_)
  refine lv_aload_n hx hb dX12_can_14 rfl (lv_at hl 2 rfl) ?_
  refine lv_iload_n hx hb dX12_can_15 rfl (lv_at hl 3 rfl) ?_
  refine lv_iconst (v := 0) hx hb dX12_can_16 (by decide) ?_
  obtain ⟨f_11, wl_12, r_13, z_14, h⟩ := gb_bd_s h
  refine gb_calli (va_runV (C := RX12) (As := [.int p1, .int 0]) (rest := []) ⟨hx, hb, hml, hown, hq⟩ (mc_deedOf l D cT tt b1 b hb1 n f_6 wl_7 p1 0 f_11 wl_12 r_13 z_14) (cwV 2 hq (gb_gV w_1420 w_1422 s_4_11 w_14 w_1423) rfl rfl rfl (by decide +kernel) ⟨Nat.le_of_ble_eq_true rfl, Nat.le_of_ble_eq_true rfl⟩) (gb_preV (r := (RX12, TX12, 44)) (ci := 10) (q0 := 0) hSt hP rfl (gb_at b rfl) hS (fun q h => Nat.le_trans hb1 h.1) hP) rfl rfl hl.1 rfl (lv_room (Nat.le_of_ble_eq_true rfl)) dX12_can_17 ⟨Nat.le_of_ble_eq_true rfl, Nat.le_of_ble_eq_true rfl⟩) hS (fun _ h => h) (fun _ h => h) (fun q_15 H locs hY hk hS => ?_)
  obtain ⟨hq_15, hP⟩ := hY
  replace hq_15 := hq_15.symm
  subst hq_15
  by_cases c_16 : r_13 = (0 : Int32)
  · rw [if_pos c_16] at h
    refine lv_tableIn (off := 52) (tgt := 72) hx hb dX12_can_20 (by rw [c_16]; decide) (by rw [c_16]; decide) (by rw [c_16]; decide) (by decide) ?_
    refine lv_aload_n hx hb dX12_can_72 rfl (lv_at hl 2 rfl) ?_
    refine lv_iload_n hx hb dX12_can_73 rfl (lv_at hl 1 rfl) ?_
    refine lv_iconst (v := 0) hx hb dX12_can_74 (by decide) ?_
    obtain ⟨f_17, wl_18, r_19, z_20, h⟩ := gb_bd_s h
    refine gb_calli (va_runV (C := RX12) (As := [.int r_3, .int 0]) (rest := []) ⟨hx, hb, hml, hown, hq⟩ (mc_isAt l D cT tt b1 b hb1 n f_11 wl_12 r_3 0 f_17 wl_18 r_19 z_20) (cwV 2 hq (gb_gV w_1444 w_1446 s_5_0 w_14 w_1447) rfl rfl rfl (by decide +kernel) ⟨Nat.le_of_ble_eq_true rfl, Nat.le_of_ble_eq_true rfl⟩) (gb_preV (r := (RX12, TX12, 44)) (ci := 10) (q0 := 0) hSt hP rfl (gb_at b rfl) hS (fun q h => Nat.le_trans hb1 h.1) hP) rfl rfl hl.1 rfl (lv_room (Nat.le_of_ble_eq_true rfl)) dX12_can_75 ⟨Nat.le_of_ble_eq_true rfl, Nat.le_of_ble_eq_true rfl⟩) hS (fun _ h => h) (fun _ h => h) (fun q_21 H locs hY hk hS => ?_)
    obtain ⟨hq_21, hP⟩ := hY
    replace hq_21 := hq_21.symm
    subst hq_21
    refine lv_if_eq (tgt := 93) hx hb dX12_can_78 (by decide) (fun c_22 => ?_) (fun c_22 => ?_)
    · rw [if_pos c_22] at h
      refine lv_iconst (v := 0) hx hb dX12_can_93 (by decide) ?_
      obtain ⟨e1, e2, e3⟩ := gb_eq3 h
      exact W.zret (v := 0) hx hb hr (by decide) (fun t ht hW => gb_ri ht ⟨e3, by rw [← e1, ← e2]; exact hP⟩ hS) hS.2.2 dX12_can_94
    · rw [if_neg c_22] at h
      refine lv_aload_n hx hb dX12_can_81 rfl (lv_at hl 2 rfl) ?_
      refine lv_iload_n hx hb dX12_can_82 rfl (lv_at hl 0 rfl) ?_
      obtain ⟨f_23, wl_24, r_25, z_26, h⟩ := gb_bd_s h
      refine gb_calli (va_runV (C := RX12) (As := [.int r_8]) (rest := []) ⟨hx, hb, hml, hown, hq⟩ (mc_isPath l D cT tt b1 b hb1 n f_17 wl_18 r_8 f_23 wl_24 r_25 z_26) (cwV 1 hq (gb_gV w_1380 w_1382 s_4_3 w_14 w_1383) rfl rfl rfl (by decide +kernel) ⟨Nat.le_of_ble_eq_true rfl, Nat.le_of_ble_eq_true rfl⟩) (gb_preV (r := (RX12, TX12, 44)) (ci := 10) (q0 := 0) hSt hP rfl (gb_at b rfl) hS (fun q h => Nat.le_trans hb1 h.1) hP) rfl rfl hl.1 rfl (lv_room (Nat.le_of_ble_eq_true rfl)) dX12_can_83 ⟨Nat.le_of_ble_eq_true rfl, Nat.le_of_ble_eq_true rfl⟩) hS (fun _ h => h) (fun _ h => h) (fun q_27 H locs hY hk hS => ?_)
      obtain ⟨hq_27, hP⟩ := hY
      replace hq_27 := hq_27.symm
      subst hq_27
      refine lv_if_eq (tgt := 93) hx hb dX12_can_86 (by decide) (fun c_28 => ?_) (fun c_28 => ?_)
      · rw [if_pos c_28] at h
        refine lv_iconst (v := 0) hx hb dX12_can_93 (by decide) ?_
        obtain ⟨e1, e2, e3⟩ := gb_eq3 h
        exact W.zret (v := 0) hx hb hr (by decide) (fun t ht hW => gb_ri ht ⟨e3, by rw [← e1, ← e2]; exact hP⟩ hS) hS.2.2 dX12_can_94
      · rw [if_neg c_28] at h
        refine lv_iconst (v := 1) hx hb dX12_can_89 (by decide) ?_
        refine lv_goto (tgt := 94) hx hb dX12_can_90 (by decide) ?_
        obtain ⟨e1, e2, e3⟩ := gb_eq3 h
        exact W.zret (v := 1) hx hb hr (by decide) (fun t ht hW => gb_ri ht ⟨e3, by rw [← e1, ← e2]; exact hP⟩ hS) hS.2.2 dX12_can_94
  rw [if_neg c_16] at h
  by_cases c_29 : r_13 = (1 : Int32)
  · rw [if_pos c_29] at h
    refine lv_tableIn (off := 75) (tgt := 95) hx hb dX12_can_20 (by rw [c_29]; decide) (by rw [c_29]; decide) (by rw [c_29]; decide) (by decide) ?_
    refine lv_aload_n hx hb dX12_can_95 rfl (lv_at hl 2 rfl) ?_
    refine lv_iload_n hx hb dX12_can_96 rfl (lv_at hl 1 rfl) ?_
    refine lv_iconst (v := 0) hx hb dX12_can_97 (by decide) ?_
    obtain ⟨f_30, wl_31, r_32, z_33, h⟩ := gb_bd_s h
    refine gb_calli (va_runV (C := RX12) (As := [.int r_3, .int 0]) (rest := []) ⟨hx, hb, hml, hown, hq⟩ (mc_isAt l D cT tt b1 b hb1 n f_11 wl_12 r_3 0 f_30 wl_31 r_32 z_33) (cwV 2 hq (gb_gV w_1444 w_1446 s_5_0 w_14 w_1447) rfl rfl rfl (by decide +kernel) ⟨Nat.le_of_ble_eq_true rfl, Nat.le_of_ble_eq_true rfl⟩) (gb_preV (r := (RX12, TX12, 44)) (ci := 10) (q0 := 0) hSt hP rfl (gb_at b rfl) hS (fun q h => Nat.le_trans hb1 h.1) hP) rfl rfl hl.1 rfl (lv_room (Nat.le_of_ble_eq_true rfl)) dX12_can_98 ⟨Nat.le_of_ble_eq_true rfl, Nat.le_of_ble_eq_true rfl⟩) hS (fun _ h => h) (fun _ h => h) (fun q_34 H locs hY hk hS => ?_)
    obtain ⟨hq_34, hP⟩ := hY
    replace hq_34 := hq_34.symm
    subst hq_34
    refine lv_if_eq (tgt := 116) hx hb dX12_can_101 (by decide) (fun c_35 => ?_) (fun c_35 => ?_)
    · rw [if_pos c_35] at h
      refine lv_iconst (v := 0) hx hb dX12_can_116 (by decide) ?_
      obtain ⟨e1, e2, e3⟩ := gb_eq3 h
      exact W.zret (v := 0) hx hb hr (by decide) (fun t ht hW => gb_ri ht ⟨e3, by rw [← e1, ← e2]; exact hP⟩ hS) hS.2.2 dX12_can_117
    · rw [if_neg c_35] at h
      refine lv_aload_n hx hb dX12_can_104 rfl (lv_at hl 2 rfl) ?_
      refine lv_iload_n hx hb dX12_can_105 rfl (lv_at hl 0 rfl) ?_
      obtain ⟨f_36, wl_37, r_38, z_39, h⟩ := gb_bd_s h
      refine gb_calli (va_runV (C := RX12) (As := [.int r_8]) (rest := []) ⟨hx, hb, hml, hown, hq⟩ (mc_isPath l D cT tt b1 b hb1 n f_30 wl_31 r_8 f_36 wl_37 r_38 z_39) (cwV 1 hq (gb_gV w_1380 w_1382 s_4_3 w_14 w_1383) rfl rfl rfl (by decide +kernel) ⟨Nat.le_of_ble_eq_true rfl, Nat.le_of_ble_eq_true rfl⟩) (gb_preV (r := (RX12, TX12, 44)) (ci := 10) (q0 := 0) hSt hP rfl (gb_at b rfl) hS (fun q h => Nat.le_trans hb1 h.1) hP) rfl rfl hl.1 rfl (lv_room (Nat.le_of_ble_eq_true rfl)) dX12_can_106 ⟨Nat.le_of_ble_eq_true rfl, Nat.le_of_ble_eq_true rfl⟩) hS (fun _ h => h) (fun _ h => h) (fun q_40 H locs hY hk hS => ?_)
      obtain ⟨hq_40, hP⟩ := hY
      replace hq_40 := hq_40.symm
      subst hq_40
      refine lv_if_eq (tgt := 116) hx hb dX12_can_109 (by decide) (fun c_41 => ?_) (fun c_41 => ?_)
      · rw [if_pos c_41] at h
        refine lv_iconst (v := 0) hx hb dX12_can_116 (by decide) ?_
        obtain ⟨e1, e2, e3⟩ := gb_eq3 h
        exact W.zret (v := 0) hx hb hr (by decide) (fun t ht hW => gb_ri ht ⟨e3, by rw [← e1, ← e2]; exact hP⟩ hS) hS.2.2 dX12_can_117
      · rw [if_neg c_41] at h
        refine lv_iconst (v := 1) hx hb dX12_can_112 (by decide) ?_
        refine lv_goto (tgt := 117) hx hb dX12_can_113 (by decide) ?_
        obtain ⟨e1, e2, e3⟩ := gb_eq3 h
        exact W.zret (v := 1) hx hb hr (by decide) (fun t ht hW => gb_ri ht ⟨e3, by rw [← e1, ← e2]; exact hP⟩ hS) hS.2.2 dX12_can_117
  rw [if_neg c_29] at h
  by_cases c_42 : r_13 = (2 : Int32)
  · rw [if_pos c_42] at h
    refine lv_tableIn (off := 98) (tgt := 118) hx hb dX12_can_20 (by rw [c_42]; decide) (by rw [c_42]; decide) (by rw [c_42]; decide) (by decide) ?_
    refine lv_aload_n hx hb dX12_can_118 rfl (lv_at hl 2 rfl) ?_
    refine lv_iload_n hx hb dX12_can_119 rfl (lv_at hl 1 rfl) ?_
    refine lv_iconst (v := 1) hx hb dX12_can_120 (by decide) ?_
    obtain ⟨f_43, wl_44, r_45, z_46, h⟩ := gb_bd_s h
    refine gb_calli (va_runV (C := RX12) (As := [.int r_3, .int 1]) (rest := []) ⟨hx, hb, hml, hown, hq⟩ (mc_isAt l D cT tt b1 b hb1 n f_11 wl_12 r_3 1 f_43 wl_44 r_45 z_46) (cwV 2 hq (gb_gV w_1444 w_1446 s_5_0 w_14 w_1447) rfl rfl rfl (by decide +kernel) ⟨Nat.le_of_ble_eq_true rfl, Nat.le_of_ble_eq_true rfl⟩) (gb_preV (r := (RX12, TX12, 44)) (ci := 10) (q0 := 0) hSt hP rfl (gb_at b rfl) hS (fun q h => Nat.le_trans hb1 h.1) hP) rfl rfl hl.1 rfl (lv_room (Nat.le_of_ble_eq_true rfl)) dX12_can_121 ⟨Nat.le_of_ble_eq_true rfl, Nat.le_of_ble_eq_true rfl⟩) hS (fun _ h => h) (fun _ h => h) (fun q_47 H locs hY hk hS => ?_)
    obtain ⟨hq_47, hP⟩ := hY
    replace hq_47 := hq_47.symm
    subst hq_47
    refine lv_if_eq (tgt := 139) hx hb dX12_can_124 (by decide) (fun c_48 => ?_) (fun c_48 => ?_)
    · rw [if_pos c_48] at h
      refine lv_iconst (v := 0) hx hb dX12_can_139 (by decide) ?_
      obtain ⟨e1, e2, e3⟩ := gb_eq3 h
      exact W.zret (v := 0) hx hb hr (by decide) (fun t ht hW => gb_ri ht ⟨e3, by rw [← e1, ← e2]; exact hP⟩ hS) hS.2.2 dX12_can_140
    · rw [if_neg c_48] at h
      refine lv_aload_n hx hb dX12_can_127 rfl (lv_at hl 2 rfl) ?_
      refine lv_iload_n hx hb dX12_can_128 rfl (lv_at hl 0 rfl) ?_
      obtain ⟨f_49, wl_50, r_51, z_52, h⟩ := gb_bd_s h
      refine gb_calli (va_runV (C := RX12) (As := [.int r_8]) (rest := []) ⟨hx, hb, hml, hown, hq⟩ (mc_isPath l D cT tt b1 b hb1 n f_43 wl_44 r_8 f_49 wl_50 r_51 z_52) (cwV 1 hq (gb_gV w_1380 w_1382 s_4_3 w_14 w_1383) rfl rfl rfl (by decide +kernel) ⟨Nat.le_of_ble_eq_true rfl, Nat.le_of_ble_eq_true rfl⟩) (gb_preV (r := (RX12, TX12, 44)) (ci := 10) (q0 := 0) hSt hP rfl (gb_at b rfl) hS (fun q h => Nat.le_trans hb1 h.1) hP) rfl rfl hl.1 rfl (lv_room (Nat.le_of_ble_eq_true rfl)) dX12_can_129 ⟨Nat.le_of_ble_eq_true rfl, Nat.le_of_ble_eq_true rfl⟩) hS (fun _ h => h) (fun _ h => h) (fun q_53 H locs hY hk hS => ?_)
      obtain ⟨hq_53, hP⟩ := hY
      replace hq_53 := hq_53.symm
      subst hq_53
      refine lv_if_eq (tgt := 139) hx hb dX12_can_132 (by decide) (fun c_54 => ?_) (fun c_54 => ?_)
      · rw [if_pos c_54] at h
        refine lv_iconst (v := 0) hx hb dX12_can_139 (by decide) ?_
        obtain ⟨e1, e2, e3⟩ := gb_eq3 h
        exact W.zret (v := 0) hx hb hr (by decide) (fun t ht hW => gb_ri ht ⟨e3, by rw [← e1, ← e2]; exact hP⟩ hS) hS.2.2 dX12_can_140
      · rw [if_neg c_54] at h
        refine lv_iconst (v := 1) hx hb dX12_can_135 (by decide) ?_
        refine lv_goto (tgt := 140) hx hb dX12_can_136 (by decide) ?_
        obtain ⟨e1, e2, e3⟩ := gb_eq3 h
        exact W.zret (v := 1) hx hb hr (by decide) (fun t ht hW => gb_ri ht ⟨e3, by rw [← e1, ← e2]; exact hP⟩ hS) hS.2.2 dX12_can_140
  rw [if_neg c_42] at h
  by_cases c_55 : r_13 = (3 : Int32)
  · rw [if_pos c_55] at h
    refine lv_tableIn (off := 121) (tgt := 141) hx hb dX12_can_20 (by rw [c_55]; decide) (by rw [c_55]; decide) (by rw [c_55]; decide) (by decide) ?_
    refine lv_aload_n hx hb dX12_can_141 rfl (lv_at hl 2 rfl) ?_
    refine lv_iload_n hx hb dX12_can_142 rfl (lv_at hl 1 rfl) ?_
    refine lv_iconst (v := 0) hx hb dX12_can_143 (by decide) ?_
    obtain ⟨f_56, wl_57, r_58, z_59, h⟩ := gb_bd_s h
    refine gb_calli (va_runV (C := RX12) (As := [.int r_3, .int 0]) (rest := []) ⟨hx, hb, hml, hown, hq⟩ (mc_isAt l D cT tt b1 b hb1 n f_11 wl_12 r_3 0 f_56 wl_57 r_58 z_59) (cwV 2 hq (gb_gV w_1444 w_1446 s_5_0 w_14 w_1447) rfl rfl rfl (by decide +kernel) ⟨Nat.le_of_ble_eq_true rfl, Nat.le_of_ble_eq_true rfl⟩) (gb_preV (r := (RX12, TX12, 44)) (ci := 10) (q0 := 0) hSt hP rfl (gb_at b rfl) hS (fun q h => Nat.le_trans hb1 h.1) hP) rfl rfl hl.1 rfl (lv_room (Nat.le_of_ble_eq_true rfl)) dX12_can_144 ⟨Nat.le_of_ble_eq_true rfl, Nat.le_of_ble_eq_true rfl⟩) hS (fun _ h => h) (fun _ h => h) (fun q_60 H locs hY hk hS => ?_)
    obtain ⟨hq_60, hP⟩ := hY
    replace hq_60 := hq_60.symm
    subst hq_60
    refine lv_if_eq (tgt := 176) hx hb dX12_can_147 (by decide) (fun c_61 => ?_) (fun c_61 => ?_)
    · rw [if_pos c_61] at h
      refine lv_iconst (v := 0) hx hb dX12_can_176 (by decide) ?_
      obtain ⟨e1, e2, e3⟩ := gb_eq3 h
      exact W.zret (v := 0) hx hb hr (by decide) (fun t ht hW => gb_ri ht ⟨e3, by rw [← e1, ← e2]; exact hP⟩ hS) hS.2.2 dX12_can_177
    · rw [if_neg c_61] at h
      refine lv_aload_n hx hb dX12_can_150 rfl (lv_at hl 2 rfl) ?_
      refine lv_iload_n hx hb dX12_can_151 rfl (lv_at hl 0 rfl) ?_
      refine lv_iconst (v := 0) hx hb dX12_can_152 (by decide) ?_
      obtain ⟨f_62, wl_63, r_64, z_65, h⟩ := gb_bd_s h
      refine gb_calli (va_runV (C := RX12) (As := [.int r_8, .int 0]) (rest := []) ⟨hx, hb, hml, hown, hq⟩ (mc_isAt l D cT tt b1 b hb1 n f_56 wl_57 r_8 0 f_62 wl_63 r_64 z_65) (cwV 2 hq (gb_gV w_1444 w_1446 s_5_0 w_14 w_1447) rfl rfl rfl (by decide +kernel) ⟨Nat.le_of_ble_eq_true rfl, Nat.le_of_ble_eq_true rfl⟩) (gb_preV (r := (RX12, TX12, 44)) (ci := 10) (q0 := 0) hSt hP rfl (gb_at b rfl) hS (fun q h => Nat.le_trans hb1 h.1) hP) rfl rfl hl.1 rfl (lv_room (Nat.le_of_ble_eq_true rfl)) dX12_can_153 ⟨Nat.le_of_ble_eq_true rfl, Nat.le_of_ble_eq_true rfl⟩) hS (fun _ h => h) (fun _ h => h) (fun q_66 H locs hY hk hS => ?_)
      obtain ⟨hq_66, hP⟩ := hY
      replace hq_66 := hq_66.symm
      subst hq_66
      refine lv_if_eq (tgt := 176) hx hb dX12_can_156 (by decide) (fun c_67 => ?_) (fun c_67 => ?_)
      · rw [if_pos c_67] at h
        refine lv_iconst (v := 0) hx hb dX12_can_176 (by decide) ?_
        obtain ⟨e1, e2, e3⟩ := gb_eq3 h
        exact W.zret (v := 0) hx hb hr (by decide) (fun t ht hW => gb_ri ht ⟨e3, by rw [← e1, ← e2]; exact hP⟩ hS) hS.2.2 dX12_can_177
      · rw [if_neg c_67] at h
        refine lv_aload_n hx hb dX12_can_159 rfl (lv_at hl 2 rfl) ?_
        refine lv_aload_n hx hb dX12_can_160 rfl (lv_at hl 2 rfl) ?_
        refine lv_iload_n hx hb dX12_can_161 rfl (lv_at hl 3 rfl) ?_
        refine lv_iconst (v := 3) hx hb dX12_can_162 (by decide) ?_
        obtain ⟨f_68, wl_69, r_70, z_71, h⟩ := gb_bd_s h
        refine gb_calli (va_runV (C := RX12) (As := [.int p1, .int 3]) (rest := [.ref (b + 0)]) ⟨hx, hb, hml, hown, hq⟩ (mc_deedOf l D cT tt b1 b hb1 n f_62 wl_63 p1 3 f_68 wl_69 r_70 z_71) (cwV 2 hq (gb_gV w_1420 w_1422 s_4_11 w_14 w_1423) rfl rfl rfl (by decide +kernel) ⟨Nat.le_of_ble_eq_true rfl, Nat.le_of_ble_eq_true rfl⟩) (gb_preV (r := (RX12, TX12, 44)) (ci := 10) (q0 := 0) hSt hP rfl (gb_at b rfl) hS (fun q h => Nat.le_trans hb1 h.1) hP) rfl rfl hl.1 rfl (lv_room (Nat.le_of_ble_eq_true rfl)) dX12_can_163 ⟨Nat.le_of_ble_eq_true rfl, Nat.le_of_ble_eq_true rfl⟩) hS (fun _ h => h) (fun _ h => h) (fun q_72 H locs hY hk hS => ?_)
        obtain ⟨hq_72, hP⟩ := hY
        replace hq_72 := hq_72.symm
        subst hq_72
        obtain ⟨f_73, wl_74, r_75, z_76, h⟩ := gb_bd_s h
        refine gb_calli (va_runV (C := RX12) (As := [.int r_70]) (rest := []) ⟨hx, hb, hml, hown, hq⟩ (mc_isPath l D cT tt b1 b hb1 n f_68 wl_69 r_70 f_73 wl_74 r_75 z_76) (cwV 1 hq (gb_gV w_1380 w_1382 s_4_3 w_14 w_1383) rfl rfl rfl (by decide +kernel) ⟨Nat.le_of_ble_eq_true rfl, Nat.le_of_ble_eq_true rfl⟩) (gb_preV (r := (RX12, TX12, 44)) (ci := 10) (q0 := 0) hSt hP rfl (gb_at b rfl) hS (fun q h => Nat.le_trans hb1 h.1) hP) rfl rfl hl.1 rfl (lv_room (Nat.le_of_ble_eq_true rfl)) dX12_can_166 ⟨Nat.le_of_ble_eq_true rfl, Nat.le_of_ble_eq_true rfl⟩) hS (fun _ h => h) (fun _ h => h) (fun q_77 H locs hY hk hS => ?_)
        obtain ⟨hq_77, hP⟩ := hY
        replace hq_77 := hq_77.symm
        subst hq_77
        refine lv_if_eq (tgt := 176) hx hb dX12_can_169 (by decide) (fun c_78 => ?_) (fun c_78 => ?_)
        · rw [if_pos c_78] at h
          refine lv_iconst (v := 0) hx hb dX12_can_176 (by decide) ?_
          obtain ⟨e1, e2, e3⟩ := gb_eq3 h
          exact W.zret (v := 0) hx hb hr (by decide) (fun t ht hW => gb_ri ht ⟨e3, by rw [← e1, ← e2]; exact hP⟩ hS) hS.2.2 dX12_can_177
        · rw [if_neg c_78] at h
          refine lv_iconst (v := 1) hx hb dX12_can_172 (by decide) ?_
          refine lv_goto (tgt := 177) hx hb dX12_can_173 (by decide) ?_
          obtain ⟨e1, e2, e3⟩ := gb_eq3 h
          exact W.zret (v := 1) hx hb hr (by decide) (fun t ht hW => gb_ri ht ⟨e3, by rw [← e1, ← e2]; exact hP⟩ hS) hS.2.2 dX12_can_177
  rw [if_neg c_55] at h
  by_cases c_79 : r_13 = (4 : Int32)
  · rw [if_pos c_79] at h
    refine lv_tableIn (off := 158) (tgt := 178) hx hb dX12_can_20 (by rw [c_79]; decide) (by rw [c_79]; decide) (by rw [c_79]; decide) (by decide) ?_
    refine lv_aload_n hx hb dX12_can_178 rfl (lv_at hl 2 rfl) ?_
    refine lv_iload_n hx hb dX12_can_179 rfl (lv_at hl 1 rfl) ?_
    obtain ⟨f_80, wl_81, r_82, z_83, h⟩ := gb_bd_s h
    refine gb_calli (va_runV (C := RX12) (As := [.int r_3]) (rest := []) ⟨hx, hb, hml, hown, hq⟩ (mc_isGoose l D cT tt b1 b hb1 n f_11 wl_12 r_3 f_80 wl_81 r_82 z_83) (cwV 1 hq (gb_gV w_1392 w_1394 s_4_6 w_14 w_1395) rfl rfl rfl (by decide +kernel) ⟨Nat.le_of_ble_eq_true rfl, Nat.le_of_ble_eq_true rfl⟩) (gb_preV (r := (RX12, TX12, 44)) (ci := 10) (q0 := 0) hSt hP rfl (gb_at b rfl) hS (fun q h => Nat.le_trans hb1 h.1) hP) rfl rfl hl.1 rfl (lv_room (Nat.le_of_ble_eq_true rfl)) dX12_can_180 ⟨Nat.le_of_ble_eq_true rfl, Nat.le_of_ble_eq_true rfl⟩) hS (fun _ h => h) (fun _ h => h) (fun q_84 H locs hY hk hS => ?_)
    obtain ⟨hq_84, hP⟩ := hY
    replace hq_84 := hq_84.symm
    subst hq_84
    refine lv_if_eq (tgt := 200) hx hb dX12_can_183 (by decide) (fun c_85 => ?_) (fun c_85 => ?_)
    · rw [if_pos c_85] at h
      refine lv_iconst (v := 0) hx hb dX12_can_200 (by decide) ?_
      obtain ⟨e1, e2, e3⟩ := gb_eq3 h
      exact W.zret (v := 0) hx hb hr (by decide) (fun t ht hW => gb_ri ht ⟨e3, by rw [← e1, ← e2]; exact hP⟩ hS) hS.2.2 dX12_can_201
    · rw [if_neg c_85] at h
      refine lv_aload_n hx hb dX12_can_186 rfl (lv_at hl 2 rfl) ?_
      refine va_get (ci := 10) (v := (.ref (b + 4))) (C := RX12) (T := TX12) (N := 44) hx hb hq i_X12 hown hK hP 0 (gb_at b rfl) rfl 13 (by decide) (hq _ w_1137) (fun _ h9 => h9) rfl dX12_can_187 ?_
      refine lv_iload_n hx hb dX12_can_190 rfl (lv_at hl 1 rfl) ?_
      obtain ⟨z_86, h⟩ := gb_ck_s h
      refine va_iald hx hb hK hP 4 0 (gb_at b rfl) rfl z_86 dX12_can_191 ?_
      refine lv_topi (fun x_87 ex_87 => ?_)
      replace h := gb_lt_s ex_87 h
      refine lv_iconst (v := 2) hx hb dX12_can_192 (by decide) ?_
      refine lv_icmp_eq (tgt := 200) hx hb dX12_can_193 (by decide) (fun c_88 => ?_) (fun c_88 => ?_)
      · rw [if_pos c_88] at h
        refine lv_iconst (v := 0) hx hb dX12_can_200 (by decide) ?_
        obtain ⟨e1, e2, e3⟩ := gb_eq3 h
        exact W.zret (v := 0) hx hb hr (by decide) (fun t ht hW => gb_ri ht ⟨e3, by rw [← e1, ← e2]; exact hP⟩ hS) hS.2.2 dX12_can_201
      · rw [if_neg c_88] at h
        refine lv_iconst (v := 1) hx hb dX12_can_196 (by decide) ?_
        refine lv_goto (tgt := 201) hx hb dX12_can_197 (by decide) ?_
        obtain ⟨e1, e2, e3⟩ := gb_eq3 h
        exact W.zret (v := 1) hx hb hr (by decide) (fun t ht hW => gb_ri ht ⟨e3, by rw [← e1, ← e2]; exact hP⟩ hS) hS.2.2 dX12_can_201
  rw [if_neg c_79] at h
  by_cases c_89 : r_13 = (5 : Int32)
  · rw [if_pos c_89] at h
    refine lv_tableIn (off := 205) (tgt := 225) hx hb dX12_can_20 (by rw [c_89]; decide) (by rw [c_89]; decide) (by rw [c_89]; decide) (by decide) ?_
    refine lv_iconst (v := 1) hx hb dX12_can_225 (by decide) ?_
    obtain ⟨e1, e2, e3⟩ := gb_eq3 h
    exact W.zret (v := 1) hx hb hr (by decide) (fun t ht hW => gb_ri ht ⟨e3, by rw [← e1, ← e2]; exact hP⟩ hS) hS.2.2 dX12_can_226
  rw [if_neg c_89] at h
  by_cases c_90 : r_13 = (6 : Int32)
  · rw [if_pos c_90] at h
    refine lv_tableIn (off := 205) (tgt := 225) hx hb dX12_can_20 (by rw [c_90]; decide) (by rw [c_90]; decide) (by rw [c_90]; decide) (by decide) ?_
    refine lv_iconst (v := 1) hx hb dX12_can_225 (by decide) ?_
    obtain ⟨e1, e2, e3⟩ := gb_eq3 h
    exact W.zret (v := 1) hx hb hr (by decide) (fun t ht hW => gb_ri ht ⟨e3, by rw [← e1, ← e2]; exact hP⟩ hS) hS.2.2 dX12_can_226
  rw [if_neg c_90] at h
  by_cases c_91 : r_13 = (7 : Int32)
  · rw [if_pos c_91] at h
    refine lv_tableIn (off := 205) (tgt := 225) hx hb dX12_can_20 (by rw [c_91]; decide) (by rw [c_91]; decide) (by rw [c_91]; decide) (by decide) ?_
    refine lv_iconst (v := 1) hx hb dX12_can_225 (by decide) ?_
    obtain ⟨e1, e2, e3⟩ := gb_eq3 h
    exact W.zret (v := 1) hx hb hr (by decide) (fun t ht hW => gb_ri ht ⟨e3, by rw [← e1, ← e2]; exact hP⟩ hS) hS.2.2 dX12_can_226
  rw [if_neg c_91] at h
  by_cases c_92 : r_13 = (8 : Int32)
  · rw [if_pos c_92] at h
    refine lv_tableIn (off := 182) (tgt := 202) hx hb dX12_can_20 (by rw [c_92]; decide) (by rw [c_92]; decide) (by rw [c_92]; decide) (by decide) ?_
    refine lv_aload_n hx hb dX12_can_202 rfl (lv_at hl 2 rfl) ?_
    refine lv_iload_n hx hb dX12_can_203 rfl (lv_at hl 1 rfl) ?_
    obtain ⟨f_93, wl_94, r_95, z_96, h⟩ := gb_bd_s h
    refine gb_calli (va_runV (C := RX12) (As := [.int r_3]) (rest := []) ⟨hx, hb, hml, hown, hq⟩ (mc_isPath l D cT tt b1 b hb1 n f_11 wl_12 r_3 f_93 wl_94 r_95 z_96) (cwV 1 hq (gb_gV w_1380 w_1382 s_4_3 w_14 w_1383) rfl rfl rfl (by decide +kernel) ⟨Nat.le_of_ble_eq_true rfl, Nat.le_of_ble_eq_true rfl⟩) (gb_preV (r := (RX12, TX12, 44)) (ci := 10) (q0 := 0) hSt hP rfl (gb_at b rfl) hS (fun q h => Nat.le_trans hb1 h.1) hP) rfl rfl hl.1 rfl (lv_room (Nat.le_of_ble_eq_true rfl)) dX12_can_204 ⟨Nat.le_of_ble_eq_true rfl, Nat.le_of_ble_eq_true rfl⟩) hS (fun _ h => h) (fun _ h => h) (fun q_97 H locs hY hk hS => ?_)
    obtain ⟨hq_97, hP⟩ := hY
    replace hq_97 := hq_97.symm
    subst hq_97
    refine lv_if_eq (tgt := 223) hx hb dX12_can_207 (by decide) (fun c_98 => ?_) (fun c_98 => ?_)
    · rw [if_pos c_98] at h
      refine lv_iconst (v := 0) hx hb dX12_can_223 (by decide) ?_
      obtain ⟨e1, e2, e3⟩ := gb_eq3 h
      exact W.zret (v := 0) hx hb hr (by decide) (fun t ht hW => gb_ri ht ⟨e3, by rw [← e1, ← e2]; exact hP⟩ hS) hS.2.2 dX12_can_224
    · rw [if_neg c_98] at h
      refine lv_aload_n hx hb dX12_can_210 rfl (lv_at hl 2 rfl) ?_
      refine lv_iload_n hx hb dX12_can_211 rfl (lv_at hl 1 rfl) ?_
      obtain ⟨f_99, wl_100, r_101, z_102, h⟩ := gb_bd_s h
      refine gb_calli (va_runV (C := RX12) (As := [.int r_3]) (rest := []) ⟨hx, hb, hml, hown, hq⟩ (mc_foxed l D cT tt b1 b hb1 n f_93 wl_94 r_3 f_99 wl_100 r_101 z_102) (cwV 1 hq (gb_gV w_1448 w_1450 s_5_1 w_14 w_1451) rfl rfl rfl (by decide +kernel) ⟨Nat.le_of_ble_eq_true rfl, Nat.le_of_ble_eq_true rfl⟩) (gb_preV (r := (RX12, TX12, 44)) (ci := 10) (q0 := 0) hSt hP rfl (gb_at b rfl) hS (fun q h => Nat.le_trans hb1 h.1) hP) rfl rfl hl.1 rfl (lv_room (Nat.le_of_ble_eq_true rfl)) dX12_can_212 ⟨Nat.le_of_ble_eq_true rfl, Nat.le_of_ble_eq_true rfl⟩) hS (fun _ h => h) (fun _ h => h) (fun q_103 H locs hY hk hS => ?_)
      obtain ⟨hq_103, hP⟩ := hY
      replace hq_103 := hq_103.symm
      subst hq_103
      refine lv_iconst (v := (-1)) hx hb dX12_can_215 (by decide) ?_
      refine lv_icmp_eq (tgt := 223) hx hb dX12_can_216 (by decide) (fun c_104 => ?_) (fun c_104 => ?_)
      · rw [if_pos c_104] at h
        refine lv_iconst (v := 0) hx hb dX12_can_223 (by decide) ?_
        obtain ⟨e1, e2, e3⟩ := gb_eq3 h
        exact W.zret (v := 0) hx hb hr (by decide) (fun t ht hW => gb_ri ht ⟨e3, by rw [← e1, ← e2]; exact hP⟩ hS) hS.2.2 dX12_can_224
      · rw [if_neg c_104] at h
        refine lv_iconst (v := 1) hx hb dX12_can_219 (by decide) ?_
        refine lv_goto (tgt := 224) hx hb dX12_can_220 (by decide) ?_
        obtain ⟨e1, e2, e3⟩ := gb_eq3 h
        exact W.zret (v := 1) hx hb hr (by decide) (fun t ht hW => gb_ri ht ⟨e3, by rw [← e1, ← e2]; exact hP⟩ hS) hS.2.2 dX12_can_224
  rw [if_neg c_92] at h
  refine lv_tableOut (tgt := 225) hx hb dX12_can_20 (by have := lv_neT c_16 (a := 0) rfl; have := lv_neT c_29 (a := 1) rfl; have := lv_neT c_42 (a := 2) rfl; have := lv_neT c_55 (a := 3) rfl; have := lv_neT c_79 (a := 4) rfl; have := lv_neT c_89 (a := 5) rfl; have := lv_neT c_90 (a := 6) rfl; have := lv_neT c_91 (a := 7) rfl; have := lv_neT c_92 (a := 8) rfl; omega) (by decide) ?_
  refine lv_iconst (v := 1) hx hb dX12_can_225 (by decide) ?_
  obtain ⟨e1, e2, e3⟩ := gb_eq3 h
  exact W.zret (v := 1) hx hb hr (by decide) (fun t ht hW => gb_ri ht ⟨e3, by rw [← e1, ← e2]; exact hP⟩ hS) hS.2.2 dX12_can_226
theorem dX12_walks_0 : decode cX12_walks 0 = .ok (.aload_n 0, 1) := dc_42 (show ((cX12_walks.data.toList.drop 0).take 1).map UInt8.toNat = [42] by decide +kernel)
theorem dX12_walks_1 : decode cX12_walks 1 = .ok (.iload_n 3, 1) := dc_29 (show ((cX12_walks.data.toList.drop 1).take 1).map UInt8.toNat = [29] by decide +kernel)
theorem dX12_walks_2 : decode cX12_walks 2 = .ok (.iconst 0, 1) := dc_3 (show ((cX12_walks.data.toList.drop 2).take 1).map UInt8.toNat = [3] by decide +kernel)
theorem dX12_walks_3 : decode cX12_walks 3 = .ok (.invokevirtual 211, 3) := dc_182 (show ((cX12_walks.data.toList.drop 3).take 3).map UInt8.toNat = [182, 0, 211] by decide +kernel) rfl
theorem dX12_walks_6 : decode cX12_walks 6 = .ok (.istore 6, 2) := dc_54 (show ((cX12_walks.data.toList.drop 6).take 2).map UInt8.toNat = [54, 6] by decide +kernel) rfl
theorem dX12_walks_8 : decode cX12_walks 8 = .ok (.aload_n 0, 1) := dc_42 (show ((cX12_walks.data.toList.drop 8).take 1).map UInt8.toNat = [42] by decide +kernel)
theorem dX12_walks_9 : decode cX12_walks 9 = .ok (.iload_n 2, 1) := dc_28 (show ((cX12_walks.data.toList.drop 9).take 1).map UInt8.toNat = [28] by decide +kernel)
theorem dX12_walks_10 : decode cX12_walks 10 = .ok (.iload 6, 2) := dc_21 (show ((cX12_walks.data.toList.drop 10).take 2).map UInt8.toNat = [21, 6] by decide +kernel) rfl
theorem dX12_walks_12 : decode cX12_walks 12 = .ok (.aload_n 0, 1) := dc_42 (show ((cX12_walks.data.toList.drop 12).take 1).map UInt8.toNat = [42] by decide +kernel)
theorem dX12_walks_13 : decode cX12_walks 13 = .ok (.getfield 23, 3) := dc_180 (show ((cX12_walks.data.toList.drop 13).take 3).map UInt8.toNat = [180, 0, 23] by decide +kernel) rfl
theorem dX12_walks_16 : decode cX12_walks 16 = .ok (.iload_n 2, 1) := dc_28 (show ((cX12_walks.data.toList.drop 16).take 1).map UInt8.toNat = [28] by decide +kernel)
theorem dX12_walks_17 : decode cX12_walks 17 = .ok (.iaload, 1) := dc_46 (show ((cX12_walks.data.toList.drop 17).take 1).map UInt8.toNat = [46] by decide +kernel)
theorem dX12_walks_18 : decode cX12_walks 18 = .ok (.aload_n 0, 1) := dc_42 (show ((cX12_walks.data.toList.drop 18).take 1).map UInt8.toNat = [42] by decide +kernel)
theorem dX12_walks_19 : decode cX12_walks 19 = .ok (.getfield 233, 3) := dc_180 (show ((cX12_walks.data.toList.drop 19).take 3).map UInt8.toNat = [180, 0, 233] by decide +kernel) rfl
theorem dX12_walks_22 : decode cX12_walks 22 = .ok (.aload_n 0, 1) := dc_42 (show ((cX12_walks.data.toList.drop 22).take 1).map UInt8.toNat = [42] by decide +kernel)
theorem dX12_walks_23 : decode cX12_walks 23 = .ok (.iload_n 2, 1) := dc_28 (show ((cX12_walks.data.toList.drop 23).take 1).map UInt8.toNat = [28] by decide +kernel)
theorem dX12_walks_24 : decode cX12_walks 24 = .ok (.iconst 3, 1) := dc_6 (show ((cX12_walks.data.toList.drop 24).take 1).map UInt8.toNat = [6] by decide +kernel)
theorem dX12_walks_25 : decode cX12_walks 25 = .ok (.invokevirtual 217, 3) := dc_182 (show ((cX12_walks.data.toList.drop 25).take 3).map UInt8.toNat = [182, 0, 217] by decide +kernel) rfl
theorem dX12_walks_28 : decode cX12_walks 28 = .ok (.invokevirtual 220, 3) := dc_182 (show ((cX12_walks.data.toList.drop 28).take 3).map UInt8.toNat = [182, 0, 220] by decide +kernel) rfl
theorem dX12_walks_31 : decode cX12_walks 31 = .ok (.istore 7, 2) := dc_54 (show ((cX12_walks.data.toList.drop 31).take 2).map UInt8.toNat = [54, 7] by decide +kernel) rfl
theorem dX12_walks_33 : decode cX12_walks 33 = .ok (.aload_n 0, 1) := dc_42 (show ((cX12_walks.data.toList.drop 33).take 1).map UInt8.toNat = [42] by decide +kernel)
theorem dX12_walks_34 : decode cX12_walks 34 = .ok (.getfield 23, 3) := dc_180 (show ((cX12_walks.data.toList.drop 34).take 3).map UInt8.toNat = [180, 0, 23] by decide +kernel) rfl
theorem dX12_walks_37 : decode cX12_walks 37 = .ok (.iload_n 2, 1) := dc_28 (show ((cX12_walks.data.toList.drop 37).take 1).map UInt8.toNat = [28] by decide +kernel)
theorem dX12_walks_38 : decode cX12_walks 38 = .ok (.aload_n 0, 1) := dc_42 (show ((cX12_walks.data.toList.drop 38).take 1).map UInt8.toNat = [42] by decide +kernel)
theorem dX12_walks_39 : decode cX12_walks 39 = .ok (.getfield 23, 3) := dc_180 (show ((cX12_walks.data.toList.drop 39).take 3).map UInt8.toNat = [180, 0, 23] by decide +kernel) rfl
theorem dX12_walks_42 : decode cX12_walks 42 = .ok (.iload_n 2, 1) := dc_28 (show ((cX12_walks.data.toList.drop 42).take 1).map UInt8.toNat = [28] by decide +kernel)
theorem dX12_walks_43 : decode cX12_walks 43 = .ok (.iaload, 1) := dc_46 (show ((cX12_walks.data.toList.drop 43).take 1).map UInt8.toNat = [46] by decide +kernel)
theorem dX12_walks_44 : decode cX12_walks 44 = .ok (.iload 6, 2) := dc_21 (show ((cX12_walks.data.toList.drop 44).take 2).map UInt8.toNat = [21, 6] by decide +kernel) rfl
theorem dX12_walks_46 : decode cX12_walks 46 = .ok (.if_icmp .le 15, 3) := dc_164 (show ((cX12_walks.data.toList.drop 46).take 3).map UInt8.toNat = [164, 0, 15] by decide +kernel) rfl
theorem dX12_walks_61 : decode cX12_walks 61 = .ok (.iconst 0, 1) := dc_3 (show ((cX12_walks.data.toList.drop 61).take 1).map UInt8.toNat = [3] by decide +kernel)
theorem dX12_walks_62 : decode cX12_walks 62 = .ok (.iastore, 1) := dc_79 (show ((cX12_walks.data.toList.drop 62).take 1).map UInt8.toNat = [79] by decide +kernel)
theorem dX12_walks_63 : decode cX12_walks 63 = .ok (.iload_n 1, 1) := dc_27 (show ((cX12_walks.data.toList.drop 63).take 1).map UInt8.toNat = [27] by decide +kernel)
theorem dX12_walks_64 : decode cX12_walks 64 = .ok (.aload_n 0, 1) := dc_42 (show ((cX12_walks.data.toList.drop 64).take 1).map UInt8.toNat = [42] by decide +kernel)
theorem dX12_walks_65 : decode cX12_walks 65 = .ok (.getfield 245, 3) := dc_180 (show ((cX12_walks.data.toList.drop 65).take 3).map UInt8.toNat = [180, 0, 245] by decide +kernel) rfl
theorem w_1148 : (Cond.fieldLink "GooseBorderModel" (245 : Nat) "GooseBorderModel" "spared" "I") ∈ gb_wA := gb_t5 188 rfl rfl
theorem dX12_walks_68 : decode cX12_walks 68 = .ok (.if_icmp .eq 54, 3) := dc_159 (show ((cX12_walks.data.toList.drop 68).take 3).map UInt8.toNat = [159, 0, 54] by decide +kernel) rfl
theorem dX12_walks_122 : decode cX12_walks 122 = .ok (.aload_n 0, 1) := dc_42 (show ((cX12_walks.data.toList.drop 122).take 1).map UInt8.toNat = [42] by decide +kernel)
theorem dX12_walks_123 : decode cX12_walks 123 = .ok (.getfield 20, 3) := dc_180 (show ((cX12_walks.data.toList.drop 123).take 3).map UInt8.toNat = [180, 0, 20] by decide +kernel) rfl
theorem dX12_walks_126 : decode cX12_walks 126 = .ok (.iload_n 2, 1) := dc_28 (show ((cX12_walks.data.toList.drop 126).take 1).map UInt8.toNat = [28] by decide +kernel)
theorem dX12_walks_127 : decode cX12_walks 127 = .ok (.iload 5, 2) := dc_21 (show ((cX12_walks.data.toList.drop 127).take 2).map UInt8.toNat = [21, 5] by decide +kernel) rfl
theorem dX12_walks_129 : decode cX12_walks 129 = .ok (.iastore, 1) := dc_79 (show ((cX12_walks.data.toList.drop 129).take 1).map UInt8.toNat = [79] by decide +kernel)
theorem dX12_walks_130 : decode cX12_walks 130 = .ok (.aload_n 0, 1) := dc_42 (show ((cX12_walks.data.toList.drop 130).take 1).map UInt8.toNat = [42] by decide +kernel)
theorem dX12_walks_131 : decode cX12_walks 131 = .ok (.getfield 29, 3) := dc_180 (show ((cX12_walks.data.toList.drop 131).take 3).map UInt8.toNat = [180, 0, 29] by decide +kernel) rfl
theorem dX12_walks_134 : decode cX12_walks 134 = .ok (.iload_n 2, 1) := dc_28 (show ((cX12_walks.data.toList.drop 134).take 1).map UInt8.toNat = [28] by decide +kernel)
theorem dX12_walks_135 : decode cX12_walks 135 = .ok (.iload_n 3, 1) := dc_29 (show ((cX12_walks.data.toList.drop 135).take 1).map UInt8.toNat = [29] by decide +kernel)
theorem dX12_walks_136 : decode cX12_walks 136 = .ok (.iastore, 1) := dc_79 (show ((cX12_walks.data.toList.drop 136).take 1).map UInt8.toNat = [79] by decide +kernel)
theorem dX12_walks_137 : decode cX12_walks 137 = .ok (.aload_n 0, 1) := dc_42 (show ((cX12_walks.data.toList.drop 137).take 1).map UInt8.toNat = [42] by decide +kernel)
theorem dX12_walks_138 : decode cX12_walks 138 = .ok (.getfield 35, 3) := dc_180 (show ((cX12_walks.data.toList.drop 138).take 3).map UInt8.toNat = [180, 0, 35] by decide +kernel) rfl
theorem dX12_walks_141 : decode cX12_walks 141 = .ok (.iconst 5, 1) := dc_8 (show ((cX12_walks.data.toList.drop 141).take 1).map UInt8.toNat = [8] by decide +kernel)
theorem dX12_walks_142 : decode cX12_walks 142 = .ok (.iload_n 2, 1) := dc_28 (show ((cX12_walks.data.toList.drop 142).take 1).map UInt8.toNat = [28] by decide +kernel)
theorem dX12_walks_143 : decode cX12_walks 143 = .ok (.imul, 1) := dc_104 (show ((cX12_walks.data.toList.drop 143).take 1).map UInt8.toNat = [104] by decide +kernel)
theorem dX12_walks_144 : decode cX12_walks 144 = .ok (.iload_n 3, 1) := dc_29 (show ((cX12_walks.data.toList.drop 144).take 1).map UInt8.toNat = [29] by decide +kernel)
theorem dX12_walks_145 : decode cX12_walks 145 = .ok (.iadd, 1) := dc_96 (show ((cX12_walks.data.toList.drop 145).take 1).map UInt8.toNat = [96] by decide +kernel)
theorem dX12_walks_146 : decode cX12_walks 146 = .ok (.iload_n 1, 1) := dc_27 (show ((cX12_walks.data.toList.drop 146).take 1).map UInt8.toNat = [27] by decide +kernel)
theorem dX12_walks_147 : decode cX12_walks 147 = .ok (.iastore, 1) := dc_79 (show ((cX12_walks.data.toList.drop 147).take 1).map UInt8.toNat = [79] by decide +kernel)
theorem dX12_walks_148 : decode cX12_walks 148 = .ok (.return_, 1) := dc_177 (show ((cX12_walks.data.toList.drop 148).take 1).map UInt8.toNat = [177] by decide +kernel)
theorem dX12_walks_71 : decode cX12_walks 71 = .ok (.aload_n 0, 1) := dc_42 (show ((cX12_walks.data.toList.drop 71).take 1).map UInt8.toNat = [42] by decide +kernel)
theorem dX12_walks_72 : decode cX12_walks 72 = .ok (.getfield 26, 3) := dc_180 (show ((cX12_walks.data.toList.drop 72).take 3).map UInt8.toNat = [180, 0, 26] by decide +kernel) rfl
theorem dX12_walks_75 : decode cX12_walks 75 = .ok (.iload_n 2, 1) := dc_28 (show ((cX12_walks.data.toList.drop 75).take 1).map UInt8.toNat = [28] by decide +kernel)
theorem dX12_walks_76 : decode cX12_walks 76 = .ok (.dup2, 1) := dc_92 (show ((cX12_walks.data.toList.drop 76).take 1).map UInt8.toNat = [92] by decide +kernel)
theorem dX12_walks_77 : decode cX12_walks 77 = .ok (.iaload, 1) := dc_46 (show ((cX12_walks.data.toList.drop 77).take 1).map UInt8.toNat = [46] by decide +kernel)
theorem dX12_walks_78 : decode cX12_walks 78 = .ok (.iload 7, 2) := dc_21 (show ((cX12_walks.data.toList.drop 78).take 2).map UInt8.toNat = [21, 7] by decide +kernel) rfl
theorem dX12_walks_80 : decode cX12_walks 80 = .ok (.iadd, 1) := dc_96 (show ((cX12_walks.data.toList.drop 80).take 1).map UInt8.toNat = [96] by decide +kernel)
theorem dX12_walks_81 : decode cX12_walks 81 = .ok (.iastore, 1) := dc_79 (show ((cX12_walks.data.toList.drop 81).take 1).map UInt8.toNat = [79] by decide +kernel)
theorem dX12_walks_82 : decode cX12_walks 82 = .ok (.aload_n 0, 1) := dc_42 (show ((cX12_walks.data.toList.drop 82).take 1).map UInt8.toNat = [42] by decide +kernel)
theorem dX12_walks_83 : decode cX12_walks 83 = .ok (.getfield 38, 3) := dc_180 (show ((cX12_walks.data.toList.drop 83).take 3).map UInt8.toNat = [180, 0, 38] by decide +kernel) rfl
theorem dX12_walks_86 : decode cX12_walks 86 = .ok (.iload_n 3, 1) := dc_29 (show ((cX12_walks.data.toList.drop 86).take 1).map UInt8.toNat = [29] by decide +kernel)
theorem dX12_walks_87 : decode cX12_walks 87 = .ok (.dup2, 1) := dc_92 (show ((cX12_walks.data.toList.drop 87).take 1).map UInt8.toNat = [92] by decide +kernel)
theorem dX12_walks_88 : decode cX12_walks 88 = .ok (.iaload, 1) := dc_46 (show ((cX12_walks.data.toList.drop 88).take 1).map UInt8.toNat = [46] by decide +kernel)
theorem dX12_walks_89 : decode cX12_walks 89 = .ok (.iload 4, 2) := dc_21 (show ((cX12_walks.data.toList.drop 89).take 2).map UInt8.toNat = [21, 4] by decide +kernel) rfl
theorem dX12_walks_91 : decode cX12_walks 91 = .ok (.ifCond .eq 7, 3) := dc_153 (show ((cX12_walks.data.toList.drop 91).take 3).map UInt8.toNat = [153, 0, 7] by decide +kernel) rfl
theorem dX12_walks_98 : decode cX12_walks 98 = .ok (.iload 7, 2) := dc_21 (show ((cX12_walks.data.toList.drop 98).take 2).map UInt8.toNat = [21, 7] by decide +kernel) rfl
theorem dX12_walks_100 : decode cX12_walks 100 = .ok (.iadd, 1) := dc_96 (show ((cX12_walks.data.toList.drop 100).take 1).map UInt8.toNat = [96] by decide +kernel)
theorem dX12_walks_101 : decode cX12_walks 101 = .ok (.iastore, 1) := dc_79 (show ((cX12_walks.data.toList.drop 101).take 1).map UInt8.toNat = [79] by decide +kernel)
theorem dX12_walks_102 : decode cX12_walks 102 = .ok (.aload_n 0, 1) := dc_42 (show ((cX12_walks.data.toList.drop 102).take 1).map UInt8.toNat = [42] by decide +kernel)
theorem dX12_walks_103 : decode cX12_walks 103 = .ok (.getfield 41, 3) := dc_180 (show ((cX12_walks.data.toList.drop 103).take 3).map UInt8.toNat = [180, 0, 41] by decide +kernel) rfl
theorem dX12_walks_106 : decode cX12_walks 106 = .ok (.iload_n 3, 1) := dc_29 (show ((cX12_walks.data.toList.drop 106).take 1).map UInt8.toNat = [29] by decide +kernel)
theorem dX12_walks_107 : decode cX12_walks 107 = .ok (.dup2, 1) := dc_92 (show ((cX12_walks.data.toList.drop 107).take 1).map UInt8.toNat = [92] by decide +kernel)
theorem dX12_walks_108 : decode cX12_walks 108 = .ok (.iaload, 1) := dc_46 (show ((cX12_walks.data.toList.drop 108).take 1).map UInt8.toNat = [46] by decide +kernel)
theorem dX12_walks_109 : decode cX12_walks 109 = .ok (.iload 4, 2) := dc_21 (show ((cX12_walks.data.toList.drop 109).take 2).map UInt8.toNat = [21, 4] by decide +kernel) rfl
theorem dX12_walks_111 : decode cX12_walks 111 = .ok (.ifCond .eq 8, 3) := dc_153 (show ((cX12_walks.data.toList.drop 111).take 3).map UInt8.toNat = [153, 0, 8] by decide +kernel) rfl
theorem dX12_walks_119 : decode cX12_walks 119 = .ok (.iconst 0, 1) := dc_3 (show ((cX12_walks.data.toList.drop 119).take 1).map UInt8.toNat = [3] by decide +kernel)
theorem dX12_walks_120 : decode cX12_walks 120 = .ok (.iadd, 1) := dc_96 (show ((cX12_walks.data.toList.drop 120).take 1).map UInt8.toNat = [96] by decide +kernel)
theorem dX12_walks_121 : decode cX12_walks 121 = .ok (.iastore, 1) := dc_79 (show ((cX12_walks.data.toList.drop 121).take 1).map UInt8.toNat = [79] by decide +kernel)
theorem dX12_walks_114 : decode cX12_walks 114 = .ok (.iload 7, 2) := dc_21 (show ((cX12_walks.data.toList.drop 114).take 2).map UInt8.toNat = [21, 7] by decide +kernel) rfl
theorem dX12_walks_116 : decode cX12_walks 116 = .ok (.goto 4, 3) := dc_167 (show ((cX12_walks.data.toList.drop 116).take 3).map UInt8.toNat = [167, 0, 4] by decide +kernel) rfl
theorem dX12_walks_94 : decode cX12_walks 94 = .ok (.iconst 0, 1) := dc_3 (show ((cX12_walks.data.toList.drop 94).take 1).map UInt8.toNat = [3] by decide +kernel)
theorem dX12_walks_95 : decode cX12_walks 95 = .ok (.goto 5, 3) := dc_167 (show ((cX12_walks.data.toList.drop 95).take 3).map UInt8.toNat = [167, 0, 5] by decide +kernel) rfl
theorem dX12_walks_49 : decode cX12_walks 49 = .ok (.aload_n 0, 1) := dc_42 (show ((cX12_walks.data.toList.drop 49).take 1).map UInt8.toNat = [42] by decide +kernel)
theorem dX12_walks_50 : decode cX12_walks 50 = .ok (.getfield 23, 3) := dc_180 (show ((cX12_walks.data.toList.drop 50).take 3).map UInt8.toNat = [180, 0, 23] by decide +kernel) rfl
theorem dX12_walks_53 : decode cX12_walks 53 = .ok (.iload_n 2, 1) := dc_28 (show ((cX12_walks.data.toList.drop 53).take 1).map UInt8.toNat = [28] by decide +kernel)
theorem dX12_walks_54 : decode cX12_walks 54 = .ok (.iaload, 1) := dc_46 (show ((cX12_walks.data.toList.drop 54).take 1).map UInt8.toNat = [46] by decide +kernel)
theorem dX12_walks_55 : decode cX12_walks 55 = .ok (.iload 6, 2) := dc_21 (show ((cX12_walks.data.toList.drop 55).take 2).map UInt8.toNat = [21, 6] by decide +kernel) rfl
theorem dX12_walks_57 : decode cX12_walks 57 = .ok (.isub, 1) := dc_100 (show ((cX12_walks.data.toList.drop 57).take 1).map UInt8.toNat = [100] by decide +kernel)
theorem dX12_walks_58 : decode cX12_walks 58 = .ok (.goto 4, 3) := dc_167 (show ((cX12_walks.data.toList.drop 58).take 3).map UInt8.toNat = [167, 0, 4] by decide +kernel) rfl
def ms_walks_122 (n : Nat) (f : gb_F) (w : Int64) (v1 : Int32) (v2 : Int32) (v3 : Int32) (v5 : Int32) : gb_MR Unit := gb_ck v2 8 (gb_lt (gb_u f 4 (upd (f 4) (Int32.toNatClampNeg v2) v5)) (fun f_25 => gb_ck v2 8 (gb_lt (gb_u f_25 7 (upd (f_25 7) (Int32.toNatClampNeg v2) v3)) (fun f_27 => gb_ck ((5 * v2) + v3) 40 (gb_lt (gb_u f_27 9 (upd (f_27 9) (Int32.toNatClampNeg ((5 * v2) + v3)) v1)) (fun f_29 => some (f_29, w, ())))))))
def ms_walks_120 (n : Nat) (f : gb_F) (w : Int64) (v1 : Int32) (v2 : Int32) (v3 : Int32) (v5 : Int32) (t0 : Int32) (t1 : Int32) (t2 : Int32) : gb_MR Unit := gb_ck t2 5 (gb_lt (gb_u f 11 (upd (f 11) (Int32.toNatClampNeg t2) (t1 + t0))) (fun f_43 => ms_walks_122 n f_43 w v1 v2 v3 v5))
def ms_walks_100 (n : Nat) (f : gb_F) (w : Int64) (v1 : Int32) (v2 : Int32) (v3 : Int32) (v4 : Int32) (v5 : Int32) (v7 : Int32) (t0 : Int32) (t1 : Int32) (t2 : Int32) : gb_MR Unit := gb_ck t2 5 (gb_lt (gb_u f 10 (upd (f 10) (Int32.toNatClampNeg t2) (t1 + t0))) (fun f_38 => gb_ck v3 5 (gb_lt (f_38 11 (Int32.toNatClampNeg v3)) (fun x_40 => (if v4 = 0 then ms_walks_120 n f_38 w v1 v2 v3 v5 0 x_40 v3 else ms_walks_120 n f_38 w v1 v2 v3 v5 v7 x_40 v3)))))
def ms_walks_62 (n : Nat) (f : gb_F) (w : Int64) (v1 : Int32) (v2 : Int32) (v3 : Int32) (v4 : Int32) (v5 : Int32) (v7 : Int32) (t0 : Int32) (t1 : Int32) : gb_MR Unit := gb_ck t1 8 (gb_lt (gb_u f 5 (upd (f 5) (Int32.toNatClampNeg t1) t0)) (fun f_22 => (if v1 = (f_22 0 24) then ms_walks_122 n f_22 w v1 v2 v3 v5 else gb_ck v2 8 (gb_lt (f_22 6 (Int32.toNatClampNeg v2)) (fun x_31 => gb_ck v2 8 (gb_lt (gb_u f_22 6 (upd (f_22 6) (Int32.toNatClampNeg v2) (x_31 + v7))) (fun f_33 => gb_ck v3 5 (gb_lt (f_33 10 (Int32.toNatClampNeg v3)) (fun x_35 => (if v4 = 0 then ms_walks_100 n f_33 w v1 v2 v3 v4 v5 v7 v7 x_35 v3 else ms_walks_100 n f_33 w v1 v2 v3 v4 v5 v7 0 x_35 v3))))))))))
def ms_walks (n : Nat) (f : gb_F) (w : Int64) (p1 : Int32) (p2 : Int32) (p3 : Int32) (p4 : Int32) (p5 : Int32) : gb_MR Unit := gb_bd (ms_ofPath n f w p3 0) (fun f_1 wl_2 r_3 => gb_ck p2 8 (gb_lt (f_1 5 (Int32.toNatClampNeg p2)) (fun x_7 => gb_bd (ms_ofGoose n f_1 wl_2 p2 3) (fun f_8 wl_9 r_10 => gb_bd (ms_left n f_8 wl_9 p2 r_3 x_7 (f_1 0 22) r_10) (fun f_13 wl_14 r_15 => gb_ck p2 8 (gb_lt (f_13 5 (Int32.toNatClampNeg p2)) (fun x_19 => (if x_19 ≤ r_3 then ms_walks_62 n f_13 wl_14 p1 p2 p3 p4 p5 r_15 0 p2 else gb_ck p2 8 (gb_lt (f_13 5 (Int32.toNatClampNeg p2)) (fun x_45 => ms_walks_62 n f_13 wl_14 p1 p2 p3 p4 p5 r_15 (x_45 - r_3) p2))))))))))
set_option maxHeartbeats 8000000 in
set_option maxRecDepth 100000 in
theorem mc_walks (l : Launch) (D : va_G) (cT : Nat → ClassId) (tt : Nat → Nat) (b1 b : Nat) (hb1 : b1 ≤ b) (n : Nat) (f : gb_F) (w : Int64) (p1 : Int32) (p2 : Int32) (p3 : Int32) (p4 : Int32) (p5 : Int32) (fE : gb_F) (wE : Int64) (rE : Unit) (h : ms_walks n f w p1 p2 p3 p4 p5 = some (fE, wE, rE)) : Met l yX12_walks (.code yX12_walks cX12_walks 8 none :: gb_wA) ({ frames := 3, cells := 0, slots := 0, locals := 70 }) (gb_Pc D cT tt b1 [.ref (b + 0), .int p1, .int p2, .int p3, .int p4, .int p5] (fun h => va_P D vwCl (gb_wl b (gb_MW cT b f w)) h)) (gb_Qv (fun h => va_P D vwCl (gb_wl b (gb_MW cT b fE wE)) h) (gb_fr b 22)) 0 0 (gb_fr b 22) := by
  refine Met.ofW (cc := cX12_walks) (maxL := 8) (ret := none) (by decide) rfl ?_
  intro p e s m args below meth c s₁ B hml hv
  obtain ⟨rfl, hSt, hP⟩ := hv
  have hx := B.exec
  have hb := B.bytes
  have hr := B.returns
  have hts := atoms_spec (ws := .code yX12_walks cX12_walks 8 none :: gb_wA) B.pre
  have hq : ∀ w ∈ gb_wA, w.before _ s = true := fun w h => hts w (List.mem_cons_of_mem _ h)
  have hown : s.vm.findClass RX12 = some m.cls := findClass_of_methodNamed B.named
  have hlocks := B.notSynchronized
  clear B hts
  have hK := hSt.1
  have hS : va_S (gb_fr b 22) s.heap s.heap [] := va_S.rf
  have hl := lv_entry ([.ref (b + 0), .int p1, .int p2, .int p3, .int p4, .int p5]) (n := 8) (Nat.le_of_ble_eq_true rfl)
  rw [lg_entry_eq]
  generalize (lg_sl ([.ref (b + 0), .int p1, .int p2, .int p3, .int p4, .int p5]) ++ List.replicate (8 - (lg_sl ([.ref (b + 0), .int p1, .int p2, .int p3, .int p4, .int p5])).length) Slot.unset).toArray = ls at hl ⊢
  replace hl : lv_has ls 8 [(0, .ref (b + 0)), (1, .int p1), (2, .int p2), (3, .int p3), (4, .int p4), (5, .int p5)] := hl
  have L122 : ∀ (f : gb_F) (w : Int64) (v1 : Int32) (v2 : Int32) (v3 : Int32) (v5 : Int32) (H : Heap) (locs : List Loc) (ls : Array Slot), ms_walks_122 n f w v1 v2 v3 v5 = some (fE, wE, rE) → va_P D vwCl (gb_wl b (gb_MW cT b f w)) H → va_S (gb_fr b 22) s.heap H locs → lv_has ls 8 [(0, .ref (b + 0)), (1, .int v1), (2, .int v2), (3, .int v3), (5, .int v5)] → W p l e (headSpec (.code yX12_walks cX12_walks 8 none :: gb_wA) ({ frames := 3, cells := 0, slots := 0, locals := 70 })).room s m ([.ref (b + 0), .int p1, .int p2, .int p3, .int p4, .int p5]).toArray below meth c H locs 0 0 (MQ below (gb_Qv (fun h => va_P D vwCl (gb_wl b (gb_MW cT b fE wE)) h) (gb_fr b 22)) ([.ref (b + 0), .int p1, .int p2, .int p3, .int p4, .int p5]).toArray s 0 0 (gb_fr b 22)) (F0 m 122 ls []) := by
    clear h hP hS hl ls f w
    intro f w v1 v2 v3 v5 H locs ls h hP hS hl
    unfold ms_walks_122 at h
    refine lv_aload_n hx hb dX12_walks_122 rfl (lv_at hl 0 rfl) ?_
    refine va_get (ci := 10) (v := (.ref (b + 4))) (C := RX12) (T := TX12) (N := 44) hx hb hq i_X12 hown hK hP 0 (gb_at b rfl) rfl 13 (by decide) (hq _ w_1137) (fun _ h9 => h9) rfl dX12_walks_123 ?_
    refine lv_iload_n hx hb dX12_walks_126 rfl (lv_at hl 2 rfl) ?_
    refine lv_iload hx hb dX12_walks_127 (lv_at hl 4 rfl) ?_
    obtain ⟨z_24, h⟩ := gb_ck_s h
    refine gb_iast (x := v5) hx hb hK hP (fun k h => ⟨Nat.le_add_right b k, Nat.add_lt_add_left h b⟩) hS rfl 4 0 rfl rfl z_24 dX12_walks_129 (fun H locs hP hz_ hS => ?_)
    obtain ⟨f_25, ef_25⟩ : ∃ q, q = (gb_u f 4 (upd (f 4) (Int32.toNatClampNeg v2) v5)) := ⟨_, rfl⟩
    replace hP : va_P D vwCl (gb_wl b (gb_MW cT b f_25 w)) H := by rw [ef_25]; exact hP
    replace h := gb_lt_s ef_25 h
    refine lv_aload_n hx hb dX12_walks_130 rfl (lv_at hl 0 rfl) ?_
    refine va_get (ci := 10) (v := (.ref (b + 7))) (C := RX12) (T := TX12) (N := 44) hx hb hq i_X12 hown hK hP 0 (gb_at b rfl) rfl 16 (by decide) (hq _ w_1140) (fun _ h9 => h9) rfl dX12_walks_131 ?_
    refine lv_iload_n hx hb dX12_walks_134 rfl (lv_at hl 2 rfl) ?_
    refine lv_iload_n hx hb dX12_walks_135 rfl (lv_at hl 3 rfl) ?_
    obtain ⟨z_26, h⟩ := gb_ck_s h
    refine gb_iast (x := v3) hx hb hK hP (fun k h => ⟨Nat.le_add_right b k, Nat.add_lt_add_left h b⟩) hS rfl 7 0 rfl rfl z_26 dX12_walks_136 (fun H locs hP hz_ hS => ?_)
    obtain ⟨f_27, ef_27⟩ : ∃ q, q = (gb_u f_25 7 (upd (f_25 7) (Int32.toNatClampNeg v2) v3)) := ⟨_, rfl⟩
    replace hP : va_P D vwCl (gb_wl b (gb_MW cT b f_27 w)) H := by rw [ef_27]; exact hP
    replace h := gb_lt_s ef_27 h
    refine lv_aload_n hx hb dX12_walks_137 rfl (lv_at hl 0 rfl) ?_
    refine va_get (ci := 10) (v := (.ref (b + 9))) (C := RX12) (T := TX12) (N := 44) hx hb hq i_X12 hown hK hP 0 (gb_at b rfl) rfl 18 (by decide) (hq _ w_1142) (fun _ h9 => h9) rfl dX12_walks_138 ?_
    refine lv_iconst (v := 5) hx hb dX12_walks_141 (by decide) ?_
    refine lv_iload_n hx hb dX12_walks_142 rfl (lv_at hl 2 rfl) ?_
    refine lv_imul hx hb dX12_walks_143 ?_
    refine lv_iload_n hx hb dX12_walks_144 rfl (lv_at hl 3 rfl) ?_
    refine lv_iadd hx hb dX12_walks_145 ?_
    refine lv_iload_n hx hb dX12_walks_146 rfl (lv_at hl 1 rfl) ?_
    obtain ⟨z_28, h⟩ := gb_ck_s h
    refine gb_iast (x := v1) hx hb hK hP (fun k h => ⟨Nat.le_add_right b k, Nat.add_lt_add_left h b⟩) hS rfl 9 0 rfl rfl z_28 dX12_walks_147 (fun H locs hP hz_ hS => ?_)
    obtain ⟨f_29, ef_29⟩ : ∃ q, q = (gb_u f_27 9 (upd (f_27 9) (Int32.toNatClampNeg ((5 * v2) + v3)) v1)) := ⟨_, rfl⟩
    replace hP : va_P D vwCl (gb_wl b (gb_MW cT b f_29 w)) H := by rw [ef_29]; exact hP
    replace h := gb_lt_s ef_29 h
    obtain ⟨e1, e2, -⟩ := gb_eq3 h
    exact W.vret hx hb hr (fun t ht hW => gb_rv ht (by rw [← e1, ← e2]; exact hP) hS) hS.2.2 dX12_walks_148
  have L120 : ∀ (f : gb_F) (w : Int64) (v1 : Int32) (v2 : Int32) (v3 : Int32) (v5 : Int32) (t0 : Int32) (t1 : Int32) (t2 : Int32) (H : Heap) (locs : List Loc) (ls : Array Slot), ms_walks_120 n f w v1 v2 v3 v5 t0 t1 t2 = some (fE, wE, rE) → va_P D vwCl (gb_wl b (gb_MW cT b f w)) H → va_S (gb_fr b 22) s.heap H locs → lv_has ls 8 [(0, .ref (b + 0)), (1, .int v1), (2, .int v2), (3, .int v3), (5, .int v5)] → W p l e (headSpec (.code yX12_walks cX12_walks 8 none :: gb_wA) ({ frames := 3, cells := 0, slots := 0, locals := 70 })).room s m ([.ref (b + 0), .int p1, .int p2, .int p3, .int p4, .int p5]).toArray below meth c H locs 0 0 (MQ below (gb_Qv (fun h => va_P D vwCl (gb_wl b (gb_MW cT b fE wE)) h) (gb_fr b 22)) ([.ref (b + 0), .int p1, .int p2, .int p3, .int p4, .int p5]).toArray s 0 0 (gb_fr b 22)) (F0 m 120 ls [.int t0, .int t1, .int t2, .ref (b + 11)]) := by
    clear h hP hS hl ls f w
    intro f w v1 v2 v3 v5 t0 t1 t2 H locs ls h hP hS hl
    unfold ms_walks_120 at h
    refine lv_iadd hx hb dX12_walks_120 ?_
    obtain ⟨z_42, h⟩ := gb_ck_s h
    refine gb_iast (x := (t1 + t0)) hx hb hK hP (fun k h => ⟨Nat.le_add_right b k, Nat.add_lt_add_left h b⟩) hS rfl 11 0 rfl rfl z_42 dX12_walks_121 (fun H locs hP hz_ hS => ?_)
    obtain ⟨f_43, ef_43⟩ : ∃ q, q = (gb_u f 11 (upd (f 11) (Int32.toNatClampNeg t2) (t1 + t0))) := ⟨_, rfl⟩
    replace hP : va_P D vwCl (gb_wl b (gb_MW cT b f_43 w)) H := by rw [ef_43]; exact hP
    replace h := gb_lt_s ef_43 h
    exact L122 _ _ _ _ _ _ _ _ _ h hP hS (lv_sub hl [0, 1, 2, 3, 4] rfl)
  have L100 : ∀ (f : gb_F) (w : Int64) (v1 : Int32) (v2 : Int32) (v3 : Int32) (v4 : Int32) (v5 : Int32) (v7 : Int32) (t0 : Int32) (t1 : Int32) (t2 : Int32) (H : Heap) (locs : List Loc) (ls : Array Slot), ms_walks_100 n f w v1 v2 v3 v4 v5 v7 t0 t1 t2 = some (fE, wE, rE) → va_P D vwCl (gb_wl b (gb_MW cT b f w)) H → va_S (gb_fr b 22) s.heap H locs → lv_has ls 8 [(0, .ref (b + 0)), (1, .int v1), (2, .int v2), (3, .int v3), (4, .int v4), (5, .int v5), (7, .int v7)] → W p l e (headSpec (.code yX12_walks cX12_walks 8 none :: gb_wA) ({ frames := 3, cells := 0, slots := 0, locals := 70 })).room s m ([.ref (b + 0), .int p1, .int p2, .int p3, .int p4, .int p5]).toArray below meth c H locs 0 0 (MQ below (gb_Qv (fun h => va_P D vwCl (gb_wl b (gb_MW cT b fE wE)) h) (gb_fr b 22)) ([.ref (b + 0), .int p1, .int p2, .int p3, .int p4, .int p5]).toArray s 0 0 (gb_fr b 22)) (F0 m 100 ls [.int t0, .int t1, .int t2, .ref (b + 10)]) := by
    clear h hP hS hl ls f w
    intro f w v1 v2 v3 v4 v5 v7 t0 t1 t2 H locs ls h hP hS hl
    unfold ms_walks_100 at h
    refine lv_iadd hx hb dX12_walks_100 ?_
    obtain ⟨z_37, h⟩ := gb_ck_s h
    refine gb_iast (x := (t1 + t0)) hx hb hK hP (fun k h => ⟨Nat.le_add_right b k, Nat.add_lt_add_left h b⟩) hS rfl 10 0 rfl rfl z_37 dX12_walks_101 (fun H locs hP hz_ hS => ?_)
    obtain ⟨f_38, ef_38⟩ : ∃ q, q = (gb_u f 10 (upd (f 10) (Int32.toNatClampNeg t2) (t1 + t0))) := ⟨_, rfl⟩
    replace hP : va_P D vwCl (gb_wl b (gb_MW cT b f_38 w)) H := by rw [ef_38]; exact hP
    replace h := gb_lt_s ef_38 h
    refine lv_aload_n hx hb dX12_walks_102 rfl (lv_at hl 0 rfl) ?_
    refine va_get (ci := 10) (v := (.ref (b + 11))) (C := RX12) (T := TX12) (N := 44) hx hb hq i_X12 hown hK hP 0 (gb_at b rfl) rfl 20 (by decide) (hq _ w_1144) (fun _ h9 => h9) rfl dX12_walks_103 ?_
    refine lv_iload_n hx hb dX12_walks_106 rfl (lv_at hl 3 rfl) ?_
    refine lv_dup2_11 hx hb dX12_walks_107 rfl rfl ?_
    obtain ⟨z_39, h⟩ := gb_ck_s h
    refine va_iald hx hb hK hP 11 0 (gb_at b rfl) rfl z_39 dX12_walks_108 ?_
    refine lv_topi (fun x_40 ex_40 => ?_)
    replace h := gb_lt_s ex_40 h
    refine lv_iload hx hb dX12_walks_109 (lv_at hl 4 rfl) ?_
    refine lv_if_eq (tgt := 119) hx hb dX12_walks_111 (by decide) (fun c_41 => ?_) (fun c_41 => ?_)
    · rw [if_pos c_41] at h
      refine lv_iconst (v := 0) hx hb dX12_walks_119 (by decide) ?_
      exact L120 _ _ _ _ _ _ _ _ _ _ _ _ h hP hS (lv_sub hl [0, 1, 2, 3, 5] rfl)
    · rw [if_neg c_41] at h
      refine lv_iload hx hb dX12_walks_114 (lv_at hl 6 rfl) ?_
      refine lv_goto (tgt := 120) hx hb dX12_walks_116 (by decide) ?_
      exact L120 _ _ _ _ _ _ _ _ _ _ _ _ h hP hS (lv_sub hl [0, 1, 2, 3, 5] rfl)
  have L62 : ∀ (f : gb_F) (w : Int64) (v1 : Int32) (v2 : Int32) (v3 : Int32) (v4 : Int32) (v5 : Int32) (v7 : Int32) (t0 : Int32) (t1 : Int32) (H : Heap) (locs : List Loc) (ls : Array Slot), ms_walks_62 n f w v1 v2 v3 v4 v5 v7 t0 t1 = some (fE, wE, rE) → va_P D vwCl (gb_wl b (gb_MW cT b f w)) H → va_S (gb_fr b 22) s.heap H locs → lv_has ls 8 [(0, .ref (b + 0)), (1, .int v1), (2, .int v2), (3, .int v3), (4, .int v4), (5, .int v5), (7, .int v7)] → W p l e (headSpec (.code yX12_walks cX12_walks 8 none :: gb_wA) ({ frames := 3, cells := 0, slots := 0, locals := 70 })).room s m ([.ref (b + 0), .int p1, .int p2, .int p3, .int p4, .int p5]).toArray below meth c H locs 0 0 (MQ below (gb_Qv (fun h => va_P D vwCl (gb_wl b (gb_MW cT b fE wE)) h) (gb_fr b 22)) ([.ref (b + 0), .int p1, .int p2, .int p3, .int p4, .int p5]).toArray s 0 0 (gb_fr b 22)) (F0 m 62 ls [.int t0, .int t1, .ref (b + 5)]) := by
    clear h hP hS hl ls f w
    intro f w v1 v2 v3 v4 v5 v7 t0 t1 H locs ls h hP hS hl
    unfold ms_walks_62 at h
    obtain ⟨z_21, h⟩ := gb_ck_s h
    refine gb_iast (x := t0) hx hb hK hP (fun k h => ⟨Nat.le_add_right b k, Nat.add_lt_add_left h b⟩) hS rfl 5 0 rfl rfl z_21 dX12_walks_62 (fun H locs hP hz_ hS => ?_)
    obtain ⟨f_22, ef_22⟩ : ∃ q, q = (gb_u f 5 (upd (f 5) (Int32.toNatClampNeg t1) t0)) := ⟨_, rfl⟩
    replace hP : va_P D vwCl (gb_wl b (gb_MW cT b f_22 w)) H := by rw [ef_22]; exact hP
    replace h := gb_lt_s ef_22 h
    refine lv_iload_n hx hb dX12_walks_63 rfl (lv_at hl 1 rfl) ?_
    refine lv_aload_n hx hb dX12_walks_64 rfl (lv_at hl 0 rfl) ?_
    refine va_get (ci := 10) (v := (.int (f_22 0 24))) (C := RX12) (T := TX12) (N := 44) hx hb hq i_X12 hown hK hP 0 (gb_at b rfl) rfl 24 (by decide) (hq _ w_1148) (fun _ h9 => h9) rfl dX12_walks_65 ?_
    refine lv_icmp_eq (tgt := 122) hx hb dX12_walks_68 (by decide) (fun c_23 => ?_) (fun c_23 => ?_)
    · rw [if_pos c_23] at h
      exact L122 _ _ _ _ _ _ _ _ _ h hP hS (lv_sub hl [0, 1, 2, 3, 5] rfl)
    · rw [if_neg c_23] at h
      refine lv_aload_n hx hb dX12_walks_71 rfl (lv_at hl 0 rfl) ?_
      refine va_get (ci := 10) (v := (.ref (b + 6))) (C := RX12) (T := TX12) (N := 44) hx hb hq i_X12 hown hK hP 0 (gb_at b rfl) rfl 15 (by decide) (hq _ w_1139) (fun _ h9 => h9) rfl dX12_walks_72 ?_
      refine lv_iload_n hx hb dX12_walks_75 rfl (lv_at hl 2 rfl) ?_
      refine lv_dup2_11 hx hb dX12_walks_76 rfl rfl ?_
      obtain ⟨z_30, h⟩ := gb_ck_s h
      refine va_iald hx hb hK hP 6 0 (gb_at b rfl) rfl z_30 dX12_walks_77 ?_
      refine lv_topi (fun x_31 ex_31 => ?_)
      replace h := gb_lt_s ex_31 h
      refine lv_iload hx hb dX12_walks_78 (lv_at hl 6 rfl) ?_
      refine lv_iadd hx hb dX12_walks_80 ?_
      obtain ⟨z_32, h⟩ := gb_ck_s h
      refine gb_iast (x := (x_31 + v7)) hx hb hK hP (fun k h => ⟨Nat.le_add_right b k, Nat.add_lt_add_left h b⟩) hS rfl 6 0 rfl rfl z_32 dX12_walks_81 (fun H locs hP hz_ hS => ?_)
      obtain ⟨f_33, ef_33⟩ : ∃ q, q = (gb_u f_22 6 (upd (f_22 6) (Int32.toNatClampNeg v2) (x_31 + v7))) := ⟨_, rfl⟩
      replace hP : va_P D vwCl (gb_wl b (gb_MW cT b f_33 w)) H := by rw [ef_33]; exact hP
      replace h := gb_lt_s ef_33 h
      refine lv_aload_n hx hb dX12_walks_82 rfl (lv_at hl 0 rfl) ?_
      refine va_get (ci := 10) (v := (.ref (b + 10))) (C := RX12) (T := TX12) (N := 44) hx hb hq i_X12 hown hK hP 0 (gb_at b rfl) rfl 19 (by decide) (hq _ w_1143) (fun _ h9 => h9) rfl dX12_walks_83 ?_
      refine lv_iload_n hx hb dX12_walks_86 rfl (lv_at hl 3 rfl) ?_
      refine lv_dup2_11 hx hb dX12_walks_87 rfl rfl ?_
      obtain ⟨z_34, h⟩ := gb_ck_s h
      refine va_iald hx hb hK hP 10 0 (gb_at b rfl) rfl z_34 dX12_walks_88 ?_
      refine lv_topi (fun x_35 ex_35 => ?_)
      replace h := gb_lt_s ex_35 h
      refine lv_iload hx hb dX12_walks_89 (lv_at hl 4 rfl) ?_
      refine lv_if_eq (tgt := 98) hx hb dX12_walks_91 (by decide) (fun c_36 => ?_) (fun c_36 => ?_)
      · rw [if_pos c_36] at h
        refine lv_iload hx hb dX12_walks_98 (lv_at hl 6 rfl) ?_
        exact L100 _ _ _ _ _ _ _ _ _ _ _ _ _ _ h hP hS (lv_sub hl [0, 1, 2, 3, 4, 5, 6] rfl)
      · rw [if_neg c_36] at h
        refine lv_iconst (v := 0) hx hb dX12_walks_94 (by decide) ?_
        refine lv_goto (tgt := 100) hx hb dX12_walks_95 (by decide) ?_
        exact L100 _ _ _ _ _ _ _ _ _ _ _ _ _ _ h hP hS (lv_sub hl [0, 1, 2, 3, 4, 5, 6] rfl)
  unfold ms_walks at h
  refine lv_aload_n hx hb dX12_walks_0 rfl (lv_at hl 0 rfl) ?_
  refine lv_iload_n hx hb dX12_walks_1 rfl (lv_at hl 3 rfl) ?_
  refine lv_iconst (v := 0) hx hb dX12_walks_2 (by decide) ?_
  obtain ⟨f_1, wl_2, r_3, z_4, h⟩ := gb_bd_s h
  refine gb_calli (va_runV (C := RX12) (As := [.int p3, .int 0]) (rest := []) ⟨hx, hb, hml, hown, hq⟩ (mc_ofPath l D cT tt b1 b hb1 n f w p3 0 f_1 wl_2 r_3 z_4) (cwV 2 hq (gb_gV w_1388 w_1390 s_4_5 w_14 w_1391) rfl rfl rfl (by decide +kernel) ⟨Nat.le_of_ble_eq_true rfl, Nat.le_of_ble_eq_true rfl⟩) (gb_preV (r := (RX12, TX12, 44)) (ci := 10) (q0 := 0) hSt hP rfl (gb_at b rfl) hS (fun q h => Nat.le_trans hb1 h.1) hP) rfl rfl hl.1 rfl (lv_room (Nat.le_of_ble_eq_true rfl)) dX12_walks_3 ⟨Nat.le_of_ble_eq_true rfl, Nat.le_of_ble_eq_true rfl⟩) hS (fun _ h => h) (fun _ h => h) (fun q_5 H locs hY hk hS => ?_)
  obtain ⟨hq_5, hP⟩ := hY
  replace hq_5 := hq_5.symm
  subst hq_5
  refine lv_istore (lv' := [(6, .int r_3), (0, .ref (b + 0)), (1, .int p1), (2, .int p2), (3, .int p3), (4, .int p4), (5, .int p5)]) hx hb dX12_walks_6 hl (by decide) rfl (fun ls hl => ?_)
  refine lv_aload_n hx hb dX12_walks_8 rfl (lv_at hl 1 rfl) ?_
  refine lv_iload_n hx hb dX12_walks_9 rfl (lv_at hl 3 rfl) ?_
  refine lv_iload hx hb dX12_walks_10 (lv_at hl 0 rfl) ?_
  refine lv_aload_n hx hb dX12_walks_12 rfl (lv_at hl 1 rfl) ?_
  refine va_get (ci := 10) (v := (.ref (b + 5))) (C := RX12) (T := TX12) (N := 44) hx hb hq i_X12 hown hK hP 0 (gb_at b rfl) rfl 14 (by decide) (hq _ w_1138) (fun _ h9 => h9) rfl dX12_walks_13 ?_
  refine lv_iload_n hx hb dX12_walks_16 rfl (lv_at hl 3 rfl) ?_
  obtain ⟨z_6, h⟩ := gb_ck_s h
  refine va_iald hx hb hK hP 5 0 (gb_at b rfl) rfl z_6 dX12_walks_17 ?_
  refine lv_topi (fun x_7 ex_7 => ?_)
  replace h := gb_lt_s ex_7 h
  refine lv_aload_n hx hb dX12_walks_18 rfl (lv_at hl 1 rfl) ?_
  refine va_get (ci := 10) (v := (.int (f_1 0 22))) (C := RX12) (T := TX12) (N := 44) hx hb hq i_X12 hown hK hP 0 (gb_at b rfl) rfl 22 (by decide) (hq _ w_1146) (fun _ h9 => h9) rfl dX12_walks_19 ?_
  refine lv_aload_n hx hb dX12_walks_22 rfl (lv_at hl 1 rfl) ?_
  refine lv_iload_n hx hb dX12_walks_23 rfl (lv_at hl 3 rfl) ?_
  refine lv_iconst (v := 3) hx hb dX12_walks_24 (by decide) ?_
  obtain ⟨f_8, wl_9, r_10, z_11, h⟩ := gb_bd_s h
  refine gb_calli (va_runV (C := RX12) (As := [.int p2, .int 3]) (rest := [.int (f_1 0 22), .int x_7, .int r_3, .int p2, .ref (b + 0)]) ⟨hx, hb, hml, hown, hq⟩ (mc_ofGoose l D cT tt b1 b hb1 n f_1 wl_2 p2 3 f_8 wl_9 r_10 z_11) (cwV 2 hq (gb_gV w_1400 w_1402 s_4_8 w_14 w_1403) rfl rfl rfl (by decide +kernel) ⟨Nat.le_of_ble_eq_true rfl, Nat.le_of_ble_eq_true rfl⟩) (gb_preV (r := (RX12, TX12, 44)) (ci := 10) (q0 := 0) hSt hP rfl (gb_at b rfl) hS (fun q h => Nat.le_trans hb1 h.1) hP) rfl rfl hl.1 rfl (lv_room (Nat.le_of_ble_eq_true rfl)) dX12_walks_25 ⟨Nat.le_of_ble_eq_true rfl, Nat.le_of_ble_eq_true rfl⟩) hS (fun _ h => h) (fun _ h => h) (fun q_12 H locs hY hk hS => ?_)
  obtain ⟨hq_12, hP⟩ := hY
  replace hq_12 := hq_12.symm
  subst hq_12
  obtain ⟨f_13, wl_14, r_15, z_16, h⟩ := gb_bd_s h
  refine gb_calli (va_runV (C := RX12) (As := [.int p2, .int r_3, .int x_7, .int (f_1 0 22), .int r_10]) (rest := []) ⟨hx, hb, hml, hown, hq⟩ (mc_left l D cT tt b1 b hb1 n f_8 wl_9 p2 r_3 x_7 (f_1 0 22) r_10 f_13 wl_14 r_15 z_16) (cwV 5 hq (gb_gV w_1408 w_1410 s_4_9 w_14 w_1411) rfl rfl rfl (by decide +kernel) ⟨Nat.le_of_ble_eq_true rfl, Nat.le_of_ble_eq_true rfl⟩) (gb_preV (r := (RX12, TX12, 44)) (ci := 10) (q0 := 0) hSt hP rfl (gb_at b rfl) hS (fun q h => Nat.le_trans hb1 h.1) hP) rfl rfl hl.1 rfl (lv_room (Nat.le_of_ble_eq_true rfl)) dX12_walks_28 ⟨Nat.le_of_ble_eq_true rfl, Nat.le_of_ble_eq_true rfl⟩) hS (fun _ h => h) (fun _ h => h) (fun q_17 H locs hY hk hS => ?_)
  obtain ⟨hq_17, hP⟩ := hY
  replace hq_17 := hq_17.symm
  subst hq_17
  refine lv_istore (lv' := [(7, .int r_15), (6, .int r_3), (0, .ref (b + 0)), (1, .int p1), (2, .int p2), (3, .int p3), (4, .int p4), (5, .int p5)]) hx hb dX12_walks_31 hl (by decide) rfl (fun ls hl => ?_)
  refine lv_aload_n hx hb dX12_walks_33 rfl (lv_at hl 2 rfl) ?_
  refine va_get (ci := 10) (v := (.ref (b + 5))) (C := RX12) (T := TX12) (N := 44) hx hb hq i_X12 hown hK hP 0 (gb_at b rfl) rfl 14 (by decide) (hq _ w_1138) (fun _ h9 => h9) rfl dX12_walks_34 ?_
  refine lv_iload_n hx hb dX12_walks_37 rfl (lv_at hl 4 rfl) ?_
  refine lv_aload_n hx hb dX12_walks_38 rfl (lv_at hl 2 rfl) ?_
  refine va_get (ci := 10) (v := (.ref (b + 5))) (C := RX12) (T := TX12) (N := 44) hx hb hq i_X12 hown hK hP 0 (gb_at b rfl) rfl 14 (by decide) (hq _ w_1138) (fun _ h9 => h9) rfl dX12_walks_39 ?_
  refine lv_iload_n hx hb dX12_walks_42 rfl (lv_at hl 4 rfl) ?_
  obtain ⟨z_18, h⟩ := gb_ck_s h
  refine va_iald hx hb hK hP 5 0 (gb_at b rfl) rfl z_18 dX12_walks_43 ?_
  refine lv_topi (fun x_19 ex_19 => ?_)
  replace h := gb_lt_s ex_19 h
  refine lv_iload hx hb dX12_walks_44 (lv_at hl 1 rfl) ?_
  refine lv_icmp_le (tgt := 61) hx hb dX12_walks_46 (by decide) (fun c_20 => ?_) (fun c_20 => ?_)
  · rw [if_pos c_20] at h
    refine lv_iconst (v := 0) hx hb dX12_walks_61 (by decide) ?_
    exact L62 _ _ _ _ _ _ _ _ _ _ _ _ _ h hP hS (lv_sub hl [2, 3, 4, 5, 6, 7, 0] rfl)
  · rw [if_neg c_20] at h
    refine lv_aload_n hx hb dX12_walks_49 rfl (lv_at hl 2 rfl) ?_
    refine va_get (ci := 10) (v := (.ref (b + 5))) (C := RX12) (T := TX12) (N := 44) hx hb hq i_X12 hown hK hP 0 (gb_at b rfl) rfl 14 (by decide) (hq _ w_1138) (fun _ h9 => h9) rfl dX12_walks_50 ?_
    refine lv_iload_n hx hb dX12_walks_53 rfl (lv_at hl 4 rfl) ?_
    obtain ⟨z_44, h⟩ := gb_ck_s h
    refine va_iald hx hb hK hP 5 0 (gb_at b rfl) rfl z_44 dX12_walks_54 ?_
    refine lv_topi (fun x_45 ex_45 => ?_)
    replace h := gb_lt_s ex_45 h
    refine lv_iload hx hb dX12_walks_55 (lv_at hl 1 rfl) ?_
    refine lv_isub hx hb dX12_walks_57 ?_
    refine lv_goto (tgt := 62) hx hb dX12_walks_58 (by decide) ?_
    exact L62 _ _ _ _ _ _ _ _ _ _ _ _ _ h hP hS (lv_sub hl [2, 3, 4, 5, 6, 7, 0] rfl)
theorem dX12_rains_0 : decode cX12_rains 0 = .ok (.iconst 0, 1) := dc_3 (show ((cX12_rains.data.toList.drop 0).take 1).map UInt8.toNat = [3] by decide +kernel)
theorem dX12_rains_1 : decode cX12_rains 1 = .ok (.istore_n 2, 1) := dc_61 (show ((cX12_rains.data.toList.drop 1).take 1).map UInt8.toNat = [61] by decide +kernel)
theorem dX12_rains_2 : decode cX12_rains 2 = .ok (.iload_n 2, 1) := dc_28 (show ((cX12_rains.data.toList.drop 2).take 1).map UInt8.toNat = [28] by decide +kernel)
theorem dX12_rains_3 : decode cX12_rains 3 = .ok (.aload_n 0, 1) := dc_42 (show ((cX12_rains.data.toList.drop 3).take 1).map UInt8.toNat = [42] by decide +kernel)
theorem dX12_rains_4 : decode cX12_rains 4 = .ok (.invokevirtual 199, 3) := dc_182 (show ((cX12_rains.data.toList.drop 4).take 3).map UInt8.toNat = [182, 0, 199] by decide +kernel) rfl
theorem dX12_rains_7 : decode cX12_rains 7 = .ok (.if_icmp .ge 68, 3) := dc_162 (show ((cX12_rains.data.toList.drop 7).take 3).map UInt8.toNat = [162, 0, 68] by decide +kernel) rfl
theorem dX12_rains_75 : decode cX12_rains 75 = .ok (.return_, 1) := dc_177 (show ((cX12_rains.data.toList.drop 75).take 1).map UInt8.toNat = [177] by decide +kernel)
theorem dX12_rains_10 : decode cX12_rains 10 = .ok (.aload_n 0, 1) := dc_42 (show ((cX12_rains.data.toList.drop 10).take 1).map UInt8.toNat = [42] by decide +kernel)
theorem dX12_rains_11 : decode cX12_rains 11 = .ok (.getfield 38, 3) := dc_180 (show ((cX12_rains.data.toList.drop 11).take 3).map UInt8.toNat = [180, 0, 38] by decide +kernel) rfl
theorem dX12_rains_14 : decode cX12_rains 14 = .ok (.iload_n 2, 1) := dc_28 (show ((cX12_rains.data.toList.drop 14).take 1).map UInt8.toNat = [28] by decide +kernel)
theorem dX12_rains_15 : decode cX12_rains 15 = .ok (.iaload, 1) := dc_46 (show ((cX12_rains.data.toList.drop 15).take 1).map UInt8.toNat = [46] by decide +kernel)
theorem dX12_rains_16 : decode cX12_rains 16 = .ok (.iload_n 1, 1) := dc_27 (show ((cX12_rains.data.toList.drop 16).take 1).map UInt8.toNat = [27] by decide +kernel)
theorem dX12_rains_17 : decode cX12_rains 17 = .ok (.imul, 1) := dc_104 (show ((cX12_rains.data.toList.drop 17).take 1).map UInt8.toNat = [104] by decide +kernel)
theorem dX12_rains_18 : decode cX12_rains 18 = .ok (.bipush 10, 2) := dc_16 (show ((cX12_rains.data.toList.drop 18).take 2).map UInt8.toNat = [16, 10] by decide +kernel) rfl
theorem dX12_rains_20 : decode cX12_rains 20 = .ok (.idiv, 1) := dc_108 (show ((cX12_rains.data.toList.drop 20).take 1).map UInt8.toNat = [108] by decide +kernel)
theorem dX12_rains_21 : decode cX12_rains 21 = .ok (.istore_n 3, 1) := dc_62 (show ((cX12_rains.data.toList.drop 21).take 1).map UInt8.toNat = [62] by decide +kernel)
theorem dX12_rains_22 : decode cX12_rains 22 = .ok (.aload_n 0, 1) := dc_42 (show ((cX12_rains.data.toList.drop 22).take 1).map UInt8.toNat = [42] by decide +kernel)
theorem dX12_rains_23 : decode cX12_rains 23 = .ok (.getfield 41, 3) := dc_180 (show ((cX12_rains.data.toList.drop 23).take 3).map UInt8.toNat = [180, 0, 41] by decide +kernel) rfl
theorem dX12_rains_26 : decode cX12_rains 26 = .ok (.iload_n 2, 1) := dc_28 (show ((cX12_rains.data.toList.drop 26).take 1).map UInt8.toNat = [28] by decide +kernel)
theorem dX12_rains_27 : decode cX12_rains 27 = .ok (.iaload, 1) := dc_46 (show ((cX12_rains.data.toList.drop 27).take 1).map UInt8.toNat = [46] by decide +kernel)
theorem dX12_rains_28 : decode cX12_rains 28 = .ok (.iload_n 1, 1) := dc_27 (show ((cX12_rains.data.toList.drop 28).take 1).map UInt8.toNat = [27] by decide +kernel)
theorem dX12_rains_29 : decode cX12_rains 29 = .ok (.imul, 1) := dc_104 (show ((cX12_rains.data.toList.drop 29).take 1).map UInt8.toNat = [104] by decide +kernel)
theorem dX12_rains_30 : decode cX12_rains 30 = .ok (.bipush 10, 2) := dc_16 (show ((cX12_rains.data.toList.drop 30).take 2).map UInt8.toNat = [16, 10] by decide +kernel) rfl
theorem dX12_rains_32 : decode cX12_rains 32 = .ok (.idiv, 1) := dc_108 (show ((cX12_rains.data.toList.drop 32).take 1).map UInt8.toNat = [108] by decide +kernel)
theorem dX12_rains_33 : decode cX12_rains 33 = .ok (.istore 4, 2) := dc_54 (show ((cX12_rains.data.toList.drop 33).take 2).map UInt8.toNat = [54, 4] by decide +kernel) rfl
theorem dX12_rains_35 : decode cX12_rains 35 = .ok (.aload_n 0, 1) := dc_42 (show ((cX12_rains.data.toList.drop 35).take 1).map UInt8.toNat = [42] by decide +kernel)
theorem dX12_rains_36 : decode cX12_rains 36 = .ok (.getfield 38, 3) := dc_180 (show ((cX12_rains.data.toList.drop 36).take 3).map UInt8.toNat = [180, 0, 38] by decide +kernel) rfl
theorem dX12_rains_39 : decode cX12_rains 39 = .ok (.iload_n 2, 1) := dc_28 (show ((cX12_rains.data.toList.drop 39).take 1).map UInt8.toNat = [28] by decide +kernel)
theorem dX12_rains_40 : decode cX12_rains 40 = .ok (.dup2, 1) := dc_92 (show ((cX12_rains.data.toList.drop 40).take 1).map UInt8.toNat = [92] by decide +kernel)
theorem dX12_rains_41 : decode cX12_rains 41 = .ok (.iaload, 1) := dc_46 (show ((cX12_rains.data.toList.drop 41).take 1).map UInt8.toNat = [46] by decide +kernel)
theorem dX12_rains_42 : decode cX12_rains 42 = .ok (.iload_n 3, 1) := dc_29 (show ((cX12_rains.data.toList.drop 42).take 1).map UInt8.toNat = [29] by decide +kernel)
theorem dX12_rains_43 : decode cX12_rains 43 = .ok (.isub, 1) := dc_100 (show ((cX12_rains.data.toList.drop 43).take 1).map UInt8.toNat = [100] by decide +kernel)
theorem dX12_rains_44 : decode cX12_rains 44 = .ok (.iastore, 1) := dc_79 (show ((cX12_rains.data.toList.drop 44).take 1).map UInt8.toNat = [79] by decide +kernel)
theorem dX12_rains_45 : decode cX12_rains 45 = .ok (.aload_n 0, 1) := dc_42 (show ((cX12_rains.data.toList.drop 45).take 1).map UInt8.toNat = [42] by decide +kernel)
theorem dX12_rains_46 : decode cX12_rains 46 = .ok (.getfield 41, 3) := dc_180 (show ((cX12_rains.data.toList.drop 46).take 3).map UInt8.toNat = [180, 0, 41] by decide +kernel) rfl
theorem dX12_rains_49 : decode cX12_rains 49 = .ok (.iload_n 2, 1) := dc_28 (show ((cX12_rains.data.toList.drop 49).take 1).map UInt8.toNat = [28] by decide +kernel)
theorem dX12_rains_50 : decode cX12_rains 50 = .ok (.dup2, 1) := dc_92 (show ((cX12_rains.data.toList.drop 50).take 1).map UInt8.toNat = [92] by decide +kernel)
theorem dX12_rains_51 : decode cX12_rains 51 = .ok (.iaload, 1) := dc_46 (show ((cX12_rains.data.toList.drop 51).take 1).map UInt8.toNat = [46] by decide +kernel)
theorem dX12_rains_52 : decode cX12_rains 52 = .ok (.iload 4, 2) := dc_21 (show ((cX12_rains.data.toList.drop 52).take 2).map UInt8.toNat = [21, 4] by decide +kernel) rfl
theorem dX12_rains_54 : decode cX12_rains 54 = .ok (.isub, 1) := dc_100 (show ((cX12_rains.data.toList.drop 54).take 1).map UInt8.toNat = [100] by decide +kernel)
theorem dX12_rains_55 : decode cX12_rains 55 = .ok (.iastore, 1) := dc_79 (show ((cX12_rains.data.toList.drop 55).take 1).map UInt8.toNat = [79] by decide +kernel)
theorem dX12_rains_56 : decode cX12_rains 56 = .ok (.aload_n 0, 1) := dc_42 (show ((cX12_rains.data.toList.drop 56).take 1).map UInt8.toNat = [42] by decide +kernel)
theorem dX12_rains_57 : decode cX12_rains 57 = .ok (.getfield 44, 3) := dc_180 (show ((cX12_rains.data.toList.drop 57).take 3).map UInt8.toNat = [180, 0, 44] by decide +kernel) rfl
theorem dX12_rains_60 : decode cX12_rains 60 = .ok (.iload_n 2, 1) := dc_28 (show ((cX12_rains.data.toList.drop 60).take 1).map UInt8.toNat = [28] by decide +kernel)
theorem dX12_rains_61 : decode cX12_rains 61 = .ok (.dup2, 1) := dc_92 (show ((cX12_rains.data.toList.drop 61).take 1).map UInt8.toNat = [92] by decide +kernel)
theorem dX12_rains_62 : decode cX12_rains 62 = .ok (.iaload, 1) := dc_46 (show ((cX12_rains.data.toList.drop 62).take 1).map UInt8.toNat = [46] by decide +kernel)
theorem dX12_rains_63 : decode cX12_rains 63 = .ok (.iload_n 3, 1) := dc_29 (show ((cX12_rains.data.toList.drop 63).take 1).map UInt8.toNat = [29] by decide +kernel)
theorem dX12_rains_64 : decode cX12_rains 64 = .ok (.iload 4, 2) := dc_21 (show ((cX12_rains.data.toList.drop 64).take 2).map UInt8.toNat = [21, 4] by decide +kernel) rfl
theorem dX12_rains_66 : decode cX12_rains 66 = .ok (.iadd, 1) := dc_96 (show ((cX12_rains.data.toList.drop 66).take 1).map UInt8.toNat = [96] by decide +kernel)
theorem dX12_rains_67 : decode cX12_rains 67 = .ok (.iadd, 1) := dc_96 (show ((cX12_rains.data.toList.drop 67).take 1).map UInt8.toNat = [96] by decide +kernel)
theorem dX12_rains_68 : decode cX12_rains 68 = .ok (.iastore, 1) := dc_79 (show ((cX12_rains.data.toList.drop 68).take 1).map UInt8.toNat = [79] by decide +kernel)
theorem dX12_rains_69 : decode cX12_rains 69 = .ok (.iinc 2 1, 3) := dc_132 (show ((cX12_rains.data.toList.drop 69).take 3).map UInt8.toNat = [132, 2, 1] by decide +kernel) rfl
theorem dX12_rains_72 : decode cX12_rains 72 = .ok (.goto (-70), 3) := dc_167 (show ((cX12_rains.data.toList.drop 72).take 3).map UInt8.toNat = [167, 255, 186] by decide +kernel) rfl
def ms_rains_2 (n : Nat) : Nat → gb_F → Int64 → Int32 → Int32 → gb_MR Unit
  | 0, _, _, _, _ => none
  | mm + 1, f, w, v1, v2 => gb_bd (ms_paths n f w) (fun f_1 wl_2 r_3 => (if r_3 ≤ v2 then some (f_1, wl_2, ()) else gb_ck v2 5 (gb_lt (f_1 10 (Int32.toNatClampNeg v2)) (fun x_8 => gb_lt ((x_8 * v1) / 10) (fun x_9 => gb_ck v2 5 (gb_lt (f_1 11 (Int32.toNatClampNeg v2)) (fun x_11 => gb_lt ((x_11 * v1) / 10) (fun x_12 => gb_ck v2 5 (gb_lt (f_1 10 (Int32.toNatClampNeg v2)) (fun x_14 => gb_ck v2 5 (gb_lt (gb_u f_1 10 (upd (f_1 10) (Int32.toNatClampNeg v2) (x_14 - x_9))) (fun f_16 => gb_ck v2 5 (gb_lt (f_16 11 (Int32.toNatClampNeg v2)) (fun x_18 => gb_ck v2 5 (gb_lt (gb_u f_16 11 (upd (f_16 11) (Int32.toNatClampNeg v2) (x_18 - x_12))) (fun f_20 => gb_ck v2 5 (gb_lt (f_20 12 (Int32.toNatClampNeg v2)) (fun x_22 => gb_ck v2 5 (gb_lt (gb_u f_20 12 (upd (f_20 12) (Int32.toNatClampNeg v2) (x_22 + (x_9 + x_12)))) (fun f_24 => gb_lt (v2 + 1) (fun x_25 => ms_rains_2 n mm f_24 wl_2 v1 x_25)))))))))))))))))))))
def ms_rains (n : Nat) (f : gb_F) (w : Int64) (p1 : Int32) : gb_MR Unit := ms_rains_2 n n f w p1 0
set_option maxHeartbeats 8000000 in
set_option maxRecDepth 100000 in
theorem mc_rains (l : Launch) (D : va_G) (cT : Nat → ClassId) (tt : Nat → Nat) (b1 b : Nat) (hb1 : b1 ≤ b) (n : Nat) (f : gb_F) (w : Int64) (p1 : Int32) (fE : gb_F) (wE : Int64) (rE : Unit) (h : ms_rains n f w p1 = some (fE, wE, rE)) : Met l yX12_rains (.code yX12_rains cX12_rains 5 none :: gb_wA) ({ frames := 2, cells := 0, slots := 0, locals := 41 }) (gb_Pc D cT tt b1 [.ref (b + 0), .int p1] (fun h => va_P D vwCl (gb_wl b (gb_MW cT b f w)) h)) (gb_Qv (fun h => va_P D vwCl (gb_wl b (gb_MW cT b fE wE)) h) (gb_fr b 22)) 0 0 (gb_fr b 22) := by
  refine Met.ofW (cc := cX12_rains) (maxL := 5) (ret := none) (by decide) rfl ?_
  intro p e s m args below meth c s₁ B hml hv
  obtain ⟨rfl, hSt, hP⟩ := hv
  have hx := B.exec
  have hb := B.bytes
  have hr := B.returns
  have hts := atoms_spec (ws := .code yX12_rains cX12_rains 5 none :: gb_wA) B.pre
  have hq : ∀ w ∈ gb_wA, w.before _ s = true := fun w h => hts w (List.mem_cons_of_mem _ h)
  have hown : s.vm.findClass RX12 = some m.cls := findClass_of_methodNamed B.named
  have hlocks := B.notSynchronized
  clear B hts
  have hK := hSt.1
  have hS : va_S (gb_fr b 22) s.heap s.heap [] := va_S.rf
  have hl := lv_entry ([.ref (b + 0), .int p1]) (n := 5) (Nat.le_of_ble_eq_true rfl)
  rw [lg_entry_eq]
  generalize (lg_sl ([.ref (b + 0), .int p1]) ++ List.replicate (5 - (lg_sl ([.ref (b + 0), .int p1])).length) Slot.unset).toArray = ls at hl ⊢
  replace hl : lv_has ls 5 [(0, .ref (b + 0)), (1, .int p1)] := hl
  have L2 : ∀ (mm : Nat) (f : gb_F) (w : Int64) (v1 : Int32) (v2 : Int32) (H : Heap) (locs : List Loc) (ls : Array Slot), ms_rains_2 n mm f w v1 v2 = some (fE, wE, rE) → va_P D vwCl (gb_wl b (gb_MW cT b f w)) H → va_S (gb_fr b 22) s.heap H locs → lv_has ls 5 [(0, .ref (b + 0)), (1, .int v1), (2, .int v2)] → W p l e (headSpec (.code yX12_rains cX12_rains 5 none :: gb_wA) ({ frames := 2, cells := 0, slots := 0, locals := 41 })).room s m ([.ref (b + 0), .int p1]).toArray below meth c H locs 0 0 (MQ below (gb_Qv (fun h => va_P D vwCl (gb_wl b (gb_MW cT b fE wE)) h) (gb_fr b 22)) ([.ref (b + 0), .int p1]).toArray s 0 0 (gb_fr b 22)) (F0 m 2 ls []) := by
    clear h hP hS hl ls f w
    intro mm
    induction mm with
    | zero =>
      intro f w v1 v2 H locs ls h
      cases h
    | succ mm ih =>
      intro f w v1 v2 H locs ls h hP hS hl
      rw [ms_rains_2] at h
      refine lv_iload_n hx hb dX12_rains_2 rfl (lv_at hl 2 rfl) ?_
      refine lv_aload_n hx hb dX12_rains_3 rfl (lv_at hl 0 rfl) ?_
      obtain ⟨f_1, wl_2, r_3, z_4, h⟩ := gb_bd_s h
      refine gb_calli (va_runV (C := RX12) (As := []) (rest := [.int v2]) ⟨hx, hb, hml, hown, hq⟩ (mc_paths l D cT tt b1 b hb1 n f w f_1 wl_2 r_3 z_4) (cwV 0 hq (gb_gV w_1384 w_1386 s_4_4 w_14 w_1387) rfl rfl rfl (by decide +kernel) ⟨Nat.le_of_ble_eq_true rfl, Nat.le_of_ble_eq_true rfl⟩) (gb_preV (r := (RX12, TX12, 44)) (ci := 10) (q0 := 0) hSt hP rfl (gb_at b rfl) hS (fun q h => Nat.le_trans hb1 h.1) hP) rfl rfl hl.1 rfl (lv_room (Nat.le_of_ble_eq_true rfl)) dX12_rains_4 ⟨Nat.le_of_ble_eq_true rfl, Nat.le_of_ble_eq_true rfl⟩) hS (fun _ h => h) (fun _ h => h) (fun q_5 H locs hY hk hS => ?_)
      obtain ⟨hq_5, hP⟩ := hY
      replace hq_5 := hq_5.symm
      subst hq_5
      refine lv_icmp_ge (tgt := 75) hx hb dX12_rains_7 (by decide) (fun c_6 => ?_) (fun c_6 => ?_)
      · rw [if_pos c_6] at h
        obtain ⟨e1, e2, -⟩ := gb_eq3 h
        exact W.vret hx hb hr (fun t ht hW => gb_rv ht (by rw [← e1, ← e2]; exact hP) hS) hS.2.2 dX12_rains_75
      · rw [if_neg c_6] at h
        refine lv_aload_n hx hb dX12_rains_10 rfl (lv_at hl 0 rfl) ?_
        refine va_get (ci := 10) (v := (.ref (b + 10))) (C := RX12) (T := TX12) (N := 44) hx hb hq i_X12 hown hK hP 0 (gb_at b rfl) rfl 19 (by decide) (hq _ w_1143) (fun _ h9 => h9) rfl dX12_rains_11 ?_
        refine lv_iload_n hx hb dX12_rains_14 rfl (lv_at hl 2 rfl) ?_
        obtain ⟨z_7, h⟩ := gb_ck_s h
        refine va_iald hx hb hK hP 10 0 (gb_at b rfl) rfl z_7 dX12_rains_15 ?_
        refine lv_topi (fun x_8 ex_8 => ?_)
        replace h := gb_lt_s ex_8 h
        refine lv_iload_n hx hb dX12_rains_16 rfl (lv_at hl 1 rfl) ?_
        refine lv_imul hx hb dX12_rains_17 ?_
        refine lv_bipush (v := 10) hx hb dX12_rains_18 (by decide) ?_
        refine lv_idiv hx hb dX12_rains_20 (by decide) ?_
        refine lv_topi (fun x_9 ex_9 => ?_)
        replace h := gb_lt_s ex_9 h
        refine lv_istore_n (lv' := [(3, .int x_9), (0, .ref (b + 0)), (1, .int v1), (2, .int v2)]) hx hb dX12_rains_21 rfl hl (by decide) rfl (fun ls hl => ?_)
        refine lv_aload_n hx hb dX12_rains_22 rfl (lv_at hl 1 rfl) ?_
        refine va_get (ci := 10) (v := (.ref (b + 11))) (C := RX12) (T := TX12) (N := 44) hx hb hq i_X12 hown hK hP 0 (gb_at b rfl) rfl 20 (by decide) (hq _ w_1144) (fun _ h9 => h9) rfl dX12_rains_23 ?_
        refine lv_iload_n hx hb dX12_rains_26 rfl (lv_at hl 3 rfl) ?_
        obtain ⟨z_10, h⟩ := gb_ck_s h
        refine va_iald hx hb hK hP 11 0 (gb_at b rfl) rfl z_10 dX12_rains_27 ?_
        refine lv_topi (fun x_11 ex_11 => ?_)
        replace h := gb_lt_s ex_11 h
        refine lv_iload_n hx hb dX12_rains_28 rfl (lv_at hl 2 rfl) ?_
        refine lv_imul hx hb dX12_rains_29 ?_
        refine lv_bipush (v := 10) hx hb dX12_rains_30 (by decide) ?_
        refine lv_idiv hx hb dX12_rains_32 (by decide) ?_
        refine lv_topi (fun x_12 ex_12 => ?_)
        replace h := gb_lt_s ex_12 h
        refine lv_istore (lv' := [(4, .int x_12), (3, .int x_9), (0, .ref (b + 0)), (1, .int v1), (2, .int v2)]) hx hb dX12_rains_33 hl (by decide) rfl (fun ls hl => ?_)
        refine lv_aload_n hx hb dX12_rains_35 rfl (lv_at hl 2 rfl) ?_
        refine va_get (ci := 10) (v := (.ref (b + 10))) (C := RX12) (T := TX12) (N := 44) hx hb hq i_X12 hown hK hP 0 (gb_at b rfl) rfl 19 (by decide) (hq _ w_1143) (fun _ h9 => h9) rfl dX12_rains_36 ?_
        refine lv_iload_n hx hb dX12_rains_39 rfl (lv_at hl 4 rfl) ?_
        refine lv_dup2_11 hx hb dX12_rains_40 rfl rfl ?_
        obtain ⟨z_13, h⟩ := gb_ck_s h
        refine va_iald hx hb hK hP 10 0 (gb_at b rfl) rfl z_13 dX12_rains_41 ?_
        refine lv_topi (fun x_14 ex_14 => ?_)
        replace h := gb_lt_s ex_14 h
        refine lv_iload_n hx hb dX12_rains_42 rfl (lv_at hl 1 rfl) ?_
        refine lv_isub hx hb dX12_rains_43 ?_
        obtain ⟨z_15, h⟩ := gb_ck_s h
        refine gb_iast (x := (x_14 - x_9)) hx hb hK hP (fun k h => ⟨Nat.le_add_right b k, Nat.add_lt_add_left h b⟩) hS rfl 10 0 rfl rfl z_15 dX12_rains_44 (fun H locs hP hz_ hS => ?_)
        obtain ⟨f_16, ef_16⟩ : ∃ q, q = (gb_u f_1 10 (upd (f_1 10) (Int32.toNatClampNeg v2) (x_14 - x_9))) := ⟨_, rfl⟩
        replace hP : va_P D vwCl (gb_wl b (gb_MW cT b f_16 wl_2)) H := by rw [ef_16]; exact hP
        replace h := gb_lt_s ef_16 h
        refine lv_aload_n hx hb dX12_rains_45 rfl (lv_at hl 2 rfl) ?_
        refine va_get (ci := 10) (v := (.ref (b + 11))) (C := RX12) (T := TX12) (N := 44) hx hb hq i_X12 hown hK hP 0 (gb_at b rfl) rfl 20 (by decide) (hq _ w_1144) (fun _ h9 => h9) rfl dX12_rains_46 ?_
        refine lv_iload_n hx hb dX12_rains_49 rfl (lv_at hl 4 rfl) ?_
        refine lv_dup2_11 hx hb dX12_rains_50 rfl rfl ?_
        obtain ⟨z_17, h⟩ := gb_ck_s h
        refine va_iald hx hb hK hP 11 0 (gb_at b rfl) rfl z_17 dX12_rains_51 ?_
        refine lv_topi (fun x_18 ex_18 => ?_)
        replace h := gb_lt_s ex_18 h
        refine lv_iload hx hb dX12_rains_52 (lv_at hl 0 rfl) ?_
        refine lv_isub hx hb dX12_rains_54 ?_
        obtain ⟨z_19, h⟩ := gb_ck_s h
        refine gb_iast (x := (x_18 - x_12)) hx hb hK hP (fun k h => ⟨Nat.le_add_right b k, Nat.add_lt_add_left h b⟩) hS rfl 11 0 rfl rfl z_19 dX12_rains_55 (fun H locs hP hz_ hS => ?_)
        obtain ⟨f_20, ef_20⟩ : ∃ q, q = (gb_u f_16 11 (upd (f_16 11) (Int32.toNatClampNeg v2) (x_18 - x_12))) := ⟨_, rfl⟩
        replace hP : va_P D vwCl (gb_wl b (gb_MW cT b f_20 wl_2)) H := by rw [ef_20]; exact hP
        replace h := gb_lt_s ef_20 h
        refine lv_aload_n hx hb dX12_rains_56 rfl (lv_at hl 2 rfl) ?_
        refine va_get (ci := 10) (v := (.ref (b + 12))) (C := RX12) (T := TX12) (N := 44) hx hb hq i_X12 hown hK hP 0 (gb_at b rfl) rfl 21 (by decide) (hq _ w_1145) (fun _ h9 => h9) rfl dX12_rains_57 ?_
        refine lv_iload_n hx hb dX12_rains_60 rfl (lv_at hl 4 rfl) ?_
        refine lv_dup2_11 hx hb dX12_rains_61 rfl rfl ?_
        obtain ⟨z_21, h⟩ := gb_ck_s h
        refine va_iald hx hb hK hP 12 0 (gb_at b rfl) rfl z_21 dX12_rains_62 ?_
        refine lv_topi (fun x_22 ex_22 => ?_)
        replace h := gb_lt_s ex_22 h
        refine lv_iload_n hx hb dX12_rains_63 rfl (lv_at hl 1 rfl) ?_
        refine lv_iload hx hb dX12_rains_64 (lv_at hl 0 rfl) ?_
        refine lv_iadd hx hb dX12_rains_66 ?_
        refine lv_iadd hx hb dX12_rains_67 ?_
        obtain ⟨z_23, h⟩ := gb_ck_s h
        refine gb_iast (x := (x_22 + (x_9 + x_12))) hx hb hK hP (fun k h => ⟨Nat.le_add_right b k, Nat.add_lt_add_left h b⟩) hS rfl 12 0 rfl rfl z_23 dX12_rains_68 (fun H locs hP hz_ hS => ?_)
        obtain ⟨f_24, ef_24⟩ : ∃ q, q = (gb_u f_20 12 (upd (f_20 12) (Int32.toNatClampNeg v2) (x_22 + (x_9 + x_12)))) := ⟨_, rfl⟩
        replace hP : va_P D vwCl (gb_wl b (gb_MW cT b f_24 wl_2)) H := by rw [ef_24]; exact hP
        replace h := gb_lt_s ef_24 h
        obtain ⟨x_25, ex_25⟩ : ∃ q, q = (v2 + 1) := ⟨_, rfl⟩
        replace h := gb_lt_s ex_25 h
        refine lv_iinc (v := x_25) (lv' := [(2, .int x_25), (4, .int x_12), (3, .int x_9), (0, .ref (b + 0)), (1, .int v1)]) hx hb dX12_rains_69 hl (k := 4) rfl (by rw [ex_25]; rfl) (by decide) rfl (fun ls hl => ?_)
        refine lv_goto (tgt := 2) hx hb dX12_rains_72 (by decide) ?_
        exact ih _ _ _ _ _ _ _ h hP hS (lv_sub hl [3, 4, 0] rfl)
  unfold ms_rains at h
  refine lv_iconst (v := 0) hx hb dX12_rains_0 (by decide) ?_
  refine lv_istore_n (lv' := [(2, .int 0), (0, .ref (b + 0)), (1, .int p1)]) hx hb dX12_rains_1 rfl hl (by decide) rfl (fun ls hl => ?_)
  exact L2 n _ _ _ _ _ _ _ h hP hS (lv_sub hl [1, 2, 0] rfl)
theorem dX12_does_0 : decode cX12_does 0 = .ok (.aload_n 0, 1) := dc_42 (show ((cX12_does.data.toList.drop 0).take 1).map UInt8.toNat = [42] by decide +kernel)
theorem dX12_does_1 : decode cX12_does 1 = .ok (.iload_n 1, 1) := dc_27 (show ((cX12_does.data.toList.drop 1).take 1).map UInt8.toNat = [27] by decide +kernel)
theorem dX12_does_2 : decode cX12_does 2 = .ok (.iconst 1, 1) := dc_4 (show ((cX12_does.data.toList.drop 2).take 1).map UInt8.toNat = [4] by decide +kernel)
theorem dX12_does_3 : decode cX12_does 3 = .ok (.invokevirtual 230, 3) := dc_182 (show ((cX12_does.data.toList.drop 3).take 3).map UInt8.toNat = [182, 0, 230] by decide +kernel) rfl
theorem dX12_does_6 : decode cX12_does 6 = .ok (.istore_n 2, 1) := dc_61 (show ((cX12_does.data.toList.drop 6).take 1).map UInt8.toNat = [61] by decide +kernel)
theorem dX12_does_7 : decode cX12_does 7 = .ok (.aload_n 0, 1) := dc_42 (show ((cX12_does.data.toList.drop 7).take 1).map UInt8.toNat = [42] by decide +kernel)
theorem dX12_does_8 : decode cX12_does 8 = .ok (.iload_n 1, 1) := dc_27 (show ((cX12_does.data.toList.drop 8).take 1).map UInt8.toNat = [27] by decide +kernel)
theorem dX12_does_9 : decode cX12_does 9 = .ok (.iconst 2, 1) := dc_5 (show ((cX12_does.data.toList.drop 9).take 1).map UInt8.toNat = [5] by decide +kernel)
theorem dX12_does_10 : decode cX12_does 10 = .ok (.invokevirtual 230, 3) := dc_182 (show ((cX12_does.data.toList.drop 10).take 3).map UInt8.toNat = [182, 0, 230] by decide +kernel) rfl
theorem dX12_does_13 : decode cX12_does 13 = .ok (.istore_n 3, 1) := dc_62 (show ((cX12_does.data.toList.drop 13).take 1).map UInt8.toNat = [62] by decide +kernel)
theorem dX12_does_14 : decode cX12_does 14 = .ok (.aload_n 0, 1) := dc_42 (show ((cX12_does.data.toList.drop 14).take 1).map UInt8.toNat = [42] by decide +kernel)
theorem dX12_does_15 : decode cX12_does 15 = .ok (.iload_n 1, 1) := dc_27 (show ((cX12_does.data.toList.drop 15).take 1).map UInt8.toNat = [27] by decide +kernel)
theorem dX12_does_16 : decode cX12_does 16 = .ok (.iconst 0, 1) := dc_3 (show ((cX12_does.data.toList.drop 16).take 1).map UInt8.toNat = [3] by decide +kernel)
theorem dX12_does_17 : decode cX12_does 17 = .ok (.invokevirtual 230, 3) := dc_182 (show ((cX12_does.data.toList.drop 17).take 3).map UInt8.toNat = [182, 0, 230] by decide +kernel) rfl
theorem dX12_does_20 : decode cX12_does 20 = .ok (.tableswitch 161 0 7 #[48, 60, 72, 84, 120, 137, 145, 153], 48) := by decide +kernel
theorem dX12_does_68 : decode cX12_does 68 = .ok (.aload_n 0, 1) := dc_42 (show ((cX12_does.data.toList.drop 68).take 1).map UInt8.toNat = [42] by decide +kernel)
theorem dX12_does_69 : decode cX12_does 69 = .ok (.iload_n 1, 1) := dc_27 (show ((cX12_does.data.toList.drop 69).take 1).map UInt8.toNat = [27] by decide +kernel)
theorem dX12_does_70 : decode cX12_does 70 = .ok (.iload_n 2, 1) := dc_28 (show ((cX12_does.data.toList.drop 70).take 1).map UInt8.toNat = [28] by decide +kernel)
theorem dX12_does_71 : decode cX12_does 71 = .ok (.iload_n 3, 1) := dc_29 (show ((cX12_does.data.toList.drop 71).take 1).map UInt8.toNat = [29] by decide +kernel)
theorem dX12_does_72 : decode cX12_does 72 = .ok (.iconst 0, 1) := dc_3 (show ((cX12_does.data.toList.drop 72).take 1).map UInt8.toNat = [3] by decide +kernel)
theorem dX12_does_73 : decode cX12_does 73 = .ok (.iconst 1, 1) := dc_4 (show ((cX12_does.data.toList.drop 73).take 1).map UInt8.toNat = [4] by decide +kernel)
theorem dX12_does_74 : decode cX12_does 74 = .ok (.invokevirtual 248, 3) := dc_182 (show ((cX12_does.data.toList.drop 74).take 3).map UInt8.toNat = [182, 0, 248] by decide +kernel) rfl
theorem w_1459 : (Cond.code ({ cls := "GooseBorderModel", name := "walks", desc := "(IIIZI)V" } : MethodName) prog_14_method_50_code (8 : Nat) (Option.none : Option FieldType)) ∈ gb_wA := gb_t7 19 rfl rfl
theorem w_1456 : (Cond.methodLink "GooseBorderModel" (248 : Nat) ({ cls := "GooseBorderModel", name := "walks", desc := "(IIIZI)V" } : MethodName)) ∈ gb_wA := gb_t7 16 rfl rfl
theorem w_1458 : (Cond.instanceMethod ({ cls := "GooseBorderModel", name := "walks", desc := "(IIIZI)V" } : MethodName)) ∈ gb_wA := gb_t7 18 rfl rfl
theorem s_5_3 : Cond.selects "GooseBorderModel" (⟨"GooseBorderModel", "walks", "(IIIZI)V"⟩ : MethodName) (⟨"GooseBorderModel", "walks", "(IIIZI)V"⟩ : MethodName) ∈ gb_wA := gb_s5 3 rfl rfl
theorem dX12_does_77 : decode cX12_does 77 = .ok (.goto 115, 3) := dc_167 (show ((cX12_does.data.toList.drop 77).take 3).map UInt8.toNat = [167, 0, 115] by decide +kernel) rfl
theorem dX12_does_192 : decode cX12_does 192 = .ok (.return_, 1) := dc_177 (show ((cX12_does.data.toList.drop 192).take 1).map UInt8.toNat = [177] by decide +kernel)
theorem dX12_does_80 : decode cX12_does 80 = .ok (.aload_n 0, 1) := dc_42 (show ((cX12_does.data.toList.drop 80).take 1).map UInt8.toNat = [42] by decide +kernel)
theorem dX12_does_81 : decode cX12_does 81 = .ok (.iload_n 1, 1) := dc_27 (show ((cX12_does.data.toList.drop 81).take 1).map UInt8.toNat = [27] by decide +kernel)
theorem dX12_does_82 : decode cX12_does 82 = .ok (.iload_n 2, 1) := dc_28 (show ((cX12_does.data.toList.drop 82).take 1).map UInt8.toNat = [28] by decide +kernel)
theorem dX12_does_83 : decode cX12_does 83 = .ok (.iload_n 3, 1) := dc_29 (show ((cX12_does.data.toList.drop 83).take 1).map UInt8.toNat = [29] by decide +kernel)
theorem dX12_does_84 : decode cX12_does 84 = .ok (.iconst 1, 1) := dc_4 (show ((cX12_does.data.toList.drop 84).take 1).map UInt8.toNat = [4] by decide +kernel)
theorem dX12_does_85 : decode cX12_does 85 = .ok (.iconst 1, 1) := dc_4 (show ((cX12_does.data.toList.drop 85).take 1).map UInt8.toNat = [4] by decide +kernel)
theorem dX12_does_86 : decode cX12_does 86 = .ok (.invokevirtual 248, 3) := dc_182 (show ((cX12_does.data.toList.drop 86).take 3).map UInt8.toNat = [182, 0, 248] by decide +kernel) rfl
theorem dX12_does_89 : decode cX12_does 89 = .ok (.goto 103, 3) := dc_167 (show ((cX12_does.data.toList.drop 89).take 3).map UInt8.toNat = [167, 0, 103] by decide +kernel) rfl
theorem dX12_does_92 : decode cX12_does 92 = .ok (.aload_n 0, 1) := dc_42 (show ((cX12_does.data.toList.drop 92).take 1).map UInt8.toNat = [42] by decide +kernel)
theorem dX12_does_93 : decode cX12_does 93 = .ok (.iload_n 1, 1) := dc_27 (show ((cX12_does.data.toList.drop 93).take 1).map UInt8.toNat = [27] by decide +kernel)
theorem dX12_does_94 : decode cX12_does 94 = .ok (.iload_n 2, 1) := dc_28 (show ((cX12_does.data.toList.drop 94).take 1).map UInt8.toNat = [28] by decide +kernel)
theorem dX12_does_95 : decode cX12_does 95 = .ok (.iload_n 3, 1) := dc_29 (show ((cX12_does.data.toList.drop 95).take 1).map UInt8.toNat = [29] by decide +kernel)
theorem dX12_does_96 : decode cX12_does 96 = .ok (.iconst 1, 1) := dc_4 (show ((cX12_does.data.toList.drop 96).take 1).map UInt8.toNat = [4] by decide +kernel)
theorem dX12_does_97 : decode cX12_does 97 = .ok (.iconst 0, 1) := dc_3 (show ((cX12_does.data.toList.drop 97).take 1).map UInt8.toNat = [3] by decide +kernel)
theorem dX12_does_98 : decode cX12_does 98 = .ok (.invokevirtual 248, 3) := dc_182 (show ((cX12_does.data.toList.drop 98).take 3).map UInt8.toNat = [182, 0, 248] by decide +kernel) rfl
theorem dX12_does_101 : decode cX12_does 101 = .ok (.goto 91, 3) := dc_167 (show ((cX12_does.data.toList.drop 101).take 3).map UInt8.toNat = [167, 0, 91] by decide +kernel) rfl
theorem dX12_does_104 : decode cX12_does 104 = .ok (.aload_n 0, 1) := dc_42 (show ((cX12_does.data.toList.drop 104).take 1).map UInt8.toNat = [42] by decide +kernel)
theorem dX12_does_105 : decode cX12_does 105 = .ok (.iload_n 1, 1) := dc_27 (show ((cX12_does.data.toList.drop 105).take 1).map UInt8.toNat = [27] by decide +kernel)
theorem dX12_does_106 : decode cX12_does 106 = .ok (.iload_n 2, 1) := dc_28 (show ((cX12_does.data.toList.drop 106).take 1).map UInt8.toNat = [28] by decide +kernel)
theorem dX12_does_107 : decode cX12_does 107 = .ok (.aload_n 0, 1) := dc_42 (show ((cX12_does.data.toList.drop 107).take 1).map UInt8.toNat = [42] by decide +kernel)
theorem dX12_does_108 : decode cX12_does 108 = .ok (.iload_n 1, 1) := dc_27 (show ((cX12_does.data.toList.drop 108).take 1).map UInt8.toNat = [27] by decide +kernel)
theorem dX12_does_109 : decode cX12_does 109 = .ok (.iconst 3, 1) := dc_6 (show ((cX12_does.data.toList.drop 109).take 1).map UInt8.toNat = [6] by decide +kernel)
theorem dX12_does_110 : decode cX12_does 110 = .ok (.invokevirtual 230, 3) := dc_182 (show ((cX12_does.data.toList.drop 110).take 3).map UInt8.toNat = [182, 0, 230] by decide +kernel) rfl
theorem dX12_does_113 : decode cX12_does 113 = .ok (.iconst 0, 1) := dc_3 (show ((cX12_does.data.toList.drop 113).take 1).map UInt8.toNat = [3] by decide +kernel)
theorem dX12_does_114 : decode cX12_does 114 = .ok (.iconst 1, 1) := dc_4 (show ((cX12_does.data.toList.drop 114).take 1).map UInt8.toNat = [4] by decide +kernel)
theorem dX12_does_115 : decode cX12_does 115 = .ok (.invokevirtual 248, 3) := dc_182 (show ((cX12_does.data.toList.drop 115).take 3).map UInt8.toNat = [182, 0, 248] by decide +kernel) rfl
theorem dX12_does_118 : decode cX12_does 118 = .ok (.aload_n 0, 1) := dc_42 (show ((cX12_does.data.toList.drop 118).take 1).map UInt8.toNat = [42] by decide +kernel)
theorem dX12_does_119 : decode cX12_does 119 = .ok (.getfield 20, 3) := dc_180 (show ((cX12_does.data.toList.drop 119).take 3).map UInt8.toNat = [180, 0, 20] by decide +kernel) rfl
theorem dX12_does_122 : decode cX12_does 122 = .ok (.iload_n 3, 1) := dc_29 (show ((cX12_does.data.toList.drop 122).take 1).map UInt8.toNat = [29] by decide +kernel)
theorem dX12_does_123 : decode cX12_does 123 = .ok (.iconst 1, 1) := dc_4 (show ((cX12_does.data.toList.drop 123).take 1).map UInt8.toNat = [4] by decide +kernel)
theorem dX12_does_124 : decode cX12_does 124 = .ok (.iastore, 1) := dc_79 (show ((cX12_does.data.toList.drop 124).take 1).map UInt8.toNat = [79] by decide +kernel)
theorem dX12_does_125 : decode cX12_does 125 = .ok (.aload_n 0, 1) := dc_42 (show ((cX12_does.data.toList.drop 125).take 1).map UInt8.toNat = [42] by decide +kernel)
theorem dX12_does_126 : decode cX12_does 126 = .ok (.getfield 29, 3) := dc_180 (show ((cX12_does.data.toList.drop 126).take 3).map UInt8.toNat = [180, 0, 29] by decide +kernel) rfl
theorem dX12_does_129 : decode cX12_does 129 = .ok (.iload_n 3, 1) := dc_29 (show ((cX12_does.data.toList.drop 129).take 1).map UInt8.toNat = [29] by decide +kernel)
theorem dX12_does_130 : decode cX12_does 130 = .ok (.aload_n 0, 1) := dc_42 (show ((cX12_does.data.toList.drop 130).take 1).map UInt8.toNat = [42] by decide +kernel)
theorem dX12_does_131 : decode cX12_does 131 = .ok (.iload_n 1, 1) := dc_27 (show ((cX12_does.data.toList.drop 131).take 1).map UInt8.toNat = [27] by decide +kernel)
theorem dX12_does_132 : decode cX12_does 132 = .ok (.iconst 3, 1) := dc_6 (show ((cX12_does.data.toList.drop 132).take 1).map UInt8.toNat = [6] by decide +kernel)
theorem dX12_does_133 : decode cX12_does 133 = .ok (.invokevirtual 230, 3) := dc_182 (show ((cX12_does.data.toList.drop 133).take 3).map UInt8.toNat = [182, 0, 230] by decide +kernel) rfl
theorem dX12_does_136 : decode cX12_does 136 = .ok (.iastore, 1) := dc_79 (show ((cX12_does.data.toList.drop 136).take 1).map UInt8.toNat = [79] by decide +kernel)
theorem dX12_does_137 : decode cX12_does 137 = .ok (.goto 55, 3) := dc_167 (show ((cX12_does.data.toList.drop 137).take 3).map UInt8.toNat = [167, 0, 55] by decide +kernel) rfl
theorem dX12_does_140 : decode cX12_does 140 = .ok (.aload_n 0, 1) := dc_42 (show ((cX12_does.data.toList.drop 140).take 1).map UInt8.toNat = [42] by decide +kernel)
theorem dX12_does_141 : decode cX12_does 141 = .ok (.getfield 23, 3) := dc_180 (show ((cX12_does.data.toList.drop 141).take 3).map UInt8.toNat = [180, 0, 23] by decide +kernel) rfl
theorem dX12_does_144 : decode cX12_does 144 = .ok (.iload_n 2, 1) := dc_28 (show ((cX12_does.data.toList.drop 144).take 1).map UInt8.toNat = [28] by decide +kernel)
theorem dX12_does_145 : decode cX12_does 145 = .ok (.iload_n 3, 1) := dc_29 (show ((cX12_does.data.toList.drop 145).take 1).map UInt8.toNat = [29] by decide +kernel)
theorem dX12_does_146 : decode cX12_does 146 = .ok (.iastore, 1) := dc_79 (show ((cX12_does.data.toList.drop 146).take 1).map UInt8.toNat = [79] by decide +kernel)
theorem dX12_does_147 : decode cX12_does 147 = .ok (.aload_n 0, 1) := dc_42 (show ((cX12_does.data.toList.drop 147).take 1).map UInt8.toNat = [42] by decide +kernel)
theorem dX12_does_148 : decode cX12_does 148 = .ok (.getfield 32, 3) := dc_180 (show ((cX12_does.data.toList.drop 148).take 3).map UInt8.toNat = [180, 0, 32] by decide +kernel) rfl
theorem dX12_does_151 : decode cX12_does 151 = .ok (.iload_n 2, 1) := dc_28 (show ((cX12_does.data.toList.drop 151).take 1).map UInt8.toNat = [28] by decide +kernel)
theorem dX12_does_152 : decode cX12_does 152 = .ok (.iconst 1, 1) := dc_4 (show ((cX12_does.data.toList.drop 152).take 1).map UInt8.toNat = [4] by decide +kernel)
theorem dX12_does_153 : decode cX12_does 153 = .ok (.bastore, 1) := dc_84 (show ((cX12_does.data.toList.drop 153).take 1).map UInt8.toNat = [84] by decide +kernel)
theorem dX12_does_154 : decode cX12_does 154 = .ok (.goto 38, 3) := dc_167 (show ((cX12_does.data.toList.drop 154).take 3).map UInt8.toNat = [167, 0, 38] by decide +kernel) rfl
theorem dX12_does_157 : decode cX12_does 157 = .ok (.aload_n 0, 1) := dc_42 (show ((cX12_does.data.toList.drop 157).take 1).map UInt8.toNat = [42] by decide +kernel)
theorem dX12_does_158 : decode cX12_does 158 = .ok (.iload_n 2, 1) := dc_28 (show ((cX12_does.data.toList.drop 158).take 1).map UInt8.toNat = [28] by decide +kernel)
theorem dX12_does_159 : decode cX12_does 159 = .ok (.invokevirtual 252, 3) := dc_182 (show ((cX12_does.data.toList.drop 159).take 3).map UInt8.toNat = [182, 0, 252] by decide +kernel) rfl
theorem w_1463 : (Cond.code ({ cls := "GooseBorderModel", name := "rains", desc := "(I)V" } : MethodName) prog_14_method_51_code (5 : Nat) (Option.none : Option FieldType)) ∈ gb_wA := gb_t7 23 rfl rfl
theorem w_1460 : (Cond.methodLink "GooseBorderModel" (252 : Nat) ({ cls := "GooseBorderModel", name := "rains", desc := "(I)V" } : MethodName)) ∈ gb_wA := gb_t7 20 rfl rfl
theorem w_1462 : (Cond.instanceMethod ({ cls := "GooseBorderModel", name := "rains", desc := "(I)V" } : MethodName)) ∈ gb_wA := gb_t7 22 rfl rfl
theorem s_5_4 : Cond.selects "GooseBorderModel" (⟨"GooseBorderModel", "rains", "(I)V"⟩ : MethodName) (⟨"GooseBorderModel", "rains", "(I)V"⟩ : MethodName) ∈ gb_wA := gb_s5 4 rfl rfl
theorem dX12_does_162 : decode cX12_does 162 = .ok (.goto 30, 3) := dc_167 (show ((cX12_does.data.toList.drop 162).take 3).map UInt8.toNat = [167, 0, 30] by decide +kernel) rfl
theorem dX12_does_165 : decode cX12_does 165 = .ok (.aload_n 0, 1) := dc_42 (show ((cX12_does.data.toList.drop 165).take 1).map UInt8.toNat = [42] by decide +kernel)
theorem dX12_does_166 : decode cX12_does 166 = .ok (.iconst 1, 1) := dc_4 (show ((cX12_does.data.toList.drop 166).take 1).map UInt8.toNat = [4] by decide +kernel)
theorem dX12_does_167 : decode cX12_does 167 = .ok (.putfield 233, 3) := dc_181 (show ((cX12_does.data.toList.drop 167).take 3).map UInt8.toNat = [181, 0, 233] by decide +kernel) rfl
theorem dX12_does_170 : decode cX12_does 170 = .ok (.goto 22, 3) := dc_167 (show ((cX12_does.data.toList.drop 170).take 3).map UInt8.toNat = [167, 0, 22] by decide +kernel) rfl
theorem dX12_does_173 : decode cX12_does 173 = .ok (.aload_n 0, 1) := dc_42 (show ((cX12_does.data.toList.drop 173).take 1).map UInt8.toNat = [42] by decide +kernel)
theorem dX12_does_174 : decode cX12_does 174 = .ok (.iconst 0, 1) := dc_3 (show ((cX12_does.data.toList.drop 174).take 1).map UInt8.toNat = [3] by decide +kernel)
theorem dX12_does_175 : decode cX12_does 175 = .ok (.putfield 233, 3) := dc_181 (show ((cX12_does.data.toList.drop 175).take 3).map UInt8.toNat = [181, 0, 233] by decide +kernel) rfl
theorem dX12_does_178 : decode cX12_does 178 = .ok (.goto 14, 3) := dc_167 (show ((cX12_does.data.toList.drop 178).take 3).map UInt8.toNat = [167, 0, 14] by decide +kernel) rfl
theorem dX12_does_181 : decode cX12_does 181 = .ok (.aload_n 0, 1) := dc_42 (show ((cX12_does.data.toList.drop 181).take 1).map UInt8.toNat = [42] by decide +kernel)
theorem dX12_does_182 : decode cX12_does 182 = .ok (.getfield 20, 3) := dc_180 (show ((cX12_does.data.toList.drop 182).take 3).map UInt8.toNat = [180, 0, 20] by decide +kernel) rfl
theorem dX12_does_185 : decode cX12_does 185 = .ok (.aload_n 0, 1) := dc_42 (show ((cX12_does.data.toList.drop 185).take 1).map UInt8.toNat = [42] by decide +kernel)
theorem dX12_does_186 : decode cX12_does 186 = .ok (.iload_n 2, 1) := dc_28 (show ((cX12_does.data.toList.drop 186).take 1).map UInt8.toNat = [28] by decide +kernel)
theorem dX12_does_187 : decode cX12_does 187 = .ok (.invokevirtual 242, 3) := dc_182 (show ((cX12_does.data.toList.drop 187).take 3).map UInt8.toNat = [182, 0, 242] by decide +kernel) rfl
theorem dX12_does_190 : decode cX12_does 190 = .ok (.iconst 2, 1) := dc_5 (show ((cX12_does.data.toList.drop 190).take 1).map UInt8.toNat = [5] by decide +kernel)
theorem dX12_does_191 : decode cX12_does 191 = .ok (.iastore, 1) := dc_79 (show ((cX12_does.data.toList.drop 191).take 1).map UInt8.toNat = [79] by decide +kernel)
def ms_does (n : Nat) (f : gb_F) (w : Int64) (p1 : Int32) : gb_MR Unit := gb_bd (ms_deedOf n f w p1 1) (fun f_1 wl_2 r_3 => gb_bd (ms_deedOf n f_1 wl_2 p1 2) (fun f_6 wl_7 r_8 => gb_bd (ms_deedOf n f_6 wl_7 p1 0) (fun f_11 wl_12 r_13 => (if r_13 = (0 : Int32) then gb_bd (ms_walks n f_11 wl_12 p1 r_3 r_8 0 1) (fun f_17 wl_18 _ => some (f_17, wl_18, ())) else (if r_13 = (1 : Int32) then gb_bd (ms_walks n f_11 wl_12 p1 r_3 r_8 1 1) (fun f_23 wl_24 _ => some (f_23, wl_24, ())) else (if r_13 = (2 : Int32) then gb_bd (ms_walks n f_11 wl_12 p1 r_3 r_8 1 0) (fun f_29 wl_30 _ => some (f_29, wl_30, ())) else (if r_13 = (3 : Int32) then gb_bd (ms_deedOf n f_11 wl_12 p1 3) (fun f_35 wl_36 r_37 => gb_bd (ms_walks n f_35 wl_36 p1 r_3 r_37 0 1) (fun f_40 wl_41 _ => gb_ck r_8 8 (gb_lt (gb_u f_40 4 (upd (f_40 4) (Int32.toNatClampNeg r_8) 1)) (fun f_46 => gb_bd (ms_deedOf n f_46 wl_41 p1 3) (fun f_47 wl_48 r_49 => gb_ck r_8 8 (gb_lt (gb_u f_47 7 (upd (f_47 7) (Int32.toNatClampNeg r_8) r_49)) (fun f_53 => some (f_53, wl_48, ())))))))) else (if r_13 = (4 : Int32) then gb_ck r_3 8 (gb_lt (gb_u f_11 5 (upd (f_11 5) (Int32.toNatClampNeg r_3) r_8)) (fun f_56 => gb_ck r_3 8 (gb_lt (gb_u f_56 8 (upd (f_56 8) (Int32.toNatClampNeg r_3) (vp_nar .boolean 1))) (fun f_58 => some (f_58, wl_12, ()))))) else (if r_13 = (5 : Int32) then gb_bd (ms_rains n f_11 wl_12 r_3) (fun f_60 wl_61 _ => some (f_60, wl_61, ())) else (if r_13 = (6 : Int32) then gb_lt (gb_u f_11 0 (upd (f_11 0) 22 1)) (fun f_66 => some (f_66, wl_12, ())) else (if r_13 = (7 : Int32) then gb_lt (gb_u f_11 0 (upd (f_11 0) 22 0)) (fun f_68 => some (f_68, wl_12, ())) else gb_bd (ms_foxed n f_11 wl_12 r_3) (fun f_69 wl_70 r_71 => gb_ck r_71 8 (gb_lt (gb_u f_69 4 (upd (f_69 4) (Int32.toNatClampNeg r_71) 2)) (fun f_75 => some (f_75, wl_70, ())))))))))))))))
set_option maxHeartbeats 8000000 in
set_option maxRecDepth 100000 in
theorem mc_does (l : Launch) (D : va_G) (cT : Nat → ClassId) (tt : Nat → Nat) (b1 b : Nat) (hb1 : b1 ≤ b) (n : Nat) (f : gb_F) (w : Int64) (p1 : Int32) (fE : gb_F) (wE : Int64) (rE : Unit) (h : ms_does n f w p1 = some (fE, wE, rE)) : Met l yX12_does (.code yX12_does cX12_does 4 none :: gb_wA) ({ frames := 4, cells := 0, slots := 0, locals := 97 }) (gb_Pc D cT tt b1 [.ref (b + 0), .int p1] (fun h => va_P D vwCl (gb_wl b (gb_MW cT b f w)) h)) (gb_Qv (fun h => va_P D vwCl (gb_wl b (gb_MW cT b fE wE)) h) (gb_fr b 22)) 0 0 (gb_fr b 22) := by
  refine Met.ofW (cc := cX12_does) (maxL := 4) (ret := none) (by decide) rfl ?_
  intro p e s m args below meth c s₁ B hml hv
  obtain ⟨rfl, hSt, hP⟩ := hv
  have hx := B.exec
  have hb := B.bytes
  have hr := B.returns
  have hts := atoms_spec (ws := .code yX12_does cX12_does 4 none :: gb_wA) B.pre
  have hq : ∀ w ∈ gb_wA, w.before _ s = true := fun w h => hts w (List.mem_cons_of_mem _ h)
  have hown : s.vm.findClass RX12 = some m.cls := findClass_of_methodNamed B.named
  have hlocks := B.notSynchronized
  clear B hts
  have hK := hSt.1
  have hS : va_S (gb_fr b 22) s.heap s.heap [] := va_S.rf
  have hl := lv_entry ([.ref (b + 0), .int p1]) (n := 4) (Nat.le_of_ble_eq_true rfl)
  rw [lg_entry_eq]
  generalize (lg_sl ([.ref (b + 0), .int p1]) ++ List.replicate (4 - (lg_sl ([.ref (b + 0), .int p1])).length) Slot.unset).toArray = ls at hl ⊢
  replace hl : lv_has ls 4 [(0, .ref (b + 0)), (1, .int p1)] := hl
  unfold ms_does at h
  refine lv_aload_n hx hb dX12_does_0 rfl (lv_at hl 0 rfl) ?_
  refine lv_iload_n hx hb dX12_does_1 rfl (lv_at hl 1 rfl) ?_
  refine lv_iconst (v := 1) hx hb dX12_does_2 (by decide) ?_
  obtain ⟨f_1, wl_2, r_3, z_4, h⟩ := gb_bd_s h
  refine gb_calli (va_runV (C := RX12) (As := [.int p1, .int 1]) (rest := []) ⟨hx, hb, hml, hown, hq⟩ (mc_deedOf l D cT tt b1 b hb1 n f w p1 1 f_1 wl_2 r_3 z_4) (cwV 2 hq (gb_gV w_1420 w_1422 s_4_11 w_14 w_1423) rfl rfl rfl (by decide +kernel) ⟨Nat.le_of_ble_eq_true rfl, Nat.le_of_ble_eq_true rfl⟩) (gb_preV (r := (RX12, TX12, 44)) (ci := 10) (q0 := 0) hSt hP rfl (gb_at b rfl) hS (fun q h => Nat.le_trans hb1 h.1) hP) rfl rfl hl.1 rfl (lv_room (Nat.le_of_ble_eq_true rfl)) dX12_does_3 ⟨Nat.le_of_ble_eq_true rfl, Nat.le_of_ble_eq_true rfl⟩) hS (fun _ h => h) (fun _ h => h) (fun q_5 H locs hY hk hS => ?_)
  obtain ⟨hq_5, hP⟩ := hY
  replace hq_5 := hq_5.symm
  subst hq_5
  refine lv_istore_n (lv' := [(2, .int r_3), (0, .ref (b + 0)), (1, .int p1)]) hx hb dX12_does_6 rfl hl (by decide) rfl (fun ls hl => ?_)
  refine lv_aload_n hx hb dX12_does_7 rfl (lv_at hl 1 rfl) ?_
  refine lv_iload_n hx hb dX12_does_8 rfl (lv_at hl 2 rfl) ?_
  refine lv_iconst (v := 2) hx hb dX12_does_9 (by decide) ?_
  obtain ⟨f_6, wl_7, r_8, z_9, h⟩ := gb_bd_s h
  refine gb_calli (va_runV (C := RX12) (As := [.int p1, .int 2]) (rest := []) ⟨hx, hb, hml, hown, hq⟩ (mc_deedOf l D cT tt b1 b hb1 n f_1 wl_2 p1 2 f_6 wl_7 r_8 z_9) (cwV 2 hq (gb_gV w_1420 w_1422 s_4_11 w_14 w_1423) rfl rfl rfl (by decide +kernel) ⟨Nat.le_of_ble_eq_true rfl, Nat.le_of_ble_eq_true rfl⟩) (gb_preV (r := (RX12, TX12, 44)) (ci := 10) (q0 := 0) hSt hP rfl (gb_at b rfl) hS (fun q h => Nat.le_trans hb1 h.1) hP) rfl rfl hl.1 rfl (lv_room (Nat.le_of_ble_eq_true rfl)) dX12_does_10 ⟨Nat.le_of_ble_eq_true rfl, Nat.le_of_ble_eq_true rfl⟩) hS (fun _ h => h) (fun _ h => h) (fun q_10 H locs hY hk hS => ?_)
  obtain ⟨hq_10, hP⟩ := hY
  replace hq_10 := hq_10.symm
  subst hq_10
  refine lv_istore_n (lv' := [(3, .int r_8), (2, .int r_3), (0, .ref (b + 0)), (1, .int p1)]) hx hb dX12_does_13 rfl hl (by decide) rfl (fun ls hl => ?_)
  refine lv_aload_n hx hb dX12_does_14 rfl (lv_at hl 2 rfl) ?_
  refine lv_iload_n hx hb dX12_does_15 rfl (lv_at hl 3 rfl) ?_
  refine lv_iconst (v := 0) hx hb dX12_does_16 (by decide) ?_
  obtain ⟨f_11, wl_12, r_13, z_14, h⟩ := gb_bd_s h
  refine gb_calli (va_runV (C := RX12) (As := [.int p1, .int 0]) (rest := []) ⟨hx, hb, hml, hown, hq⟩ (mc_deedOf l D cT tt b1 b hb1 n f_6 wl_7 p1 0 f_11 wl_12 r_13 z_14) (cwV 2 hq (gb_gV w_1420 w_1422 s_4_11 w_14 w_1423) rfl rfl rfl (by decide +kernel) ⟨Nat.le_of_ble_eq_true rfl, Nat.le_of_ble_eq_true rfl⟩) (gb_preV (r := (RX12, TX12, 44)) (ci := 10) (q0 := 0) hSt hP rfl (gb_at b rfl) hS (fun q h => Nat.le_trans hb1 h.1) hP) rfl rfl hl.1 rfl (lv_room (Nat.le_of_ble_eq_true rfl)) dX12_does_17 ⟨Nat.le_of_ble_eq_true rfl, Nat.le_of_ble_eq_true rfl⟩) hS (fun _ h => h) (fun _ h => h) (fun q_15 H locs hY hk hS => ?_)
  obtain ⟨hq_15, hP⟩ := hY
  replace hq_15 := hq_15.symm
  subst hq_15
  by_cases c_16 : r_13 = (0 : Int32)
  · rw [if_pos c_16] at h
    refine lv_tableIn (off := 48) (tgt := 68) hx hb dX12_does_20 (by rw [c_16]; decide) (by rw [c_16]; decide) (by rw [c_16]; decide) (by decide) ?_
    refine lv_aload_n hx hb dX12_does_68 rfl (lv_at hl 2 rfl) ?_
    refine lv_iload_n hx hb dX12_does_69 rfl (lv_at hl 3 rfl) ?_
    refine lv_iload_n hx hb dX12_does_70 rfl (lv_at hl 1 rfl) ?_
    refine lv_iload_n hx hb dX12_does_71 rfl (lv_at hl 0 rfl) ?_
    refine lv_iconst (v := 0) hx hb dX12_does_72 (by decide) ?_
    refine lv_iconst (v := 1) hx hb dX12_does_73 (by decide) ?_
    obtain ⟨f_17, wl_18, r_19, z_20, h⟩ := gb_bd_s h
    refine gb_callv (va_runV (C := RX12) (As := [.int p1, .int r_3, .int r_8, .int 0, .int 1]) (rest := []) ⟨hx, hb, hml, hown, hq⟩ (mc_walks l D cT tt b1 b hb1 n f_11 wl_12 p1 r_3 r_8 0 1 f_17 wl_18 r_19 z_20) (cwV 5 hq (gb_gV w_1456 w_1458 s_5_3 w_14 w_1459) rfl rfl rfl (by decide +kernel) ⟨Nat.le_of_ble_eq_true rfl, Nat.le_of_ble_eq_true rfl⟩) (gb_preV (r := (RX12, TX12, 44)) (ci := 10) (q0 := 0) hSt hP rfl (gb_at b rfl) hS (fun q h => Nat.le_trans hb1 h.1) hP) rfl rfl hl.1 rfl (lv_room (Nat.le_of_ble_eq_true rfl)) dX12_does_74 ⟨Nat.le_of_ble_eq_true rfl, Nat.le_of_ble_eq_true rfl⟩) hS (fun _ h => h) (fun _ h => h) (fun H locs hY hk hS => ?_)
    have hP := hY
    refine lv_goto (tgt := 192) hx hb dX12_does_77 (by decide) ?_
    obtain ⟨e1, e2, -⟩ := gb_eq3 h
    exact W.vret hx hb hr (fun t ht hW => gb_rv ht (by rw [← e1, ← e2]; exact hP) hS) hS.2.2 dX12_does_192
  rw [if_neg c_16] at h
  by_cases c_22 : r_13 = (1 : Int32)
  · rw [if_pos c_22] at h
    refine lv_tableIn (off := 60) (tgt := 80) hx hb dX12_does_20 (by rw [c_22]; decide) (by rw [c_22]; decide) (by rw [c_22]; decide) (by decide) ?_
    refine lv_aload_n hx hb dX12_does_80 rfl (lv_at hl 2 rfl) ?_
    refine lv_iload_n hx hb dX12_does_81 rfl (lv_at hl 3 rfl) ?_
    refine lv_iload_n hx hb dX12_does_82 rfl (lv_at hl 1 rfl) ?_
    refine lv_iload_n hx hb dX12_does_83 rfl (lv_at hl 0 rfl) ?_
    refine lv_iconst (v := 1) hx hb dX12_does_84 (by decide) ?_
    refine lv_iconst (v := 1) hx hb dX12_does_85 (by decide) ?_
    obtain ⟨f_23, wl_24, r_25, z_26, h⟩ := gb_bd_s h
    refine gb_callv (va_runV (C := RX12) (As := [.int p1, .int r_3, .int r_8, .int 1, .int 1]) (rest := []) ⟨hx, hb, hml, hown, hq⟩ (mc_walks l D cT tt b1 b hb1 n f_11 wl_12 p1 r_3 r_8 1 1 f_23 wl_24 r_25 z_26) (cwV 5 hq (gb_gV w_1456 w_1458 s_5_3 w_14 w_1459) rfl rfl rfl (by decide +kernel) ⟨Nat.le_of_ble_eq_true rfl, Nat.le_of_ble_eq_true rfl⟩) (gb_preV (r := (RX12, TX12, 44)) (ci := 10) (q0 := 0) hSt hP rfl (gb_at b rfl) hS (fun q h => Nat.le_trans hb1 h.1) hP) rfl rfl hl.1 rfl (lv_room (Nat.le_of_ble_eq_true rfl)) dX12_does_86 ⟨Nat.le_of_ble_eq_true rfl, Nat.le_of_ble_eq_true rfl⟩) hS (fun _ h => h) (fun _ h => h) (fun H locs hY hk hS => ?_)
    have hP := hY
    refine lv_goto (tgt := 192) hx hb dX12_does_89 (by decide) ?_
    obtain ⟨e1, e2, -⟩ := gb_eq3 h
    exact W.vret hx hb hr (fun t ht hW => gb_rv ht (by rw [← e1, ← e2]; exact hP) hS) hS.2.2 dX12_does_192
  rw [if_neg c_22] at h
  by_cases c_28 : r_13 = (2 : Int32)
  · rw [if_pos c_28] at h
    refine lv_tableIn (off := 72) (tgt := 92) hx hb dX12_does_20 (by rw [c_28]; decide) (by rw [c_28]; decide) (by rw [c_28]; decide) (by decide) ?_
    refine lv_aload_n hx hb dX12_does_92 rfl (lv_at hl 2 rfl) ?_
    refine lv_iload_n hx hb dX12_does_93 rfl (lv_at hl 3 rfl) ?_
    refine lv_iload_n hx hb dX12_does_94 rfl (lv_at hl 1 rfl) ?_
    refine lv_iload_n hx hb dX12_does_95 rfl (lv_at hl 0 rfl) ?_
    refine lv_iconst (v := 1) hx hb dX12_does_96 (by decide) ?_
    refine lv_iconst (v := 0) hx hb dX12_does_97 (by decide) ?_
    obtain ⟨f_29, wl_30, r_31, z_32, h⟩ := gb_bd_s h
    refine gb_callv (va_runV (C := RX12) (As := [.int p1, .int r_3, .int r_8, .int 1, .int 0]) (rest := []) ⟨hx, hb, hml, hown, hq⟩ (mc_walks l D cT tt b1 b hb1 n f_11 wl_12 p1 r_3 r_8 1 0 f_29 wl_30 r_31 z_32) (cwV 5 hq (gb_gV w_1456 w_1458 s_5_3 w_14 w_1459) rfl rfl rfl (by decide +kernel) ⟨Nat.le_of_ble_eq_true rfl, Nat.le_of_ble_eq_true rfl⟩) (gb_preV (r := (RX12, TX12, 44)) (ci := 10) (q0 := 0) hSt hP rfl (gb_at b rfl) hS (fun q h => Nat.le_trans hb1 h.1) hP) rfl rfl hl.1 rfl (lv_room (Nat.le_of_ble_eq_true rfl)) dX12_does_98 ⟨Nat.le_of_ble_eq_true rfl, Nat.le_of_ble_eq_true rfl⟩) hS (fun _ h => h) (fun _ h => h) (fun H locs hY hk hS => ?_)
    have hP := hY
    refine lv_goto (tgt := 192) hx hb dX12_does_101 (by decide) ?_
    obtain ⟨e1, e2, -⟩ := gb_eq3 h
    exact W.vret hx hb hr (fun t ht hW => gb_rv ht (by rw [← e1, ← e2]; exact hP) hS) hS.2.2 dX12_does_192
  rw [if_neg c_28] at h
  by_cases c_34 : r_13 = (3 : Int32)
  · rw [if_pos c_34] at h
    refine lv_tableIn (off := 84) (tgt := 104) hx hb dX12_does_20 (by rw [c_34]; decide) (by rw [c_34]; decide) (by rw [c_34]; decide) (by decide) ?_
    refine lv_aload_n hx hb dX12_does_104 rfl (lv_at hl 2 rfl) ?_
    refine lv_iload_n hx hb dX12_does_105 rfl (lv_at hl 3 rfl) ?_
    refine lv_iload_n hx hb dX12_does_106 rfl (lv_at hl 1 rfl) ?_
    refine lv_aload_n hx hb dX12_does_107 rfl (lv_at hl 2 rfl) ?_
    refine lv_iload_n hx hb dX12_does_108 rfl (lv_at hl 3 rfl) ?_
    refine lv_iconst (v := 3) hx hb dX12_does_109 (by decide) ?_
    obtain ⟨f_35, wl_36, r_37, z_38, h⟩ := gb_bd_s h
    refine gb_calli (va_runV (C := RX12) (As := [.int p1, .int 3]) (rest := [.int r_3, .int p1, .ref (b + 0)]) ⟨hx, hb, hml, hown, hq⟩ (mc_deedOf l D cT tt b1 b hb1 n f_11 wl_12 p1 3 f_35 wl_36 r_37 z_38) (cwV 2 hq (gb_gV w_1420 w_1422 s_4_11 w_14 w_1423) rfl rfl rfl (by decide +kernel) ⟨Nat.le_of_ble_eq_true rfl, Nat.le_of_ble_eq_true rfl⟩) (gb_preV (r := (RX12, TX12, 44)) (ci := 10) (q0 := 0) hSt hP rfl (gb_at b rfl) hS (fun q h => Nat.le_trans hb1 h.1) hP) rfl rfl hl.1 rfl (lv_room (Nat.le_of_ble_eq_true rfl)) dX12_does_110 ⟨Nat.le_of_ble_eq_true rfl, Nat.le_of_ble_eq_true rfl⟩) hS (fun _ h => h) (fun _ h => h) (fun q_39 H locs hY hk hS => ?_)
    obtain ⟨hq_39, hP⟩ := hY
    replace hq_39 := hq_39.symm
    subst hq_39
    refine lv_iconst (v := 0) hx hb dX12_does_113 (by decide) ?_
    refine lv_iconst (v := 1) hx hb dX12_does_114 (by decide) ?_
    obtain ⟨f_40, wl_41, r_42, z_43, h⟩ := gb_bd_s h
    refine gb_callv (va_runV (C := RX12) (As := [.int p1, .int r_3, .int r_37, .int 0, .int 1]) (rest := []) ⟨hx, hb, hml, hown, hq⟩ (mc_walks l D cT tt b1 b hb1 n f_35 wl_36 p1 r_3 r_37 0 1 f_40 wl_41 r_42 z_43) (cwV 5 hq (gb_gV w_1456 w_1458 s_5_3 w_14 w_1459) rfl rfl rfl (by decide +kernel) ⟨Nat.le_of_ble_eq_true rfl, Nat.le_of_ble_eq_true rfl⟩) (gb_preV (r := (RX12, TX12, 44)) (ci := 10) (q0 := 0) hSt hP rfl (gb_at b rfl) hS (fun q h => Nat.le_trans hb1 h.1) hP) rfl rfl hl.1 rfl (lv_room (Nat.le_of_ble_eq_true rfl)) dX12_does_115 ⟨Nat.le_of_ble_eq_true rfl, Nat.le_of_ble_eq_true rfl⟩) hS (fun _ h => h) (fun _ h => h) (fun H locs hY hk hS => ?_)
    have hP := hY
    refine lv_aload_n hx hb dX12_does_118 rfl (lv_at hl 2 rfl) ?_
    refine va_get (ci := 10) (v := (.ref (b + 4))) (C := RX12) (T := TX12) (N := 44) hx hb hq i_X12 hown hK hP 0 (gb_at b rfl) rfl 13 (by decide) (hq _ w_1137) (fun _ h9 => h9) rfl dX12_does_119 ?_
    refine lv_iload_n hx hb dX12_does_122 rfl (lv_at hl 0 rfl) ?_
    refine lv_iconst (v := 1) hx hb dX12_does_123 (by decide) ?_
    obtain ⟨z_45, h⟩ := gb_ck_s h
    refine gb_iast (x := 1) hx hb hK hP (fun k h => ⟨Nat.le_add_right b k, Nat.add_lt_add_left h b⟩) hS rfl 4 0 rfl rfl z_45 dX12_does_124 (fun H locs hP hz_ hS => ?_)
    obtain ⟨f_46, ef_46⟩ : ∃ q, q = (gb_u f_40 4 (upd (f_40 4) (Int32.toNatClampNeg r_8) 1)) := ⟨_, rfl⟩
    replace hP : va_P D vwCl (gb_wl b (gb_MW cT b f_46 wl_41)) H := by rw [ef_46]; exact hP
    replace h := gb_lt_s ef_46 h
    refine lv_aload_n hx hb dX12_does_125 rfl (lv_at hl 2 rfl) ?_
    refine va_get (ci := 10) (v := (.ref (b + 7))) (C := RX12) (T := TX12) (N := 44) hx hb hq i_X12 hown hK hP 0 (gb_at b rfl) rfl 16 (by decide) (hq _ w_1140) (fun _ h9 => h9) rfl dX12_does_126 ?_
    refine lv_iload_n hx hb dX12_does_129 rfl (lv_at hl 0 rfl) ?_
    refine lv_aload_n hx hb dX12_does_130 rfl (lv_at hl 2 rfl) ?_
    refine lv_iload_n hx hb dX12_does_131 rfl (lv_at hl 3 rfl) ?_
    refine lv_iconst (v := 3) hx hb dX12_does_132 (by decide) ?_
    obtain ⟨f_47, wl_48, r_49, z_50, h⟩ := gb_bd_s h
    refine gb_calli (va_runV (C := RX12) (As := [.int p1, .int 3]) (rest := [.int r_8, .ref (b + 7)]) ⟨hx, hb, hml, hown, hq⟩ (mc_deedOf l D cT tt b1 b hb1 n f_46 wl_41 p1 3 f_47 wl_48 r_49 z_50) (cwV 2 hq (gb_gV w_1420 w_1422 s_4_11 w_14 w_1423) rfl rfl rfl (by decide +kernel) ⟨Nat.le_of_ble_eq_true rfl, Nat.le_of_ble_eq_true rfl⟩) (gb_preV (r := (RX12, TX12, 44)) (ci := 10) (q0 := 0) hSt hP rfl (gb_at b rfl) hS (fun q h => Nat.le_trans hb1 h.1) hP) rfl rfl hl.1 rfl (lv_room (Nat.le_of_ble_eq_true rfl)) dX12_does_133 ⟨Nat.le_of_ble_eq_true rfl, Nat.le_of_ble_eq_true rfl⟩) hS (fun _ h => h) (fun _ h => h) (fun q_51 H locs hY hk hS => ?_)
    obtain ⟨hq_51, hP⟩ := hY
    replace hq_51 := hq_51.symm
    subst hq_51
    obtain ⟨z_52, h⟩ := gb_ck_s h
    refine gb_iast (x := r_49) hx hb hK hP (fun k h => ⟨Nat.le_add_right b k, Nat.add_lt_add_left h b⟩) hS rfl 7 0 rfl rfl z_52 dX12_does_136 (fun H locs hP hz_ hS => ?_)
    obtain ⟨f_53, ef_53⟩ : ∃ q, q = (gb_u f_47 7 (upd (f_47 7) (Int32.toNatClampNeg r_8) r_49)) := ⟨_, rfl⟩
    replace hP : va_P D vwCl (gb_wl b (gb_MW cT b f_53 wl_48)) H := by rw [ef_53]; exact hP
    replace h := gb_lt_s ef_53 h
    refine lv_goto (tgt := 192) hx hb dX12_does_137 (by decide) ?_
    obtain ⟨e1, e2, -⟩ := gb_eq3 h
    exact W.vret hx hb hr (fun t ht hW => gb_rv ht (by rw [← e1, ← e2]; exact hP) hS) hS.2.2 dX12_does_192
  rw [if_neg c_34] at h
  by_cases c_54 : r_13 = (4 : Int32)
  · rw [if_pos c_54] at h
    refine lv_tableIn (off := 120) (tgt := 140) hx hb dX12_does_20 (by rw [c_54]; decide) (by rw [c_54]; decide) (by rw [c_54]; decide) (by decide) ?_
    refine lv_aload_n hx hb dX12_does_140 rfl (lv_at hl 2 rfl) ?_
    refine va_get (ci := 10) (v := (.ref (b + 5))) (C := RX12) (T := TX12) (N := 44) hx hb hq i_X12 hown hK hP 0 (gb_at b rfl) rfl 14 (by decide) (hq _ w_1138) (fun _ h9 => h9) rfl dX12_does_141 ?_
    refine lv_iload_n hx hb dX12_does_144 rfl (lv_at hl 1 rfl) ?_
    refine lv_iload_n hx hb dX12_does_145 rfl (lv_at hl 0 rfl) ?_
    obtain ⟨z_55, h⟩ := gb_ck_s h
    refine gb_iast (x := r_8) hx hb hK hP (fun k h => ⟨Nat.le_add_right b k, Nat.add_lt_add_left h b⟩) hS rfl 5 0 rfl rfl z_55 dX12_does_146 (fun H locs hP hz_ hS => ?_)
    obtain ⟨f_56, ef_56⟩ : ∃ q, q = (gb_u f_11 5 (upd (f_11 5) (Int32.toNatClampNeg r_3) r_8)) := ⟨_, rfl⟩
    replace hP : va_P D vwCl (gb_wl b (gb_MW cT b f_56 wl_12)) H := by rw [ef_56]; exact hP
    replace h := gb_lt_s ef_56 h
    refine lv_aload_n hx hb dX12_does_147 rfl (lv_at hl 2 rfl) ?_
    refine va_get (ci := 10) (v := (.ref (b + 8))) (C := RX12) (T := TX12) (N := 44) hx hb hq i_X12 hown hK hP 0 (gb_at b rfl) rfl 17 (by decide) (hq _ w_1141) (fun _ h9 => h9) rfl dX12_does_148 ?_
    refine lv_iload_n hx hb dX12_does_151 rfl (lv_at hl 1 rfl) ?_
    refine lv_iconst (v := 1) hx hb dX12_does_152 (by decide) ?_
    obtain ⟨z_57, h⟩ := gb_ck_s h
    refine va_zast (x := 1) hx hb hK hP (gb_D (fun k h => ⟨Nat.le_add_right b k, Nat.add_lt_add_left h b⟩)) hS 8 2 (gb_at b rfl) rfl z_57 dX12_does_153 (fun H locs hP hD hS => ?_)
    rw [gb_set] at hP
    obtain ⟨f_58, ef_58⟩ : ∃ q, q = (gb_u f_56 8 (upd (f_56 8) (Int32.toNatClampNeg r_3) (vp_nar .boolean 1))) := ⟨_, rfl⟩
    replace hP : va_P D vwCl (gb_wl b (gb_MW cT b f_58 wl_12)) H := by rw [ef_58]; exact hP
    replace h := gb_lt_s ef_58 h
    refine lv_goto (tgt := 192) hx hb dX12_does_154 (by decide) ?_
    obtain ⟨e1, e2, -⟩ := gb_eq3 h
    exact W.vret hx hb hr (fun t ht hW => gb_rv ht (by rw [← e1, ← e2]; exact hP) hS) hS.2.2 dX12_does_192
  rw [if_neg c_54] at h
  by_cases c_59 : r_13 = (5 : Int32)
  · rw [if_pos c_59] at h
    refine lv_tableIn (off := 137) (tgt := 157) hx hb dX12_does_20 (by rw [c_59]; decide) (by rw [c_59]; decide) (by rw [c_59]; decide) (by decide) ?_
    refine lv_aload_n hx hb dX12_does_157 rfl (lv_at hl 2 rfl) ?_
    refine lv_iload_n hx hb dX12_does_158 rfl (lv_at hl 1 rfl) ?_
    obtain ⟨f_60, wl_61, r_62, z_63, h⟩ := gb_bd_s h
    refine gb_callv (va_runV (C := RX12) (As := [.int r_3]) (rest := []) ⟨hx, hb, hml, hown, hq⟩ (mc_rains l D cT tt b1 b hb1 n f_11 wl_12 r_3 f_60 wl_61 r_62 z_63) (cwV 1 hq (gb_gV w_1460 w_1462 s_5_4 w_14 w_1463) rfl rfl rfl (by decide +kernel) ⟨Nat.le_of_ble_eq_true rfl, Nat.le_of_ble_eq_true rfl⟩) (gb_preV (r := (RX12, TX12, 44)) (ci := 10) (q0 := 0) hSt hP rfl (gb_at b rfl) hS (fun q h => Nat.le_trans hb1 h.1) hP) rfl rfl hl.1 rfl (lv_room (Nat.le_of_ble_eq_true rfl)) dX12_does_159 ⟨Nat.le_of_ble_eq_true rfl, Nat.le_of_ble_eq_true rfl⟩) hS (fun _ h => h) (fun _ h => h) (fun H locs hY hk hS => ?_)
    have hP := hY
    refine lv_goto (tgt := 192) hx hb dX12_does_162 (by decide) ?_
    obtain ⟨e1, e2, -⟩ := gb_eq3 h
    exact W.vret hx hb hr (fun t ht hW => gb_rv ht (by rw [← e1, ← e2]; exact hP) hS) hS.2.2 dX12_does_192
  rw [if_neg c_59] at h
  by_cases c_65 : r_13 = (6 : Int32)
  · rw [if_pos c_65] at h
    refine lv_tableIn (off := 145) (tgt := 165) hx hb dX12_does_20 (by rw [c_65]; decide) (by rw [c_65]; decide) (by rw [c_65]; decide) (by decide) ?_
    refine lv_aload_n hx hb dX12_does_165 rfl (lv_at hl 2 rfl) ?_
    refine lv_iconst (v := 1) hx hb dX12_does_166 (by decide) ?_
    refine gb_put (ci := 10) (v := (.int 1)) (ty := .boolean) (C := RX12) (T := TX12) (N := 44) hx hb hq i_X12 tyX12 tyX12_ok nmX12 hown hK hP (fun k h => ⟨Nat.le_add_right b k, Nat.add_lt_add_left h b⟩) hS rfl 0 rfl rfl 22 (by decide) (hq _ w_1146) (fun _ h9 => h9) rfl (by decide +kernel) (by decide) (by decide) (Nat.le_of_ble_eq_true rfl) dX12_does_167 (fun H locs hP hz_ hS => ?_)
    obtain ⟨f_66, ef_66⟩ : ∃ q, q = (gb_u f_11 0 (upd (f_11 0) 22 1)) := ⟨_, rfl⟩
    replace hP : va_P D vwCl (gb_wl b (gb_MW cT b f_66 wl_12)) H := by rw [ef_66]; exact hP
    replace h := gb_lt_s ef_66 h
    refine lv_goto (tgt := 192) hx hb dX12_does_170 (by decide) ?_
    obtain ⟨e1, e2, -⟩ := gb_eq3 h
    exact W.vret hx hb hr (fun t ht hW => gb_rv ht (by rw [← e1, ← e2]; exact hP) hS) hS.2.2 dX12_does_192
  rw [if_neg c_65] at h
  by_cases c_67 : r_13 = (7 : Int32)
  · rw [if_pos c_67] at h
    refine lv_tableIn (off := 153) (tgt := 173) hx hb dX12_does_20 (by rw [c_67]; decide) (by rw [c_67]; decide) (by rw [c_67]; decide) (by decide) ?_
    refine lv_aload_n hx hb dX12_does_173 rfl (lv_at hl 2 rfl) ?_
    refine lv_iconst (v := 0) hx hb dX12_does_174 (by decide) ?_
    refine gb_put (ci := 10) (v := (.int 0)) (ty := .boolean) (C := RX12) (T := TX12) (N := 44) hx hb hq i_X12 tyX12 tyX12_ok nmX12 hown hK hP (fun k h => ⟨Nat.le_add_right b k, Nat.add_lt_add_left h b⟩) hS rfl 0 rfl rfl 22 (by decide) (hq _ w_1146) (fun _ h9 => h9) rfl (by decide +kernel) (by decide) (by decide) (Nat.le_of_ble_eq_true rfl) dX12_does_175 (fun H locs hP hz_ hS => ?_)
    obtain ⟨f_68, ef_68⟩ : ∃ q, q = (gb_u f_11 0 (upd (f_11 0) 22 0)) := ⟨_, rfl⟩
    replace hP : va_P D vwCl (gb_wl b (gb_MW cT b f_68 wl_12)) H := by rw [ef_68]; exact hP
    replace h := gb_lt_s ef_68 h
    refine lv_goto (tgt := 192) hx hb dX12_does_178 (by decide) ?_
    obtain ⟨e1, e2, -⟩ := gb_eq3 h
    exact W.vret hx hb hr (fun t ht hW => gb_rv ht (by rw [← e1, ← e2]; exact hP) hS) hS.2.2 dX12_does_192
  rw [if_neg c_67] at h
  refine lv_tableOut (tgt := 181) hx hb dX12_does_20 (by have := lv_neT c_16 (a := 0) rfl; have := lv_neT c_22 (a := 1) rfl; have := lv_neT c_28 (a := 2) rfl; have := lv_neT c_34 (a := 3) rfl; have := lv_neT c_54 (a := 4) rfl; have := lv_neT c_59 (a := 5) rfl; have := lv_neT c_65 (a := 6) rfl; have := lv_neT c_67 (a := 7) rfl; omega) (by decide) ?_
  refine lv_aload_n hx hb dX12_does_181 rfl (lv_at hl 2 rfl) ?_
  refine va_get (ci := 10) (v := (.ref (b + 4))) (C := RX12) (T := TX12) (N := 44) hx hb hq i_X12 hown hK hP 0 (gb_at b rfl) rfl 13 (by decide) (hq _ w_1137) (fun _ h9 => h9) rfl dX12_does_182 ?_
  refine lv_aload_n hx hb dX12_does_185 rfl (lv_at hl 2 rfl) ?_
  refine lv_iload_n hx hb dX12_does_186 rfl (lv_at hl 1 rfl) ?_
  obtain ⟨f_69, wl_70, r_71, z_72, h⟩ := gb_bd_s h
  refine gb_calli (va_runV (C := RX12) (As := [.int r_3]) (rest := [.ref (b + 4)]) ⟨hx, hb, hml, hown, hq⟩ (mc_foxed l D cT tt b1 b hb1 n f_11 wl_12 r_3 f_69 wl_70 r_71 z_72) (cwV 1 hq (gb_gV w_1448 w_1450 s_5_1 w_14 w_1451) rfl rfl rfl (by decide +kernel) ⟨Nat.le_of_ble_eq_true rfl, Nat.le_of_ble_eq_true rfl⟩) (gb_preV (r := (RX12, TX12, 44)) (ci := 10) (q0 := 0) hSt hP rfl (gb_at b rfl) hS (fun q h => Nat.le_trans hb1 h.1) hP) rfl rfl hl.1 rfl (lv_room (Nat.le_of_ble_eq_true rfl)) dX12_does_187 ⟨Nat.le_of_ble_eq_true rfl, Nat.le_of_ble_eq_true rfl⟩) hS (fun _ h => h) (fun _ h => h) (fun q_73 H locs hY hk hS => ?_)
  obtain ⟨hq_73, hP⟩ := hY
  replace hq_73 := hq_73.symm
  subst hq_73
  refine lv_iconst (v := 2) hx hb dX12_does_190 (by decide) ?_
  obtain ⟨z_74, h⟩ := gb_ck_s h
  refine gb_iast (x := 2) hx hb hK hP (fun k h => ⟨Nat.le_add_right b k, Nat.add_lt_add_left h b⟩) hS rfl 4 0 rfl rfl z_74 dX12_does_191 (fun H locs hP hz_ hS => ?_)
  obtain ⟨f_75, ef_75⟩ : ∃ q, q = (gb_u f_69 4 (upd (f_69 4) (Int32.toNatClampNeg r_71) 2)) := ⟨_, rfl⟩
  replace hP : va_P D vwCl (gb_wl b (gb_MW cT b f_75 wl_70)) H := by rw [ef_75]; exact hP
  replace h := gb_lt_s ef_75 h
  obtain ⟨e1, e2, -⟩ := gb_eq3 h
  exact W.vret hx hb hr (fun t ht hW => gb_rv ht (by rw [← e1, ← e2]; exact hP) hS) hS.2.2 dX12_does_192
