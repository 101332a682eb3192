theorem dX12_alike_0 : decode cX12_alike 0 = .ok (.aload_n 0, 1) := dc_42 (show ((cX12_alike.data.toList.drop 0).take 1).map UInt8.toNat = [42] by decide +kernel)
theorem dX12_alike_1 : decode cX12_alike 1 = .ok (.iload_n 1, 1) := dc_27 (show ((cX12_alike.data.toList.drop 1).take 1).map UInt8.toNat = [27] by decide +kernel)
theorem dX12_alike_2 : decode cX12_alike 2 = .ok (.invokevirtual 205, 3) := dc_182 (show ((cX12_alike.data.toList.drop 2).take 3).map UInt8.toNat = [182, 0, 205] by decide +kernel) rfl
theorem dX12_alike_5 : decode cX12_alike 5 = .ok (.ifCond .eq 24, 3) := dc_153 (show ((cX12_alike.data.toList.drop 5).take 3).map UInt8.toNat = [153, 0, 24] by decide +kernel) rfl
theorem dX12_alike_29 : decode cX12_alike 29 = .ok (.iconst (-1), 1) := dc_2 (show ((cX12_alike.data.toList.drop 29).take 1).map UInt8.toNat = [2] by decide +kernel)
theorem dX12_alike_30 : decode cX12_alike 30 = .ok (.ireturn, 1) := dc_172 (show ((cX12_alike.data.toList.drop 30).take 1).map UInt8.toNat = [172] by decide +kernel)
theorem dX12_alike_8 : decode cX12_alike 8 = .ok (.aload_n 0, 1) := dc_42 (show ((cX12_alike.data.toList.drop 8).take 1).map UInt8.toNat = [42] by decide +kernel)
theorem dX12_alike_9 : decode cX12_alike 9 = .ok (.iload_n 2, 1) := dc_28 (show ((cX12_alike.data.toList.drop 9).take 1).map UInt8.toNat = [28] by decide +kernel)
theorem dX12_alike_10 : decode cX12_alike 10 = .ok (.invokevirtual 214, 3) := dc_182 (show ((cX12_alike.data.toList.drop 10).take 3).map UInt8.toNat = [182, 0, 214] by decide +kernel) rfl
theorem dX12_alike_13 : decode cX12_alike 13 = .ok (.ifCond .eq 16, 3) := dc_153 (show ((cX12_alike.data.toList.drop 13).take 3).map UInt8.toNat = [153, 0, 16] by decide +kernel) rfl
theorem dX12_alike_16 : decode cX12_alike 16 = .ok (.aload_n 0, 1) := dc_42 (show ((cX12_alike.data.toList.drop 16).take 1).map UInt8.toNat = [42] by decide +kernel)
theorem dX12_alike_17 : decode cX12_alike 17 = .ok (.iload_n 3, 1) := dc_29 (show ((cX12_alike.data.toList.drop 17).take 1).map UInt8.toNat = [29] by decide +kernel)
theorem dX12_alike_18 : decode cX12_alike 18 = .ok (.invokevirtual 214, 3) := dc_182 (show ((cX12_alike.data.toList.drop 18).take 3).map UInt8.toNat = [182, 0, 214] by decide +kernel) rfl
theorem dX12_alike_21 : decode cX12_alike 21 = .ok (.ifCond .eq 8, 3) := dc_153 (show ((cX12_alike.data.toList.drop 21).take 3).map UInt8.toNat = [153, 0, 8] by decide +kernel) rfl
theorem dX12_alike_24 : decode cX12_alike 24 = .ok (.iload_n 2, 1) := dc_28 (show ((cX12_alike.data.toList.drop 24).take 1).map UInt8.toNat = [28] by decide +kernel)
theorem dX12_alike_25 : decode cX12_alike 25 = .ok (.iload_n 3, 1) := dc_29 (show ((cX12_alike.data.toList.drop 25).take 1).map UInt8.toNat = [29] by decide +kernel)
theorem dX12_alike_26 : decode cX12_alike 26 = .ok (.if_icmp .ne 5, 3) := dc_160 (show ((cX12_alike.data.toList.drop 26).take 3).map UInt8.toNat = [160, 0, 5] by decide +kernel) rfl
theorem dX12_alike_31 : decode cX12_alike 31 = .ok (.iconst 0, 1) := dc_3 (show ((cX12_alike.data.toList.drop 31).take 1).map UInt8.toNat = [3] by decide +kernel)
theorem dX12_alike_32 : decode cX12_alike 32 = .ok (.istore 4, 2) := dc_54 (show ((cX12_alike.data.toList.drop 32).take 2).map UInt8.toNat = [54, 4] by decide +kernel) rfl
theorem dX12_alike_34 : decode cX12_alike 34 = .ok (.iconst 0, 1) := dc_3 (show ((cX12_alike.data.toList.drop 34).take 1).map UInt8.toNat = [3] by decide +kernel)
theorem dX12_alike_35 : decode cX12_alike 35 = .ok (.istore 5, 2) := dc_54 (show ((cX12_alike.data.toList.drop 35).take 2).map UInt8.toNat = [54, 5] by decide +kernel) rfl
theorem dX12_alike_37 : decode cX12_alike 37 = .ok (.iload 5, 2) := dc_21 (show ((cX12_alike.data.toList.drop 37).take 2).map UInt8.toNat = [21, 5] by decide +kernel) rfl
theorem dX12_alike_39 : decode cX12_alike 39 = .ok (.aload_n 0, 1) := dc_42 (show ((cX12_alike.data.toList.drop 39).take 1).map UInt8.toNat = [42] by decide +kernel)
theorem dX12_alike_40 : decode cX12_alike 40 = .ok (.invokevirtual 199, 3) := dc_182 (show ((cX12_alike.data.toList.drop 40).take 3).map UInt8.toNat = [182, 0, 199] by decide +kernel) rfl
theorem dX12_alike_43 : decode cX12_alike 43 = .ok (.if_icmp .ge 39, 3) := dc_162 (show ((cX12_alike.data.toList.drop 43).take 3).map UInt8.toNat = [162, 0, 39] by decide +kernel) rfl
theorem dX12_alike_82 : decode cX12_alike 82 = .ok (.iload 4, 2) := dc_21 (show ((cX12_alike.data.toList.drop 82).take 2).map UInt8.toNat = [21, 4] by decide +kernel) rfl
theorem dX12_alike_84 : decode cX12_alike 84 = .ok (.ireturn, 1) := dc_172 (show ((cX12_alike.data.toList.drop 84).take 1).map UInt8.toNat = [172] by decide +kernel)
theorem dX12_alike_46 : decode cX12_alike 46 = .ok (.iload 4, 2) := dc_21 (show ((cX12_alike.data.toList.drop 46).take 2).map UInt8.toNat = [21, 4] by decide +kernel) rfl
theorem dX12_alike_48 : decode cX12_alike 48 = .ok (.aload_n 0, 1) := dc_42 (show ((cX12_alike.data.toList.drop 48).take 1).map UInt8.toNat = [42] by decide +kernel)
theorem dX12_alike_49 : decode cX12_alike 49 = .ok (.iload_n 2, 1) := dc_28 (show ((cX12_alike.data.toList.drop 49).take 1).map UInt8.toNat = [28] by decide +kernel)
theorem dX12_alike_50 : decode cX12_alike 50 = .ok (.iload 5, 2) := dc_21 (show ((cX12_alike.data.toList.drop 50).take 2).map UInt8.toNat = [21, 5] by decide +kernel) rfl
theorem dX12_alike_52 : decode cX12_alike 52 = .ok (.invokevirtual 297, 3) := dc_182 (show ((cX12_alike.data.toList.drop 52).take 3).map UInt8.toNat = [182, 1, 41] by decide +kernel) rfl
theorem dX12_alike_55 : decode cX12_alike 55 = .ok (.aload_n 0, 1) := dc_42 (show ((cX12_alike.data.toList.drop 55).take 1).map UInt8.toNat = [42] by decide +kernel)
theorem dX12_alike_56 : decode cX12_alike 56 = .ok (.iload_n 3, 1) := dc_29 (show ((cX12_alike.data.toList.drop 56).take 1).map UInt8.toNat = [29] by decide +kernel)
theorem dX12_alike_57 : decode cX12_alike 57 = .ok (.iload 5, 2) := dc_21 (show ((cX12_alike.data.toList.drop 57).take 2).map UInt8.toNat = [21, 5] by decide +kernel) rfl
theorem dX12_alike_59 : decode cX12_alike 59 = .ok (.invokevirtual 297, 3) := dc_182 (show ((cX12_alike.data.toList.drop 59).take 3).map UInt8.toNat = [182, 1, 41] by decide +kernel) rfl
theorem dX12_alike_62 : decode cX12_alike 62 = .ok (.if_icmp .ne 10, 3) := dc_160 (show ((cX12_alike.data.toList.drop 62).take 3).map UInt8.toNat = [160, 0, 10] by decide +kernel) rfl
theorem dX12_alike_72 : decode cX12_alike 72 = .ok (.iconst 0, 1) := dc_3 (show ((cX12_alike.data.toList.drop 72).take 1).map UInt8.toNat = [3] by decide +kernel)
theorem dX12_alike_73 : decode cX12_alike 73 = .ok (.ior, 1) := dc_128 (show ((cX12_alike.data.toList.drop 73).take 1).map UInt8.toNat = [128] by decide +kernel)
theorem dX12_alike_74 : decode cX12_alike 74 = .ok (.istore 4, 2) := dc_54 (show ((cX12_alike.data.toList.drop 74).take 2).map UInt8.toNat = [54, 4] by decide +kernel) rfl
theorem dX12_alike_76 : decode cX12_alike 76 = .ok (.iinc 5 1, 3) := dc_132 (show ((cX12_alike.data.toList.drop 76).take 3).map UInt8.toNat = [132, 5, 1] by decide +kernel) rfl
theorem dX12_alike_79 : decode cX12_alike 79 = .ok (.goto (-42), 3) := dc_167 (show ((cX12_alike.data.toList.drop 79).take 3).map UInt8.toNat = [167, 255, 214] by decide +kernel) rfl
theorem dX12_alike_65 : decode cX12_alike 65 = .ok (.iconst 1, 1) := dc_4 (show ((cX12_alike.data.toList.drop 65).take 1).map UInt8.toNat = [4] by decide +kernel)
theorem dX12_alike_66 : decode cX12_alike 66 = .ok (.iload 5, 2) := dc_21 (show ((cX12_alike.data.toList.drop 66).take 2).map UInt8.toNat = [21, 5] by decide +kernel) rfl
theorem dX12_alike_68 : decode cX12_alike 68 = .ok (.ishl, 1) := dc_120 (show ((cX12_alike.data.toList.drop 68).take 1).map UInt8.toNat = [120] by decide +kernel)
theorem dX12_alike_69 : decode cX12_alike 69 = .ok (.goto 4, 3) := dc_167 (show ((cX12_alike.data.toList.drop 69).take 3).map UInt8.toNat = [167, 0, 4] by decide +kernel) rfl
def ms_alike_37 (n : Nat) : Nat → gb_F → Int64 → Int32 → Int32 → Int32 → Int32 → gb_MR Int32
  | 0, _, _, _, _, _, _ => none
  | mm + 1, f, w, v2, v3, v4, v5 => gb_bd (ms_paths n f w) (fun f_20 wl_21 r_22 => (if r_22 ≤ v5 then some (f_20, wl_21, v4) else gb_bd (ms_firstMarks n f_20 wl_21 v2 v5) (fun f_26 wl_27 r_28 => gb_bd (ms_firstMarks n f_26 wl_27 v3 v5) (fun f_31 wl_32 r_33 => (if r_28 = r_33 then gb_lt (v4 ||| (1 <<< (v5 &&& 31))) (fun x_39 => gb_lt (v5 + 1) (fun x_40 => ms_alike_37 n mm f_31 wl_32 v2 v3 x_39 x_40)) else gb_lt (v4 ||| 0) (fun x_37 => gb_lt (v5 + 1) (fun x_38 => ms_alike_37 n mm f_31 wl_32 v2 v3 x_37 x_38)))))))
def ms_alike (n : Nat) (f : gb_F) (w : Int64) (p1 : Int32) (p2 : Int32) (p3 : Int32) : gb_MR Int32 := gb_bd (ms_isBorder n f w p1) (fun f_1 wl_2 r_3 => (if r_3 = 0 then some (f_1, wl_2, (-1)) else gb_bd (ms_isGoose n f_1 wl_2 p2) (fun f_7 wl_8 r_9 => (if r_9 = 0 then some (f_7, wl_8, (-1)) else gb_bd (ms_isGoose n f_7 wl_8 p3) (fun f_13 wl_14 r_15 => (if r_15 = 0 then some (f_13, wl_14, (-1)) else (if p2 = p3 then some (f_13, wl_14, (-1)) else ms_alike_37 n n f_13 wl_14 p2 p3 0 0)))))))
set_option maxHeartbeats 8000000 in
set_option maxRecDepth 100000 in
theorem mc_alike (l : Launch) (D : va_G) (cT : Nat → ClassId) (tt : Nat → Nat) (b1 b : Nat) (hb1 : b1 ≤ b) (n : Nat) (f : gb_F) (w : Int64) (p1 : Int32) (p2 : Int32) (p3 : Int32) (fE : gb_F) (wE : Int64) (rE : Int32) (h : ms_alike n f w p1 p2 p3 = some (fE, wE, rE)) : Met l yX12_alike (.code yX12_alike cX12_alike 6 (some FieldType.int) :: gb_wA) ({ frames := 4, cells := 0, slots := 0, locals := 92 }) (gb_Pc D cT tt b1 [.ref (b + 0), .int p1, .int p2, .int p3] (fun h => va_P D vwCl (gb_wl b (gb_MW cT b f w)) h)) (gb_Qi (fun r h => r = rE ∧ va_P D vwCl (gb_wl b (gb_MW cT b fE wE)) h) (gb_fr b 22)) 0 0 (gb_fr b 22) := by
  refine Met.ofW (cc := cX12_alike) (maxL := 6) (ret := (some FieldType.int)) (by decide) rfl ?_
  intro p e s m args below meth c s₁ B hml hv
  obtain ⟨rfl, hSt, hP⟩ := hv
  have hx := B.exec
  have hb := B.bytes
  have hr := B.returns
  have hts := atoms_spec (ws := .code yX12_alike cX12_alike 6 (some FieldType.int) :: gb_wA) B.pre
  have hq : ∀ w ∈ gb_wA, w.before _ s = true := fun w h => hts w (List.mem_cons_of_mem _ h)
  have hown : s.vm.findClass RX12 = some m.cls := findClass_of_methodNamed B.named
  have hlocks := B.notSynchronized
  clear B hts
  have hK := hSt.1
  have hS : va_S (gb_fr b 22) s.heap s.heap [] := va_S.rf
  have hl := lv_entry ([.ref (b + 0), .int p1, .int p2, .int p3]) (n := 6) (Nat.le_of_ble_eq_true rfl)
  rw [lg_entry_eq]
  generalize (lg_sl ([.ref (b + 0), .int p1, .int p2, .int p3]) ++ List.replicate (6 - (lg_sl ([.ref (b + 0), .int p1, .int p2, .int p3])).length) Slot.unset).toArray = ls at hl ⊢
  replace hl : lv_has ls 6 [(0, .ref (b + 0)), (1, .int p1), (2, .int p2), (3, .int p3)] := hl
  have L37 : ∀ (mm : Nat) (f : gb_F) (w : Int64) (v2 : Int32) (v3 : Int32) (v4 : Int32) (v5 : Int32) (H : Heap) (locs : List Loc) (ls : Array Slot), ms_alike_37 n mm f w v2 v3 v4 v5 = some (fE, wE, rE) → va_P D vwCl (gb_wl b (gb_MW cT b f w)) H → va_S (gb_fr b 22) s.heap H locs → lv_has ls 6 [(0, .ref (b + 0)), (2, .int v2), (3, .int v3), (4, .int v4), (5, .int v5)] → W p l e (headSpec (.code yX12_alike cX12_alike 6 (some FieldType.int) :: gb_wA) ({ frames := 4, cells := 0, slots := 0, locals := 92 })).room s m ([.ref (b + 0), .int p1, .int p2, .int p3]).toArray below meth c H locs 0 0 (MQ below (gb_Qi (fun r h => r = rE ∧ va_P D vwCl (gb_wl b (gb_MW cT b fE wE)) h) (gb_fr b 22)) ([.ref (b + 0), .int p1, .int p2, .int p3]).toArray s 0 0 (gb_fr b 22)) (F0 m 37 ls []) := by
    clear h hP hS hl ls f w
    intro mm
    induction mm with
    | zero =>
      intro f w v2 v3 v4 v5 H locs ls h
      cases h
    | succ mm ih =>
      intro f w v2 v3 v4 v5 H locs ls h hP hS hl
      rw [ms_alike_37] at h
      refine lv_iload hx hb dX12_alike_37 (lv_at hl 4 rfl) ?_
      refine lv_aload_n hx hb dX12_alike_39 rfl (lv_at hl 0 rfl) ?_
      obtain ⟨f_20, wl_21, r_22, z_23, h⟩ := gb_bd_s h
      refine gb_calli (va_runV (C := RX12) (As := []) (rest := [.int v5]) ⟨hx, hb, hml, hown, hq⟩ (mc_paths l D cT tt b1 b hb1 n f w f_20 wl_21 r_22 z_23) (cwV 0 hq (gb_gV w_1384 w_1386 s_4_4 w_14 w_1387) rfl rfl rfl (by decide +kernel) ⟨Nat.le_of_ble_eq_true rfl, Nat.le_of_ble_eq_true rfl⟩) (gb_preV (r := (RX12, TX12, 44)) (ci := 10) (q0 := 0) hSt hP rfl (gb_at b rfl) hS (fun q h => Nat.le_trans hb1 h.1) hP) rfl rfl hl.1 rfl (lv_room (Nat.le_of_ble_eq_true rfl)) dX12_alike_40 ⟨Nat.le_of_ble_eq_true rfl, Nat.le_of_ble_eq_true rfl⟩) hS (fun _ h => h) (fun _ h => h) (fun q_24 H locs hY hk hS => ?_)
      obtain ⟨hq_24, hP⟩ := hY
      replace hq_24 := hq_24.symm
      subst hq_24
      refine lv_icmp_ge (tgt := 82) hx hb dX12_alike_43 (by decide) (fun c_25 => ?_) (fun c_25 => ?_)
      · rw [if_pos c_25] at h
        refine lv_iload hx hb dX12_alike_82 (lv_at hl 3 rfl) ?_
        obtain ⟨e1, e2, e3⟩ := gb_eq3 h
        exact W.iret (v := v4) hx hb hr (fun t ht hW => gb_ri ht ⟨e3, by rw [← e1, ← e2]; exact hP⟩ hS) hS.2.2 dX12_alike_84
      · rw [if_neg c_25] at h
        refine lv_iload hx hb dX12_alike_46 (lv_at hl 3 rfl) ?_
        refine lv_aload_n hx hb dX12_alike_48 rfl (lv_at hl 0 rfl) ?_
        refine lv_iload_n hx hb dX12_alike_49 rfl (lv_at hl 1 rfl) ?_
        refine lv_iload hx hb dX12_alike_50 (lv_at hl 4 rfl) ?_
        obtain ⟨f_26, wl_27, r_28, z_29, h⟩ := gb_bd_s h
        refine gb_calli (va_runV (C := RX12) (As := [.int v2, .int v5]) (rest := [.int v4]) ⟨hx, hb, hml, hown, hq⟩ (mc_firstMarks l D cT tt b1 b hb1 n f_20 wl_21 v2 v5 f_26 wl_27 r_28 z_29) (cwV 2 hq (gb_gV w_1532 w_1534 s_6_0 w_14 w_1535) rfl rfl rfl (by decide +kernel) ⟨Nat.le_of_ble_eq_true rfl, Nat.le_of_ble_eq_true rfl⟩) (gb_preV (r := (RX12, TX12, 44)) (ci := 10) (q0 := 0) hSt hP rfl (gb_at b rfl) hS (fun q h => Nat.le_trans hb1 h.1) hP) rfl rfl hl.1 rfl (lv_room (Nat.le_of_ble_eq_true rfl)) dX12_alike_52 ⟨Nat.le_of_ble_eq_true rfl, Nat.le_of_ble_eq_true rfl⟩) hS (fun _ h => h) (fun _ h => h) (fun q_30 H locs hY hk hS => ?_)
        obtain ⟨hq_30, hP⟩ := hY
        replace hq_30 := hq_30.symm
        subst hq_30
        refine lv_aload_n hx hb dX12_alike_55 rfl (lv_at hl 0 rfl) ?_
        refine lv_iload_n hx hb dX12_alike_56 rfl (lv_at hl 2 rfl) ?_
        refine lv_iload hx hb dX12_alike_57 (lv_at hl 4 rfl) ?_
        obtain ⟨f_31, wl_32, r_33, z_34, h⟩ := gb_bd_s h
        refine gb_calli (va_runV (C := RX12) (As := [.int v3, .int v5]) (rest := [.int r_28, .int v4]) ⟨hx, hb, hml, hown, hq⟩ (mc_firstMarks l D cT tt b1 b hb1 n f_26 wl_27 v3 v5 f_31 wl_32 r_33 z_34) (cwV 2 hq (gb_gV w_1532 w_1534 s_6_0 w_14 w_1535) rfl rfl rfl (by decide +kernel) ⟨Nat.le_of_ble_eq_true rfl, Nat.le_of_ble_eq_true rfl⟩) (gb_preV (r := (RX12, TX12, 44)) (ci := 10) (q0 := 0) hSt hP rfl (gb_at b rfl) hS (fun q h => Nat.le_trans hb1 h.1) hP) rfl rfl hl.1 rfl (lv_room (Nat.le_of_ble_eq_true rfl)) dX12_alike_59 ⟨Nat.le_of_ble_eq_true rfl, Nat.le_of_ble_eq_true rfl⟩) hS (fun _ h => h) (fun _ h => h) (fun q_35 H locs hY hk hS => ?_)
        obtain ⟨hq_35, hP⟩ := hY
        replace hq_35 := hq_35.symm
        subst hq_35
        refine lv_icmp_ne (tgt := 72) hx hb dX12_alike_62 (by decide) (fun c_36 => ?_) (fun c_36 => ?_)
        · rw [if_neg c_36] at h
          refine lv_iconst (v := 0) hx hb dX12_alike_72 (by decide) ?_
          refine lv_ior hx hb dX12_alike_73 ?_
          refine lv_topi (fun x_37 ex_37 => ?_)
          replace h := gb_lt_s ex_37 h
          refine lv_istore (lv' := [(4, .int x_37), (0, .ref (b + 0)), (2, .int v2), (3, .int v3), (5, .int v5)]) hx hb dX12_alike_74 hl (by decide) rfl (fun ls hl => ?_)
          obtain ⟨x_38, ex_38⟩ : ∃ q, q = (v5 + 1) := ⟨_, rfl⟩
          replace h := gb_lt_s ex_38 h
          refine lv_iinc (v := x_38) (lv' := [(5, .int x_38), (4, .int x_37), (0, .ref (b + 0)), (2, .int v2), (3, .int v3)]) hx hb dX12_alike_76 hl (k := 4) rfl (by rw [ex_38]; rfl) (by decide) rfl (fun ls hl => ?_)
          refine lv_goto (tgt := 37) hx hb dX12_alike_79 (by decide) ?_
          exact ih _ _ _ _ _ _ _ _ _ h hP hS (lv_sub hl [2, 3, 4, 1, 0] rfl)
        · rw [if_pos c_36] at h
          refine lv_iconst (v := 1) hx hb dX12_alike_65 (by decide) ?_
          refine lv_iload hx hb dX12_alike_66 (lv_at hl 4 rfl) ?_
          refine lv_ishl hx hb dX12_alike_68 ?_
          refine lv_goto (tgt := 73) hx hb dX12_alike_69 (by decide) ?_
          refine lv_ior hx hb dX12_alike_73 ?_
          refine lv_topi (fun x_39 ex_39 => ?_)
          replace h := gb_lt_s ex_39 h
          refine lv_istore (lv' := [(4, .int x_39), (0, .ref (b + 0)), (2, .int v2), (3, .int v3), (5, .int v5)]) hx hb dX12_alike_74 hl (by decide) rfl (fun ls hl => ?_)
          obtain ⟨x_40, ex_40⟩ : ∃ q, q = (v5 + 1) := ⟨_, rfl⟩
          replace h := gb_lt_s ex_40 h
          refine lv_iinc (v := x_40) (lv' := [(5, .int x_40), (4, .int x_39), (0, .ref (b + 0)), (2, .int v2), (3, .int v3)]) hx hb dX12_alike_76 hl (k := 4) rfl (by rw [ex_40]; rfl) (by decide) rfl (fun ls hl => ?_)
          refine lv_goto (tgt := 37) hx hb dX12_alike_79 (by decide) ?_
          exact ih _ _ _ _ _ _ _ _ _ h hP hS (lv_sub hl [2, 3, 4, 1, 0] rfl)
  unfold ms_alike at h
  refine lv_aload_n hx hb dX12_alike_0 rfl (lv_at hl 0 rfl) ?_
  refine lv_iload_n hx hb dX12_alike_1 rfl (lv_at hl 1 rfl) ?_
  obtain ⟨f_1, wl_2, r_3, z_4, h⟩ := gb_bd_s h
  refine gb_calli (va_runV (C := RX12) (As := [.int p1]) (rest := []) ⟨hx, hb, hml, hown, hq⟩ (mc_isBorder l D cT tt b1 b hb1 n f w p1 f_1 wl_2 r_3 z_4) (cwV 1 hq (gb_gV w_1372 w_1374 s_4_1 w_14 w_1375) rfl rfl rfl (by decide +kernel) ⟨Nat.le_of_ble_eq_true rfl, Nat.le_of_ble_eq_true rfl⟩) (gb_preV (r := (RX12, TX12, 44)) (ci := 10) (q0 := 0) hSt hP rfl (gb_at b rfl) hS (fun q h => Nat.le_trans hb1 h.1) hP) rfl rfl hl.1 rfl (lv_room (Nat.le_of_ble_eq_true rfl)) dX12_alike_2 ⟨Nat.le_of_ble_eq_true rfl, Nat.le_of_ble_eq_true rfl⟩) hS (fun _ h => h) (fun _ h => h) (fun q_5 H locs hY hk hS => ?_)
  obtain ⟨hq_5, hP⟩ := hY
  replace hq_5 := hq_5.symm
  subst hq_5
  refine lv_if_eq (tgt := 29) hx hb dX12_alike_5 (by decide) (fun c_6 => ?_) (fun c_6 => ?_)
  · rw [if_pos c_6] at h
    refine lv_iconst (v := (-1)) hx hb dX12_alike_29 (by decide) ?_
    obtain ⟨e1, e2, e3⟩ := gb_eq3 h
    exact W.iret (v := (-1)) hx hb hr (fun t ht hW => gb_ri ht ⟨e3, by rw [← e1, ← e2]; exact hP⟩ hS) hS.2.2 dX12_alike_30
  · rw [if_neg c_6] at h
    refine lv_aload_n hx hb dX12_alike_8 rfl (lv_at hl 0 rfl) ?_
    refine lv_iload_n hx hb dX12_alike_9 rfl (lv_at hl 2 rfl) ?_
    obtain ⟨f_7, wl_8, r_9, z_10, h⟩ := gb_bd_s h
    refine gb_calli (va_runV (C := RX12) (As := [.int p2]) (rest := []) ⟨hx, hb, hml, hown, hq⟩ (mc_isGoose l D cT tt b1 b hb1 n f_1 wl_2 p2 f_7 wl_8 r_9 z_10) (cwV 1 hq (gb_gV w_1392 w_1394 s_4_6 w_14 w_1395) rfl rfl rfl (by decide +kernel) ⟨Nat.le_of_ble_eq_true rfl, Nat.le_of_ble_eq_true rfl⟩) (gb_preV (r := (RX12, TX12, 44)) (ci := 10) (q0 := 0) hSt hP rfl (gb_at b rfl) hS (fun q h => Nat.le_trans hb1 h.1) hP) rfl rfl hl.1 rfl (lv_room (Nat.le_of_ble_eq_true rfl)) dX12_alike_10 ⟨Nat.le_of_ble_eq_true rfl, Nat.le_of_ble_eq_true rfl⟩) hS (fun _ h => h) (fun _ h => h) (fun q_11 H locs hY hk hS => ?_)
    obtain ⟨hq_11, hP⟩ := hY
    replace hq_11 := hq_11.symm
    subst hq_11
    refine lv_if_eq (tgt := 29) hx hb dX12_alike_13 (by decide) (fun c_12 => ?_) (fun c_12 => ?_)
    · rw [if_pos c_12] at h
      refine lv_iconst (v := (-1)) hx hb dX12_alike_29 (by decide) ?_
      obtain ⟨e1, e2, e3⟩ := gb_eq3 h
      exact W.iret (v := (-1)) hx hb hr (fun t ht hW => gb_ri ht ⟨e3, by rw [← e1, ← e2]; exact hP⟩ hS) hS.2.2 dX12_alike_30
    · rw [if_neg c_12] at h
      refine lv_aload_n hx hb dX12_alike_16 rfl (lv_at hl 0 rfl) ?_
      refine lv_iload_n hx hb dX12_alike_17 rfl (lv_at hl 3 rfl) ?_
      obtain ⟨f_13, wl_14, r_15, z_16, h⟩ := gb_bd_s h
      refine gb_calli (va_runV (C := RX12) (As := [.int p3]) (rest := []) ⟨hx, hb, hml, hown, hq⟩ (mc_isGoose l D cT tt b1 b hb1 n f_7 wl_8 p3 f_13 wl_14 r_15 z_16) (cwV 1 hq (gb_gV w_1392 w_1394 s_4_6 w_14 w_1395) rfl rfl rfl (by decide +kernel) ⟨Nat.le_of_ble_eq_true rfl, Nat.le_of_ble_eq_true rfl⟩) (gb_preV (r := (RX12, TX12, 44)) (ci := 10) (q0 := 0) hSt hP rfl (gb_at b rfl) hS (fun q h => Nat.le_trans hb1 h.1) hP) rfl rfl hl.1 rfl (lv_room (Nat.le_of_ble_eq_true rfl)) dX12_alike_18 ⟨Nat.le_of_ble_eq_true rfl, Nat.le_of_ble_eq_true rfl⟩) hS (fun _ h => h) (fun _ h => h) (fun q_17 H locs hY hk hS => ?_)
      obtain ⟨hq_17, hP⟩ := hY
      replace hq_17 := hq_17.symm
      subst hq_17
      refine lv_if_eq (tgt := 29) hx hb dX12_alike_21 (by decide) (fun c_18 => ?_) (fun c_18 => ?_)
      · rw [if_pos c_18] at h
        refine lv_iconst (v := (-1)) hx hb dX12_alike_29 (by decide) ?_
        obtain ⟨e1, e2, e3⟩ := gb_eq3 h
        exact W.iret (v := (-1)) hx hb hr (fun t ht hW => gb_ri ht ⟨e3, by rw [← e1, ← e2]; exact hP⟩ hS) hS.2.2 dX12_alike_30
      · rw [if_neg c_18] at h
        refine lv_iload_n hx hb dX12_alike_24 rfl (lv_at hl 2 rfl) ?_
        refine lv_iload_n hx hb dX12_alike_25 rfl (lv_at hl 3 rfl) ?_
        refine lv_icmp_ne (tgt := 31) hx hb dX12_alike_26 (by decide) (fun c_19 => ?_) (fun c_19 => ?_)
        · rw [if_neg c_19] at h
          refine lv_iconst (v := 0) hx hb dX12_alike_31 (by decide) ?_
          refine lv_istore (lv' := [(4, .int 0), (0, .ref (b + 0)), (1, .int p1), (2, .int p2), (3, .int p3)]) hx hb dX12_alike_32 hl (by decide) rfl (fun ls hl => ?_)
          refine lv_iconst (v := 0) hx hb dX12_alike_34 (by decide) ?_
          refine lv_istore (lv' := [(5, .int 0), (4, .int 0), (0, .ref (b + 0)), (1, .int p1), (2, .int p2), (3, .int p3)]) hx hb dX12_alike_35 hl (by decide) rfl (fun ls hl => ?_)
          exact L37 n _ _ _ _ _ _ _ _ _ h hP hS (lv_sub hl [2, 4, 5, 1, 0] rfl)
        · rw [if_pos c_19] at h
          refine lv_iconst (v := (-1)) hx hb dX12_alike_29 (by decide) ?_
          obtain ⟨e1, e2, e3⟩ := gb_eq3 h
          exact W.iret (v := (-1)) hx hb hr (fun t ht hW => gb_ri ht ⟨e3, by rw [← e1, ← e2]; exact hP⟩ hS) hS.2.2 dX12_alike_30
theorem dX12_span_0 : decode cX12_span 0 = .ok (.aload_n 0, 1) := dc_42 (show ((cX12_span.data.toList.drop 0).take 1).map UInt8.toNat = [42] by decide +kernel)
theorem dX12_span_1 : decode cX12_span 1 = .ok (.iload_n 1, 1) := dc_27 (show ((cX12_span.data.toList.drop 1).take 1).map UInt8.toNat = [27] by decide +kernel)
theorem dX12_span_2 : decode cX12_span 2 = .ok (.invokevirtual 205, 3) := dc_182 (show ((cX12_span.data.toList.drop 2).take 3).map UInt8.toNat = [182, 0, 205] by decide +kernel) rfl
theorem dX12_span_5 : decode cX12_span 5 = .ok (.ifCond .eq 23, 3) := dc_153 (show ((cX12_span.data.toList.drop 5).take 3).map UInt8.toNat = [153, 0, 23] by decide +kernel) rfl
theorem dX12_span_28 : decode cX12_span 28 = .ok (.iconst (-1), 1) := dc_2 (show ((cX12_span.data.toList.drop 28).take 1).map UInt8.toNat = [2] by decide +kernel)
theorem dX12_span_29 : decode cX12_span 29 = .ok (.ireturn, 1) := dc_172 (show ((cX12_span.data.toList.drop 29).take 1).map UInt8.toNat = [172] by decide +kernel)
theorem dX12_span_8 : decode cX12_span 8 = .ok (.aload_n 0, 1) := dc_42 (show ((cX12_span.data.toList.drop 8).take 1).map UInt8.toNat = [42] by decide +kernel)
theorem dX12_span_9 : decode cX12_span 9 = .ok (.iload_n 2, 1) := dc_28 (show ((cX12_span.data.toList.drop 9).take 1).map UInt8.toNat = [28] by decide +kernel)
theorem dX12_span_10 : decode cX12_span 10 = .ok (.invokevirtual 208, 3) := dc_182 (show ((cX12_span.data.toList.drop 10).take 3).map UInt8.toNat = [182, 0, 208] by decide +kernel) rfl
theorem dX12_span_13 : decode cX12_span 13 = .ok (.ifCond .eq 15, 3) := dc_153 (show ((cX12_span.data.toList.drop 13).take 3).map UInt8.toNat = [153, 0, 15] by decide +kernel) rfl
theorem dX12_span_16 : decode cX12_span 16 = .ok (.iload_n 3, 1) := dc_29 (show ((cX12_span.data.toList.drop 16).take 1).map UInt8.toNat = [29] by decide +kernel)
theorem dX12_span_17 : decode cX12_span 17 = .ok (.iconst 0, 1) := dc_3 (show ((cX12_span.data.toList.drop 17).take 1).map UInt8.toNat = [3] by decide +kernel)
theorem dX12_span_18 : decode cX12_span 18 = .ok (.aload_n 0, 1) := dc_42 (show ((cX12_span.data.toList.drop 18).take 1).map UInt8.toNat = [42] by decide +kernel)
theorem dX12_span_19 : decode cX12_span 19 = .ok (.invokevirtual 202, 3) := dc_182 (show ((cX12_span.data.toList.drop 19).take 3).map UInt8.toNat = [182, 0, 202] by decide +kernel) rfl
theorem dX12_span_22 : decode cX12_span 22 = .ok (.invokestatic 129, 3) := dc_184 (show ((cX12_span.data.toList.drop 22).take 3).map UInt8.toNat = [184, 0, 129] by decide +kernel) rfl
theorem dX12_span_25 : decode cX12_span 25 = .ok (.ifCond .ne 5, 3) := dc_154 (show ((cX12_span.data.toList.drop 25).take 3).map UInt8.toNat = [154, 0, 5] by decide +kernel) rfl
theorem dX12_span_30 : decode cX12_span 30 = .ok (.iconst (-1), 1) := dc_2 (show ((cX12_span.data.toList.drop 30).take 1).map UInt8.toNat = [2] by decide +kernel)
theorem dX12_span_31 : decode cX12_span 31 = .ok (.istore 5, 2) := dc_54 (show ((cX12_span.data.toList.drop 31).take 2).map UInt8.toNat = [54, 5] by decide +kernel) rfl
theorem dX12_span_33 : decode cX12_span 33 = .ok (.iconst 0, 1) := dc_3 (show ((cX12_span.data.toList.drop 33).take 1).map UInt8.toNat = [3] by decide +kernel)
theorem dX12_span_34 : decode cX12_span 34 = .ok (.istore 6, 2) := dc_54 (show ((cX12_span.data.toList.drop 34).take 2).map UInt8.toNat = [54, 6] by decide +kernel) rfl
theorem dX12_span_36 : decode cX12_span 36 = .ok (.iload 6, 2) := dc_21 (show ((cX12_span.data.toList.drop 36).take 2).map UInt8.toNat = [21, 6] by decide +kernel) rfl
theorem dX12_span_38 : decode cX12_span 38 = .ok (.iconst 1, 1) := dc_4 (show ((cX12_span.data.toList.drop 38).take 1).map UInt8.toNat = [4] by decide +kernel)
theorem dX12_span_39 : decode cX12_span 39 = .ok (.aload_n 0, 1) := dc_42 (show ((cX12_span.data.toList.drop 39).take 1).map UInt8.toNat = [42] by decide +kernel)
theorem dX12_span_40 : decode cX12_span 40 = .ok (.invokevirtual 202, 3) := dc_182 (show ((cX12_span.data.toList.drop 40).take 3).map UInt8.toNat = [182, 0, 202] by decide +kernel) rfl
theorem dX12_span_43 : decode cX12_span 43 = .ok (.ishl, 1) := dc_120 (show ((cX12_span.data.toList.drop 43).take 1).map UInt8.toNat = [120] by decide +kernel)
theorem dX12_span_44 : decode cX12_span 44 = .ok (.if_icmp .ge 109, 3) := dc_162 (show ((cX12_span.data.toList.drop 44).take 3).map UInt8.toNat = [162, 0, 109] by decide +kernel) rfl
theorem dX12_span_153 : decode cX12_span 153 = .ok (.iload 5, 2) := dc_21 (show ((cX12_span.data.toList.drop 153).take 2).map UInt8.toNat = [21, 5] by decide +kernel) rfl
theorem dX12_span_155 : decode cX12_span 155 = .ok (.ireturn, 1) := dc_172 (show ((cX12_span.data.toList.drop 155).take 1).map UInt8.toNat = [172] by decide +kernel)
theorem dX12_span_47 : decode cX12_span 47 = .ok (.iconst 0, 1) := dc_3 (show ((cX12_span.data.toList.drop 47).take 1).map UInt8.toNat = [3] by decide +kernel)
theorem dX12_span_48 : decode cX12_span 48 = .ok (.istore 7, 2) := dc_54 (show ((cX12_span.data.toList.drop 48).take 2).map UInt8.toNat = [54, 7] by decide +kernel) rfl
theorem dX12_span_50 : decode cX12_span 50 = .ok (.iconst 0, 1) := dc_3 (show ((cX12_span.data.toList.drop 50).take 1).map UInt8.toNat = [3] by decide +kernel)
theorem dX12_span_51 : decode cX12_span 51 = .ok (.istore 8, 2) := dc_54 (show ((cX12_span.data.toList.drop 51).take 2).map UInt8.toNat = [54, 8] by decide +kernel) rfl
theorem dX12_span_53 : decode cX12_span 53 = .ok (.iconst 0, 1) := dc_3 (show ((cX12_span.data.toList.drop 53).take 1).map UInt8.toNat = [3] by decide +kernel)
theorem dX12_span_54 : decode cX12_span 54 = .ok (.istore 9, 2) := dc_54 (show ((cX12_span.data.toList.drop 54).take 2).map UInt8.toNat = [54, 9] by decide +kernel) rfl
theorem dX12_span_56 : decode cX12_span 56 = .ok (.iload 9, 2) := dc_21 (show ((cX12_span.data.toList.drop 56).take 2).map UInt8.toNat = [21, 9] by decide +kernel) rfl
theorem dX12_span_58 : decode cX12_span 58 = .ok (.aload_n 0, 1) := dc_42 (show ((cX12_span.data.toList.drop 58).take 1).map UInt8.toNat = [42] by decide +kernel)
theorem dX12_span_59 : decode cX12_span 59 = .ok (.invokevirtual 202, 3) := dc_182 (show ((cX12_span.data.toList.drop 59).take 3).map UInt8.toNat = [182, 0, 202] by decide +kernel) rfl
theorem dX12_span_62 : decode cX12_span 62 = .ok (.if_icmp .ge 48, 3) := dc_162 (show ((cX12_span.data.toList.drop 62).take 3).map UInt8.toNat = [162, 0, 48] by decide +kernel) rfl
theorem dX12_span_110 : decode cX12_span 110 = .ok (.iload 7, 2) := dc_21 (show ((cX12_span.data.toList.drop 110).take 2).map UInt8.toNat = [21, 7] by decide +kernel) rfl
theorem dX12_span_112 : decode cX12_span 112 = .ok (.iload_n 3, 1) := dc_29 (show ((cX12_span.data.toList.drop 112).take 1).map UInt8.toNat = [29] by decide +kernel)
theorem dX12_span_113 : decode cX12_span 113 = .ok (.if_icmp .ne 34, 3) := dc_160 (show ((cX12_span.data.toList.drop 113).take 3).map UInt8.toNat = [160, 0, 34] by decide +kernel) rfl
theorem dX12_span_147 : decode cX12_span 147 = .ok (.iinc 6 1, 3) := dc_132 (show ((cX12_span.data.toList.drop 147).take 3).map UInt8.toNat = [132, 6, 1] by decide +kernel) rfl
theorem dX12_span_150 : decode cX12_span 150 = .ok (.goto (-114), 3) := dc_167 (show ((cX12_span.data.toList.drop 150).take 3).map UInt8.toNat = [167, 255, 142] by decide +kernel) rfl
theorem dX12_span_116 : decode cX12_span 116 = .ok (.iload 5, 2) := dc_21 (show ((cX12_span.data.toList.drop 116).take 2).map UInt8.toNat = [21, 5] by decide +kernel) rfl
theorem dX12_span_118 : decode cX12_span 118 = .ok (.ifCond .lt 25, 3) := dc_155 (show ((cX12_span.data.toList.drop 118).take 3).map UInt8.toNat = [155, 0, 25] by decide +kernel) rfl
theorem dX12_span_143 : decode cX12_span 143 = .ok (.iload 8, 2) := dc_21 (show ((cX12_span.data.toList.drop 143).take 2).map UInt8.toNat = [21, 8] by decide +kernel) rfl
theorem dX12_span_145 : decode cX12_span 145 = .ok (.istore 5, 2) := dc_54 (show ((cX12_span.data.toList.drop 145).take 2).map UInt8.toNat = [54, 5] by decide +kernel) rfl
theorem dX12_span_121 : decode cX12_span 121 = .ok (.iload 4, 2) := dc_21 (show ((cX12_span.data.toList.drop 121).take 2).map UInt8.toNat = [21, 4] by decide +kernel) rfl
theorem dX12_span_123 : decode cX12_span 123 = .ok (.ifCond .eq 13, 3) := dc_153 (show ((cX12_span.data.toList.drop 123).take 3).map UInt8.toNat = [153, 0, 13] by decide +kernel) rfl
theorem dX12_span_136 : decode cX12_span 136 = .ok (.iload 8, 2) := dc_21 (show ((cX12_span.data.toList.drop 136).take 2).map UInt8.toNat = [21, 8] by decide +kernel) rfl
theorem dX12_span_138 : decode cX12_span 138 = .ok (.iload 5, 2) := dc_21 (show ((cX12_span.data.toList.drop 138).take 2).map UInt8.toNat = [21, 5] by decide +kernel) rfl
theorem dX12_span_140 : decode cX12_span 140 = .ok (.if_icmp .ge 7, 3) := dc_162 (show ((cX12_span.data.toList.drop 140).take 3).map UInt8.toNat = [162, 0, 7] by decide +kernel) rfl
theorem dX12_span_126 : decode cX12_span 126 = .ok (.iload 8, 2) := dc_21 (show ((cX12_span.data.toList.drop 126).take 2).map UInt8.toNat = [21, 8] by decide +kernel) rfl
theorem dX12_span_128 : decode cX12_span 128 = .ok (.iload 5, 2) := dc_21 (show ((cX12_span.data.toList.drop 128).take 2).map UInt8.toNat = [21, 5] by decide +kernel) rfl
theorem dX12_span_130 : decode cX12_span 130 = .ok (.if_icmp .le 17, 3) := dc_164 (show ((cX12_span.data.toList.drop 130).take 3).map UInt8.toNat = [164, 0, 17] by decide +kernel) rfl
theorem dX12_span_133 : decode cX12_span 133 = .ok (.goto 10, 3) := dc_167 (show ((cX12_span.data.toList.drop 133).take 3).map UInt8.toNat = [167, 0, 10] by decide +kernel) rfl
theorem dX12_span_65 : decode cX12_span 65 = .ok (.iload 7, 2) := dc_21 (show ((cX12_span.data.toList.drop 65).take 2).map UInt8.toNat = [21, 7] by decide +kernel) rfl
theorem dX12_span_67 : decode cX12_span 67 = .ok (.iload 6, 2) := dc_21 (show ((cX12_span.data.toList.drop 67).take 2).map UInt8.toNat = [21, 6] by decide +kernel) rfl
theorem dX12_span_69 : decode cX12_span 69 = .ok (.iload 9, 2) := dc_21 (show ((cX12_span.data.toList.drop 69).take 2).map UInt8.toNat = [21, 9] by decide +kernel) rfl
theorem dX12_span_71 : decode cX12_span 71 = .ok (.ishr, 1) := dc_122 (show ((cX12_span.data.toList.drop 71).take 1).map UInt8.toNat = [122] by decide +kernel)
theorem dX12_span_72 : decode cX12_span 72 = .ok (.iconst 1, 1) := dc_4 (show ((cX12_span.data.toList.drop 72).take 1).map UInt8.toNat = [4] by decide +kernel)
theorem dX12_span_73 : decode cX12_span 73 = .ok (.iand, 1) := dc_126 (show ((cX12_span.data.toList.drop 73).take 1).map UInt8.toNat = [126] by decide +kernel)
theorem dX12_span_74 : decode cX12_span 74 = .ok (.iadd, 1) := dc_96 (show ((cX12_span.data.toList.drop 74).take 1).map UInt8.toNat = [96] by decide +kernel)
theorem dX12_span_75 : decode cX12_span 75 = .ok (.istore 7, 2) := dc_54 (show ((cX12_span.data.toList.drop 75).take 2).map UInt8.toNat = [54, 7] by decide +kernel) rfl
theorem dX12_span_77 : decode cX12_span 77 = .ok (.iload 8, 2) := dc_21 (show ((cX12_span.data.toList.drop 77).take 2).map UInt8.toNat = [21, 8] by decide +kernel) rfl
theorem dX12_span_79 : decode cX12_span 79 = .ok (.iload 6, 2) := dc_21 (show ((cX12_span.data.toList.drop 79).take 2).map UInt8.toNat = [21, 6] by decide +kernel) rfl
theorem dX12_span_81 : decode cX12_span 81 = .ok (.iload 9, 2) := dc_21 (show ((cX12_span.data.toList.drop 81).take 2).map UInt8.toNat = [21, 9] by decide +kernel) rfl
theorem dX12_span_83 : decode cX12_span 83 = .ok (.ishr, 1) := dc_122 (show ((cX12_span.data.toList.drop 83).take 1).map UInt8.toNat = [122] by decide +kernel)
theorem dX12_span_84 : decode cX12_span 84 = .ok (.iconst 1, 1) := dc_4 (show ((cX12_span.data.toList.drop 84).take 1).map UInt8.toNat = [4] by decide +kernel)
theorem dX12_span_85 : decode cX12_span 85 = .ok (.iand, 1) := dc_126 (show ((cX12_span.data.toList.drop 85).take 1).map UInt8.toNat = [126] by decide +kernel)
theorem dX12_span_86 : decode cX12_span 86 = .ok (.iconst 1, 1) := dc_4 (show ((cX12_span.data.toList.drop 86).take 1).map UInt8.toNat = [4] by decide +kernel)
theorem dX12_span_87 : decode cX12_span 87 = .ok (.if_icmp .ne 13, 3) := dc_160 (show ((cX12_span.data.toList.drop 87).take 3).map UInt8.toNat = [160, 0, 13] by decide +kernel) rfl
theorem dX12_span_100 : decode cX12_span 100 = .ok (.iconst 0, 1) := dc_3 (show ((cX12_span.data.toList.drop 100).take 1).map UInt8.toNat = [3] by decide +kernel)
theorem dX12_span_101 : decode cX12_span 101 = .ok (.iadd, 1) := dc_96 (show ((cX12_span.data.toList.drop 101).take 1).map UInt8.toNat = [96] by decide +kernel)
theorem dX12_span_102 : decode cX12_span 102 = .ok (.istore 8, 2) := dc_54 (show ((cX12_span.data.toList.drop 102).take 2).map UInt8.toNat = [54, 8] by decide +kernel) rfl
theorem dX12_span_104 : decode cX12_span 104 = .ok (.iinc 9 1, 3) := dc_132 (show ((cX12_span.data.toList.drop 104).take 3).map UInt8.toNat = [132, 9, 1] by decide +kernel) rfl
theorem dX12_span_107 : decode cX12_span 107 = .ok (.goto (-51), 3) := dc_167 (show ((cX12_span.data.toList.drop 107).take 3).map UInt8.toNat = [167, 255, 205] by decide +kernel) rfl
theorem dX12_span_90 : decode cX12_span 90 = .ok (.aload_n 0, 1) := dc_42 (show ((cX12_span.data.toList.drop 90).take 1).map UInt8.toNat = [42] by decide +kernel)
theorem dX12_span_91 : decode cX12_span 91 = .ok (.iload 9, 2) := dc_21 (show ((cX12_span.data.toList.drop 91).take 2).map UInt8.toNat = [21, 9] by decide +kernel) rfl
theorem dX12_span_93 : decode cX12_span 93 = .ok (.iload_n 2, 1) := dc_28 (show ((cX12_span.data.toList.drop 93).take 1).map UInt8.toNat = [28] by decide +kernel)
theorem dX12_span_94 : decode cX12_span 94 = .ok (.invokevirtual 297, 3) := dc_182 (show ((cX12_span.data.toList.drop 94).take 3).map UInt8.toNat = [182, 1, 41] by decide +kernel) rfl
theorem dX12_span_97 : decode cX12_span 97 = .ok (.goto 4, 3) := dc_167 (show ((cX12_span.data.toList.drop 97).take 3).map UInt8.toNat = [167, 0, 4] by decide +kernel) rfl
def ms_span_56 (n : Nat) (k36 : gb_F → Int64 → Int32 → Int32 → Int32 → Int32 → Int32 → gb_MR Int32) : Nat → gb_F → Int64 → Int32 → Int32 → Int32 → Int32 → Int32 → Int32 → Int32 → Int32 → gb_MR Int32
  | 0, _, _, _, _, _, _, _, _, _, _ => none
  | mm + 1, f, w, v2, v3, v4, v5, v6, v7, v8, v9 => gb_bd (ms_geese n f w) (fun f_30 wl_31 r_32 => (if r_32 ≤ v9 then (if v7 = v3 then (if v5 < 0 then gb_lt (v6 + 1) (fun x_39 => k36 f_30 wl_31 v2 v3 v4 v8 x_39) else (if v4 = 0 then (if v5 ≤ v8 then gb_lt (v6 + 1) (fun x_42 => k36 f_30 wl_31 v2 v3 v4 v5 x_42) else gb_lt (v6 + 1) (fun x_43 => k36 f_30 wl_31 v2 v3 v4 v8 x_43)) else (if v8 ≤ v5 then gb_lt (v6 + 1) (fun x_45 => k36 f_30 wl_31 v2 v3 v4 v5 x_45) else gb_lt (v6 + 1) (fun x_46 => k36 f_30 wl_31 v2 v3 v4 v8 x_46)))) else gb_lt (v6 + 1) (fun x_37 => k36 f_30 wl_31 v2 v3 v4 v5 x_37)) else gb_lt (v7 + ((v6 >>> (v9 &&& 31)) &&& 1)) (fun x_47 => (if ((v6 >>> (v9 &&& 31)) &&& 1) = 1 then gb_bd (ms_firstMarks n f_30 wl_31 v9 v2) (fun f_51 wl_52 r_53 => gb_lt (v8 + r_53) (fun x_56 => gb_lt (v9 + 1) (fun x_57 => ms_span_56 n k36 mm f_51 wl_52 v2 v3 v4 v5 v6 x_47 x_56 x_57))) else gb_lt (v8 + 0) (fun x_49 => gb_lt (v9 + 1) (fun x_50 => ms_span_56 n k36 mm f_30 wl_31 v2 v3 v4 v5 v6 x_47 x_49 x_50))))))
def ms_span_36 (n : Nat) : Nat → gb_F → Int64 → Int32 → Int32 → Int32 → Int32 → Int32 → gb_MR Int32
  | 0, _, _, _, _, _, _, _ => none
  | mm + 1, f, w, v2, v3, v4, v5, v6 => gb_bd (ms_geese n f w) (fun f_24 wl_25 r_26 => (if (1 <<< (r_26 &&& 31)) ≤ v6 then some (f_24, wl_25, v5) else ms_span_56 n (fun f w v2 v3 v4 v5 v6 => ms_span_36 n mm f w v2 v3 v4 v5 v6) n f_24 wl_25 v2 v3 v4 v5 v6 0 0 0))
def ms_span (n : Nat) (f : gb_F) (w : Int64) (p1 : Int32) (p2 : Int32) (p3 : Int32) (p4 : Int32) : gb_MR Int32 := gb_bd (ms_isBorder n f w p1) (fun f_1 wl_2 r_3 => (if r_3 = 0 then some (f_1, wl_2, (-1)) else gb_bd (ms_isPath n f_1 wl_2 p2) (fun f_7 wl_8 r_9 => (if r_9 = 0 then some (f_7, wl_8, (-1)) else gb_bd (ms_geese n f_7 wl_8) (fun f_13 wl_14 r_15 => gb_bd (ms_isIn n f_13 wl_14 p3 0 r_15) (fun f_18 wl_19 r_20 => (if r_20 = 0 then some (f_18, wl_19, (-1)) else ms_span_36 n n f_18 wl_19 p2 p3 p4 (-1) 0)))))))
set_option maxHeartbeats 8000000 in
set_option maxRecDepth 100000 in
theorem mc_span (l : Launch) (D : va_G) (cT : Nat → ClassId) (tt : Nat → Nat) (b1 b : Nat) (hb1 : b1 ≤ b) (n : Nat) (f : gb_F) (w : Int64) (p1 : Int32) (p2 : Int32) (p3 : Int32) (p4 : Int32) (fE : gb_F) (wE : Int64) (rE : Int32) (h : ms_span n f w p1 p2 p3 p4 = some (fE, wE, rE)) : Met l yX12_span (.code yX12_span cX12_span 10 (some FieldType.int) :: gb_wA) ({ frames := 4, cells := 0, slots := 0, locals := 92 }) (gb_Pc D cT tt b1 [.ref (b + 0), .int p1, .int p2, .int p3, .int p4] (fun h => va_P D vwCl (gb_wl b (gb_MW cT b f w)) h)) (gb_Qi (fun r h => r = rE ∧ va_P D vwCl (gb_wl b (gb_MW cT b fE wE)) h) (gb_fr b 22)) 0 0 (gb_fr b 22) := by
  refine Met.ofW (cc := cX12_span) (maxL := 10) (ret := (some FieldType.int)) (by decide) rfl ?_
  intro p e s m args below meth c s₁ B hml hv
  obtain ⟨rfl, hSt, hP⟩ := hv
  have hx := B.exec
  have hb := B.bytes
  have hr := B.returns
  have hts := atoms_spec (ws := .code yX12_span cX12_span 10 (some FieldType.int) :: gb_wA) B.pre
  have hq : ∀ w ∈ gb_wA, w.before _ s = true := fun w h => hts w (List.mem_cons_of_mem _ h)
  have hown : s.vm.findClass RX12 = some m.cls := findClass_of_methodNamed B.named
  have hlocks := B.notSynchronized
  clear B hts
  have hK := hSt.1
  have hS : va_S (gb_fr b 22) s.heap s.heap [] := va_S.rf
  have hl := lv_entry ([.ref (b + 0), .int p1, .int p2, .int p3, .int p4]) (n := 10) (Nat.le_of_ble_eq_true rfl)
  rw [lg_entry_eq]
  generalize (lg_sl ([.ref (b + 0), .int p1, .int p2, .int p3, .int p4]) ++ List.replicate (10 - (lg_sl ([.ref (b + 0), .int p1, .int p2, .int p3, .int p4])).length) Slot.unset).toArray = ls at hl ⊢
  replace hl : lv_has ls 10 [(0, .ref (b + 0)), (1, .int p1), (2, .int p2), (3, .int p3), (4, .int p4)] := hl
  have L56 : ∀ (k36 : gb_F → Int64 → Int32 → Int32 → Int32 → Int32 → Int32 → gb_MR Int32) (hk36 : ∀ (f : gb_F) (w : Int64) (v2 : Int32) (v3 : Int32) (v4 : Int32) (v5 : Int32) (v6 : Int32) (H : Heap) (locs : List Loc) (ls : Array Slot), k36 f w v2 v3 v4 v5 v6 = some (fE, wE, rE) → va_P D vwCl (gb_wl b (gb_MW cT b f w)) H → va_S (gb_fr b 22) s.heap H locs → lv_has ls 10 [(0, .ref (b + 0)), (2, .int v2), (3, .int v3), (4, .int v4), (5, .int v5), (6, .int v6)] → W p l e (headSpec (.code yX12_span cX12_span 10 (some FieldType.int) :: gb_wA) ({ frames := 4, cells := 0, slots := 0, locals := 92 })).room s m ([.ref (b + 0), .int p1, .int p2, .int p3, .int p4]).toArray below meth c H locs 0 0 (MQ below (gb_Qi (fun r h => r = rE ∧ va_P D vwCl (gb_wl b (gb_MW cT b fE wE)) h) (gb_fr b 22)) ([.ref (b + 0), .int p1, .int p2, .int p3, .int p4]).toArray s 0 0 (gb_fr b 22)) (F0 m 36 ls [])) (mm : Nat) (f : gb_F) (w : Int64) (v2 : Int32) (v3 : Int32) (v4 : Int32) (v5 : Int32) (v6 : Int32) (v7 : Int32) (v8 : Int32) (v9 : Int32) (H : Heap) (locs : List Loc) (ls : Array Slot), ms_span_56 n k36 mm f w v2 v3 v4 v5 v6 v7 v8 v9 = some (fE, wE, rE) → va_P D vwCl (gb_wl b (gb_MW cT b f w)) H → va_S (gb_fr b 22) s.heap H locs → lv_has ls 10 [(0, .ref (b + 0)), (2, .int v2), (3, .int v3), (4, .int v4), (5, .int v5), (6, .int v6), (7, .int v7), (8, .int v8), (9, .int v9)] → W p l e (headSpec (.code yX12_span cX12_span 10 (some FieldType.int) :: gb_wA) ({ frames := 4, cells := 0, slots := 0, locals := 92 })).room s m ([.ref (b + 0), .int p1, .int p2, .int p3, .int p4]).toArray below meth c H locs 0 0 (MQ below (gb_Qi (fun r h => r = rE ∧ va_P D vwCl (gb_wl b (gb_MW cT b fE wE)) h) (gb_fr b 22)) ([.ref (b + 0), .int p1, .int p2, .int p3, .int p4]).toArray s 0 0 (gb_fr b 22)) (F0 m 56 ls []) := by
    clear h hP hS hl ls f w
    intro k36 hk36 mm
    induction mm with
    | zero =>
      intro f w v2 v3 v4 v5 v6 v7 v8 v9 H locs ls h
      cases h
    | succ mm ih =>
      intro f w v2 v3 v4 v5 v6 v7 v8 v9 H locs ls h hP hS hl
      rw [ms_span_56] at h
      refine lv_iload hx hb dX12_span_56 (lv_at hl 8 rfl) ?_
      refine lv_aload_n hx hb dX12_span_58 rfl (lv_at hl 0 rfl) ?_
      obtain ⟨f_30, wl_31, r_32, z_33, h⟩ := gb_bd_s h
      refine gb_calli (va_runV (C := RX12) (As := []) (rest := [.int v9]) ⟨hx, hb, hml, hown, hq⟩ (mc_geese l D cT tt b1 b hb1 n f w f_30 wl_31 r_32 z_33) (cwV 0 hq (gb_gV w_1396 w_1398 s_4_7 w_14 w_1399) rfl rfl rfl (by decide +kernel) ⟨Nat.le_of_ble_eq_true rfl, Nat.le_of_ble_eq_true rfl⟩) (gb_preV (r := (RX12, TX12, 44)) (ci := 10) (q0 := 0) hSt hP rfl (gb_at b rfl) hS (fun q h => Nat.le_trans hb1 h.1) hP) rfl rfl hl.1 rfl (lv_room (Nat.le_of_ble_eq_true rfl)) dX12_span_59 ⟨Nat.le_of_ble_eq_true rfl, Nat.le_of_ble_eq_true rfl⟩) hS (fun _ h => h) (fun _ h => h) (fun q_34 H locs hY hk hS => ?_)
      obtain ⟨hq_34, hP⟩ := hY
      replace hq_34 := hq_34.symm
      subst hq_34
      refine lv_icmp_ge (tgt := 110) hx hb dX12_span_62 (by decide) (fun c_35 => ?_) (fun c_35 => ?_)
      · rw [if_pos c_35] at h
        refine lv_iload hx hb dX12_span_110 (lv_at hl 6 rfl) ?_
        refine lv_iload_n hx hb dX12_span_112 rfl (lv_at hl 2 rfl) ?_
        refine lv_icmp_ne (tgt := 147) hx hb dX12_span_113 (by decide) (fun c_36 => ?_) (fun c_36 => ?_)
        · rw [if_neg c_36] at h
          obtain ⟨x_37, ex_37⟩ : ∃ q, q = (v6 + 1) := ⟨_, rfl⟩
          replace h := gb_lt_s ex_37 h
          refine lv_iinc (v := x_37) (lv' := [(6, .int x_37), (0, .ref (b + 0)), (2, .int v2), (3, .int v3), (4, .int v4), (5, .int v5), (7, .int v7), (8, .int v8), (9, .int v9)]) hx hb dX12_span_147 hl (k := 5) rfl (by rw [ex_37]; rfl) (by decide) rfl (fun ls hl => ?_)
          refine lv_goto (tgt := 36) hx hb dX12_span_150 (by decide) ?_
          exact hk36 _ _ _ _ _ _ _ _ _ _ h hP hS (lv_sub hl [1, 2, 3, 4, 5, 0] rfl)
        · rw [if_pos c_36] at h
          refine lv_iload hx hb dX12_span_116 (lv_at hl 4 rfl) ?_
          refine lv_if_lt (tgt := 143) hx hb dX12_span_118 (by decide) (fun c_38 => ?_) (fun c_38 => ?_)
          · rw [if_pos c_38] at h
            refine lv_iload hx hb dX12_span_143 (lv_at hl 7 rfl) ?_
            refine lv_istore (lv' := [(5, .int v8), (0, .ref (b + 0)), (2, .int v2), (3, .int v3), (4, .int v4), (6, .int v6), (7, .int v7), (8, .int v8), (9, .int v9)]) hx hb dX12_span_145 hl (by decide) rfl (fun ls hl => ?_)
            obtain ⟨x_39, ex_39⟩ : ∃ q, q = (v6 + 1) := ⟨_, rfl⟩
            replace h := gb_lt_s ex_39 h
            refine lv_iinc (v := x_39) (lv' := [(6, .int x_39), (5, .int v8), (0, .ref (b + 0)), (2, .int v2), (3, .int v3), (4, .int v4), (7, .int v7), (8, .int v8), (9, .int v9)]) hx hb dX12_span_147 hl (k := 5) rfl (by rw [ex_39]; rfl) (by decide) rfl (fun ls hl => ?_)
            refine lv_goto (tgt := 36) hx hb dX12_span_150 (by decide) ?_
            exact hk36 _ _ _ _ _ _ _ _ _ _ h hP hS (lv_sub hl [2, 3, 4, 5, 1, 0] rfl)
          · rw [if_neg c_38] at h
            refine lv_iload hx hb dX12_span_121 (lv_at hl 3 rfl) ?_
            refine lv_if_eq (tgt := 136) hx hb dX12_span_123 (by decide) (fun c_40 => ?_) (fun c_40 => ?_)
            · rw [if_pos c_40] at h
              refine lv_iload hx hb dX12_span_136 (lv_at hl 7 rfl) ?_
              refine lv_iload hx hb dX12_span_138 (lv_at hl 4 rfl) ?_
              refine lv_icmp_ge (tgt := 147) hx hb dX12_span_140 (by decide) (fun c_41 => ?_) (fun c_41 => ?_)
              · rw [if_pos c_41] at h
                obtain ⟨x_42, ex_42⟩ : ∃ q, q = (v6 + 1) := ⟨_, rfl⟩
                replace h := gb_lt_s ex_42 h
                refine lv_iinc (v := x_42) (lv' := [(6, .int x_42), (0, .ref (b + 0)), (2, .int v2), (3, .int v3), (4, .int v4), (5, .int v5), (7, .int v7), (8, .int v8), (9, .int v9)]) hx hb dX12_span_147 hl (k := 5) rfl (by rw [ex_42]; rfl) (by decide) rfl (fun ls hl => ?_)
                refine lv_goto (tgt := 36) hx hb dX12_span_150 (by decide) ?_
                exact hk36 _ _ _ _ _ _ _ _ _ _ h hP hS (lv_sub hl [1, 2, 3, 4, 5, 0] rfl)
              · rw [if_neg c_41] at h
                refine lv_iload hx hb dX12_span_143 (lv_at hl 7 rfl) ?_
                refine lv_istore (lv' := [(5, .int v8), (0, .ref (b + 0)), (2, .int v2), (3, .int v3), (4, .int v4), (6, .int v6), (7, .int v7), (8, .int v8), (9, .int v9)]) hx hb dX12_span_145 hl (by decide) rfl (fun ls hl => ?_)
                obtain ⟨x_43, ex_43⟩ : ∃ q, q = (v6 + 1) := ⟨_, rfl⟩
                replace h := gb_lt_s ex_43 h
                refine lv_iinc (v := x_43) (lv' := [(6, .int x_43), (5, .int v8), (0, .ref (b + 0)), (2, .int v2), (3, .int v3), (4, .int v4), (7, .int v7), (8, .int v8), (9, .int v9)]) hx hb dX12_span_147 hl (k := 5) rfl (by rw [ex_43]; rfl) (by decide) rfl (fun ls hl => ?_)
                refine lv_goto (tgt := 36) hx hb dX12_span_150 (by decide) ?_
                exact hk36 _ _ _ _ _ _ _ _ _ _ h hP hS (lv_sub hl [2, 3, 4, 5, 1, 0] rfl)
            · rw [if_neg c_40] at h
              refine lv_iload hx hb dX12_span_126 (lv_at hl 7 rfl) ?_
              refine lv_iload hx hb dX12_span_128 (lv_at hl 4 rfl) ?_
              refine lv_icmp_le (tgt := 147) hx hb dX12_span_130 (by decide) (fun c_44 => ?_) (fun c_44 => ?_)
              · rw [if_pos c_44] at h
                obtain ⟨x_45, ex_45⟩ : ∃ q, q = (v6 + 1) := ⟨_, rfl⟩
                replace h := gb_lt_s ex_45 h
                refine lv_iinc (v := x_45) (lv' := [(6, .int x_45), (0, .ref (b + 0)), (2, .int v2), (3, .int v3), (4, .int v4), (5, .int v5), (7, .int v7), (8, .int v8), (9, .int v9)]) hx hb dX12_span_147 hl (k := 5) rfl (by rw [ex_45]; rfl) (by decide) rfl (fun ls hl => ?_)
                refine lv_goto (tgt := 36) hx hb dX12_span_150 (by decide) ?_
                exact hk36 _ _ _ _ _ _ _ _ _ _ h hP hS (lv_sub hl [1, 2, 3, 4, 5, 0] rfl)
              · rw [if_neg c_44] at h
                refine lv_goto (tgt := 143) hx hb dX12_span_133 (by decide) ?_
                refine lv_iload hx hb dX12_span_143 (lv_at hl 7 rfl) ?_
                refine lv_istore (lv' := [(5, .int v8), (0, .ref (b + 0)), (2, .int v2), (3, .int v3), (4, .int v4), (6, .int v6), (7, .int v7), (8, .int v8), (9, .int v9)]) hx hb dX12_span_145 hl (by decide) rfl (fun ls hl => ?_)
                obtain ⟨x_46, ex_46⟩ : ∃ q, q = (v6 + 1) := ⟨_, rfl⟩
                replace h := gb_lt_s ex_46 h
                refine lv_iinc (v := x_46) (lv' := [(6, .int x_46), (5, .int v8), (0, .ref (b + 0)), (2, .int v2), (3, .int v3), (4, .int v4), (7, .int v7), (8, .int v8), (9, .int v9)]) hx hb dX12_span_147 hl (k := 5) rfl (by rw [ex_46]; rfl) (by decide) rfl (fun ls hl => ?_)
                refine lv_goto (tgt := 36) hx hb dX12_span_150 (by decide) ?_
                exact hk36 _ _ _ _ _ _ _ _ _ _ h hP hS (lv_sub hl [2, 3, 4, 5, 1, 0] rfl)
      · rw [if_neg c_35] at h
        refine lv_iload hx hb dX12_span_65 (lv_at hl 6 rfl) ?_
        refine lv_iload hx hb dX12_span_67 (lv_at hl 5 rfl) ?_
        refine lv_iload hx hb dX12_span_69 (lv_at hl 8 rfl) ?_
        refine lv_ishr hx hb dX12_span_71 ?_
        refine lv_iconst (v := 1) hx hb dX12_span_72 (by decide) ?_
        refine lv_iand hx hb dX12_span_73 ?_
        refine lv_iadd hx hb dX12_span_74 ?_
        refine lv_topi (fun x_47 ex_47 => ?_)
        replace h := gb_lt_s ex_47 h
        refine lv_istore (lv' := [(7, .int x_47), (0, .ref (b + 0)), (2, .int v2), (3, .int v3), (4, .int v4), (5, .int v5), (6, .int v6), (8, .int v8), (9, .int v9)]) hx hb dX12_span_75 hl (by decide) rfl (fun ls hl => ?_)
        refine lv_iload hx hb dX12_span_77 (lv_at hl 7 rfl) ?_
        refine lv_iload hx hb dX12_span_79 (lv_at hl 6 rfl) ?_
        refine lv_iload hx hb dX12_span_81 (lv_at hl 8 rfl) ?_
        refine lv_ishr hx hb dX12_span_83 ?_
        refine lv_iconst (v := 1) hx hb dX12_span_84 (by decide) ?_
        refine lv_iand hx hb dX12_span_85 ?_
        refine lv_iconst (v := 1) hx hb dX12_span_86 (by decide) ?_
        refine lv_icmp_ne (tgt := 100) hx hb dX12_span_87 (by decide) (fun c_48 => ?_) (fun c_48 => ?_)
        · rw [if_neg c_48] at h
          refine lv_iconst (v := 0) hx hb dX12_span_100 (by decide) ?_
          refine lv_iadd hx hb dX12_span_101 ?_
          refine lv_topi (fun x_49 ex_49 => ?_)
          replace h := gb_lt_s ex_49 h
          refine lv_istore (lv' := [(8, .int x_49), (7, .int x_47), (0, .ref (b + 0)), (2, .int v2), (3, .int v3), (4, .int v4), (5, .int v5), (6, .int v6), (9, .int v9)]) hx hb dX12_span_102 hl (by decide) rfl (fun ls hl => ?_)
          obtain ⟨x_50, ex_50⟩ : ∃ q, q = (v9 + 1) := ⟨_, rfl⟩
          replace h := gb_lt_s ex_50 h
          refine lv_iinc (v := x_50) (lv' := [(9, .int x_50), (8, .int x_49), (7, .int x_47), (0, .ref (b + 0)), (2, .int v2), (3, .int v3), (4, .int v4), (5, .int v5), (6, .int v6)]) hx hb dX12_span_104 hl (k := 8) rfl (by rw [ex_50]; rfl) (by decide) rfl (fun ls hl => ?_)
          refine lv_goto (tgt := 56) hx hb dX12_span_107 (by decide) ?_
          exact ih _ _ _ _ _ _ _ _ _ _ _ _ _ h hP hS (lv_sub hl [3, 4, 5, 6, 7, 8, 2, 1, 0] rfl)
        · rw [if_pos c_48] at h
          refine lv_aload_n hx hb dX12_span_90 rfl (lv_at hl 1 rfl) ?_
          refine lv_iload hx hb dX12_span_91 (lv_at hl 8 rfl) ?_
          refine lv_iload_n hx hb dX12_span_93 rfl (lv_at hl 2 rfl) ?_
          obtain ⟨f_51, wl_52, r_53, z_54, h⟩ := gb_bd_s h
          refine gb_calli (va_runV (C := RX12) (As := [.int v9, .int v2]) (rest := [.int v8]) ⟨hx, hb, hml, hown, hq⟩ (mc_firstMarks l D cT tt b1 b hb1 n f_30 wl_31 v9 v2 f_51 wl_52 r_53 z_54) (cwV 2 hq (gb_gV w_1532 w_1534 s_6_0 w_14 w_1535) rfl rfl rfl (by decide +kernel) ⟨Nat.le_of_ble_eq_true rfl, Nat.le_of_ble_eq_true rfl⟩) (gb_preV (r := (RX12, TX12, 44)) (ci := 10) (q0 := 0) hSt hP rfl (gb_at b rfl) hS (fun q h => Nat.le_trans hb1 h.1) hP) rfl rfl hl.1 rfl (lv_room (Nat.le_of_ble_eq_true rfl)) dX12_span_94 ⟨Nat.le_of_ble_eq_true rfl, Nat.le_of_ble_eq_true rfl⟩) hS (fun _ h => h) (fun _ h => h) (fun q_55 H locs hY hk hS => ?_)
          obtain ⟨hq_55, hP⟩ := hY
          replace hq_55 := hq_55.symm
          subst hq_55
          refine lv_goto (tgt := 101) hx hb dX12_span_97 (by decide) ?_
          refine lv_iadd hx hb dX12_span_101 ?_
          refine lv_topi (fun x_56 ex_56 => ?_)
          replace h := gb_lt_s ex_56 h
          refine lv_istore (lv' := [(8, .int x_56), (7, .int x_47), (0, .ref (b + 0)), (2, .int v2), (3, .int v3), (4, .int v4), (5, .int v5), (6, .int v6), (9, .int v9)]) hx hb dX12_span_102 hl (by decide) rfl (fun ls hl => ?_)
          obtain ⟨x_57, ex_57⟩ : ∃ q, q = (v9 + 1) := ⟨_, rfl⟩
          replace h := gb_lt_s ex_57 h
          refine lv_iinc (v := x_57) (lv' := [(9, .int x_57), (8, .int x_56), (7, .int x_47), (0, .ref (b + 0)), (2, .int v2), (3, .int v3), (4, .int v4), (5, .int v5), (6, .int v6)]) hx hb dX12_span_104 hl (k := 8) rfl (by rw [ex_57]; rfl) (by decide) rfl (fun ls hl => ?_)
          refine lv_goto (tgt := 56) hx hb dX12_span_107 (by decide) ?_
          exact ih _ _ _ _ _ _ _ _ _ _ _ _ _ h hP hS (lv_sub hl [3, 4, 5, 6, 7, 8, 2, 1, 0] rfl)
  have L36 : ∀ (mm : Nat) (f : gb_F) (w : Int64) (v2 : Int32) (v3 : Int32) (v4 : Int32) (v5 : Int32) (v6 : Int32) (H : Heap) (locs : List Loc) (ls : Array Slot), ms_span_36 n mm f w v2 v3 v4 v5 v6 = some (fE, wE, rE) → va_P D vwCl (gb_wl b (gb_MW cT b f w)) H → va_S (gb_fr b 22) s.heap H locs → lv_has ls 10 [(0, .ref (b + 0)), (2, .int v2), (3, .int v3), (4, .int v4), (5, .int v5), (6, .int v6)] → W p l e (headSpec (.code yX12_span cX12_span 10 (some FieldType.int) :: gb_wA) ({ frames := 4, cells := 0, slots := 0, locals := 92 })).room s m ([.ref (b + 0), .int p1, .int p2, .int p3, .int p4]).toArray below meth c H locs 0 0 (MQ below (gb_Qi (fun r h => r = rE ∧ va_P D vwCl (gb_wl b (gb_MW cT b fE wE)) h) (gb_fr b 22)) ([.ref (b + 0), .int p1, .int p2, .int p3, .int p4]).toArray s 0 0 (gb_fr b 22)) (F0 m 36 ls []) := by
    clear h hP hS hl ls f w
    intro mm
    induction mm with
    | zero =>
      intro f w v2 v3 v4 v5 v6 H locs ls h
      cases h
    | succ mm ih =>
      intro f w v2 v3 v4 v5 v6 H locs ls h hP hS hl
      rw [ms_span_36] at h
      refine lv_iload hx hb dX12_span_36 (lv_at hl 5 rfl) ?_
      refine lv_iconst (v := 1) hx hb dX12_span_38 (by decide) ?_
      refine lv_aload_n hx hb dX12_span_39 rfl (lv_at hl 0 rfl) ?_
      obtain ⟨f_24, wl_25, r_26, z_27, h⟩ := gb_bd_s h
      refine gb_calli (va_runV (C := RX12) (As := []) (rest := [.int 1, .int v6]) ⟨hx, hb, hml, hown, hq⟩ (mc_geese l D cT tt b1 b hb1 n f w f_24 wl_25 r_26 z_27) (cwV 0 hq (gb_gV w_1396 w_1398 s_4_7 w_14 w_1399) rfl rfl rfl (by decide +kernel) ⟨Nat.le_of_ble_eq_true rfl, Nat.le_of_ble_eq_true rfl⟩) (gb_preV (r := (RX12, TX12, 44)) (ci := 10) (q0 := 0) hSt hP rfl (gb_at b rfl) hS (fun q h => Nat.le_trans hb1 h.1) hP) rfl rfl hl.1 rfl (lv_room (Nat.le_of_ble_eq_true rfl)) dX12_span_40 ⟨Nat.le_of_ble_eq_true rfl, Nat.le_of_ble_eq_true rfl⟩) hS (fun _ h => h) (fun _ h => h) (fun q_28 H locs hY hk hS => ?_)
      obtain ⟨hq_28, hP⟩ := hY
      replace hq_28 := hq_28.symm
      subst hq_28
      refine lv_ishl hx hb dX12_span_43 ?_
      refine lv_icmp_ge (tgt := 153) hx hb dX12_span_44 (by decide) (fun c_29 => ?_) (fun c_29 => ?_)
      · rw [if_pos c_29] at h
        refine lv_iload hx hb dX12_span_153 (lv_at hl 4 rfl) ?_
        obtain ⟨e1, e2, e3⟩ := gb_eq3 h
        exact W.iret (v := v5) hx hb hr (fun t ht hW => gb_ri ht ⟨e3, by rw [← e1, ← e2]; exact hP⟩ hS) hS.2.2 dX12_span_155
      · rw [if_neg c_29] at h
        refine lv_iconst (v := 0) hx hb dX12_span_47 (by decide) ?_
        refine lv_istore (lv' := [(7, .int 0), (0, .ref (b + 0)), (2, .int v2), (3, .int v3), (4, .int v4), (5, .int v5), (6, .int v6)]) hx hb dX12_span_48 hl (by decide) rfl (fun ls hl => ?_)
        refine lv_iconst (v := 0) hx hb dX12_span_50 (by decide) ?_
        refine lv_istore (lv' := [(8, .int 0), (7, .int 0), (0, .ref (b + 0)), (2, .int v2), (3, .int v3), (4, .int v4), (5, .int v5), (6, .int v6)]) hx hb dX12_span_51 hl (by decide) rfl (fun ls hl => ?_)
        refine lv_iconst (v := 0) hx hb dX12_span_53 (by decide) ?_
        refine lv_istore (lv' := [(9, .int 0), (8, .int 0), (7, .int 0), (0, .ref (b + 0)), (2, .int v2), (3, .int v3), (4, .int v4), (5, .int v5), (6, .int v6)]) hx hb dX12_span_54 hl (by decide) rfl (fun ls hl => ?_)
        exact L56 _ ih n _ _ _ _ _ _ _ _ _ _ _ _ _ h hP hS (lv_sub hl [3, 4, 5, 6, 7, 8, 2, 1, 0] rfl)
  unfold ms_span at h
  refine lv_aload_n hx hb dX12_span_0 rfl (lv_at hl 0 rfl) ?_
  refine lv_iload_n hx hb dX12_span_1 rfl (lv_at hl 1 rfl) ?_
  obtain ⟨f_1, wl_2, r_3, z_4, h⟩ := gb_bd_s h
  refine gb_calli (va_runV (C := RX12) (As := [.int p1]) (rest := []) ⟨hx, hb, hml, hown, hq⟩ (mc_isBorder l D cT tt b1 b hb1 n f w p1 f_1 wl_2 r_3 z_4) (cwV 1 hq (gb_gV w_1372 w_1374 s_4_1 w_14 w_1375) rfl rfl rfl (by decide +kernel) ⟨Nat.le_of_ble_eq_true rfl, Nat.le_of_ble_eq_true rfl⟩) (gb_preV (r := (RX12, TX12, 44)) (ci := 10) (q0 := 0) hSt hP rfl (gb_at b rfl) hS (fun q h => Nat.le_trans hb1 h.1) hP) rfl rfl hl.1 rfl (lv_room (Nat.le_of_ble_eq_true rfl)) dX12_span_2 ⟨Nat.le_of_ble_eq_true rfl, Nat.le_of_ble_eq_true rfl⟩) hS (fun _ h => h) (fun _ h => h) (fun q_5 H locs hY hk hS => ?_)
  obtain ⟨hq_5, hP⟩ := hY
  replace hq_5 := hq_5.symm
  subst hq_5
  refine lv_if_eq (tgt := 28) hx hb dX12_span_5 (by decide) (fun c_6 => ?_) (fun c_6 => ?_)
  · rw [if_pos c_6] at h
    refine lv_iconst (v := (-1)) hx hb dX12_span_28 (by decide) ?_
    obtain ⟨e1, e2, e3⟩ := gb_eq3 h
    exact W.iret (v := (-1)) hx hb hr (fun t ht hW => gb_ri ht ⟨e3, by rw [← e1, ← e2]; exact hP⟩ hS) hS.2.2 dX12_span_29
  · rw [if_neg c_6] at h
    refine lv_aload_n hx hb dX12_span_8 rfl (lv_at hl 0 rfl) ?_
    refine lv_iload_n hx hb dX12_span_9 rfl (lv_at hl 2 rfl) ?_
    obtain ⟨f_7, wl_8, r_9, z_10, h⟩ := gb_bd_s h
    refine gb_calli (va_runV (C := RX12) (As := [.int p2]) (rest := []) ⟨hx, hb, hml, hown, hq⟩ (mc_isPath l D cT tt b1 b hb1 n f_1 wl_2 p2 f_7 wl_8 r_9 z_10) (cwV 1 hq (gb_gV w_1380 w_1382 s_4_3 w_14 w_1383) rfl rfl rfl (by decide +kernel) ⟨Nat.le_of_ble_eq_true rfl, Nat.le_of_ble_eq_true rfl⟩) (gb_preV (r := (RX12, TX12, 44)) (ci := 10) (q0 := 0) hSt hP rfl (gb_at b rfl) hS (fun q h => Nat.le_trans hb1 h.1) hP) rfl rfl hl.1 rfl (lv_room (Nat.le_of_ble_eq_true rfl)) dX12_span_10 ⟨Nat.le_of_ble_eq_true rfl, Nat.le_of_ble_eq_true rfl⟩) hS (fun _ h => h) (fun _ h => h) (fun q_11 H locs hY hk hS => ?_)
    obtain ⟨hq_11, hP⟩ := hY
    replace hq_11 := hq_11.symm
    subst hq_11
    refine lv_if_eq (tgt := 28) hx hb dX12_span_13 (by decide) (fun c_12 => ?_) (fun c_12 => ?_)
    · rw [if_pos c_12] at h
      refine lv_iconst (v := (-1)) hx hb dX12_span_28 (by decide) ?_
      obtain ⟨e1, e2, e3⟩ := gb_eq3 h
      exact W.iret (v := (-1)) hx hb hr (fun t ht hW => gb_ri ht ⟨e3, by rw [← e1, ← e2]; exact hP⟩ hS) hS.2.2 dX12_span_29
    · rw [if_neg c_12] at h
      refine lv_iload_n hx hb dX12_span_16 rfl (lv_at hl 3 rfl) ?_
      refine lv_iconst (v := 0) hx hb dX12_span_17 (by decide) ?_
      refine lv_aload_n hx hb dX12_span_18 rfl (lv_at hl 0 rfl) ?_
      obtain ⟨f_13, wl_14, r_15, z_16, h⟩ := gb_bd_s h
      refine gb_calli (va_runV (C := RX12) (As := []) (rest := [.int 0, .int p3]) ⟨hx, hb, hml, hown, hq⟩ (mc_geese l D cT tt b1 b hb1 n f_7 wl_8 f_13 wl_14 r_15 z_16) (cwV 0 hq (gb_gV w_1396 w_1398 s_4_7 w_14 w_1399) rfl rfl rfl (by decide +kernel) ⟨Nat.le_of_ble_eq_true rfl, Nat.le_of_ble_eq_true rfl⟩) (gb_preV (r := (RX12, TX12, 44)) (ci := 10) (q0 := 0) hSt hP rfl (gb_at b rfl) hS (fun q h => Nat.le_trans hb1 h.1) hP) rfl rfl hl.1 rfl (lv_room (Nat.le_of_ble_eq_true rfl)) dX12_span_19 ⟨Nat.le_of_ble_eq_true rfl, Nat.le_of_ble_eq_true rfl⟩) hS (fun _ h => h) (fun _ h => h) (fun q_17 H locs hY hk hS => ?_)
      obtain ⟨hq_17, hP⟩ := hY
      replace hq_17 := hq_17.symm
      subst hq_17
      obtain ⟨f_18, wl_19, r_20, z_21, h⟩ := gb_bd_s h
      refine gb_calli (va_runS (As := [.int p3, .int 0, .int r_15]) (rest := []) ⟨hx, hb, hml, hown, hq⟩ (mc_isIn l D cT tt b1 b hb1 n f_13 wl_14 p3 0 r_15 f_18 wl_19 r_20 z_21) (va_cwS 3 hq (gb_gS w_1269 w_1270 w_14 w_1271) rfl rfl rfl (by decide +kernel) ⟨Nat.le_of_ble_eq_true rfl, Nat.le_of_ble_eq_true rfl⟩) (gb_preS hSt hS (fun q h => Nat.le_trans hb1 h.1) hP) rfl rfl hl.1 rfl (lv_room (Nat.le_of_ble_eq_true rfl)) dX12_span_22 ⟨Nat.le_of_ble_eq_true rfl, Nat.le_of_ble_eq_true rfl⟩) hS (fun _ h => h) (fun _ h => h) (fun q_22 H locs hY hk hS => ?_)
      obtain ⟨hq_22, hP⟩ := hY
      replace hq_22 := hq_22.symm
      subst hq_22
      refine lv_if_ne (tgt := 30) hx hb dX12_span_25 (by decide) (fun c_23 => ?_) (fun c_23 => ?_)
      · rw [if_neg c_23] at h
        refine lv_iconst (v := (-1)) hx hb dX12_span_30 (by decide) ?_
        refine lv_istore (lv' := [(5, .int (-1)), (0, .ref (b + 0)), (1, .int p1), (2, .int p2), (3, .int p3), (4, .int p4)]) hx hb dX12_span_31 hl (by decide) rfl (fun ls hl => ?_)
        refine lv_iconst (v := 0) hx hb dX12_span_33 (by decide) ?_
        refine lv_istore (lv' := [(6, .int 0), (5, .int (-1)), (0, .ref (b + 0)), (1, .int p1), (2, .int p2), (3, .int p3), (4, .int p4)]) hx hb dX12_span_34 hl (by decide) rfl (fun ls hl => ?_)
        exact L36 n _ _ _ _ _ _ _ _ _ _ h hP hS (lv_sub hl [2, 4, 5, 6, 1, 0] rfl)
      · rw [if_pos c_23] at h
        refine lv_iconst (v := (-1)) hx hb dX12_span_28 (by decide) ?_
        obtain ⟨e1, e2, e3⟩ := gb_eq3 h
        exact W.iret (v := (-1)) hx hb hr (fun t ht hW => gb_ri ht ⟨e3, by rw [← e1, ← e2]; exact hP⟩ hS) hS.2.2 dX12_span_29
theorem dX12_split_0 : decode cX12_split 0 = .ok (.aload_n 0, 1) := dc_42 (show ((cX12_split.data.toList.drop 0).take 1).map UInt8.toNat = [42] by decide +kernel)
theorem dX12_split_1 : decode cX12_split 1 = .ok (.iload_n 1, 1) := dc_27 (show ((cX12_split.data.toList.drop 1).take 1).map UInt8.toNat = [27] by decide +kernel)
theorem dX12_split_2 : decode cX12_split 2 = .ok (.invokevirtual 205, 3) := dc_182 (show ((cX12_split.data.toList.drop 2).take 3).map UInt8.toNat = [182, 0, 205] by decide +kernel) rfl
theorem dX12_split_5 : decode cX12_split 5 = .ok (.ifCond .eq 24, 3) := dc_153 (show ((cX12_split.data.toList.drop 5).take 3).map UInt8.toNat = [153, 0, 24] by decide +kernel) rfl
theorem dX12_split_29 : decode cX12_split 29 = .ok (.iconst (-1), 1) := dc_2 (show ((cX12_split.data.toList.drop 29).take 1).map UInt8.toNat = [2] by decide +kernel)
theorem dX12_split_30 : decode cX12_split 30 = .ok (.ireturn, 1) := dc_172 (show ((cX12_split.data.toList.drop 30).take 1).map UInt8.toNat = [172] by decide +kernel)
theorem dX12_split_8 : decode cX12_split 8 = .ok (.aload_n 0, 1) := dc_42 (show ((cX12_split.data.toList.drop 8).take 1).map UInt8.toNat = [42] by decide +kernel)
theorem dX12_split_9 : decode cX12_split 9 = .ok (.iload_n 2, 1) := dc_28 (show ((cX12_split.data.toList.drop 9).take 1).map UInt8.toNat = [28] by decide +kernel)
theorem dX12_split_10 : decode cX12_split 10 = .ok (.invokevirtual 208, 3) := dc_182 (show ((cX12_split.data.toList.drop 10).take 3).map UInt8.toNat = [182, 0, 208] by decide +kernel) rfl
theorem dX12_split_13 : decode cX12_split 13 = .ok (.ifCond .eq 16, 3) := dc_153 (show ((cX12_split.data.toList.drop 13).take 3).map UInt8.toNat = [153, 0, 16] by decide +kernel) rfl
theorem dX12_split_16 : decode cX12_split 16 = .ok (.aload_n 0, 1) := dc_42 (show ((cX12_split.data.toList.drop 16).take 1).map UInt8.toNat = [42] by decide +kernel)
theorem dX12_split_17 : decode cX12_split 17 = .ok (.iload_n 3, 1) := dc_29 (show ((cX12_split.data.toList.drop 17).take 1).map UInt8.toNat = [29] by decide +kernel)
theorem dX12_split_18 : decode cX12_split 18 = .ok (.invokevirtual 208, 3) := dc_182 (show ((cX12_split.data.toList.drop 18).take 3).map UInt8.toNat = [182, 0, 208] by decide +kernel) rfl
theorem dX12_split_21 : decode cX12_split 21 = .ok (.ifCond .eq 8, 3) := dc_153 (show ((cX12_split.data.toList.drop 21).take 3).map UInt8.toNat = [153, 0, 8] by decide +kernel) rfl
theorem dX12_split_24 : decode cX12_split 24 = .ok (.iload_n 2, 1) := dc_28 (show ((cX12_split.data.toList.drop 24).take 1).map UInt8.toNat = [28] by decide +kernel)
theorem dX12_split_25 : decode cX12_split 25 = .ok (.iload_n 3, 1) := dc_29 (show ((cX12_split.data.toList.drop 25).take 1).map UInt8.toNat = [29] by decide +kernel)
theorem dX12_split_26 : decode cX12_split 26 = .ok (.if_icmp .ne 5, 3) := dc_160 (show ((cX12_split.data.toList.drop 26).take 3).map UInt8.toNat = [160, 0, 5] by decide +kernel) rfl
theorem dX12_split_31 : decode cX12_split 31 = .ok (.iconst (-1), 1) := dc_2 (show ((cX12_split.data.toList.drop 31).take 1).map UInt8.toNat = [2] by decide +kernel)
theorem dX12_split_32 : decode cX12_split 32 = .ok (.istore 5, 2) := dc_54 (show ((cX12_split.data.toList.drop 32).take 2).map UInt8.toNat = [54, 5] by decide +kernel) rfl
theorem dX12_split_34 : decode cX12_split 34 = .ok (.iconst 0, 1) := dc_3 (show ((cX12_split.data.toList.drop 34).take 1).map UInt8.toNat = [3] by decide +kernel)
theorem dX12_split_35 : decode cX12_split 35 = .ok (.istore 6, 2) := dc_54 (show ((cX12_split.data.toList.drop 35).take 2).map UInt8.toNat = [54, 6] by decide +kernel) rfl
theorem dX12_split_37 : decode cX12_split 37 = .ok (.iconst 0, 1) := dc_3 (show ((cX12_split.data.toList.drop 37).take 1).map UInt8.toNat = [3] by decide +kernel)
theorem dX12_split_38 : decode cX12_split 38 = .ok (.istore 7, 2) := dc_54 (show ((cX12_split.data.toList.drop 38).take 2).map UInt8.toNat = [54, 7] by decide +kernel) rfl
theorem dX12_split_40 : decode cX12_split 40 = .ok (.iload 7, 2) := dc_21 (show ((cX12_split.data.toList.drop 40).take 2).map UInt8.toNat = [21, 7] by decide +kernel) rfl
theorem dX12_split_42 : decode cX12_split 42 = .ok (.iconst 1, 1) := dc_4 (show ((cX12_split.data.toList.drop 42).take 1).map UInt8.toNat = [4] by decide +kernel)
theorem dX12_split_43 : decode cX12_split 43 = .ok (.aload_n 0, 1) := dc_42 (show ((cX12_split.data.toList.drop 43).take 1).map UInt8.toNat = [42] by decide +kernel)
theorem dX12_split_44 : decode cX12_split 44 = .ok (.invokevirtual 202, 3) := dc_182 (show ((cX12_split.data.toList.drop 44).take 3).map UInt8.toNat = [182, 0, 202] by decide +kernel) rfl
theorem dX12_split_47 : decode cX12_split 47 = .ok (.ishl, 1) := dc_120 (show ((cX12_split.data.toList.drop 47).take 1).map UInt8.toNat = [120] by decide +kernel)
theorem dX12_split_48 : decode cX12_split 48 = .ok (.if_icmp .ge 102, 3) := dc_162 (show ((cX12_split.data.toList.drop 48).take 3).map UInt8.toNat = [162, 0, 102] by decide +kernel) rfl
theorem dX12_split_150 : decode cX12_split 150 = .ok (.iload 4, 2) := dc_21 (show ((cX12_split.data.toList.drop 150).take 2).map UInt8.toNat = [21, 4] by decide +kernel) rfl
theorem dX12_split_152 : decode cX12_split 152 = .ok (.ifCond .eq 8, 3) := dc_153 (show ((cX12_split.data.toList.drop 152).take 3).map UInt8.toNat = [153, 0, 8] by decide +kernel) rfl
theorem dX12_split_160 : decode cX12_split 160 = .ok (.iload 5, 2) := dc_21 (show ((cX12_split.data.toList.drop 160).take 2).map UInt8.toNat = [21, 5] by decide +kernel) rfl
theorem dX12_split_162 : decode cX12_split 162 = .ok (.ireturn, 1) := dc_172 (show ((cX12_split.data.toList.drop 162).take 1).map UInt8.toNat = [172] by decide +kernel)
theorem dX12_split_155 : decode cX12_split 155 = .ok (.iload 6, 2) := dc_21 (show ((cX12_split.data.toList.drop 155).take 2).map UInt8.toNat = [21, 6] by decide +kernel) rfl
theorem dX12_split_157 : decode cX12_split 157 = .ok (.goto 5, 3) := dc_167 (show ((cX12_split.data.toList.drop 157).take 3).map UInt8.toNat = [167, 0, 5] by decide +kernel) rfl
theorem dX12_split_51 : decode cX12_split 51 = .ok (.iconst 0, 1) := dc_3 (show ((cX12_split.data.toList.drop 51).take 1).map UInt8.toNat = [3] by decide +kernel)
theorem dX12_split_52 : decode cX12_split 52 = .ok (.istore 8, 2) := dc_54 (show ((cX12_split.data.toList.drop 52).take 2).map UInt8.toNat = [54, 8] by decide +kernel) rfl
theorem dX12_split_54 : decode cX12_split 54 = .ok (.iconst 0, 1) := dc_3 (show ((cX12_split.data.toList.drop 54).take 1).map UInt8.toNat = [3] by decide +kernel)
theorem dX12_split_55 : decode cX12_split 55 = .ok (.istore 9, 2) := dc_54 (show ((cX12_split.data.toList.drop 55).take 2).map UInt8.toNat = [54, 9] by decide +kernel) rfl
theorem dX12_split_57 : decode cX12_split 57 = .ok (.iload 9, 2) := dc_21 (show ((cX12_split.data.toList.drop 57).take 2).map UInt8.toNat = [21, 9] by decide +kernel) rfl
theorem dX12_split_59 : decode cX12_split 59 = .ok (.aload_n 0, 1) := dc_42 (show ((cX12_split.data.toList.drop 59).take 1).map UInt8.toNat = [42] by decide +kernel)
theorem dX12_split_60 : decode cX12_split 60 = .ok (.invokevirtual 202, 3) := dc_182 (show ((cX12_split.data.toList.drop 60).take 3).map UInt8.toNat = [182, 0, 202] by decide +kernel) rfl
theorem dX12_split_63 : decode cX12_split 63 = .ok (.if_icmp .ge 43, 3) := dc_162 (show ((cX12_split.data.toList.drop 63).take 3).map UInt8.toNat = [162, 0, 43] by decide +kernel) rfl
theorem dX12_split_106 : decode cX12_split 106 = .ok (.iload 8, 2) := dc_21 (show ((cX12_split.data.toList.drop 106).take 2).map UInt8.toNat = [21, 8] by decide +kernel) rfl
theorem dX12_split_108 : decode cX12_split 108 = .ok (.ifCond .ge 9, 3) := dc_156 (show ((cX12_split.data.toList.drop 108).take 3).map UInt8.toNat = [156, 0, 9] by decide +kernel) rfl
theorem dX12_split_117 : decode cX12_split 117 = .ok (.iload 8, 2) := dc_21 (show ((cX12_split.data.toList.drop 117).take 2).map UInt8.toNat = [21, 8] by decide +kernel) rfl
theorem dX12_split_119 : decode cX12_split 119 = .ok (.istore 8, 2) := dc_54 (show ((cX12_split.data.toList.drop 119).take 2).map UInt8.toNat = [54, 8] by decide +kernel) rfl
theorem dX12_split_121 : decode cX12_split 121 = .ok (.iload 5, 2) := dc_21 (show ((cX12_split.data.toList.drop 121).take 2).map UInt8.toNat = [21, 5] by decide +kernel) rfl
theorem dX12_split_123 : decode cX12_split 123 = .ok (.ifCond .lt 13, 3) := dc_155 (show ((cX12_split.data.toList.drop 123).take 3).map UInt8.toNat = [155, 0, 13] by decide +kernel) rfl
theorem dX12_split_136 : decode cX12_split 136 = .ok (.iload 7, 2) := dc_21 (show ((cX12_split.data.toList.drop 136).take 2).map UInt8.toNat = [21, 7] by decide +kernel) rfl
theorem dX12_split_138 : decode cX12_split 138 = .ok (.istore 5, 2) := dc_54 (show ((cX12_split.data.toList.drop 138).take 2).map UInt8.toNat = [54, 5] by decide +kernel) rfl
theorem dX12_split_140 : decode cX12_split 140 = .ok (.iload 8, 2) := dc_21 (show ((cX12_split.data.toList.drop 140).take 2).map UInt8.toNat = [21, 8] by decide +kernel) rfl
theorem dX12_split_142 : decode cX12_split 142 = .ok (.istore 6, 2) := dc_54 (show ((cX12_split.data.toList.drop 142).take 2).map UInt8.toNat = [54, 6] by decide +kernel) rfl
theorem dX12_split_144 : decode cX12_split 144 = .ok (.iinc 7 1, 3) := dc_132 (show ((cX12_split.data.toList.drop 144).take 3).map UInt8.toNat = [132, 7, 1] by decide +kernel) rfl
theorem dX12_split_147 : decode cX12_split 147 = .ok (.goto (-107), 3) := dc_167 (show ((cX12_split.data.toList.drop 147).take 3).map UInt8.toNat = [167, 255, 149] by decide +kernel) rfl
theorem dX12_split_126 : decode cX12_split 126 = .ok (.iload 8, 2) := dc_21 (show ((cX12_split.data.toList.drop 126).take 2).map UInt8.toNat = [21, 8] by decide +kernel) rfl
theorem dX12_split_128 : decode cX12_split 128 = .ok (.iload 6, 2) := dc_21 (show ((cX12_split.data.toList.drop 128).take 2).map UInt8.toNat = [21, 6] by decide +kernel) rfl
theorem dX12_split_130 : decode cX12_split 130 = .ok (.if_icmp .lt 6, 3) := dc_161 (show ((cX12_split.data.toList.drop 130).take 3).map UInt8.toNat = [161, 0, 6] by decide +kernel) rfl
theorem dX12_split_133 : decode cX12_split 133 = .ok (.goto 11, 3) := dc_167 (show ((cX12_split.data.toList.drop 133).take 3).map UInt8.toNat = [167, 0, 11] by decide +kernel) rfl
theorem dX12_split_111 : decode cX12_split 111 = .ok (.iload 8, 2) := dc_21 (show ((cX12_split.data.toList.drop 111).take 2).map UInt8.toNat = [21, 8] by decide +kernel) rfl
theorem dX12_split_113 : decode cX12_split 113 = .ok (.ineg, 1) := dc_116 (show ((cX12_split.data.toList.drop 113).take 1).map UInt8.toNat = [116] by decide +kernel)
theorem dX12_split_114 : decode cX12_split 114 = .ok (.goto 5, 3) := dc_167 (show ((cX12_split.data.toList.drop 114).take 3).map UInt8.toNat = [167, 0, 5] by decide +kernel) rfl
theorem dX12_split_66 : decode cX12_split 66 = .ok (.iload 8, 2) := dc_21 (show ((cX12_split.data.toList.drop 66).take 2).map UInt8.toNat = [21, 8] by decide +kernel) rfl
theorem dX12_split_68 : decode cX12_split 68 = .ok (.iload 7, 2) := dc_21 (show ((cX12_split.data.toList.drop 68).take 2).map UInt8.toNat = [21, 7] by decide +kernel) rfl
theorem dX12_split_70 : decode cX12_split 70 = .ok (.iload 9, 2) := dc_21 (show ((cX12_split.data.toList.drop 70).take 2).map UInt8.toNat = [21, 9] by decide +kernel) rfl
theorem dX12_split_72 : decode cX12_split 72 = .ok (.ishr, 1) := dc_122 (show ((cX12_split.data.toList.drop 72).take 1).map UInt8.toNat = [122] by decide +kernel)
theorem dX12_split_73 : decode cX12_split 73 = .ok (.iconst 1, 1) := dc_4 (show ((cX12_split.data.toList.drop 73).take 1).map UInt8.toNat = [4] by decide +kernel)
theorem dX12_split_74 : decode cX12_split 74 = .ok (.iand, 1) := dc_126 (show ((cX12_split.data.toList.drop 74).take 1).map UInt8.toNat = [126] by decide +kernel)
theorem dX12_split_75 : decode cX12_split 75 = .ok (.iconst 1, 1) := dc_4 (show ((cX12_split.data.toList.drop 75).take 1).map UInt8.toNat = [4] by decide +kernel)
theorem dX12_split_76 : decode cX12_split 76 = .ok (.if_icmp .ne 13, 3) := dc_160 (show ((cX12_split.data.toList.drop 76).take 3).map UInt8.toNat = [160, 0, 13] by decide +kernel) rfl
theorem dX12_split_89 : decode cX12_split 89 = .ok (.aload_n 0, 1) := dc_42 (show ((cX12_split.data.toList.drop 89).take 1).map UInt8.toNat = [42] by decide +kernel)
theorem dX12_split_90 : decode cX12_split 90 = .ok (.iload 9, 2) := dc_21 (show ((cX12_split.data.toList.drop 90).take 2).map UInt8.toNat = [21, 9] by decide +kernel) rfl
theorem dX12_split_92 : decode cX12_split 92 = .ok (.iload_n 3, 1) := dc_29 (show ((cX12_split.data.toList.drop 92).take 1).map UInt8.toNat = [29] by decide +kernel)
theorem dX12_split_93 : decode cX12_split 93 = .ok (.invokevirtual 297, 3) := dc_182 (show ((cX12_split.data.toList.drop 93).take 3).map UInt8.toNat = [182, 1, 41] by decide +kernel) rfl
theorem dX12_split_96 : decode cX12_split 96 = .ok (.ineg, 1) := dc_116 (show ((cX12_split.data.toList.drop 96).take 1).map UInt8.toNat = [116] by decide +kernel)
theorem dX12_split_97 : decode cX12_split 97 = .ok (.iadd, 1) := dc_96 (show ((cX12_split.data.toList.drop 97).take 1).map UInt8.toNat = [96] by decide +kernel)
theorem dX12_split_98 : decode cX12_split 98 = .ok (.istore 8, 2) := dc_54 (show ((cX12_split.data.toList.drop 98).take 2).map UInt8.toNat = [54, 8] by decide +kernel) rfl
theorem dX12_split_100 : decode cX12_split 100 = .ok (.iinc 9 1, 3) := dc_132 (show ((cX12_split.data.toList.drop 100).take 3).map UInt8.toNat = [132, 9, 1] by decide +kernel) rfl
theorem dX12_split_103 : decode cX12_split 103 = .ok (.goto (-46), 3) := dc_167 (show ((cX12_split.data.toList.drop 103).take 3).map UInt8.toNat = [167, 255, 210] by decide +kernel) rfl
theorem dX12_split_79 : decode cX12_split 79 = .ok (.aload_n 0, 1) := dc_42 (show ((cX12_split.data.toList.drop 79).take 1).map UInt8.toNat = [42] by decide +kernel)
theorem dX12_split_80 : decode cX12_split 80 = .ok (.iload 9, 2) := dc_21 (show ((cX12_split.data.toList.drop 80).take 2).map UInt8.toNat = [21, 9] by decide +kernel) rfl
theorem dX12_split_82 : decode cX12_split 82 = .ok (.iload_n 2, 1) := dc_28 (show ((cX12_split.data.toList.drop 82).take 1).map UInt8.toNat = [28] by decide +kernel)
theorem dX12_split_83 : decode cX12_split 83 = .ok (.invokevirtual 297, 3) := dc_182 (show ((cX12_split.data.toList.drop 83).take 3).map UInt8.toNat = [182, 1, 41] by decide +kernel) rfl
theorem dX12_split_86 : decode cX12_split 86 = .ok (.goto 11, 3) := dc_167 (show ((cX12_split.data.toList.drop 86).take 3).map UInt8.toNat = [167, 0, 11] by decide +kernel) rfl
def ms_split_57 (n : Nat) (k40 : gb_F → Int64 → Int32 → Int32 → Int32 → Int32 → Int32 → Int32 → gb_MR Int32) : Nat → gb_F → Int64 → Int32 → Int32 → Int32 → Int32 → Int32 → Int32 → Int32 → Int32 → gb_MR Int32
  | 0, _, _, _, _, _, _, _, _, _, _ => none
  | mm + 1, f, w, v2, v3, v4, v5, v6, v7, v8, v9 => gb_bd (ms_geese n f w) (fun f_27 wl_28 r_29 => (if r_29 ≤ v9 then (if (0 : Int32) ≤ v8 then (if v5 < 0 then gb_lt (v7 + 1) (fun x_35 => k40 f_27 wl_28 v2 v3 v4 v7 v8 x_35) else (if v8 < v6 then gb_lt (v7 + 1) (fun x_37 => k40 f_27 wl_28 v2 v3 v4 v7 v8 x_37) else gb_lt (v7 + 1) (fun x_38 => k40 f_27 wl_28 v2 v3 v4 v5 v6 x_38))) else gb_lt (-v8) (fun x_39 => (if v5 < 0 then gb_lt (v7 + 1) (fun x_41 => k40 f_27 wl_28 v2 v3 v4 v7 x_39 x_41) else (if x_39 < v6 then gb_lt (v7 + 1) (fun x_43 => k40 f_27 wl_28 v2 v3 v4 v7 x_39 x_43) else gb_lt (v7 + 1) (fun x_44 => k40 f_27 wl_28 v2 v3 v4 v5 v6 x_44))))) else (if ((v7 >>> (v9 &&& 31)) &&& 1) = 1 then gb_bd (ms_firstMarks n f_27 wl_28 v9 v2) (fun f_53 wl_54 r_55 => gb_lt (v8 + r_55) (fun x_58 => gb_lt (v9 + 1) (fun x_59 => ms_split_57 n k40 mm f_53 wl_54 v2 v3 v4 v5 v6 v7 x_58 x_59))) else gb_bd (ms_firstMarks n f_27 wl_28 v9 v3) (fun f_46 wl_47 r_48 => gb_lt (v8 + (-r_48)) (fun x_51 => gb_lt (v9 + 1) (fun x_52 => ms_split_57 n k40 mm f_46 wl_47 v2 v3 v4 v5 v6 v7 x_51 x_52))))))
def ms_split_40 (n : Nat) : Nat → gb_F → Int64 → Int32 → Int32 → Int32 → Int32 → Int32 → Int32 → gb_MR Int32
  | 0, _, _, _, _, _, _, _, _ => none
  | mm + 1, f, w, v2, v3, v4, v5, v6, v7 => gb_bd (ms_geese n f w) (fun f_20 wl_21 r_22 => (if (1 <<< (r_22 &&& 31)) ≤ v7 then (if v4 = 0 then some (f_20, wl_21, v5) else some (f_20, wl_21, v6)) else ms_split_57 n (fun f w v2 v3 v4 v5 v6 v7 => ms_split_40 n mm f w v2 v3 v4 v5 v6 v7) n f_20 wl_21 v2 v3 v4 v5 v6 v7 0 0))
def ms_split (n : Nat) (f : gb_F) (w : Int64) (p1 : Int32) (p2 : Int32) (p3 : Int32) (p4 : Int32) : gb_MR Int32 := gb_bd (ms_isBorder n f w p1) (fun f_1 wl_2 r_3 => (if r_3 = 0 then some (f_1, wl_2, (-1)) else gb_bd (ms_isPath n f_1 wl_2 p2) (fun f_7 wl_8 r_9 => (if r_9 = 0 then some (f_7, wl_8, (-1)) else gb_bd (ms_isPath n f_7 wl_8 p3) (fun f_13 wl_14 r_15 => (if r_15 = 0 then some (f_13, wl_14, (-1)) else (if p2 = p3 then some (f_13, wl_14, (-1)) else ms_split_40 n n f_13 wl_14 p2 p3 p4 (-1) 0 0)))))))
set_option maxHeartbeats 8000000 in
set_option maxRecDepth 100000 in
theorem mc_split (l : Launch) (D : va_G) (cT : Nat → ClassId) (tt : Nat → Nat) (b1 b : Nat) (hb1 : b1 ≤ b) (n : Nat) (f : gb_F) (w : Int64) (p1 : Int32) (p2 : Int32) (p3 : Int32) (p4 : Int32) (fE : gb_F) (wE : Int64) (rE : Int32) (h : ms_split n f w p1 p2 p3 p4 = some (fE, wE, rE)) : Met l yX12_split (.code yX12_split cX12_split 10 (some FieldType.int) :: gb_wA) ({ frames := 4, cells := 0, slots := 0, locals := 92 }) (gb_Pc D cT tt b1 [.ref (b + 0), .int p1, .int p2, .int p3, .int p4] (fun h => va_P D vwCl (gb_wl b (gb_MW cT b f w)) h)) (gb_Qi (fun r h => r = rE ∧ va_P D vwCl (gb_wl b (gb_MW cT b fE wE)) h) (gb_fr b 22)) 0 0 (gb_fr b 22) := by
  refine Met.ofW (cc := cX12_split) (maxL := 10) (ret := (some FieldType.int)) (by decide) rfl ?_
  intro p e s m args below meth c s₁ B hml hv
  obtain ⟨rfl, hSt, hP⟩ := hv
  have hx := B.exec
  have hb := B.bytes
  have hr := B.returns
  have hts := atoms_spec (ws := .code yX12_split cX12_split 10 (some FieldType.int) :: gb_wA) B.pre
  have hq : ∀ w ∈ gb_wA, w.before _ s = true := fun w h => hts w (List.mem_cons_of_mem _ h)
  have hown : s.vm.findClass RX12 = some m.cls := findClass_of_methodNamed B.named
  have hlocks := B.notSynchronized
  clear B hts
  have hK := hSt.1
  have hS : va_S (gb_fr b 22) s.heap s.heap [] := va_S.rf
  have hl := lv_entry ([.ref (b + 0), .int p1, .int p2, .int p3, .int p4]) (n := 10) (Nat.le_of_ble_eq_true rfl)
  rw [lg_entry_eq]
  generalize (lg_sl ([.ref (b + 0), .int p1, .int p2, .int p3, .int p4]) ++ List.replicate (10 - (lg_sl ([.ref (b + 0), .int p1, .int p2, .int p3, .int p4])).length) Slot.unset).toArray = ls at hl ⊢
  replace hl : lv_has ls 10 [(0, .ref (b + 0)), (1, .int p1), (2, .int p2), (3, .int p3), (4, .int p4)] := hl
  have L57 : ∀ (k40 : gb_F → Int64 → Int32 → Int32 → Int32 → Int32 → Int32 → Int32 → gb_MR Int32) (hk40 : ∀ (f : gb_F) (w : Int64) (v2 : Int32) (v3 : Int32) (v4 : Int32) (v5 : Int32) (v6 : Int32) (v7 : Int32) (H : Heap) (locs : List Loc) (ls : Array Slot), k40 f w v2 v3 v4 v5 v6 v7 = some (fE, wE, rE) → va_P D vwCl (gb_wl b (gb_MW cT b f w)) H → va_S (gb_fr b 22) s.heap H locs → lv_has ls 10 [(0, .ref (b + 0)), (2, .int v2), (3, .int v3), (4, .int v4), (5, .int v5), (6, .int v6), (7, .int v7)] → W p l e (headSpec (.code yX12_split cX12_split 10 (some FieldType.int) :: gb_wA) ({ frames := 4, cells := 0, slots := 0, locals := 92 })).room s m ([.ref (b + 0), .int p1, .int p2, .int p3, .int p4]).toArray below meth c H locs 0 0 (MQ below (gb_Qi (fun r h => r = rE ∧ va_P D vwCl (gb_wl b (gb_MW cT b fE wE)) h) (gb_fr b 22)) ([.ref (b + 0), .int p1, .int p2, .int p3, .int p4]).toArray s 0 0 (gb_fr b 22)) (F0 m 40 ls [])) (mm : Nat) (f : gb_F) (w : Int64) (v2 : Int32) (v3 : Int32) (v4 : Int32) (v5 : Int32) (v6 : Int32) (v7 : Int32) (v8 : Int32) (v9 : Int32) (H : Heap) (locs : List Loc) (ls : Array Slot), ms_split_57 n k40 mm f w v2 v3 v4 v5 v6 v7 v8 v9 = some (fE, wE, rE) → va_P D vwCl (gb_wl b (gb_MW cT b f w)) H → va_S (gb_fr b 22) s.heap H locs → lv_has ls 10 [(0, .ref (b + 0)), (2, .int v2), (3, .int v3), (4, .int v4), (5, .int v5), (6, .int v6), (7, .int v7), (8, .int v8), (9, .int v9)] → W p l e (headSpec (.code yX12_split cX12_split 10 (some FieldType.int) :: gb_wA) ({ frames := 4, cells := 0, slots := 0, locals := 92 })).room s m ([.ref (b + 0), .int p1, .int p2, .int p3, .int p4]).toArray below meth c H locs 0 0 (MQ below (gb_Qi (fun r h => r = rE ∧ va_P D vwCl (gb_wl b (gb_MW cT b fE wE)) h) (gb_fr b 22)) ([.ref (b + 0), .int p1, .int p2, .int p3, .int p4]).toArray s 0 0 (gb_fr b 22)) (F0 m 57 ls []) := by
    clear h hP hS hl ls f w
    intro k40 hk40 mm
    induction mm with
    | zero =>
      intro f w v2 v3 v4 v5 v6 v7 v8 v9 H locs ls h
      cases h
    | succ mm ih =>
      intro f w v2 v3 v4 v5 v6 v7 v8 v9 H locs ls h hP hS hl
      rw [ms_split_57] at h
      refine lv_iload hx hb dX12_split_57 (lv_at hl 8 rfl) ?_
      refine lv_aload_n hx hb dX12_split_59 rfl (lv_at hl 0 rfl) ?_
      obtain ⟨f_27, wl_28, r_29, z_30, h⟩ := gb_bd_s h
      refine gb_calli (va_runV (C := RX12) (As := []) (rest := [.int v9]) ⟨hx, hb, hml, hown, hq⟩ (mc_geese l D cT tt b1 b hb1 n f w f_27 wl_28 r_29 z_30) (cwV 0 hq (gb_gV w_1396 w_1398 s_4_7 w_14 w_1399) rfl rfl rfl (by decide +kernel) ⟨Nat.le_of_ble_eq_true rfl, Nat.le_of_ble_eq_true rfl⟩) (gb_preV (r := (RX12, TX12, 44)) (ci := 10) (q0 := 0) hSt hP rfl (gb_at b rfl) hS (fun q h => Nat.le_trans hb1 h.1) hP) rfl rfl hl.1 rfl (lv_room (Nat.le_of_ble_eq_true rfl)) dX12_split_60 ⟨Nat.le_of_ble_eq_true rfl, Nat.le_of_ble_eq_true rfl⟩) hS (fun _ h => h) (fun _ h => h) (fun q_31 H locs hY hk hS => ?_)
      obtain ⟨hq_31, hP⟩ := hY
      replace hq_31 := hq_31.symm
      subst hq_31
      refine lv_icmp_ge (tgt := 106) hx hb dX12_split_63 (by decide) (fun c_32 => ?_) (fun c_32 => ?_)
      · rw [if_pos c_32] at h
        refine lv_iload hx hb dX12_split_106 (lv_at hl 7 rfl) ?_
        refine lv_if_ge (tgt := 117) hx hb dX12_split_108 (by decide) (fun c_33 => ?_) (fun c_33 => ?_)
        · rw [if_pos c_33] at h
          refine lv_iload hx hb dX12_split_117 (lv_at hl 7 rfl) ?_
          refine lv_istore (lv' := [(8, .int v8), (0, .ref (b + 0)), (2, .int v2), (3, .int v3), (4, .int v4), (5, .int v5), (6, .int v6), (7, .int v7), (9, .int v9)]) hx hb dX12_split_119 hl (by decide) rfl (fun ls hl => ?_)
          refine lv_iload hx hb dX12_split_121 (lv_at hl 5 rfl) ?_
          refine lv_if_lt (tgt := 136) hx hb dX12_split_123 (by decide) (fun c_34 => ?_) (fun c_34 => ?_)
          · rw [if_pos c_34] at h
            refine lv_iload hx hb dX12_split_136 (lv_at hl 7 rfl) ?_
            refine lv_istore (lv' := [(5, .int v7), (8, .int v8), (0, .ref (b + 0)), (2, .int v2), (3, .int v3), (4, .int v4), (6, .int v6), (7, .int v7), (9, .int v9)]) hx hb dX12_split_138 hl (by decide) rfl (fun ls hl => ?_)
            refine lv_iload hx hb dX12_split_140 (lv_at hl 1 rfl) ?_
            refine lv_istore (lv' := [(6, .int v8), (5, .int v7), (8, .int v8), (0, .ref (b + 0)), (2, .int v2), (3, .int v3), (4, .int v4), (7, .int v7), (9, .int v9)]) hx hb dX12_split_142 hl (by decide) rfl (fun ls hl => ?_)
            obtain ⟨x_35, ex_35⟩ : ∃ q, q = (v7 + 1) := ⟨_, rfl⟩
            replace h := gb_lt_s ex_35 h
            refine lv_iinc (v := x_35) (lv' := [(7, .int x_35), (6, .int v8), (5, .int v7), (8, .int v8), (0, .ref (b + 0)), (2, .int v2), (3, .int v3), (4, .int v4), (9, .int v9)]) hx hb dX12_split_144 hl (k := 7) rfl (by rw [ex_35]; rfl) (by decide) rfl (fun ls hl => ?_)
            refine lv_goto (tgt := 40) hx hb dX12_split_147 (by decide) ?_
            exact hk40 _ _ _ _ _ _ _ _ _ _ _ h hP hS (lv_sub hl [4, 5, 6, 7, 2, 1, 0] rfl)
          · rw [if_neg c_34] at h
            refine lv_iload hx hb dX12_split_126 (lv_at hl 0 rfl) ?_
            refine lv_iload hx hb dX12_split_128 (lv_at hl 6 rfl) ?_
            refine lv_icmp_lt (tgt := 136) hx hb dX12_split_130 (by decide) (fun c_36 => ?_) (fun c_36 => ?_)
            · rw [if_pos c_36] at h
              refine lv_iload hx hb dX12_split_136 (lv_at hl 7 rfl) ?_
              refine lv_istore (lv' := [(5, .int v7), (8, .int v8), (0, .ref (b + 0)), (2, .int v2), (3, .int v3), (4, .int v4), (6, .int v6), (7, .int v7), (9, .int v9)]) hx hb dX12_split_138 hl (by decide) rfl (fun ls hl => ?_)
              refine lv_iload hx hb dX12_split_140 (lv_at hl 1 rfl) ?_
              refine lv_istore (lv' := [(6, .int v8), (5, .int v7), (8, .int v8), (0, .ref (b + 0)), (2, .int v2), (3, .int v3), (4, .int v4), (7, .int v7), (9, .int v9)]) hx hb dX12_split_142 hl (by decide) rfl (fun ls hl => ?_)
              obtain ⟨x_37, ex_37⟩ : ∃ q, q = (v7 + 1) := ⟨_, rfl⟩
              replace h := gb_lt_s ex_37 h
              refine lv_iinc (v := x_37) (lv' := [(7, .int x_37), (6, .int v8), (5, .int v7), (8, .int v8), (0, .ref (b + 0)), (2, .int v2), (3, .int v3), (4, .int v4), (9, .int v9)]) hx hb dX12_split_144 hl (k := 7) rfl (by rw [ex_37]; rfl) (by decide) rfl (fun ls hl => ?_)
              refine lv_goto (tgt := 40) hx hb dX12_split_147 (by decide) ?_
              exact hk40 _ _ _ _ _ _ _ _ _ _ _ h hP hS (lv_sub hl [4, 5, 6, 7, 2, 1, 0] rfl)
            · rw [if_neg c_36] at h
              refine lv_goto (tgt := 144) hx hb dX12_split_133 (by decide) ?_
              obtain ⟨x_38, ex_38⟩ : ∃ q, q = (v7 + 1) := ⟨_, rfl⟩
              replace h := gb_lt_s ex_38 h
              refine lv_iinc (v := x_38) (lv' := [(7, .int x_38), (8, .int v8), (0, .ref (b + 0)), (2, .int v2), (3, .int v3), (4, .int v4), (5, .int v5), (6, .int v6), (9, .int v9)]) hx hb dX12_split_144 hl (k := 7) rfl (by rw [ex_38]; rfl) (by decide) rfl (fun ls hl => ?_)
              refine lv_goto (tgt := 40) hx hb dX12_split_147 (by decide) ?_
              exact hk40 _ _ _ _ _ _ _ _ _ _ _ h hP hS (lv_sub hl [2, 3, 4, 5, 6, 7, 0] rfl)
        · rw [if_neg c_33] at h
          refine lv_iload hx hb dX12_split_111 (lv_at hl 7 rfl) ?_
          refine lv_ineg hx hb dX12_split_113 ?_
          refine lv_goto (tgt := 119) hx hb dX12_split_114 (by decide) ?_
          refine lv_topi (fun x_39 ex_39 => ?_)
          replace h := gb_lt_s ex_39 h
          refine lv_istore (lv' := [(8, .int x_39), (0, .ref (b + 0)), (2, .int v2), (3, .int v3), (4, .int v4), (5, .int v5), (6, .int v6), (7, .int v7), (9, .int v9)]) hx hb dX12_split_119 hl (by decide) rfl (fun ls hl => ?_)
          refine lv_iload hx hb dX12_split_121 (lv_at hl 5 rfl) ?_
          refine lv_if_lt (tgt := 136) hx hb dX12_split_123 (by decide) (fun c_40 => ?_) (fun c_40 => ?_)
          · rw [if_pos c_40] at h
            refine lv_iload hx hb dX12_split_136 (lv_at hl 7 rfl) ?_
            refine lv_istore (lv' := [(5, .int v7), (8, .int x_39), (0, .ref (b + 0)), (2, .int v2), (3, .int v3), (4, .int v4), (6, .int v6), (7, .int v7), (9, .int v9)]) hx hb dX12_split_138 hl (by decide) rfl (fun ls hl => ?_)
            refine lv_iload hx hb dX12_split_140 (lv_at hl 1 rfl) ?_
            refine lv_istore (lv' := [(6, .int x_39), (5, .int v7), (8, .int x_39), (0, .ref (b + 0)), (2, .int v2), (3, .int v3), (4, .int v4), (7, .int v7), (9, .int v9)]) hx hb dX12_split_142 hl (by decide) rfl (fun ls hl => ?_)
            obtain ⟨x_41, ex_41⟩ : ∃ q, q = (v7 + 1) := ⟨_, rfl⟩
            replace h := gb_lt_s ex_41 h
            refine lv_iinc (v := x_41) (lv' := [(7, .int x_41), (6, .int x_39), (5, .int v7), (8, .int x_39), (0, .ref (b + 0)), (2, .int v2), (3, .int v3), (4, .int v4), (9, .int v9)]) hx hb dX12_split_144 hl (k := 7) rfl (by rw [ex_41]; rfl) (by decide) rfl (fun ls hl => ?_)
            refine lv_goto (tgt := 40) hx hb dX12_split_147 (by decide) ?_
            exact hk40 _ _ _ _ _ _ _ _ _ _ _ h hP hS (lv_sub hl [4, 5, 6, 7, 2, 1, 0] rfl)
          · rw [if_neg c_40] at h
            refine lv_iload hx hb dX12_split_126 (lv_at hl 0 rfl) ?_
            refine lv_iload hx hb dX12_split_128 (lv_at hl 6 rfl) ?_
            refine lv_icmp_lt (tgt := 136) hx hb dX12_split_130 (by decide) (fun c_42 => ?_) (fun c_42 => ?_)
            · rw [if_pos c_42] at h
              refine lv_iload hx hb dX12_split_136 (lv_at hl 7 rfl) ?_
              refine lv_istore (lv' := [(5, .int v7), (8, .int x_39), (0, .ref (b + 0)), (2, .int v2), (3, .int v3), (4, .int v4), (6, .int v6), (7, .int v7), (9, .int v9)]) hx hb dX12_split_138 hl (by decide) rfl (fun ls hl => ?_)
              refine lv_iload hx hb dX12_split_140 (lv_at hl 1 rfl) ?_
              refine lv_istore (lv' := [(6, .int x_39), (5, .int v7), (8, .int x_39), (0, .ref (b + 0)), (2, .int v2), (3, .int v3), (4, .int v4), (7, .int v7), (9, .int v9)]) hx hb dX12_split_142 hl (by decide) rfl (fun ls hl => ?_)
              obtain ⟨x_43, ex_43⟩ : ∃ q, q = (v7 + 1) := ⟨_, rfl⟩
              replace h := gb_lt_s ex_43 h
              refine lv_iinc (v := x_43) (lv' := [(7, .int x_43), (6, .int x_39), (5, .int v7), (8, .int x_39), (0, .ref (b + 0)), (2, .int v2), (3, .int v3), (4, .int v4), (9, .int v9)]) hx hb dX12_split_144 hl (k := 7) rfl (by rw [ex_43]; rfl) (by decide) rfl (fun ls hl => ?_)
              refine lv_goto (tgt := 40) hx hb dX12_split_147 (by decide) ?_
              exact hk40 _ _ _ _ _ _ _ _ _ _ _ h hP hS (lv_sub hl [4, 5, 6, 7, 2, 1, 0] rfl)
            · rw [if_neg c_42] at h
              refine lv_goto (tgt := 144) hx hb dX12_split_133 (by decide) ?_
              obtain ⟨x_44, ex_44⟩ : ∃ q, q = (v7 + 1) := ⟨_, rfl⟩
              replace h := gb_lt_s ex_44 h
              refine lv_iinc (v := x_44) (lv' := [(7, .int x_44), (8, .int x_39), (0, .ref (b + 0)), (2, .int v2), (3, .int v3), (4, .int v4), (5, .int v5), (6, .int v6), (9, .int v9)]) hx hb dX12_split_144 hl (k := 7) rfl (by rw [ex_44]; rfl) (by decide) rfl (fun ls hl => ?_)
              refine lv_goto (tgt := 40) hx hb dX12_split_147 (by decide) ?_
              exact hk40 _ _ _ _ _ _ _ _ _ _ _ h hP hS (lv_sub hl [2, 3, 4, 5, 6, 7, 0] rfl)
      · rw [if_neg c_32] at h
        refine lv_iload hx hb dX12_split_66 (lv_at hl 7 rfl) ?_
        refine lv_iload hx hb dX12_split_68 (lv_at hl 6 rfl) ?_
        refine lv_iload hx hb dX12_split_70 (lv_at hl 8 rfl) ?_
        refine lv_ishr hx hb dX12_split_72 ?_
        refine lv_iconst (v := 1) hx hb dX12_split_73 (by decide) ?_
        refine lv_iand hx hb dX12_split_74 ?_
        refine lv_iconst (v := 1) hx hb dX12_split_75 (by decide) ?_
        refine lv_icmp_ne (tgt := 89) hx hb dX12_split_76 (by decide) (fun c_45 => ?_) (fun c_45 => ?_)
        · rw [if_neg c_45] at h
          refine lv_aload_n hx hb dX12_split_89 rfl (lv_at hl 0 rfl) ?_
          refine lv_iload hx hb dX12_split_90 (lv_at hl 8 rfl) ?_
          refine lv_iload_n hx hb dX12_split_92 rfl (lv_at hl 2 rfl) ?_
          obtain ⟨f_46, wl_47, r_48, z_49, h⟩ := gb_bd_s h
          refine gb_calli (va_runV (C := RX12) (As := [.int v9, .int v3]) (rest := [.int v8]) ⟨hx, hb, hml, hown, hq⟩ (mc_firstMarks l D cT tt b1 b hb1 n f_27 wl_28 v9 v3 f_46 wl_47 r_48 z_49) (cwV 2 hq (gb_gV w_1532 w_1534 s_6_0 w_14 w_1535) rfl rfl rfl (by decide +kernel) ⟨Nat.le_of_ble_eq_true rfl, Nat.le_of_ble_eq_true rfl⟩) (gb_preV (r := (RX12, TX12, 44)) (ci := 10) (q0 := 0) hSt hP rfl (gb_at b rfl) hS (fun q h => Nat.le_trans hb1 h.1) hP) rfl rfl hl.1 rfl (lv_room (Nat.le_of_ble_eq_true rfl)) dX12_split_93 ⟨Nat.le_of_ble_eq_true rfl, Nat.le_of_ble_eq_true rfl⟩) hS (fun _ h => h) (fun _ h => h) (fun q_50 H locs hY hk hS => ?_)
          obtain ⟨hq_50, hP⟩ := hY
          replace hq_50 := hq_50.symm
          subst hq_50
          refine lv_ineg hx hb dX12_split_96 ?_
          refine lv_iadd hx hb dX12_split_97 ?_
          refine lv_topi (fun x_51 ex_51 => ?_)
          replace h := gb_lt_s ex_51 h
          refine lv_istore (lv' := [(8, .int x_51), (0, .ref (b + 0)), (2, .int v2), (3, .int v3), (4, .int v4), (5, .int v5), (6, .int v6), (7, .int v7), (9, .int v9)]) hx hb dX12_split_98 hl (by decide) rfl (fun ls hl => ?_)
          obtain ⟨x_52, ex_52⟩ : ∃ q, q = (v9 + 1) := ⟨_, rfl⟩
          replace h := gb_lt_s ex_52 h
          refine lv_iinc (v := x_52) (lv' := [(9, .int x_52), (8, .int x_51), (0, .ref (b + 0)), (2, .int v2), (3, .int v3), (4, .int v4), (5, .int v5), (6, .int v6), (7, .int v7)]) hx hb dX12_split_100 hl (k := 8) rfl (by rw [ex_52]; rfl) (by decide) rfl (fun ls hl => ?_)
          refine lv_goto (tgt := 57) hx hb dX12_split_103 (by decide) ?_
          exact ih _ _ _ _ _ _ _ _ _ _ _ _ _ h hP hS (lv_sub hl [2, 3, 4, 5, 6, 7, 8, 1, 0] rfl)
        · rw [if_pos c_45] at h
          refine lv_aload_n hx hb dX12_split_79 rfl (lv_at hl 0 rfl) ?_
          refine lv_iload hx hb dX12_split_80 (lv_at hl 8 rfl) ?_
          refine lv_iload_n hx hb dX12_split_82 rfl (lv_at hl 1 rfl) ?_
          obtain ⟨f_53, wl_54, r_55, z_56, h⟩ := gb_bd_s h
          refine gb_calli (va_runV (C := RX12) (As := [.int v9, .int v2]) (rest := [.int v8]) ⟨hx, hb, hml, hown, hq⟩ (mc_firstMarks l D cT tt b1 b hb1 n f_27 wl_28 v9 v2 f_53 wl_54 r_55 z_56) (cwV 2 hq (gb_gV w_1532 w_1534 s_6_0 w_14 w_1535) rfl rfl rfl (by decide +kernel) ⟨Nat.le_of_ble_eq_true rfl, Nat.le_of_ble_eq_true rfl⟩) (gb_preV (r := (RX12, TX12, 44)) (ci := 10) (q0 := 0) hSt hP rfl (gb_at b rfl) hS (fun q h => Nat.le_trans hb1 h.1) hP) rfl rfl hl.1 rfl (lv_room (Nat.le_of_ble_eq_true rfl)) dX12_split_83 ⟨Nat.le_of_ble_eq_true rfl, Nat.le_of_ble_eq_true rfl⟩) hS (fun _ h => h) (fun _ h => h) (fun q_57 H locs hY hk hS => ?_)
          obtain ⟨hq_57, hP⟩ := hY
          replace hq_57 := hq_57.symm
          subst hq_57
          refine lv_goto (tgt := 97) hx hb dX12_split_86 (by decide) ?_
          refine lv_iadd hx hb dX12_split_97 ?_
          refine lv_topi (fun x_58 ex_58 => ?_)
          replace h := gb_lt_s ex_58 h
          refine lv_istore (lv' := [(8, .int x_58), (0, .ref (b + 0)), (2, .int v2), (3, .int v3), (4, .int v4), (5, .int v5), (6, .int v6), (7, .int v7), (9, .int v9)]) hx hb dX12_split_98 hl (by decide) rfl (fun ls hl => ?_)
          obtain ⟨x_59, ex_59⟩ : ∃ q, q = (v9 + 1) := ⟨_, rfl⟩
          replace h := gb_lt_s ex_59 h
          refine lv_iinc (v := x_59) (lv' := [(9, .int x_59), (8, .int x_58), (0, .ref (b + 0)), (2, .int v2), (3, .int v3), (4, .int v4), (5, .int v5), (6, .int v6), (7, .int v7)]) hx hb dX12_split_100 hl (k := 8) rfl (by rw [ex_59]; rfl) (by decide) rfl (fun ls hl => ?_)
          refine lv_goto (tgt := 57) hx hb dX12_split_103 (by decide) ?_
          exact ih _ _ _ _ _ _ _ _ _ _ _ _ _ h hP hS (lv_sub hl [2, 3, 4, 5, 6, 7, 8, 1, 0] rfl)
  have L40 : ∀ (mm : Nat) (f : gb_F) (w : Int64) (v2 : Int32) (v3 : Int32) (v4 : Int32) (v5 : Int32) (v6 : Int32) (v7 : Int32) (H : Heap) (locs : List Loc) (ls : Array Slot), ms_split_40 n mm f w v2 v3 v4 v5 v6 v7 = some (fE, wE, rE) → va_P D vwCl (gb_wl b (gb_MW cT b f w)) H → va_S (gb_fr b 22) s.heap H locs → lv_has ls 10 [(0, .ref (b + 0)), (2, .int v2), (3, .int v3), (4, .int v4), (5, .int v5), (6, .int v6), (7, .int v7)] → W p l e (headSpec (.code yX12_split cX12_split 10 (some FieldType.int) :: gb_wA) ({ frames := 4, cells := 0, slots := 0, locals := 92 })).room s m ([.ref (b + 0), .int p1, .int p2, .int p3, .int p4]).toArray below meth c H locs 0 0 (MQ below (gb_Qi (fun r h => r = rE ∧ va_P D vwCl (gb_wl b (gb_MW cT b fE wE)) h) (gb_fr b 22)) ([.ref (b + 0), .int p1, .int p2, .int p3, .int p4]).toArray s 0 0 (gb_fr b 22)) (F0 m 40 ls []) := by
    clear h hP hS hl ls f w
    intro mm
    induction mm with
    | zero =>
      intro f w v2 v3 v4 v5 v6 v7 H locs ls h
      cases h
    | succ mm ih =>
      intro f w v2 v3 v4 v5 v6 v7 H locs ls h hP hS hl
      rw [ms_split_40] at h
      refine lv_iload hx hb dX12_split_40 (lv_at hl 6 rfl) ?_
      refine lv_iconst (v := 1) hx hb dX12_split_42 (by decide) ?_
      refine lv_aload_n hx hb dX12_split_43 rfl (lv_at hl 0 rfl) ?_
      obtain ⟨f_20, wl_21, r_22, z_23, h⟩ := gb_bd_s h
      refine gb_calli (va_runV (C := RX12) (As := []) (rest := [.int 1, .int v7]) ⟨hx, hb, hml, hown, hq⟩ (mc_geese l D cT tt b1 b hb1 n f w f_20 wl_21 r_22 z_23) (cwV 0 hq (gb_gV w_1396 w_1398 s_4_7 w_14 w_1399) rfl rfl rfl (by decide +kernel) ⟨Nat.le_of_ble_eq_true rfl, Nat.le_of_ble_eq_true rfl⟩) (gb_preV (r := (RX12, TX12, 44)) (ci := 10) (q0 := 0) hSt hP rfl (gb_at b rfl) hS (fun q h => Nat.le_trans hb1 h.1) hP) rfl rfl hl.1 rfl (lv_room (Nat.le_of_ble_eq_true rfl)) dX12_split_44 ⟨Nat.le_of_ble_eq_true rfl, Nat.le_of_ble_eq_true rfl⟩) hS (fun _ h => h) (fun _ h => h) (fun q_24 H locs hY hk hS => ?_)
      obtain ⟨hq_24, hP⟩ := hY
      replace hq_24 := hq_24.symm
      subst hq_24
      refine lv_ishl hx hb dX12_split_47 ?_
      refine lv_icmp_ge (tgt := 150) hx hb dX12_split_48 (by decide) (fun c_25 => ?_) (fun c_25 => ?_)
      · rw [if_pos c_25] at h
        refine lv_iload hx hb dX12_split_150 (lv_at hl 3 rfl) ?_
        refine lv_if_eq (tgt := 160) hx hb dX12_split_152 (by decide) (fun c_26 => ?_) (fun c_26 => ?_)
        · rw [if_pos c_26] at h
          refine lv_iload hx hb dX12_split_160 (lv_at hl 4 rfl) ?_
          obtain ⟨e1, e2, e3⟩ := gb_eq3 h
          exact W.iret (v := v5) hx hb hr (fun t ht hW => gb_ri ht ⟨e3, by rw [← e1, ← e2]; exact hP⟩ hS) hS.2.2 dX12_split_162
        · rw [if_neg c_26] at h
          refine lv_iload hx hb dX12_split_155 (lv_at hl 5 rfl) ?_
          refine lv_goto (tgt := 162) hx hb dX12_split_157 (by decide) ?_
          obtain ⟨e1, e2, e3⟩ := gb_eq3 h
          exact W.iret (v := v6) hx hb hr (fun t ht hW => gb_ri ht ⟨e3, by rw [← e1, ← e2]; exact hP⟩ hS) hS.2.2 dX12_split_162
      · rw [if_neg c_25] at h
        refine lv_iconst (v := 0) hx hb dX12_split_51 (by decide) ?_
        refine lv_istore (lv' := [(8, .int 0), (0, .ref (b + 0)), (2, .int v2), (3, .int v3), (4, .int v4), (5, .int v5), (6, .int v6), (7, .int v7)]) hx hb dX12_split_52 hl (by decide) rfl (fun ls hl => ?_)
        refine lv_iconst (v := 0) hx hb dX12_split_54 (by decide) ?_
        refine lv_istore (lv' := [(9, .int 0), (8, .int 0), (0, .ref (b + 0)), (2, .int v2), (3, .int v3), (4, .int v4), (5, .int v5), (6, .int v6), (7, .int v7)]) hx hb dX12_split_55 hl (by decide) rfl (fun ls hl => ?_)
        exact L57 _ ih n _ _ _ _ _ _ _ _ _ _ _ _ _ h hP hS (lv_sub hl [2, 3, 4, 5, 6, 7, 8, 1, 0] rfl)
  unfold ms_split at h
  refine lv_aload_n hx hb dX12_split_0 rfl (lv_at hl 0 rfl) ?_
  refine lv_iload_n hx hb dX12_split_1 rfl (lv_at hl 1 rfl) ?_
  obtain ⟨f_1, wl_2, r_3, z_4, h⟩ := gb_bd_s h
  refine gb_calli (va_runV (C := RX12) (As := [.int p1]) (rest := []) ⟨hx, hb, hml, hown, hq⟩ (mc_isBorder l D cT tt b1 b hb1 n f w p1 f_1 wl_2 r_3 z_4) (cwV 1 hq (gb_gV w_1372 w_1374 s_4_1 w_14 w_1375) rfl rfl rfl (by decide +kernel) ⟨Nat.le_of_ble_eq_true rfl, Nat.le_of_ble_eq_true rfl⟩) (gb_preV (r := (RX12, TX12, 44)) (ci := 10) (q0 := 0) hSt hP rfl (gb_at b rfl) hS (fun q h => Nat.le_trans hb1 h.1) hP) rfl rfl hl.1 rfl (lv_room (Nat.le_of_ble_eq_true rfl)) dX12_split_2 ⟨Nat.le_of_ble_eq_true rfl, Nat.le_of_ble_eq_true rfl⟩) hS (fun _ h => h) (fun _ h => h) (fun q_5 H locs hY hk hS => ?_)
  obtain ⟨hq_5, hP⟩ := hY
  replace hq_5 := hq_5.symm
  subst hq_5
  refine lv_if_eq (tgt := 29) hx hb dX12_split_5 (by decide) (fun c_6 => ?_) (fun c_6 => ?_)
  · rw [if_pos c_6] at h
    refine lv_iconst (v := (-1)) hx hb dX12_split_29 (by decide) ?_
    obtain ⟨e1, e2, e3⟩ := gb_eq3 h
    exact W.iret (v := (-1)) hx hb hr (fun t ht hW => gb_ri ht ⟨e3, by rw [← e1, ← e2]; exact hP⟩ hS) hS.2.2 dX12_split_30
  · rw [if_neg c_6] at h
    refine lv_aload_n hx hb dX12_split_8 rfl (lv_at hl 0 rfl) ?_
    refine lv_iload_n hx hb dX12_split_9 rfl (lv_at hl 2 rfl) ?_
    obtain ⟨f_7, wl_8, r_9, z_10, h⟩ := gb_bd_s h
    refine gb_calli (va_runV (C := RX12) (As := [.int p2]) (rest := []) ⟨hx, hb, hml, hown, hq⟩ (mc_isPath l D cT tt b1 b hb1 n f_1 wl_2 p2 f_7 wl_8 r_9 z_10) (cwV 1 hq (gb_gV w_1380 w_1382 s_4_3 w_14 w_1383) rfl rfl rfl (by decide +kernel) ⟨Nat.le_of_ble_eq_true rfl, Nat.le_of_ble_eq_true rfl⟩) (gb_preV (r := (RX12, TX12, 44)) (ci := 10) (q0 := 0) hSt hP rfl (gb_at b rfl) hS (fun q h => Nat.le_trans hb1 h.1) hP) rfl rfl hl.1 rfl (lv_room (Nat.le_of_ble_eq_true rfl)) dX12_split_10 ⟨Nat.le_of_ble_eq_true rfl, Nat.le_of_ble_eq_true rfl⟩) hS (fun _ h => h) (fun _ h => h) (fun q_11 H locs hY hk hS => ?_)
    obtain ⟨hq_11, hP⟩ := hY
    replace hq_11 := hq_11.symm
    subst hq_11
    refine lv_if_eq (tgt := 29) hx hb dX12_split_13 (by decide) (fun c_12 => ?_) (fun c_12 => ?_)
    · rw [if_pos c_12] at h
      refine lv_iconst (v := (-1)) hx hb dX12_split_29 (by decide) ?_
      obtain ⟨e1, e2, e3⟩ := gb_eq3 h
      exact W.iret (v := (-1)) hx hb hr (fun t ht hW => gb_ri ht ⟨e3, by rw [← e1, ← e2]; exact hP⟩ hS) hS.2.2 dX12_split_30
    · rw [if_neg c_12] at h
      refine lv_aload_n hx hb dX12_split_16 rfl (lv_at hl 0 rfl) ?_
      refine lv_iload_n hx hb dX12_split_17 rfl (lv_at hl 3 rfl) ?_
      obtain ⟨f_13, wl_14, r_15, z_16, h⟩ := gb_bd_s h
      refine gb_calli (va_runV (C := RX12) (As := [.int p3]) (rest := []) ⟨hx, hb, hml, hown, hq⟩ (mc_isPath l D cT tt b1 b hb1 n f_7 wl_8 p3 f_13 wl_14 r_15 z_16) (cwV 1 hq (gb_gV w_1380 w_1382 s_4_3 w_14 w_1383) rfl rfl rfl (by decide +kernel) ⟨Nat.le_of_ble_eq_true rfl, Nat.le_of_ble_eq_true rfl⟩) (gb_preV (r := (RX12, TX12, 44)) (ci := 10) (q0 := 0) hSt hP rfl (gb_at b rfl) hS (fun q h => Nat.le_trans hb1 h.1) hP) rfl rfl hl.1 rfl (lv_room (Nat.le_of_ble_eq_true rfl)) dX12_split_18 ⟨Nat.le_of_ble_eq_true rfl, Nat.le_of_ble_eq_true rfl⟩) hS (fun _ h => h) (fun _ h => h) (fun q_17 H locs hY hk hS => ?_)
      obtain ⟨hq_17, hP⟩ := hY
      replace hq_17 := hq_17.symm
      subst hq_17
      refine lv_if_eq (tgt := 29) hx hb dX12_split_21 (by decide) (fun c_18 => ?_) (fun c_18 => ?_)
      · rw [if_pos c_18] at h
        refine lv_iconst (v := (-1)) hx hb dX12_split_29 (by decide) ?_
        obtain ⟨e1, e2, e3⟩ := gb_eq3 h
        exact W.iret (v := (-1)) hx hb hr (fun t ht hW => gb_ri ht ⟨e3, by rw [← e1, ← e2]; exact hP⟩ hS) hS.2.2 dX12_split_30
      · rw [if_neg c_18] at h
        refine lv_iload_n hx hb dX12_split_24 rfl (lv_at hl 2 rfl) ?_
        refine lv_iload_n hx hb dX12_split_25 rfl (lv_at hl 3 rfl) ?_
        refine lv_icmp_ne (tgt := 31) hx hb dX12_split_26 (by decide) (fun c_19 => ?_) (fun c_19 => ?_)
        · rw [if_neg c_19] at h
          refine lv_iconst (v := (-1)) hx hb dX12_split_31 (by decide) ?_
          refine lv_istore (lv' := [(5, .int (-1)), (0, .ref (b + 0)), (1, .int p1), (2, .int p2), (3, .int p3), (4, .int p4)]) hx hb dX12_split_32 hl (by decide) rfl (fun ls hl => ?_)
          refine lv_iconst (v := 0) hx hb dX12_split_34 (by decide) ?_
          refine lv_istore (lv' := [(6, .int 0), (5, .int (-1)), (0, .ref (b + 0)), (1, .int p1), (2, .int p2), (3, .int p3), (4, .int p4)]) hx hb dX12_split_35 hl (by decide) rfl (fun ls hl => ?_)
          refine lv_iconst (v := 0) hx hb dX12_split_37 (by decide) ?_
          refine lv_istore (lv' := [(7, .int 0), (6, .int 0), (5, .int (-1)), (0, .ref (b + 0)), (1, .int p1), (2, .int p2), (3, .int p3), (4, .int p4)]) hx hb dX12_split_38 hl (by decide) rfl (fun ls hl => ?_)
          exact L40 n _ _ _ _ _ _ _ _ _ _ _ h hP hS (lv_sub hl [3, 5, 6, 7, 2, 1, 0] rfl)
        · rw [if_pos c_19] at h
          refine lv_iconst (v := (-1)) hx hb dX12_split_29 (by decide) ?_
          obtain ⟨e1, e2, e3⟩ := gb_eq3 h
          exact W.iret (v := (-1)) hx hb hr (fun t ht hW => gb_ri ht ⟨e3, by rw [← e1, ← e2]; exact hP⟩ hS) hS.2.2 dX12_split_30
theorem dq_cX12_two_0 : ((cX12_two.data.toList.drop 0).take 67).map UInt8.toNat = [42, 27, 182, 0, 205, 153, 0, 37, 42, 28, 182, 0, 214, 153, 0, 29, 42, 182, 0, 199, 153, 0, 22, 42, 3, 29, 182, 0, 171, 153, 0, 13, 21, 4, 3, 5, 184, 0, 129, 154, 0, 5, 2, 172, 42, 180, 0, 193, 54, 5, 3, 29, 184, 0, 190, 54, 6, 2, 54, 7, 3, 54, 8, 3, 54, 9, 21] := by decide +kernel
theorem dX12_two_0 : decode cX12_two 0 = .ok (.aload_n 0, 1) := dc_42 (dc_cut (j := 0) (n := 1) (l := [42]) dq_cX12_two_0 (by decide +kernel) (by decide))
theorem dX12_two_1 : decode cX12_two 1 = .ok (.iload_n 1, 1) := dc_27 (dc_cut (j := 1) (n := 1) (l := [27]) dq_cX12_two_0 (by decide +kernel) (by decide))
theorem dX12_two_2 : decode cX12_two 2 = .ok (.invokevirtual 205, 3) := dc_182 (dc_cut (j := 2) (n := 3) (l := [182, 0, 205]) dq_cX12_two_0 (by decide +kernel) (by decide)) rfl
theorem dX12_two_5 : decode cX12_two 5 = .ok (.ifCond .eq 37, 3) := dc_153 (dc_cut (j := 5) (n := 3) (l := [153, 0, 37]) dq_cX12_two_0 (by decide +kernel) (by decide)) rfl
theorem dX12_two_42 : decode cX12_two 42 = .ok (.iconst (-1), 1) := dc_2 (dc_cut (j := 42) (n := 1) (l := [2]) dq_cX12_two_0 (by decide +kernel) (by decide))
theorem dX12_two_43 : decode cX12_two 43 = .ok (.ireturn, 1) := dc_172 (dc_cut (j := 43) (n := 1) (l := [172]) dq_cX12_two_0 (by decide +kernel) (by decide))
theorem dX12_two_8 : decode cX12_two 8 = .ok (.aload_n 0, 1) := dc_42 (dc_cut (j := 8) (n := 1) (l := [42]) dq_cX12_two_0 (by decide +kernel) (by decide))
theorem dX12_two_9 : decode cX12_two 9 = .ok (.iload_n 2, 1) := dc_28 (dc_cut (j := 9) (n := 1) (l := [28]) dq_cX12_two_0 (by decide +kernel) (by decide))
theorem dX12_two_10 : decode cX12_two 10 = .ok (.invokevirtual 214, 3) := dc_182 (dc_cut (j := 10) (n := 3) (l := [182, 0, 214]) dq_cX12_two_0 (by decide +kernel) (by decide)) rfl
theorem dX12_two_13 : decode cX12_two 13 = .ok (.ifCond .eq 29, 3) := dc_153 (dc_cut (j := 13) (n := 3) (l := [153, 0, 29]) dq_cX12_two_0 (by decide +kernel) (by decide)) rfl
theorem dX12_two_16 : decode cX12_two 16 = .ok (.aload_n 0, 1) := dc_42 (dc_cut (j := 16) (n := 1) (l := [42]) dq_cX12_two_0 (by decide +kernel) (by decide))
theorem dX12_two_17 : decode cX12_two 17 = .ok (.invokevirtual 199, 3) := dc_182 (dc_cut (j := 17) (n := 3) (l := [182, 0, 199]) dq_cX12_two_0 (by decide +kernel) (by decide)) rfl
theorem dX12_two_20 : decode cX12_two 20 = .ok (.ifCond .eq 22, 3) := dc_153 (dc_cut (j := 20) (n := 3) (l := [153, 0, 22]) dq_cX12_two_0 (by decide +kernel) (by decide)) rfl
theorem dX12_two_23 : decode cX12_two 23 = .ok (.aload_n 0, 1) := dc_42 (dc_cut (j := 23) (n := 1) (l := [42]) dq_cX12_two_0 (by decide +kernel) (by decide))
theorem dX12_two_24 : decode cX12_two 24 = .ok (.iconst 0, 1) := dc_3 (dc_cut (j := 24) (n := 1) (l := [3]) dq_cX12_two_0 (by decide +kernel) (by decide))
theorem dX12_two_25 : decode cX12_two 25 = .ok (.iload_n 3, 1) := dc_29 (dc_cut (j := 25) (n := 1) (l := [29]) dq_cX12_two_0 (by decide +kernel) (by decide))
theorem dX12_two_26 : decode cX12_two 26 = .ok (.invokevirtual 171, 3) := dc_182 (dc_cut (j := 26) (n := 3) (l := [182, 0, 171]) dq_cX12_two_0 (by decide +kernel) (by decide)) rfl
theorem dX12_two_29 : decode cX12_two 29 = .ok (.ifCond .eq 13, 3) := dc_153 (dc_cut (j := 29) (n := 3) (l := [153, 0, 13]) dq_cX12_two_0 (by decide +kernel) (by decide)) rfl
theorem dX12_two_32 : decode cX12_two 32 = .ok (.iload 4, 2) := dc_21 (dc_cut (j := 32) (n := 2) (l := [21, 4]) dq_cX12_two_0 (by decide +kernel) (by decide)) rfl
theorem dX12_two_34 : decode cX12_two 34 = .ok (.iconst 0, 1) := dc_3 (dc_cut (j := 34) (n := 1) (l := [3]) dq_cX12_two_0 (by decide +kernel) (by decide))
theorem dX12_two_35 : decode cX12_two 35 = .ok (.iconst 2, 1) := dc_5 (dc_cut (j := 35) (n := 1) (l := [5]) dq_cX12_two_0 (by decide +kernel) (by decide))
theorem dX12_two_36 : decode cX12_two 36 = .ok (.invokestatic 129, 3) := dc_184 (dc_cut (j := 36) (n := 3) (l := [184, 0, 129]) dq_cX12_two_0 (by decide +kernel) (by decide)) rfl
theorem dX12_two_39 : decode cX12_two 39 = .ok (.ifCond .ne 5, 3) := dc_154 (dc_cut (j := 39) (n := 3) (l := [154, 0, 5]) dq_cX12_two_0 (by decide +kernel) (by decide)) rfl
theorem dX12_two_44 : decode cX12_two 44 = .ok (.aload_n 0, 1) := dc_42 (dc_cut (j := 44) (n := 1) (l := [42]) dq_cX12_two_0 (by decide +kernel) (by decide))
theorem dX12_two_45 : decode cX12_two 45 = .ok (.getfield 193, 3) := dc_180 (dc_cut (j := 45) (n := 3) (l := [180, 0, 193]) dq_cX12_two_0 (by decide +kernel) (by decide)) rfl
theorem dX12_two_48 : decode cX12_two 48 = .ok (.istore 5, 2) := dc_54 (dc_cut (j := 48) (n := 2) (l := [54, 5]) dq_cX12_two_0 (by decide +kernel) (by decide)) rfl
theorem dX12_two_50 : decode cX12_two 50 = .ok (.iconst 0, 1) := dc_3 (dc_cut (j := 50) (n := 1) (l := [3]) dq_cX12_two_0 (by decide +kernel) (by decide))
theorem dX12_two_51 : decode cX12_two 51 = .ok (.iload_n 3, 1) := dc_29 (dc_cut (j := 51) (n := 1) (l := [29]) dq_cX12_two_0 (by decide +kernel) (by decide))
theorem dX12_two_52 : decode cX12_two 52 = .ok (.invokestatic 190, 3) := dc_184 (dc_cut (j := 52) (n := 3) (l := [184, 0, 190]) dq_cX12_two_0 (by decide +kernel) (by decide)) rfl
theorem dX12_two_55 : decode cX12_two 55 = .ok (.istore 6, 2) := dc_54 (dc_cut (j := 55) (n := 2) (l := [54, 6]) dq_cX12_two_0 (by decide +kernel) (by decide)) rfl
theorem dX12_two_57 : decode cX12_two 57 = .ok (.iconst (-1), 1) := dc_2 (dc_cut (j := 57) (n := 1) (l := [2]) dq_cX12_two_0 (by decide +kernel) (by decide))
theorem dX12_two_58 : decode cX12_two 58 = .ok (.istore 7, 2) := dc_54 (dc_cut (j := 58) (n := 2) (l := [54, 7]) dq_cX12_two_0 (by decide +kernel) (by decide)) rfl
theorem dX12_two_60 : decode cX12_two 60 = .ok (.iconst 0, 1) := dc_3 (dc_cut (j := 60) (n := 1) (l := [3]) dq_cX12_two_0 (by decide +kernel) (by decide))
theorem dX12_two_61 : decode cX12_two 61 = .ok (.istore 8, 2) := dc_54 (dc_cut (j := 61) (n := 2) (l := [54, 8]) dq_cX12_two_0 (by decide +kernel) (by decide)) rfl
theorem dX12_two_63 : decode cX12_two 63 = .ok (.iconst 0, 1) := dc_3 (dc_cut (j := 63) (n := 1) (l := [3]) dq_cX12_two_0 (by decide +kernel) (by decide))
theorem dq_cX12_two_64 : ((cX12_two.data.toList.drop 64).take 67).map UInt8.toNat = [54, 9, 21, 9, 42, 182, 0, 199, 42, 180, 0, 7, 21, 6, 3, 96, 46, 104, 162, 0, 184, 21, 9, 42, 180, 0, 7, 21, 6, 3, 96, 46, 108, 54, 10, 21, 9, 42, 180, 0, 7, 21, 6, 3, 96, 46, 112, 54, 11, 42, 28, 5, 182, 0, 217, 42, 21, 10, 3, 182, 0, 211, 164, 0, 20, 42, 28] := by decide +kernel
theorem dX12_two_64 : decode cX12_two 64 = .ok (.istore 9, 2) := dc_54 (dc_cut (j := 0) (n := 2) (l := [54, 9]) dq_cX12_two_64 (by decide +kernel) (by decide)) rfl
theorem dX12_two_66 : decode cX12_two 66 = .ok (.iload 9, 2) := dc_21 (dc_cut (j := 2) (n := 2) (l := [21, 9]) dq_cX12_two_64 (by decide +kernel) (by decide)) rfl
theorem dX12_two_68 : decode cX12_two 68 = .ok (.aload_n 0, 1) := dc_42 (dc_cut (j := 4) (n := 1) (l := [42]) dq_cX12_two_64 (by decide +kernel) (by decide))
theorem dX12_two_69 : decode cX12_two 69 = .ok (.invokevirtual 199, 3) := dc_182 (dc_cut (j := 5) (n := 3) (l := [182, 0, 199]) dq_cX12_two_64 (by decide +kernel) (by decide)) rfl
theorem dX12_two_72 : decode cX12_two 72 = .ok (.aload_n 0, 1) := dc_42 (dc_cut (j := 8) (n := 1) (l := [42]) dq_cX12_two_64 (by decide +kernel) (by decide))
theorem dX12_two_73 : decode cX12_two 73 = .ok (.getfield 7, 3) := dc_180 (dc_cut (j := 9) (n := 3) (l := [180, 0, 7]) dq_cX12_two_64 (by decide +kernel) (by decide)) rfl
theorem dX12_two_76 : decode cX12_two 76 = .ok (.iload 6, 2) := dc_21 (dc_cut (j := 12) (n := 2) (l := [21, 6]) dq_cX12_two_64 (by decide +kernel) (by decide)) rfl
theorem dX12_two_78 : decode cX12_two 78 = .ok (.iconst 0, 1) := dc_3 (dc_cut (j := 14) (n := 1) (l := [3]) dq_cX12_two_64 (by decide +kernel) (by decide))
theorem dX12_two_79 : decode cX12_two 79 = .ok (.iadd, 1) := dc_96 (dc_cut (j := 15) (n := 1) (l := [96]) dq_cX12_two_64 (by decide +kernel) (by decide))
theorem dX12_two_80 : decode cX12_two 80 = .ok (.iaload, 1) := dc_46 (dc_cut (j := 16) (n := 1) (l := [46]) dq_cX12_two_64 (by decide +kernel) (by decide))
theorem dX12_two_81 : decode cX12_two 81 = .ok (.imul, 1) := dc_104 (dc_cut (j := 17) (n := 1) (l := [104]) dq_cX12_two_64 (by decide +kernel) (by decide))
theorem dX12_two_82 : decode cX12_two 82 = .ok (.if_icmp .ge 184, 3) := dc_162 (dc_cut (j := 18) (n := 3) (l := [162, 0, 184]) dq_cX12_two_64 (by decide +kernel) (by decide)) rfl
theorem dq_cX12_two_256 : ((cX12_two.data.toList.drop 256).take 61).map UInt8.toNat = [21, 13, 54, 8, 132, 9, 1, 167, 255, 59, 21, 7, 156, 0, 5, 2, 172, 21, 4, 154, 0, 18, 21, 7, 42, 180, 0, 7, 21, 6, 3, 96, 46, 108, 167, 0, 26, 21, 4, 4, 160, 0, 18, 21, 7, 42, 180, 0, 7, 21, 6, 3, 96, 46, 112, 167, 0, 5, 21, 8, 172] := by decide +kernel
theorem dX12_two_266 : decode cX12_two 266 = .ok (.iload 7, 2) := dc_21 (dc_cut (j := 10) (n := 2) (l := [21, 7]) dq_cX12_two_256 (by decide +kernel) (by decide)) rfl
theorem dX12_two_268 : decode cX12_two 268 = .ok (.ifCond .ge 5, 3) := dc_156 (dc_cut (j := 12) (n := 3) (l := [156, 0, 5]) dq_cX12_two_256 (by decide +kernel) (by decide)) rfl
theorem dX12_two_273 : decode cX12_two 273 = .ok (.iload 4, 2) := dc_21 (dc_cut (j := 17) (n := 2) (l := [21, 4]) dq_cX12_two_256 (by decide +kernel) (by decide)) rfl
theorem dX12_two_275 : decode cX12_two 275 = .ok (.ifCond .ne 18, 3) := dc_154 (dc_cut (j := 19) (n := 3) (l := [154, 0, 18]) dq_cX12_two_256 (by decide +kernel) (by decide)) rfl
theorem dX12_two_293 : decode cX12_two 293 = .ok (.iload 4, 2) := dc_21 (dc_cut (j := 37) (n := 2) (l := [21, 4]) dq_cX12_two_256 (by decide +kernel) (by decide)) rfl
theorem dX12_two_295 : decode cX12_two 295 = .ok (.iconst 1, 1) := dc_4 (dc_cut (j := 39) (n := 1) (l := [4]) dq_cX12_two_256 (by decide +kernel) (by decide))
theorem dX12_two_296 : decode cX12_two 296 = .ok (.if_icmp .ne 18, 3) := dc_160 (dc_cut (j := 40) (n := 3) (l := [160, 0, 18]) dq_cX12_two_256 (by decide +kernel) (by decide)) rfl
theorem dX12_two_314 : decode cX12_two 314 = .ok (.iload 8, 2) := dc_21 (dc_cut (j := 58) (n := 2) (l := [21, 8]) dq_cX12_two_256 (by decide +kernel) (by decide)) rfl
theorem dX12_two_316 : decode cX12_two 316 = .ok (.ireturn, 1) := dc_172 (dc_cut (j := 60) (n := 1) (l := [172]) dq_cX12_two_256 (by decide +kernel) (by decide))
theorem dX12_two_299 : decode cX12_two 299 = .ok (.iload 7, 2) := dc_21 (dc_cut (j := 43) (n := 2) (l := [21, 7]) dq_cX12_two_256 (by decide +kernel) (by decide)) rfl
theorem dX12_two_301 : decode cX12_two 301 = .ok (.aload_n 0, 1) := dc_42 (dc_cut (j := 45) (n := 1) (l := [42]) dq_cX12_two_256 (by decide +kernel) (by decide))
theorem dX12_two_302 : decode cX12_two 302 = .ok (.getfield 7, 3) := dc_180 (dc_cut (j := 46) (n := 3) (l := [180, 0, 7]) dq_cX12_two_256 (by decide +kernel) (by decide)) rfl
theorem dX12_two_305 : decode cX12_two 305 = .ok (.iload 6, 2) := dc_21 (dc_cut (j := 49) (n := 2) (l := [21, 6]) dq_cX12_two_256 (by decide +kernel) (by decide)) rfl
theorem dX12_two_307 : decode cX12_two 307 = .ok (.iconst 0, 1) := dc_3 (dc_cut (j := 51) (n := 1) (l := [3]) dq_cX12_two_256 (by decide +kernel) (by decide))
theorem dX12_two_308 : decode cX12_two 308 = .ok (.iadd, 1) := dc_96 (dc_cut (j := 52) (n := 1) (l := [96]) dq_cX12_two_256 (by decide +kernel) (by decide))
theorem dX12_two_309 : decode cX12_two 309 = .ok (.iaload, 1) := dc_46 (dc_cut (j := 53) (n := 1) (l := [46]) dq_cX12_two_256 (by decide +kernel) (by decide))
theorem dX12_two_310 : decode cX12_two 310 = .ok (.irem, 1) := dc_112 (dc_cut (j := 54) (n := 1) (l := [112]) dq_cX12_two_256 (by decide +kernel) (by decide))
theorem dX12_two_311 : decode cX12_two 311 = .ok (.goto 5, 3) := dc_167 (dc_cut (j := 55) (n := 3) (l := [167, 0, 5]) dq_cX12_two_256 (by decide +kernel) (by decide)) rfl
theorem dX12_two_278 : decode cX12_two 278 = .ok (.iload 7, 2) := dc_21 (dc_cut (j := 22) (n := 2) (l := [21, 7]) dq_cX12_two_256 (by decide +kernel) (by decide)) rfl
theorem dX12_two_280 : decode cX12_two 280 = .ok (.aload_n 0, 1) := dc_42 (dc_cut (j := 24) (n := 1) (l := [42]) dq_cX12_two_256 (by decide +kernel) (by decide))
theorem dX12_two_281 : decode cX12_two 281 = .ok (.getfield 7, 3) := dc_180 (dc_cut (j := 25) (n := 3) (l := [180, 0, 7]) dq_cX12_two_256 (by decide +kernel) (by decide)) rfl
theorem dX12_two_284 : decode cX12_two 284 = .ok (.iload 6, 2) := dc_21 (dc_cut (j := 28) (n := 2) (l := [21, 6]) dq_cX12_two_256 (by decide +kernel) (by decide)) rfl
theorem dX12_two_286 : decode cX12_two 286 = .ok (.iconst 0, 1) := dc_3 (dc_cut (j := 30) (n := 1) (l := [3]) dq_cX12_two_256 (by decide +kernel) (by decide))
theorem dX12_two_287 : decode cX12_two 287 = .ok (.iadd, 1) := dc_96 (dc_cut (j := 31) (n := 1) (l := [96]) dq_cX12_two_256 (by decide +kernel) (by decide))
theorem dX12_two_288 : decode cX12_two 288 = .ok (.iaload, 1) := dc_46 (dc_cut (j := 32) (n := 1) (l := [46]) dq_cX12_two_256 (by decide +kernel) (by decide))
theorem dX12_two_289 : decode cX12_two 289 = .ok (.idiv, 1) := dc_108 (dc_cut (j := 33) (n := 1) (l := [108]) dq_cX12_two_256 (by decide +kernel) (by decide))
theorem dX12_two_290 : decode cX12_two 290 = .ok (.goto 26, 3) := dc_167 (dc_cut (j := 34) (n := 3) (l := [167, 0, 26]) dq_cX12_two_256 (by decide +kernel) (by decide)) rfl
theorem dX12_two_271 : decode cX12_two 271 = .ok (.iconst (-1), 1) := dc_2 (dc_cut (j := 15) (n := 1) (l := [2]) dq_cX12_two_256 (by decide +kernel) (by decide))
theorem dX12_two_272 : decode cX12_two 272 = .ok (.ireturn, 1) := dc_172 (dc_cut (j := 16) (n := 1) (l := [172]) dq_cX12_two_256 (by decide +kernel) (by decide))
theorem dX12_two_85 : decode cX12_two 85 = .ok (.iload 9, 2) := dc_21 (dc_cut (j := 21) (n := 2) (l := [21, 9]) dq_cX12_two_64 (by decide +kernel) (by decide)) rfl
theorem dX12_two_87 : decode cX12_two 87 = .ok (.aload_n 0, 1) := dc_42 (dc_cut (j := 23) (n := 1) (l := [42]) dq_cX12_two_64 (by decide +kernel) (by decide))
theorem dX12_two_88 : decode cX12_two 88 = .ok (.getfield 7, 3) := dc_180 (dc_cut (j := 24) (n := 3) (l := [180, 0, 7]) dq_cX12_two_64 (by decide +kernel) (by decide)) rfl
theorem dX12_two_91 : decode cX12_two 91 = .ok (.iload 6, 2) := dc_21 (dc_cut (j := 27) (n := 2) (l := [21, 6]) dq_cX12_two_64 (by decide +kernel) (by decide)) rfl
theorem dX12_two_93 : decode cX12_two 93 = .ok (.iconst 0, 1) := dc_3 (dc_cut (j := 29) (n := 1) (l := [3]) dq_cX12_two_64 (by decide +kernel) (by decide))
theorem dX12_two_94 : decode cX12_two 94 = .ok (.iadd, 1) := dc_96 (dc_cut (j := 30) (n := 1) (l := [96]) dq_cX12_two_64 (by decide +kernel) (by decide))
theorem dX12_two_95 : decode cX12_two 95 = .ok (.iaload, 1) := dc_46 (dc_cut (j := 31) (n := 1) (l := [46]) dq_cX12_two_64 (by decide +kernel) (by decide))
theorem dX12_two_96 : decode cX12_two 96 = .ok (.idiv, 1) := dc_108 (dc_cut (j := 32) (n := 1) (l := [108]) dq_cX12_two_64 (by decide +kernel) (by decide))
theorem dX12_two_97 : decode cX12_two 97 = .ok (.istore 10, 2) := dc_54 (dc_cut (j := 33) (n := 2) (l := [54, 10]) dq_cX12_two_64 (by decide +kernel) (by decide)) rfl
theorem dX12_two_99 : decode cX12_two 99 = .ok (.iload 9, 2) := dc_21 (dc_cut (j := 35) (n := 2) (l := [21, 9]) dq_cX12_two_64 (by decide +kernel) (by decide)) rfl
theorem dX12_two_101 : decode cX12_two 101 = .ok (.aload_n 0, 1) := dc_42 (dc_cut (j := 37) (n := 1) (l := [42]) dq_cX12_two_64 (by decide +kernel) (by decide))
theorem dX12_two_102 : decode cX12_two 102 = .ok (.getfield 7, 3) := dc_180 (dc_cut (j := 38) (n := 3) (l := [180, 0, 7]) dq_cX12_two_64 (by decide +kernel) (by decide)) rfl
theorem dX12_two_105 : decode cX12_two 105 = .ok (.iload 6, 2) := dc_21 (dc_cut (j := 41) (n := 2) (l := [21, 6]) dq_cX12_two_64 (by decide +kernel) (by decide)) rfl
theorem dX12_two_107 : decode cX12_two 107 = .ok (.iconst 0, 1) := dc_3 (dc_cut (j := 43) (n := 1) (l := [3]) dq_cX12_two_64 (by decide +kernel) (by decide))
theorem dX12_two_108 : decode cX12_two 108 = .ok (.iadd, 1) := dc_96 (dc_cut (j := 44) (n := 1) (l := [96]) dq_cX12_two_64 (by decide +kernel) (by decide))
theorem dX12_two_109 : decode cX12_two 109 = .ok (.iaload, 1) := dc_46 (dc_cut (j := 45) (n := 1) (l := [46]) dq_cX12_two_64 (by decide +kernel) (by decide))
theorem dX12_two_110 : decode cX12_two 110 = .ok (.irem, 1) := dc_112 (dc_cut (j := 46) (n := 1) (l := [112]) dq_cX12_two_64 (by decide +kernel) (by decide))
theorem dX12_two_111 : decode cX12_two 111 = .ok (.istore 11, 2) := dc_54 (dc_cut (j := 47) (n := 2) (l := [54, 11]) dq_cX12_two_64 (by decide +kernel) (by decide)) rfl
theorem dX12_two_113 : decode cX12_two 113 = .ok (.aload_n 0, 1) := dc_42 (dc_cut (j := 49) (n := 1) (l := [42]) dq_cX12_two_64 (by decide +kernel) (by decide))
theorem dX12_two_114 : decode cX12_two 114 = .ok (.iload_n 2, 1) := dc_28 (dc_cut (j := 50) (n := 1) (l := [28]) dq_cX12_two_64 (by decide +kernel) (by decide))
theorem dX12_two_115 : decode cX12_two 115 = .ok (.iconst 2, 1) := dc_5 (dc_cut (j := 51) (n := 1) (l := [5]) dq_cX12_two_64 (by decide +kernel) (by decide))
theorem dX12_two_116 : decode cX12_two 116 = .ok (.invokevirtual 217, 3) := dc_182 (dc_cut (j := 52) (n := 3) (l := [182, 0, 217]) dq_cX12_two_64 (by decide +kernel) (by decide)) rfl
theorem dX12_two_119 : decode cX12_two 119 = .ok (.aload_n 0, 1) := dc_42 (dc_cut (j := 55) (n := 1) (l := [42]) dq_cX12_two_64 (by decide +kernel) (by decide))
theorem dX12_two_120 : decode cX12_two 120 = .ok (.iload 10, 2) := dc_21 (dc_cut (j := 56) (n := 2) (l := [21, 10]) dq_cX12_two_64 (by decide +kernel) (by decide)) rfl
theorem dX12_two_122 : decode cX12_two 122 = .ok (.iconst 0, 1) := dc_3 (dc_cut (j := 58) (n := 1) (l := [3]) dq_cX12_two_64 (by decide +kernel) (by decide))
theorem dX12_two_123 : decode cX12_two 123 = .ok (.invokevirtual 211, 3) := dc_182 (dc_cut (j := 59) (n := 3) (l := [182, 0, 211]) dq_cX12_two_64 (by decide +kernel) (by decide)) rfl
theorem dX12_two_126 : decode cX12_two 126 = .ok (.if_icmp .le 20, 3) := dc_164 (dc_cut (j := 62) (n := 3) (l := [164, 0, 20]) dq_cX12_two_64 (by decide +kernel) (by decide)) rfl
theorem dq_cX12_two_128 : ((cX12_two.data.toList.drop 128).take 67).map UInt8.toNat = [20, 42, 28, 5, 182, 0, 217, 42, 21, 10, 3, 182, 0, 211, 100, 167, 0, 4, 3, 54, 12, 42, 21, 10, 4, 182, 0, 211, 42, 42, 28, 21, 10, 182, 1, 41, 21, 10, 182, 1, 20, 104, 54, 13, 42, 28, 42, 180, 0, 7, 21, 6, 6, 96, 6, 21, 11, 104, 96, 3, 96, 46, 21, 12, 3, 42, 28] := by decide +kernel
theorem dX12_two_146 : decode cX12_two 146 = .ok (.iconst 0, 1) := dc_3 (dc_cut (j := 18) (n := 1) (l := [3]) dq_cX12_two_128 (by decide +kernel) (by decide))
theorem dX12_two_147 : decode cX12_two 147 = .ok (.istore 12, 2) := dc_54 (dc_cut (j := 19) (n := 2) (l := [54, 12]) dq_cX12_two_128 (by decide +kernel) (by decide)) rfl
theorem dX12_two_149 : decode cX12_two 149 = .ok (.aload_n 0, 1) := dc_42 (dc_cut (j := 21) (n := 1) (l := [42]) dq_cX12_two_128 (by decide +kernel) (by decide))
theorem dX12_two_150 : decode cX12_two 150 = .ok (.iload 10, 2) := dc_21 (dc_cut (j := 22) (n := 2) (l := [21, 10]) dq_cX12_two_128 (by decide +kernel) (by decide)) rfl
theorem dX12_two_152 : decode cX12_two 152 = .ok (.iconst 1, 1) := dc_4 (dc_cut (j := 24) (n := 1) (l := [4]) dq_cX12_two_128 (by decide +kernel) (by decide))
theorem dX12_two_153 : decode cX12_two 153 = .ok (.invokevirtual 211, 3) := dc_182 (dc_cut (j := 25) (n := 3) (l := [182, 0, 211]) dq_cX12_two_128 (by decide +kernel) (by decide)) rfl
theorem dX12_two_156 : decode cX12_two 156 = .ok (.aload_n 0, 1) := dc_42 (dc_cut (j := 28) (n := 1) (l := [42]) dq_cX12_two_128 (by decide +kernel) (by decide))
theorem dX12_two_157 : decode cX12_two 157 = .ok (.aload_n 0, 1) := dc_42 (dc_cut (j := 29) (n := 1) (l := [42]) dq_cX12_two_128 (by decide +kernel) (by decide))
theorem dX12_two_158 : decode cX12_two 158 = .ok (.iload_n 2, 1) := dc_28 (dc_cut (j := 30) (n := 1) (l := [28]) dq_cX12_two_128 (by decide +kernel) (by decide))
theorem dX12_two_159 : decode cX12_two 159 = .ok (.iload 10, 2) := dc_21 (dc_cut (j := 31) (n := 2) (l := [21, 10]) dq_cX12_two_128 (by decide +kernel) (by decide)) rfl
theorem dX12_two_161 : decode cX12_two 161 = .ok (.invokevirtual 297, 3) := dc_182 (dc_cut (j := 33) (n := 3) (l := [182, 1, 41]) dq_cX12_two_128 (by decide +kernel) (by decide)) rfl
theorem dX12_two_164 : decode cX12_two 164 = .ok (.iload 10, 2) := dc_21 (dc_cut (j := 36) (n := 2) (l := [21, 10]) dq_cX12_two_128 (by decide +kernel) (by decide)) rfl
theorem dX12_two_166 : decode cX12_two 166 = .ok (.invokevirtual 276, 3) := dc_182 (dc_cut (j := 38) (n := 3) (l := [182, 1, 20]) dq_cX12_two_128 (by decide +kernel) (by decide)) rfl
theorem dX12_two_169 : decode cX12_two 169 = .ok (.imul, 1) := dc_104 (dc_cut (j := 41) (n := 1) (l := [104]) dq_cX12_two_128 (by decide +kernel) (by decide))
theorem dX12_two_170 : decode cX12_two 170 = .ok (.istore 13, 2) := dc_54 (dc_cut (j := 42) (n := 2) (l := [54, 13]) dq_cX12_two_128 (by decide +kernel) (by decide)) rfl
theorem dX12_two_172 : decode cX12_two 172 = .ok (.aload_n 0, 1) := dc_42 (dc_cut (j := 44) (n := 1) (l := [42]) dq_cX12_two_128 (by decide +kernel) (by decide))
theorem dX12_two_173 : decode cX12_two 173 = .ok (.iload_n 2, 1) := dc_28 (dc_cut (j := 45) (n := 1) (l := [28]) dq_cX12_two_128 (by decide +kernel) (by decide))
theorem dX12_two_174 : decode cX12_two 174 = .ok (.aload_n 0, 1) := dc_42 (dc_cut (j := 46) (n := 1) (l := [42]) dq_cX12_two_128 (by decide +kernel) (by decide))
theorem dX12_two_175 : decode cX12_two 175 = .ok (.getfield 7, 3) := dc_180 (dc_cut (j := 47) (n := 3) (l := [180, 0, 7]) dq_cX12_two_128 (by decide +kernel) (by decide)) rfl
theorem dX12_two_178 : decode cX12_two 178 = .ok (.iload 6, 2) := dc_21 (dc_cut (j := 50) (n := 2) (l := [21, 6]) dq_cX12_two_128 (by decide +kernel) (by decide)) rfl
theorem dX12_two_180 : decode cX12_two 180 = .ok (.iconst 3, 1) := dc_6 (dc_cut (j := 52) (n := 1) (l := [6]) dq_cX12_two_128 (by decide +kernel) (by decide))
theorem dX12_two_181 : decode cX12_two 181 = .ok (.iadd, 1) := dc_96 (dc_cut (j := 53) (n := 1) (l := [96]) dq_cX12_two_128 (by decide +kernel) (by decide))
theorem dX12_two_182 : decode cX12_two 182 = .ok (.iconst 3, 1) := dc_6 (dc_cut (j := 54) (n := 1) (l := [6]) dq_cX12_two_128 (by decide +kernel) (by decide))
theorem dX12_two_183 : decode cX12_two 183 = .ok (.iload 11, 2) := dc_21 (dc_cut (j := 55) (n := 2) (l := [21, 11]) dq_cX12_two_128 (by decide +kernel) (by decide)) rfl
theorem dX12_two_185 : decode cX12_two 185 = .ok (.imul, 1) := dc_104 (dc_cut (j := 57) (n := 1) (l := [104]) dq_cX12_two_128 (by decide +kernel) (by decide))
theorem dX12_two_186 : decode cX12_two 186 = .ok (.iadd, 1) := dc_96 (dc_cut (j := 58) (n := 1) (l := [96]) dq_cX12_two_128 (by decide +kernel) (by decide))
theorem dX12_two_187 : decode cX12_two 187 = .ok (.iconst 0, 1) := dc_3 (dc_cut (j := 59) (n := 1) (l := [3]) dq_cX12_two_128 (by decide +kernel) (by decide))
theorem dX12_two_188 : decode cX12_two 188 = .ok (.iadd, 1) := dc_96 (dc_cut (j := 60) (n := 1) (l := [96]) dq_cX12_two_128 (by decide +kernel) (by decide))
theorem dX12_two_189 : decode cX12_two 189 = .ok (.iaload, 1) := dc_46 (dc_cut (j := 61) (n := 1) (l := [46]) dq_cX12_two_128 (by decide +kernel) (by decide))
theorem dX12_two_190 : decode cX12_two 190 = .ok (.iload 12, 2) := dc_21 (dc_cut (j := 62) (n := 2) (l := [21, 12]) dq_cX12_two_128 (by decide +kernel) (by decide)) rfl
theorem dq_cX12_two_192 : ((cX12_two.data.toList.drop 192).take 67).map UInt8.toNat = [3, 42, 28, 6, 182, 0, 217, 182, 0, 220, 54, 14, 42, 21, 6, 181, 0, 193, 21, 13, 42, 21, 11, 4, 182, 0, 211, 42, 21, 14, 21, 11, 182, 1, 20, 104, 96, 54, 13, 42, 21, 5, 181, 0, 193, 21, 7, 155, 0, 13, 21, 13, 21, 8, 163, 0, 6, 167, 0, 11, 21, 9, 54, 7, 21, 13, 54] := by decide +kernel
theorem dX12_two_192 : decode cX12_two 192 = .ok (.iconst 0, 1) := dc_3 (dc_cut (j := 0) (n := 1) (l := [3]) dq_cX12_two_192 (by decide +kernel) (by decide))
theorem dX12_two_193 : decode cX12_two 193 = .ok (.aload_n 0, 1) := dc_42 (dc_cut (j := 1) (n := 1) (l := [42]) dq_cX12_two_192 (by decide +kernel) (by decide))
theorem dX12_two_194 : decode cX12_two 194 = .ok (.iload_n 2, 1) := dc_28 (dc_cut (j := 2) (n := 1) (l := [28]) dq_cX12_two_192 (by decide +kernel) (by decide))
theorem dX12_two_195 : decode cX12_two 195 = .ok (.iconst 3, 1) := dc_6 (dc_cut (j := 3) (n := 1) (l := [6]) dq_cX12_two_192 (by decide +kernel) (by decide))
theorem dX12_two_196 : decode cX12_two 196 = .ok (.invokevirtual 217, 3) := dc_182 (dc_cut (j := 4) (n := 3) (l := [182, 0, 217]) dq_cX12_two_192 (by decide +kernel) (by decide)) rfl
theorem dX12_two_199 : decode cX12_two 199 = .ok (.invokevirtual 220, 3) := dc_182 (dc_cut (j := 7) (n := 3) (l := [182, 0, 220]) dq_cX12_two_192 (by decide +kernel) (by decide)) rfl
theorem dX12_two_202 : decode cX12_two 202 = .ok (.istore 14, 2) := dc_54 (dc_cut (j := 10) (n := 2) (l := [54, 14]) dq_cX12_two_192 (by decide +kernel) (by decide)) rfl
theorem dX12_two_204 : decode cX12_two 204 = .ok (.aload_n 0, 1) := dc_42 (dc_cut (j := 12) (n := 1) (l := [42]) dq_cX12_two_192 (by decide +kernel) (by decide))
theorem dX12_two_205 : decode cX12_two 205 = .ok (.iload 6, 2) := dc_21 (dc_cut (j := 13) (n := 2) (l := [21, 6]) dq_cX12_two_192 (by decide +kernel) (by decide)) rfl
theorem dX12_two_207 : decode cX12_two 207 = .ok (.putfield 193, 3) := dc_181 (dc_cut (j := 15) (n := 3) (l := [181, 0, 193]) dq_cX12_two_192 (by decide +kernel) (by decide)) rfl
theorem dX12_two_210 : decode cX12_two 210 = .ok (.iload 13, 2) := dc_21 (dc_cut (j := 18) (n := 2) (l := [21, 13]) dq_cX12_two_192 (by decide +kernel) (by decide)) rfl
theorem dX12_two_212 : decode cX12_two 212 = .ok (.aload_n 0, 1) := dc_42 (dc_cut (j := 20) (n := 1) (l := [42]) dq_cX12_two_192 (by decide +kernel) (by decide))
theorem dX12_two_213 : decode cX12_two 213 = .ok (.iload 11, 2) := dc_21 (dc_cut (j := 21) (n := 2) (l := [21, 11]) dq_cX12_two_192 (by decide +kernel) (by decide)) rfl
theorem dX12_two_215 : decode cX12_two 215 = .ok (.iconst 1, 1) := dc_4 (dc_cut (j := 23) (n := 1) (l := [4]) dq_cX12_two_192 (by decide +kernel) (by decide))
theorem dX12_two_216 : decode cX12_two 216 = .ok (.invokevirtual 211, 3) := dc_182 (dc_cut (j := 24) (n := 3) (l := [182, 0, 211]) dq_cX12_two_192 (by decide +kernel) (by decide)) rfl
theorem dX12_two_219 : decode cX12_two 219 = .ok (.aload_n 0, 1) := dc_42 (dc_cut (j := 27) (n := 1) (l := [42]) dq_cX12_two_192 (by decide +kernel) (by decide))
theorem dX12_two_220 : decode cX12_two 220 = .ok (.iload 14, 2) := dc_21 (dc_cut (j := 28) (n := 2) (l := [21, 14]) dq_cX12_two_192 (by decide +kernel) (by decide)) rfl
theorem dX12_two_222 : decode cX12_two 222 = .ok (.iload 11, 2) := dc_21 (dc_cut (j := 30) (n := 2) (l := [21, 11]) dq_cX12_two_192 (by decide +kernel) (by decide)) rfl
theorem dX12_two_224 : decode cX12_two 224 = .ok (.invokevirtual 276, 3) := dc_182 (dc_cut (j := 32) (n := 3) (l := [182, 1, 20]) dq_cX12_two_192 (by decide +kernel) (by decide)) rfl
theorem dX12_two_227 : decode cX12_two 227 = .ok (.imul, 1) := dc_104 (dc_cut (j := 35) (n := 1) (l := [104]) dq_cX12_two_192 (by decide +kernel) (by decide))
theorem dX12_two_228 : decode cX12_two 228 = .ok (.iadd, 1) := dc_96 (dc_cut (j := 36) (n := 1) (l := [96]) dq_cX12_two_192 (by decide +kernel) (by decide))
theorem dX12_two_229 : decode cX12_two 229 = .ok (.istore 13, 2) := dc_54 (dc_cut (j := 37) (n := 2) (l := [54, 13]) dq_cX12_two_192 (by decide +kernel) (by decide)) rfl
theorem dX12_two_231 : decode cX12_two 231 = .ok (.aload_n 0, 1) := dc_42 (dc_cut (j := 39) (n := 1) (l := [42]) dq_cX12_two_192 (by decide +kernel) (by decide))
theorem dX12_two_232 : decode cX12_two 232 = .ok (.iload 5, 2) := dc_21 (dc_cut (j := 40) (n := 2) (l := [21, 5]) dq_cX12_two_192 (by decide +kernel) (by decide)) rfl
theorem dX12_two_234 : decode cX12_two 234 = .ok (.putfield 193, 3) := dc_181 (dc_cut (j := 42) (n := 3) (l := [181, 0, 193]) dq_cX12_two_192 (by decide +kernel) (by decide)) rfl
theorem dX12_two_237 : decode cX12_two 237 = .ok (.iload 7, 2) := dc_21 (dc_cut (j := 45) (n := 2) (l := [21, 7]) dq_cX12_two_192 (by decide +kernel) (by decide)) rfl
theorem dX12_two_239 : decode cX12_two 239 = .ok (.ifCond .lt 13, 3) := dc_155 (dc_cut (j := 47) (n := 3) (l := [155, 0, 13]) dq_cX12_two_192 (by decide +kernel) (by decide)) rfl
theorem dX12_two_252 : decode cX12_two 252 = .ok (.iload 9, 2) := dc_21 (dc_cut (j := 60) (n := 2) (l := [21, 9]) dq_cX12_two_192 (by decide +kernel) (by decide)) rfl
theorem dX12_two_254 : decode cX12_two 254 = .ok (.istore 7, 2) := dc_54 (dc_cut (j := 62) (n := 2) (l := [54, 7]) dq_cX12_two_192 (by decide +kernel) (by decide)) rfl
theorem dX12_two_256 : decode cX12_two 256 = .ok (.iload 13, 2) := dc_21 (dc_cut (j := 0) (n := 2) (l := [21, 13]) dq_cX12_two_256 (by decide +kernel) (by decide)) rfl
theorem dX12_two_258 : decode cX12_two 258 = .ok (.istore 8, 2) := dc_54 (dc_cut (j := 2) (n := 2) (l := [54, 8]) dq_cX12_two_256 (by decide +kernel) (by decide)) rfl
theorem dX12_two_260 : decode cX12_two 260 = .ok (.iinc 9 1, 3) := dc_132 (dc_cut (j := 4) (n := 3) (l := [132, 9, 1]) dq_cX12_two_256 (by decide +kernel) (by decide)) rfl
theorem dX12_two_263 : decode cX12_two 263 = .ok (.goto (-197), 3) := dc_167 (dc_cut (j := 7) (n := 3) (l := [167, 255, 59]) dq_cX12_two_256 (by decide +kernel) (by decide)) rfl
theorem dX12_two_242 : decode cX12_two 242 = .ok (.iload 13, 2) := dc_21 (dc_cut (j := 50) (n := 2) (l := [21, 13]) dq_cX12_two_192 (by decide +kernel) (by decide)) rfl
theorem dX12_two_244 : decode cX12_two 244 = .ok (.iload 8, 2) := dc_21 (dc_cut (j := 52) (n := 2) (l := [21, 8]) dq_cX12_two_192 (by decide +kernel) (by decide)) rfl
theorem dX12_two_246 : decode cX12_two 246 = .ok (.if_icmp .gt 6, 3) := dc_163 (dc_cut (j := 54) (n := 3) (l := [163, 0, 6]) dq_cX12_two_192 (by decide +kernel) (by decide)) rfl
theorem dX12_two_249 : decode cX12_two 249 = .ok (.goto 11, 3) := dc_167 (dc_cut (j := 57) (n := 3) (l := [167, 0, 11]) dq_cX12_two_192 (by decide +kernel) (by decide)) rfl
theorem dX12_two_129 : decode cX12_two 129 = .ok (.aload_n 0, 1) := dc_42 (dc_cut (j := 1) (n := 1) (l := [42]) dq_cX12_two_128 (by decide +kernel) (by decide))
theorem dX12_two_130 : decode cX12_two 130 = .ok (.iload_n 2, 1) := dc_28 (dc_cut (j := 2) (n := 1) (l := [28]) dq_cX12_two_128 (by decide +kernel) (by decide))
theorem dX12_two_131 : decode cX12_two 131 = .ok (.iconst 2, 1) := dc_5 (dc_cut (j := 3) (n := 1) (l := [5]) dq_cX12_two_128 (by decide +kernel) (by decide))
theorem dX12_two_132 : decode cX12_two 132 = .ok (.invokevirtual 217, 3) := dc_182 (dc_cut (j := 4) (n := 3) (l := [182, 0, 217]) dq_cX12_two_128 (by decide +kernel) (by decide)) rfl
theorem dX12_two_135 : decode cX12_two 135 = .ok (.aload_n 0, 1) := dc_42 (dc_cut (j := 7) (n := 1) (l := [42]) dq_cX12_two_128 (by decide +kernel) (by decide))
theorem dX12_two_136 : decode cX12_two 136 = .ok (.iload 10, 2) := dc_21 (dc_cut (j := 8) (n := 2) (l := [21, 10]) dq_cX12_two_128 (by decide +kernel) (by decide)) rfl
theorem dX12_two_138 : decode cX12_two 138 = .ok (.iconst 0, 1) := dc_3 (dc_cut (j := 10) (n := 1) (l := [3]) dq_cX12_two_128 (by decide +kernel) (by decide))
theorem dX12_two_139 : decode cX12_two 139 = .ok (.invokevirtual 211, 3) := dc_182 (dc_cut (j := 11) (n := 3) (l := [182, 0, 211]) dq_cX12_two_128 (by decide +kernel) (by decide)) rfl
theorem dX12_two_142 : decode cX12_two 142 = .ok (.isub, 1) := dc_100 (dc_cut (j := 14) (n := 1) (l := [100]) dq_cX12_two_128 (by decide +kernel) (by decide))
theorem dX12_two_143 : decode cX12_two 143 = .ok (.goto 4, 3) := dc_167 (dc_cut (j := 15) (n := 3) (l := [167, 0, 4]) dq_cX12_two_128 (by decide +kernel) (by decide)) rfl
def ms_two_147 (n : Nat) (k66 : gb_F → Int64 → Int32 → Int32 → Int32 → Int32 → Int32 → Int32 → Int32 → gb_MR Int32) (f : gb_F) (w : Int64) (v2 : Int32) (v4 : Int32) (v5 : Int32) (v6 : Int32) (v7 : Int32) (v8 : Int32) (v9 : Int32) (v10 : Int32) (v11 : Int32) (t0 : Int32) : gb_MR Int32 := gb_bd (ms_ofPath n f w v10 1) (fun f_75 wl_76 r_77 => gb_bd (ms_firstMarks n f_75 wl_76 v2 v10) (fun f_80 wl_81 r_82 => gb_bd (ms_padded n f_80 wl_81 r_82 v10) (fun f_85 wl_86 r_87 => gb_lt (r_77 * r_87) (fun x_90 => gb_ck (((v6 + 3) + (3 * v11)) + 0) 3968 (gb_lt (f_85 1 (Int32.toNatClampNeg (((v6 + 3) + (3 * v11)) + 0))) (fun x_92 => gb_bd (ms_ofGoose n f_85 wl_86 v2 3) (fun f_93 wl_94 r_95 => gb_bd (ms_left n f_93 wl_94 v2 x_92 t0 0 r_95) (fun f_98 wl_99 r_100 => gb_lt (gb_u f_98 0 (upd (f_98 0) 11 v6)) (fun f_103 => gb_bd (ms_ofPath n f_103 wl_99 v11 1) (fun f_104 wl_105 r_106 => gb_bd (ms_padded n f_104 wl_105 r_100 v11) (fun f_109 wl_110 r_111 => gb_lt (x_90 + (r_106 * r_111)) (fun x_114 => gb_lt (gb_u f_109 0 (upd (f_109 0) 11 v5)) (fun f_115 => (if v7 < 0 then gb_lt (v9 + 1) (fun x_117 => k66 f_115 wl_110 v2 v4 v5 v6 v9 x_114 x_117) else (if v8 < x_114 then gb_lt (v9 + 1) (fun x_119 => k66 f_115 wl_110 v2 v4 v5 v6 v9 x_114 x_119) else gb_lt (v9 + 1) (fun x_120 => k66 f_115 wl_110 v2 v4 v5 v6 v7 v8 x_120))))))))))))))))
def ms_two_66 (n : Nat) : Nat → gb_F → Int64 → Int32 → Int32 → Int32 → Int32 → Int32 → Int32 → Int32 → gb_MR Int32
  | 0, _, _, _, _, _, _, _, _, _ => none
  | mm + 1, f, w, v2, v4, v5, v6, v7, v8, v9 => gb_bd (ms_paths n f w) (fun f_37 wl_38 r_39 => gb_ck (v6 + 0) 3968 (gb_lt (f_37 1 (Int32.toNatClampNeg (v6 + 0))) (fun x_43 => (if (r_39 * x_43) ≤ v9 then (if (0 : Int32) ≤ v7 then (if v4 = 0 then gb_ck (v6 + 0) 3968 (gb_lt (f_37 1 (Int32.toNatClampNeg (v6 + 0))) (fun x_53 => gb_nz x_53 (gb_lt (v7 / x_53) (fun x_55 => some (f_37, wl_38, x_55))))) else (if v4 = 1 then gb_ck (v6 + 0) 3968 (gb_lt (f_37 1 (Int32.toNatClampNeg (v6 + 0))) (fun x_49 => gb_nz x_49 (gb_lt (v7 - v7 / x_49 * x_49) (fun x_51 => some (f_37, wl_38, x_51))))) else some (f_37, wl_38, v8))) else some (f_37, wl_38, (-1))) else gb_ck (v6 + 0) 3968 (gb_lt (f_37 1 (Int32.toNatClampNeg (v6 + 0))) (fun x_57 => gb_nz x_57 (gb_lt (v9 / x_57) (fun x_59 => gb_ck (v6 + 0) 3968 (gb_lt (f_37 1 (Int32.toNatClampNeg (v6 + 0))) (fun x_61 => gb_nz x_61 (gb_lt (v9 - v9 / x_61 * x_61) (fun x_63 => gb_bd (ms_ofGoose n f_37 wl_38 v2 2) (fun f_64 wl_65 r_66 => gb_bd (ms_ofPath n f_64 wl_65 x_59 0) (fun f_69 wl_70 r_71 => (if r_66 ≤ r_71 then ms_two_147 n (fun f w v2 v4 v5 v6 v7 v8 v9 => ms_two_66 n mm f w v2 v4 v5 v6 v7 v8 v9) f_69 wl_70 v2 v4 v5 v6 v7 v8 v9 x_59 x_63 0 else gb_bd (ms_ofGoose n f_69 wl_70 v2 2) (fun f_121 wl_122 r_123 => gb_bd (ms_ofPath n f_121 wl_122 x_59 0) (fun f_126 wl_127 r_128 => ms_two_147 n (fun f w v2 v4 v5 v6 v7 v8 v9 => ms_two_66 n mm f w v2 v4 v5 v6 v7 v8 v9) f_126 wl_127 v2 v4 v5 v6 v7 v8 v9 x_59 x_63 (r_123 - r_128))))))))))))))))))
def ms_two (n : Nat) (f : gb_F) (w : Int64) (p1 : Int32) (p2 : Int32) (p3 : Int32) (p4 : Int32) : gb_MR Int32 := gb_bd (ms_isBorder n f w p1) (fun f_1 wl_2 r_3 => (if r_3 = 0 then some (f_1, wl_2, (-1)) else gb_bd (ms_isGoose n f_1 wl_2 p2) (fun f_7 wl_8 r_9 => (if r_9 = 0 then some (f_7, wl_8, (-1)) else gb_bd (ms_paths n f_7 wl_8) (fun f_13 wl_14 r_15 => (if r_15 = 0 then some (f_13, wl_14, (-1)) else gb_bd (ms_isOf n f_13 wl_14 0 p3) (fun f_19 wl_20 r_21 => (if r_21 = 0 then some (f_19, wl_20, (-1)) else gb_bd (ms_isIn n f_19 wl_20 p4 0 2) (fun f_25 wl_26 r_27 => (if r_27 = 0 then some (f_25, wl_26, (-1)) else gb_lt (f_25 0 11) (fun x_31 => gb_bd (ms_placeOf n f_25 wl_26 0 p3) (fun f_32 wl_33 r_34 => ms_two_66 n n f_32 wl_33 p2 p4 x_31 r_34 (-1) 0 0))))))))))))
set_option maxHeartbeats 8000000 in
set_option maxRecDepth 100000 in
theorem mc_two (l : Launch) (D : va_G) (cT : Nat → ClassId) (tt : Nat → Nat) (b1 b : Nat) (hb1 : b1 ≤ b) (n : Nat) (f : gb_F) (w : Int64) (p1 : Int32) (p2 : Int32) (p3 : Int32) (p4 : Int32) (fE : gb_F) (wE : Int64) (rE : Int32) (h : ms_two n f w p1 p2 p3 p4 = some (fE, wE, rE)) : Met l yX12_two (.code yX12_two cX12_two 15 (some FieldType.int) :: gb_wA) ({ frames := 4, cells := 0, slots := 0, locals := 92 }) (gb_Pc D cT tt b1 [.ref (b + 0), .int p1, .int p2, .int p3, .int p4] (fun h => va_P D vwCl (gb_wl b (gb_MW cT b f w)) h)) (gb_Qi (fun r h => r = rE ∧ va_P D vwCl (gb_wl b (gb_MW cT b fE wE)) h) (gb_fr b 22)) 0 0 (gb_fr b 22) := by
  refine Met.ofW (cc := cX12_two) (maxL := 15) (ret := (some FieldType.int)) (by decide) rfl ?_
  intro p e s m args below meth c s₁ B hml hv
  obtain ⟨rfl, hSt, hP⟩ := hv
  have hx := B.exec
  have hb := B.bytes
  have hr := B.returns
  have hts := atoms_spec (ws := .code yX12_two cX12_two 15 (some FieldType.int) :: gb_wA) B.pre
  have hq : ∀ w ∈ gb_wA, w.before _ s = true := fun w h => hts w (List.mem_cons_of_mem _ h)
  have hown : s.vm.findClass RX12 = some m.cls := findClass_of_methodNamed B.named
  have hlocks := B.notSynchronized
  clear B hts
  have hK := hSt.1
  have hS : va_S (gb_fr b 22) s.heap s.heap [] := va_S.rf
  have hl := lv_entry ([.ref (b + 0), .int p1, .int p2, .int p3, .int p4]) (n := 15) (Nat.le_of_ble_eq_true rfl)
  rw [lg_entry_eq]
  generalize (lg_sl ([.ref (b + 0), .int p1, .int p2, .int p3, .int p4]) ++ List.replicate (15 - (lg_sl ([.ref (b + 0), .int p1, .int p2, .int p3, .int p4])).length) Slot.unset).toArray = ls at hl ⊢
  replace hl : lv_has ls 15 [(0, .ref (b + 0)), (1, .int p1), (2, .int p2), (3, .int p3), (4, .int p4)] := hl
  have L147 : ∀ (k66 : gb_F → Int64 → Int32 → Int32 → Int32 → Int32 → Int32 → Int32 → Int32 → gb_MR Int32) (hk66 : ∀ (f : gb_F) (w : Int64) (v2 : Int32) (v4 : Int32) (v5 : Int32) (v6 : Int32) (v7 : Int32) (v8 : Int32) (v9 : Int32) (H : Heap) (locs : List Loc) (ls : Array Slot), k66 f w v2 v4 v5 v6 v7 v8 v9 = some (fE, wE, rE) → va_P D vwCl (gb_wl b (gb_MW cT b f w)) H → va_S (gb_fr b 22) s.heap H locs → lv_has ls 15 [(0, .ref (b + 0)), (2, .int v2), (4, .int v4), (5, .int v5), (6, .int v6), (7, .int v7), (8, .int v8), (9, .int v9)] → W p l e (headSpec (.code yX12_two cX12_two 15 (some FieldType.int) :: gb_wA) ({ frames := 4, cells := 0, slots := 0, locals := 92 })).room s m ([.ref (b + 0), .int p1, .int p2, .int p3, .int p4]).toArray below meth c H locs 0 0 (MQ below (gb_Qi (fun r h => r = rE ∧ va_P D vwCl (gb_wl b (gb_MW cT b fE wE)) h) (gb_fr b 22)) ([.ref (b + 0), .int p1, .int p2, .int p3, .int p4]).toArray s 0 0 (gb_fr b 22)) (F0 m 66 ls [])) (f : gb_F) (w : Int64) (v2 : Int32) (v4 : Int32) (v5 : Int32) (v6 : Int32) (v7 : Int32) (v8 : Int32) (v9 : Int32) (v10 : Int32) (v11 : Int32) (t0 : Int32) (H : Heap) (locs : List Loc) (ls : Array Slot), ms_two_147 n k66 f w v2 v4 v5 v6 v7 v8 v9 v10 v11 t0 = some (fE, wE, rE) → va_P D vwCl (gb_wl b (gb_MW cT b f w)) H → va_S (gb_fr b 22) s.heap H locs → lv_has ls 15 [(0, .ref (b + 0)), (2, .int v2), (4, .int v4), (5, .int v5), (6, .int v6), (7, .int v7), (8, .int v8), (9, .int v9), (10, .int v10), (11, .int v11)] → W p l e (headSpec (.code yX12_two cX12_two 15 (some FieldType.int) :: gb_wA) ({ frames := 4, cells := 0, slots := 0, locals := 92 })).room s m ([.ref (b + 0), .int p1, .int p2, .int p3, .int p4]).toArray below meth c H locs 0 0 (MQ below (gb_Qi (fun r h => r = rE ∧ va_P D vwCl (gb_wl b (gb_MW cT b fE wE)) h) (gb_fr b 22)) ([.ref (b + 0), .int p1, .int p2, .int p3, .int p4]).toArray s 0 0 (gb_fr b 22)) (F0 m 147 ls [.int t0]) := by
    clear h hP hS hl ls f w
    intro k66 hk66 f w v2 v4 v5 v6 v7 v8 v9 v10 v11 t0 H locs ls h hP hS hl
    unfold ms_two_147 at h
    refine lv_istore (lv' := [(12, .int t0), (0, .ref (b + 0)), (2, .int v2), (4, .int v4), (5, .int v5), (6, .int v6), (7, .int v7), (8, .int v8), (9, .int v9), (10, .int v10), (11, .int v11)]) hx hb dX12_two_147 hl (by decide) rfl (fun ls hl => ?_)
    refine lv_aload_n hx hb dX12_two_149 rfl (lv_at hl 1 rfl) ?_
    refine lv_iload hx hb dX12_two_150 (lv_at hl 9 rfl) ?_
    refine lv_iconst (v := 1) hx hb dX12_two_152 (by decide) ?_
    obtain ⟨f_75, wl_76, r_77, z_78, h⟩ := gb_bd_s h
    refine gb_calli (va_runV (C := RX12) (As := [.int v10, .int 1]) (rest := []) ⟨hx, hb, hml, hown, hq⟩ (mc_ofPath l D cT tt b1 b hb1 n f w v10 1 f_75 wl_76 r_77 z_78) (cwV 2 hq (gb_gV w_1388 w_1390 s_4_5 w_14 w_1391) rfl rfl rfl (by decide +kernel) ⟨Nat.le_of_ble_eq_true rfl, Nat.le_of_ble_eq_true rfl⟩) (gb_preV (r := (RX12, TX12, 44)) (ci := 10) (q0 := 0) hSt hP rfl (gb_at b rfl) hS (fun q h => Nat.le_trans hb1 h.1) hP) rfl rfl hl.1 rfl (lv_room (Nat.le_of_ble_eq_true rfl)) dX12_two_153 ⟨Nat.le_of_ble_eq_true rfl, Nat.le_of_ble_eq_true rfl⟩) hS (fun _ h => h) (fun _ h => h) (fun q_79 H locs hY hk hS => ?_)
    obtain ⟨hq_79, hP⟩ := hY
    replace hq_79 := hq_79.symm
    subst hq_79
    refine lv_aload_n hx hb dX12_two_156 rfl (lv_at hl 1 rfl) ?_
    refine lv_aload_n hx hb dX12_two_157 rfl (lv_at hl 1 rfl) ?_
    refine lv_iload_n hx hb dX12_two_158 rfl (lv_at hl 2 rfl) ?_
    refine lv_iload hx hb dX12_two_159 (lv_at hl 9 rfl) ?_
    obtain ⟨f_80, wl_81, r_82, z_83, h⟩ := gb_bd_s h
    refine gb_calli (va_runV (C := RX12) (As := [.int v2, .int v10]) (rest := [.ref (b + 0), .int r_77]) ⟨hx, hb, hml, hown, hq⟩ (mc_firstMarks l D cT tt b1 b hb1 n f_75 wl_76 v2 v10 f_80 wl_81 r_82 z_83) (cwV 2 hq (gb_gV w_1532 w_1534 s_6_0 w_14 w_1535) rfl rfl rfl (by decide +kernel) ⟨Nat.le_of_ble_eq_true rfl, Nat.le_of_ble_eq_true rfl⟩) (gb_preV (r := (RX12, TX12, 44)) (ci := 10) (q0 := 0) hSt hP rfl (gb_at b rfl) hS (fun q h => Nat.le_trans hb1 h.1) hP) rfl rfl hl.1 rfl (lv_room (Nat.le_of_ble_eq_true rfl)) dX12_two_161 ⟨Nat.le_of_ble_eq_true rfl, Nat.le_of_ble_eq_true rfl⟩) hS (fun _ h => h) (fun _ h => h) (fun q_84 H locs hY hk hS => ?_)
    obtain ⟨hq_84, hP⟩ := hY
    replace hq_84 := hq_84.symm
    subst hq_84
    refine lv_iload hx hb dX12_two_164 (lv_at hl 9 rfl) ?_
    obtain ⟨f_85, wl_86, r_87, z_88, h⟩ := gb_bd_s h
    refine gb_calli (va_runV (C := RX12) (As := [.int r_82, .int v10]) (rest := [.int r_77]) ⟨hx, hb, hml, hown, hq⟩ (mc_padded l D cT tt b1 b hb1 n f_80 wl_81 r_82 v10 f_85 wl_86 r_87 z_88) (cwV 2 hq (gb_gV w_1480 w_1482 s_5_7 w_14 w_1483) rfl rfl rfl (by decide +kernel) ⟨Nat.le_of_ble_eq_true rfl, Nat.le_of_ble_eq_true rfl⟩) (gb_preV (r := (RX12, TX12, 44)) (ci := 10) (q0 := 0) hSt hP rfl (gb_at b rfl) hS (fun q h => Nat.le_trans hb1 h.1) hP) rfl rfl hl.1 rfl (lv_room (Nat.le_of_ble_eq_true rfl)) dX12_two_166 ⟨Nat.le_of_ble_eq_true rfl, Nat.le_of_ble_eq_true rfl⟩) hS (fun _ h => h) (fun _ h => h) (fun q_89 H locs hY hk hS => ?_)
    obtain ⟨hq_89, hP⟩ := hY
    replace hq_89 := hq_89.symm
    subst hq_89
    refine lv_imul hx hb dX12_two_169 ?_
    refine lv_topi (fun x_90 ex_90 => ?_)
    replace h := gb_lt_s ex_90 h
    refine lv_istore (lv' := [(13, .int x_90), (12, .int t0), (0, .ref (b + 0)), (2, .int v2), (4, .int v4), (5, .int v5), (6, .int v6), (7, .int v7), (8, .int v8), (9, .int v9), (10, .int v10), (11, .int v11)]) hx hb dX12_two_170 hl (by decide) rfl (fun ls hl => ?_)
    refine lv_aload_n hx hb dX12_two_172 rfl (lv_at hl 2 rfl) ?_
    refine lv_iload_n hx hb dX12_two_173 rfl (lv_at hl 3 rfl) ?_
    refine lv_aload_n hx hb dX12_two_174 rfl (lv_at hl 2 rfl) ?_
    refine va_get (ci := 10) (v := (.ref (b + 1))) (C := RX12) (T := TX12) (N := 44) hx hb hq i_X12 hown hK hP 0 (gb_at b rfl) rfl 0 (by decide) (hq _ w_1124) (fun _ h9 => h9) rfl dX12_two_175 ?_
    refine lv_iload hx hb dX12_two_178 (lv_at hl 6 rfl) ?_
    refine lv_iconst (v := 3) hx hb dX12_two_180 (by decide) ?_
    refine lv_iadd hx hb dX12_two_181 ?_
    refine lv_iconst (v := 3) hx hb dX12_two_182 (by decide) ?_
    refine lv_iload hx hb dX12_two_183 (lv_at hl 11 rfl) ?_
    refine lv_imul hx hb dX12_two_185 ?_
    refine lv_iadd hx hb dX12_two_186 ?_
    refine lv_iconst (v := 0) hx hb dX12_two_187 (by decide) ?_
    refine lv_iadd hx hb dX12_two_188 ?_
    obtain ⟨z_91, h⟩ := gb_ck_s h
    refine va_iald hx hb hK hP 1 0 (gb_at b rfl) rfl z_91 dX12_two_189 ?_
    refine lv_topi (fun x_92 ex_92 => ?_)
    replace h := gb_lt_s ex_92 h
    refine lv_iload hx hb dX12_two_190 (lv_at hl 1 rfl) ?_
    refine lv_iconst (v := 0) hx hb dX12_two_192 (by decide) ?_
    refine lv_aload_n hx hb dX12_two_193 rfl (lv_at hl 2 rfl) ?_
    refine lv_iload_n hx hb dX12_two_194 rfl (lv_at hl 3 rfl) ?_
    refine lv_iconst (v := 3) hx hb dX12_two_195 (by decide) ?_
    obtain ⟨f_93, wl_94, r_95, z_96, h⟩ := gb_bd_s h
    refine gb_calli (va_runV (C := RX12) (As := [.int v2, .int 3]) (rest := [.int 0, .int t0, .int x_92, .int v2, .ref (b + 0)]) ⟨hx, hb, hml, hown, hq⟩ (mc_ofGoose l D cT tt b1 b hb1 n f_85 wl_86 v2 3 f_93 wl_94 r_95 z_96) (cwV 2 hq (gb_gV w_1400 w_1402 s_4_8 w_14 w_1403) rfl rfl rfl (by decide +kernel) ⟨Nat.le_of_ble_eq_true rfl, Nat.le_of_ble_eq_true rfl⟩) (gb_preV (r := (RX12, TX12, 44)) (ci := 10) (q0 := 0) hSt hP rfl (gb_at b rfl) hS (fun q h => Nat.le_trans hb1 h.1) hP) rfl rfl hl.1 rfl (lv_room (Nat.le_of_ble_eq_true rfl)) dX12_two_196 ⟨Nat.le_of_ble_eq_true rfl, Nat.le_of_ble_eq_true rfl⟩) hS (fun _ h => h) (fun _ h => h) (fun q_97 H locs hY hk hS => ?_)
    obtain ⟨hq_97, hP⟩ := hY
    replace hq_97 := hq_97.symm
    subst hq_97
    obtain ⟨f_98, wl_99, r_100, z_101, h⟩ := gb_bd_s h
    refine gb_calli (va_runV (C := RX12) (As := [.int v2, .int x_92, .int t0, .int 0, .int r_95]) (rest := []) ⟨hx, hb, hml, hown, hq⟩ (mc_left l D cT tt b1 b hb1 n f_93 wl_94 v2 x_92 t0 0 r_95 f_98 wl_99 r_100 z_101) (cwV 5 hq (gb_gV w_1408 w_1410 s_4_9 w_14 w_1411) rfl rfl rfl (by decide +kernel) ⟨Nat.le_of_ble_eq_true rfl, Nat.le_of_ble_eq_true rfl⟩) (gb_preV (r := (RX12, TX12, 44)) (ci := 10) (q0 := 0) hSt hP rfl (gb_at b rfl) hS (fun q h => Nat.le_trans hb1 h.1) hP) rfl rfl hl.1 rfl (lv_room (Nat.le_of_ble_eq_true rfl)) dX12_two_199 ⟨Nat.le_of_ble_eq_true rfl, Nat.le_of_ble_eq_true rfl⟩) hS (fun _ h => h) (fun _ h => h) (fun q_102 H locs hY hk hS => ?_)
    obtain ⟨hq_102, hP⟩ := hY
    replace hq_102 := hq_102.symm
    subst hq_102
    refine lv_istore (lv' := [(14, .int r_100), (13, .int x_90), (12, .int t0), (0, .ref (b + 0)), (2, .int v2), (4, .int v4), (5, .int v5), (6, .int v6), (7, .int v7), (8, .int v8), (9, .int v9), (10, .int v10), (11, .int v11)]) hx hb dX12_two_202 hl (by decide) rfl (fun ls hl => ?_)
    refine lv_aload_n hx hb dX12_two_204 rfl (lv_at hl 3 rfl) ?_
    refine lv_iload hx hb dX12_two_205 (lv_at hl 7 rfl) ?_
    refine gb_put (ci := 10) (v := (.int v6)) (ty := .int) (C := RX12) (T := TX12) (N := 44) hx hb hq i_X12 tyX12 tyX12_ok nmX12 hown hK hP (fun k h => ⟨Nat.le_add_right b k, Nat.add_lt_add_left h b⟩) hS rfl 0 rfl rfl 11 (by decide) (hq _ w_1135) (fun _ h9 => h9) rfl (by decide +kernel) rfl rfl (Nat.le_of_ble_eq_true rfl) dX12_two_207 (fun H locs hP hz_ hS => ?_)
    obtain ⟨f_103, ef_103⟩ : ∃ q, q = (gb_u f_98 0 (upd (f_98 0) 11 v6)) := ⟨_, rfl⟩
    replace hP : va_P D vwCl (gb_wl b (gb_MW cT b f_103 wl_99)) H := by rw [ef_103]; exact hP
    replace h := gb_lt_s ef_103 h
    refine lv_iload hx hb dX12_two_210 (lv_at hl 1 rfl) ?_
    refine lv_aload_n hx hb dX12_two_212 rfl (lv_at hl 3 rfl) ?_
    refine lv_iload hx hb dX12_two_213 (lv_at hl 12 rfl) ?_
    refine lv_iconst (v := 1) hx hb dX12_two_215 (by decide) ?_
    obtain ⟨f_104, wl_105, r_106, z_107, h⟩ := gb_bd_s h
    refine gb_calli (va_runV (C := RX12) (As := [.int v11, .int 1]) (rest := [.int x_90]) ⟨hx, hb, hml, hown, hq⟩ (mc_ofPath l D cT tt b1 b hb1 n f_103 wl_99 v11 1 f_104 wl_105 r_106 z_107) (cwV 2 hq (gb_gV w_1388 w_1390 s_4_5 w_14 w_1391) rfl rfl rfl (by decide +kernel) ⟨Nat.le_of_ble_eq_true rfl, Nat.le_of_ble_eq_true rfl⟩) (gb_preV (r := (RX12, TX12, 44)) (ci := 10) (q0 := 0) hSt hP rfl (gb_at b rfl) hS (fun q h => Nat.le_trans hb1 h.1) hP) rfl rfl hl.1 rfl (lv_room (Nat.le_of_ble_eq_true rfl)) dX12_two_216 ⟨Nat.le_of_ble_eq_true rfl, Nat.le_of_ble_eq_true rfl⟩) hS (fun _ h => h) (fun _ h => h) (fun q_108 H locs hY hk hS => ?_)
    obtain ⟨hq_108, hP⟩ := hY
    replace hq_108 := hq_108.symm
    subst hq_108
    refine lv_aload_n hx hb dX12_two_219 rfl (lv_at hl 3 rfl) ?_
    refine lv_iload hx hb dX12_two_220 (lv_at hl 0 rfl) ?_
    refine lv_iload hx hb dX12_two_222 (lv_at hl 12 rfl) ?_
    obtain ⟨f_109, wl_110, r_111, z_112, h⟩ := gb_bd_s h
    refine gb_calli (va_runV (C := RX12) (As := [.int r_100, .int v11]) (rest := [.int r_106, .int x_90]) ⟨hx, hb, hml, hown, hq⟩ (mc_padded l D cT tt b1 b hb1 n f_104 wl_105 r_100 v11 f_109 wl_110 r_111 z_112) (cwV 2 hq (gb_gV w_1480 w_1482 s_5_7 w_14 w_1483) rfl rfl rfl (by decide +kernel) ⟨Nat.le_of_ble_eq_true rfl, Nat.le_of_ble_eq_true rfl⟩) (gb_preV (r := (RX12, TX12, 44)) (ci := 10) (q0 := 0) hSt hP rfl (gb_at b rfl) hS (fun q h => Nat.le_trans hb1 h.1) hP) rfl rfl hl.1 rfl (lv_room (Nat.le_of_ble_eq_true rfl)) dX12_two_224 ⟨Nat.le_of_ble_eq_true rfl, Nat.le_of_ble_eq_true rfl⟩) hS (fun _ h => h) (fun _ h => h) (fun q_113 H locs hY hk hS => ?_)
    obtain ⟨hq_113, hP⟩ := hY
    replace hq_113 := hq_113.symm
    subst hq_113
    refine lv_imul hx hb dX12_two_227 ?_
    refine lv_iadd hx hb dX12_two_228 ?_
    refine lv_topi (fun x_114 ex_114 => ?_)
    replace h := gb_lt_s ex_114 h
    refine lv_istore (lv' := [(13, .int x_114), (14, .int r_100), (12, .int t0), (0, .ref (b + 0)), (2, .int v2), (4, .int v4), (5, .int v5), (6, .int v6), (7, .int v7), (8, .int v8), (9, .int v9), (10, .int v10), (11, .int v11)]) hx hb dX12_two_229 hl (by decide) rfl (fun ls hl => ?_)
    refine lv_aload_n hx hb dX12_two_231 rfl (lv_at hl 3 rfl) ?_
    refine lv_iload hx hb dX12_two_232 (lv_at hl 6 rfl) ?_
    refine gb_put (ci := 10) (v := (.int v5)) (ty := .int) (C := RX12) (T := TX12) (N := 44) hx hb hq i_X12 tyX12 tyX12_ok nmX12 hown hK hP (fun k h => ⟨Nat.le_add_right b k, Nat.add_lt_add_left h b⟩) hS rfl 0 rfl rfl 11 (by decide) (hq _ w_1135) (fun _ h9 => h9) rfl (by decide +kernel) rfl rfl (Nat.le_of_ble_eq_true rfl) dX12_two_234 (fun H locs hP hz_ hS => ?_)
    obtain ⟨f_115, ef_115⟩ : ∃ q, q = (gb_u f_109 0 (upd (f_109 0) 11 v5)) := ⟨_, rfl⟩
    replace hP : va_P D vwCl (gb_wl b (gb_MW cT b f_115 wl_110)) H := by rw [ef_115]; exact hP
    replace h := gb_lt_s ef_115 h
    refine lv_iload hx hb dX12_two_237 (lv_at hl 8 rfl) ?_
    refine lv_if_lt (tgt := 252) hx hb dX12_two_239 (by decide) (fun c_116 => ?_) (fun c_116 => ?_)
    · rw [if_pos c_116] at h
      refine lv_iload hx hb dX12_two_252 (lv_at hl 10 rfl) ?_
      refine lv_istore (lv' := [(7, .int v9), (13, .int x_114), (14, .int r_100), (12, .int t0), (0, .ref (b + 0)), (2, .int v2), (4, .int v4), (5, .int v5), (6, .int v6), (8, .int v8), (9, .int v9), (10, .int v10), (11, .int v11)]) hx hb dX12_two_254 hl (by decide) rfl (fun ls hl => ?_)
      refine lv_iload hx hb dX12_two_256 (lv_at hl 1 rfl) ?_
      refine lv_istore (lv' := [(8, .int x_114), (7, .int v9), (13, .int x_114), (14, .int r_100), (12, .int t0), (0, .ref (b + 0)), (2, .int v2), (4, .int v4), (5, .int v5), (6, .int v6), (9, .int v9), (10, .int v10), (11, .int v11)]) hx hb dX12_two_258 hl (by decide) rfl (fun ls hl => ?_)
      obtain ⟨x_117, ex_117⟩ : ∃ q, q = (v9 + 1) := ⟨_, rfl⟩
      replace h := gb_lt_s ex_117 h
      refine lv_iinc (v := x_117) (lv' := [(9, .int x_117), (8, .int x_114), (7, .int v9), (13, .int x_114), (14, .int r_100), (12, .int t0), (0, .ref (b + 0)), (2, .int v2), (4, .int v4), (5, .int v5), (6, .int v6), (10, .int v10), (11, .int v11)]) hx hb dX12_two_260 hl (k := 10) rfl (by rw [ex_117]; rfl) (by decide) rfl (fun ls hl => ?_)
      refine lv_goto (tgt := 66) hx hb dX12_two_263 (by decide) ?_
      exact hk66 _ _ _ _ _ _ _ _ _ _ _ _ h hP hS (lv_sub hl [6, 7, 8, 9, 10, 2, 1, 0] rfl)
    · rw [if_neg c_116] at h
      refine lv_iload hx hb dX12_two_242 (lv_at hl 0 rfl) ?_
      refine lv_iload hx hb dX12_two_244 (lv_at hl 9 rfl) ?_
      refine lv_icmp_gt (tgt := 252) hx hb dX12_two_246 (by decide) (fun c_118 => ?_) (fun c_118 => ?_)
      · rw [if_pos c_118] at h
        refine lv_iload hx hb dX12_two_252 (lv_at hl 10 rfl) ?_
        refine lv_istore (lv' := [(7, .int v9), (13, .int x_114), (14, .int r_100), (12, .int t0), (0, .ref (b + 0)), (2, .int v2), (4, .int v4), (5, .int v5), (6, .int v6), (8, .int v8), (9, .int v9), (10, .int v10), (11, .int v11)]) hx hb dX12_two_254 hl (by decide) rfl (fun ls hl => ?_)
        refine lv_iload hx hb dX12_two_256 (lv_at hl 1 rfl) ?_
        refine lv_istore (lv' := [(8, .int x_114), (7, .int v9), (13, .int x_114), (14, .int r_100), (12, .int t0), (0, .ref (b + 0)), (2, .int v2), (4, .int v4), (5, .int v5), (6, .int v6), (9, .int v9), (10, .int v10), (11, .int v11)]) hx hb dX12_two_258 hl (by decide) rfl (fun ls hl => ?_)
        obtain ⟨x_119, ex_119⟩ : ∃ q, q = (v9 + 1) := ⟨_, rfl⟩
        replace h := gb_lt_s ex_119 h
        refine lv_iinc (v := x_119) (lv' := [(9, .int x_119), (8, .int x_114), (7, .int v9), (13, .int x_114), (14, .int r_100), (12, .int t0), (0, .ref (b + 0)), (2, .int v2), (4, .int v4), (5, .int v5), (6, .int v6), (10, .int v10), (11, .int v11)]) hx hb dX12_two_260 hl (k := 10) rfl (by rw [ex_119]; rfl) (by decide) rfl (fun ls hl => ?_)
        refine lv_goto (tgt := 66) hx hb dX12_two_263 (by decide) ?_
        exact hk66 _ _ _ _ _ _ _ _ _ _ _ _ h hP hS (lv_sub hl [6, 7, 8, 9, 10, 2, 1, 0] rfl)
      · rw [if_neg c_118] at h
        refine lv_goto (tgt := 260) hx hb dX12_two_249 (by decide) ?_
        obtain ⟨x_120, ex_120⟩ : ∃ q, q = (v9 + 1) := ⟨_, rfl⟩
        replace h := gb_lt_s ex_120 h
        refine lv_iinc (v := x_120) (lv' := [(9, .int x_120), (13, .int x_114), (14, .int r_100), (12, .int t0), (0, .ref (b + 0)), (2, .int v2), (4, .int v4), (5, .int v5), (6, .int v6), (7, .int v7), (8, .int v8), (10, .int v10), (11, .int v11)]) hx hb dX12_two_260 hl (k := 10) rfl (by rw [ex_120]; rfl) (by decide) rfl (fun ls hl => ?_)
        refine lv_goto (tgt := 66) hx hb dX12_two_263 (by decide) ?_
        exact hk66 _ _ _ _ _ _ _ _ _ _ _ _ h hP hS (lv_sub hl [4, 5, 6, 7, 8, 9, 10, 0] rfl)
  have L66 : ∀ (mm : Nat) (f : gb_F) (w : Int64) (v2 : Int32) (v4 : Int32) (v5 : Int32) (v6 : Int32) (v7 : Int32) (v8 : Int32) (v9 : Int32) (H : Heap) (locs : List Loc) (ls : Array Slot), ms_two_66 n mm f w v2 v4 v5 v6 v7 v8 v9 = some (fE, wE, rE) → va_P D vwCl (gb_wl b (gb_MW cT b f w)) H → va_S (gb_fr b 22) s.heap H locs → lv_has ls 15 [(0, .ref (b + 0)), (2, .int v2), (4, .int v4), (5, .int v5), (6, .int v6), (7, .int v7), (8, .int v8), (9, .int v9)] → W p l e (headSpec (.code yX12_two cX12_two 15 (some FieldType.int) :: gb_wA) ({ frames := 4, cells := 0, slots := 0, locals := 92 })).room s m ([.ref (b + 0), .int p1, .int p2, .int p3, .int p4]).toArray below meth c H locs 0 0 (MQ below (gb_Qi (fun r h => r = rE ∧ va_P D vwCl (gb_wl b (gb_MW cT b fE wE)) h) (gb_fr b 22)) ([.ref (b + 0), .int p1, .int p2, .int p3, .int p4]).toArray s 0 0 (gb_fr b 22)) (F0 m 66 ls []) := by
    clear h hP hS hl ls f w
    intro mm
    induction mm with
    | zero =>
      intro f w v2 v4 v5 v6 v7 v8 v9 H locs ls h
      cases h
    | succ mm ih =>
      intro f w v2 v4 v5 v6 v7 v8 v9 H locs ls h hP hS hl
      rw [ms_two_66] at h
      refine lv_iload hx hb dX12_two_66 (lv_at hl 7 rfl) ?_
      refine lv_aload_n hx hb dX12_two_68 rfl (lv_at hl 0 rfl) ?_
      obtain ⟨f_37, wl_38, r_39, z_40, h⟩ := gb_bd_s h
      refine gb_calli (va_runV (C := RX12) (As := []) (rest := [.int v9]) ⟨hx, hb, hml, hown, hq⟩ (mc_paths l D cT tt b1 b hb1 n f w f_37 wl_38 r_39 z_40) (cwV 0 hq (gb_gV w_1384 w_1386 s_4_4 w_14 w_1387) rfl rfl rfl (by decide +kernel) ⟨Nat.le_of_ble_eq_true rfl, Nat.le_of_ble_eq_true rfl⟩) (gb_preV (r := (RX12, TX12, 44)) (ci := 10) (q0 := 0) hSt hP rfl (gb_at b rfl) hS (fun q h => Nat.le_trans hb1 h.1) hP) rfl rfl hl.1 rfl (lv_room (Nat.le_of_ble_eq_true rfl)) dX12_two_69 ⟨Nat.le_of_ble_eq_true rfl, Nat.le_of_ble_eq_true rfl⟩) hS (fun _ h => h) (fun _ h => h) (fun q_41 H locs hY hk hS => ?_)
      obtain ⟨hq_41, hP⟩ := hY
      replace hq_41 := hq_41.symm
      subst hq_41
      refine lv_aload_n hx hb dX12_two_72 rfl (lv_at hl 0 rfl) ?_
      refine va_get (ci := 10) (v := (.ref (b + 1))) (C := RX12) (T := TX12) (N := 44) hx hb hq i_X12 hown hK hP 0 (gb_at b rfl) rfl 0 (by decide) (hq _ w_1124) (fun _ h9 => h9) rfl dX12_two_73 ?_
      refine lv_iload hx hb dX12_two_76 (lv_at hl 4 rfl) ?_
      refine lv_iconst (v := 0) hx hb dX12_two_78 (by decide) ?_
      refine lv_iadd hx hb dX12_two_79 ?_
      obtain ⟨z_42, h⟩ := gb_ck_s h
      refine va_iald hx hb hK hP 1 0 (gb_at b rfl) rfl z_42 dX12_two_80 ?_
      refine lv_topi (fun x_43 ex_43 => ?_)
      replace h := gb_lt_s ex_43 h
      refine lv_imul hx hb dX12_two_81 ?_
      refine lv_icmp_ge (tgt := 266) hx hb dX12_two_82 (by decide) (fun c_44 => ?_) (fun c_44 => ?_)
      · rw [if_pos c_44] at h
        refine lv_iload hx hb dX12_two_266 (lv_at hl 5 rfl) ?_
        refine lv_if_ge (tgt := 273) hx hb dX12_two_268 (by decide) (fun c_45 => ?_) (fun c_45 => ?_)
        · rw [if_pos c_45] at h
          refine lv_iload hx hb dX12_two_273 (lv_at hl 2 rfl) ?_
          refine lv_if_ne (tgt := 293) hx hb dX12_two_275 (by decide) (fun c_46 => ?_) (fun c_46 => ?_)
          · rw [if_neg c_46] at h
            refine lv_iload hx hb dX12_two_293 (lv_at hl 2 rfl) ?_
            refine lv_iconst (v := 1) hx hb dX12_two_295 (by decide) ?_
            refine lv_icmp_ne (tgt := 314) hx hb dX12_two_296 (by decide) (fun c_47 => ?_) (fun c_47 => ?_)
            · rw [if_neg c_47] at h
              refine lv_iload hx hb dX12_two_314 (lv_at hl 6 rfl) ?_
              obtain ⟨e1, e2, e3⟩ := gb_eq3 h
              exact W.iret (v := v8) hx hb hr (fun t ht hW => gb_ri ht ⟨e3, by rw [← e1, ← e2]; exact hP⟩ hS) hS.2.2 dX12_two_316
            · rw [if_pos c_47] at h
              refine lv_iload hx hb dX12_two_299 (lv_at hl 5 rfl) ?_
              refine lv_aload_n hx hb dX12_two_301 rfl (lv_at hl 0 rfl) ?_
              refine va_get (ci := 10) (v := (.ref (b + 1))) (C := RX12) (T := TX12) (N := 44) hx hb hq i_X12 hown hK hP 0 (gb_at b rfl) rfl 0 (by decide) (hq _ w_1124) (fun _ h9 => h9) rfl dX12_two_302 ?_
              refine lv_iload hx hb dX12_two_305 (lv_at hl 4 rfl) ?_
              refine lv_iconst (v := 0) hx hb dX12_two_307 (by decide) ?_
              refine lv_iadd hx hb dX12_two_308 ?_
              obtain ⟨z_48, h⟩ := gb_ck_s h
              refine va_iald hx hb hK hP 1 0 (gb_at b rfl) rfl z_48 dX12_two_309 ?_
              refine lv_topi (fun x_49 ex_49 => ?_)
              replace h := gb_lt_s ex_49 h
              obtain ⟨z_50, h⟩ := gb_nz_s h
              refine lv_irem hx hb dX12_two_310 z_50 ?_
              refine lv_topi (fun x_51 ex_51 => ?_)
              replace h := gb_lt_s ex_51 h
              refine lv_goto (tgt := 316) hx hb dX12_two_311 (by decide) ?_
              obtain ⟨e1, e2, e3⟩ := gb_eq3 h
              exact W.iret (v := x_51) hx hb hr (fun t ht hW => gb_ri ht ⟨e3, by rw [← e1, ← e2]; exact hP⟩ hS) hS.2.2 dX12_two_316
          · rw [if_pos c_46] at h
            refine lv_iload hx hb dX12_two_278 (lv_at hl 5 rfl) ?_
            refine lv_aload_n hx hb dX12_two_280 rfl (lv_at hl 0 rfl) ?_
            refine va_get (ci := 10) (v := (.ref (b + 1))) (C := RX12) (T := TX12) (N := 44) hx hb hq i_X12 hown hK hP 0 (gb_at b rfl) rfl 0 (by decide) (hq _ w_1124) (fun _ h9 => h9) rfl dX12_two_281 ?_
            refine lv_iload hx hb dX12_two_284 (lv_at hl 4 rfl) ?_
            refine lv_iconst (v := 0) hx hb dX12_two_286 (by decide) ?_
            refine lv_iadd hx hb dX12_two_287 ?_
            obtain ⟨z_52, h⟩ := gb_ck_s h
            refine va_iald hx hb hK hP 1 0 (gb_at b rfl) rfl z_52 dX12_two_288 ?_
            refine lv_topi (fun x_53 ex_53 => ?_)
            replace h := gb_lt_s ex_53 h
            obtain ⟨z_54, h⟩ := gb_nz_s h
            refine lv_idiv hx hb dX12_two_289 z_54 ?_
            refine lv_topi (fun x_55 ex_55 => ?_)
            replace h := gb_lt_s ex_55 h
            refine lv_goto (tgt := 316) hx hb dX12_two_290 (by decide) ?_
            obtain ⟨e1, e2, e3⟩ := gb_eq3 h
            exact W.iret (v := x_55) hx hb hr (fun t ht hW => gb_ri ht ⟨e3, by rw [← e1, ← e2]; exact hP⟩ hS) hS.2.2 dX12_two_316
        · rw [if_neg c_45] at h
          refine lv_iconst (v := (-1)) hx hb dX12_two_271 (by decide) ?_
          obtain ⟨e1, e2, e3⟩ := gb_eq3 h
          exact W.iret (v := (-1)) hx hb hr (fun t ht hW => gb_ri ht ⟨e3, by rw [← e1, ← e2]; exact hP⟩ hS) hS.2.2 dX12_two_272
      · rw [if_neg c_44] at h
        refine lv_iload hx hb dX12_two_85 (lv_at hl 7 rfl) ?_
        refine lv_aload_n hx hb dX12_two_87 rfl (lv_at hl 0 rfl) ?_
        refine va_get (ci := 10) (v := (.ref (b + 1))) (C := RX12) (T := TX12) (N := 44) hx hb hq i_X12 hown hK hP 0 (gb_at b rfl) rfl 0 (by decide) (hq _ w_1124) (fun _ h9 => h9) rfl dX12_two_88 ?_
        refine lv_iload hx hb dX12_two_91 (lv_at hl 4 rfl) ?_
        refine lv_iconst (v := 0) hx hb dX12_two_93 (by decide) ?_
        refine lv_iadd hx hb dX12_two_94 ?_
        obtain ⟨z_56, h⟩ := gb_ck_s h
        refine va_iald hx hb hK hP 1 0 (gb_at b rfl) rfl z_56 dX12_two_95 ?_
        refine lv_topi (fun x_57 ex_57 => ?_)
        replace h := gb_lt_s ex_57 h
        obtain ⟨z_58, h⟩ := gb_nz_s h
        refine lv_idiv hx hb dX12_two_96 z_58 ?_
        refine lv_topi (fun x_59 ex_59 => ?_)
        replace h := gb_lt_s ex_59 h
        refine lv_istore (lv' := [(10, .int x_59), (0, .ref (b + 0)), (2, .int v2), (4, .int v4), (5, .int v5), (6, .int v6), (7, .int v7), (8, .int v8), (9, .int v9)]) hx hb dX12_two_97 hl (by decide) rfl (fun ls hl => ?_)
        refine lv_iload hx hb dX12_two_99 (lv_at hl 8 rfl) ?_
        refine lv_aload_n hx hb dX12_two_101 rfl (lv_at hl 1 rfl) ?_
        refine va_get (ci := 10) (v := (.ref (b + 1))) (C := RX12) (T := TX12) (N := 44) hx hb hq i_X12 hown hK hP 0 (gb_at b rfl) rfl 0 (by decide) (hq _ w_1124) (fun _ h9 => h9) rfl dX12_two_102 ?_
        refine lv_iload hx hb dX12_two_105 (lv_at hl 5 rfl) ?_
        refine lv_iconst (v := 0) hx hb dX12_two_107 (by decide) ?_
        refine lv_iadd hx hb dX12_two_108 ?_
        obtain ⟨z_60, h⟩ := gb_ck_s h
        refine va_iald hx hb hK hP 1 0 (gb_at b rfl) rfl z_60 dX12_two_109 ?_
        refine lv_topi (fun x_61 ex_61 => ?_)
        replace h := gb_lt_s ex_61 h
        obtain ⟨z_62, h⟩ := gb_nz_s h
        refine lv_irem hx hb dX12_two_110 z_62 ?_
        refine lv_topi (fun x_63 ex_63 => ?_)
        replace h := gb_lt_s ex_63 h
        refine lv_istore (lv' := [(11, .int x_63), (10, .int x_59), (0, .ref (b + 0)), (2, .int v2), (4, .int v4), (5, .int v5), (6, .int v6), (7, .int v7), (8, .int v8), (9, .int v9)]) hx hb dX12_two_111 hl (by decide) rfl (fun ls hl => ?_)
        refine lv_aload_n hx hb dX12_two_113 rfl (lv_at hl 2 rfl) ?_
        refine lv_iload_n hx hb dX12_two_114 rfl (lv_at hl 3 rfl) ?_
        refine lv_iconst (v := 2) hx hb dX12_two_115 (by decide) ?_
        obtain ⟨f_64, wl_65, r_66, z_67, h⟩ := gb_bd_s h
        refine gb_calli (va_runV (C := RX12) (As := [.int v2, .int 2]) (rest := []) ⟨hx, hb, hml, hown, hq⟩ (mc_ofGoose l D cT tt b1 b hb1 n f_37 wl_38 v2 2 f_64 wl_65 r_66 z_67) (cwV 2 hq (gb_gV w_1400 w_1402 s_4_8 w_14 w_1403) rfl rfl rfl (by decide +kernel) ⟨Nat.le_of_ble_eq_true rfl, Nat.le_of_ble_eq_true rfl⟩) (gb_preV (r := (RX12, TX12, 44)) (ci := 10) (q0 := 0) hSt hP rfl (gb_at b rfl) hS (fun q h => Nat.le_trans hb1 h.1) hP) rfl rfl hl.1 rfl (lv_room (Nat.le_of_ble_eq_true rfl)) dX12_two_116 ⟨Nat.le_of_ble_eq_true rfl, Nat.le_of_ble_eq_true rfl⟩) hS (fun _ h => h) (fun _ h => h) (fun q_68 H locs hY hk hS => ?_)
        obtain ⟨hq_68, hP⟩ := hY
        replace hq_68 := hq_68.symm
        subst hq_68
        refine lv_aload_n hx hb dX12_two_119 rfl (lv_at hl 2 rfl) ?_
        refine lv_iload hx hb dX12_two_120 (lv_at hl 1 rfl) ?_
        refine lv_iconst (v := 0) hx hb dX12_two_122 (by decide) ?_
        obtain ⟨f_69, wl_70, r_71, z_72, h⟩ := gb_bd_s h
        refine gb_calli (va_runV (C := RX12) (As := [.int x_59, .int 0]) (rest := [.int r_66]) ⟨hx, hb, hml, hown, hq⟩ (mc_ofPath l D cT tt b1 b hb1 n f_64 wl_65 x_59 0 f_69 wl_70 r_71 z_72) (cwV 2 hq (gb_gV w_1388 w_1390 s_4_5 w_14 w_1391) rfl rfl rfl (by decide +kernel) ⟨Nat.le_of_ble_eq_true rfl, Nat.le_of_ble_eq_true rfl⟩) (gb_preV (r := (RX12, TX12, 44)) (ci := 10) (q0 := 0) hSt hP rfl (gb_at b rfl) hS (fun q h => Nat.le_trans hb1 h.1) hP) rfl rfl hl.1 rfl (lv_room (Nat.le_of_ble_eq_true rfl)) dX12_two_123 ⟨Nat.le_of_ble_eq_true rfl, Nat.le_of_ble_eq_true rfl⟩) hS (fun _ h => h) (fun _ h => h) (fun q_73 H locs hY hk hS => ?_)
        obtain ⟨hq_73, hP⟩ := hY
        replace hq_73 := hq_73.symm
        subst hq_73
        refine lv_icmp_le (tgt := 146) hx hb dX12_two_126 (by decide) (fun c_74 => ?_) (fun c_74 => ?_)
        · rw [if_pos c_74] at h
          refine lv_iconst (v := 0) hx hb dX12_two_146 (by decide) ?_
          exact L147 _ ih _ _ _ _ _ _ _ _ _ _ _ _ _ _ _ h hP hS (lv_sub hl [2, 3, 4, 5, 6, 7, 8, 9, 1, 0] rfl)
        · rw [if_neg c_74] at h
          refine lv_aload_n hx hb dX12_two_129 rfl (lv_at hl 2 rfl) ?_
          refine lv_iload_n hx hb dX12_two_130 rfl (lv_at hl 3 rfl) ?_
          refine lv_iconst (v := 2) hx hb dX12_two_131 (by decide) ?_
          obtain ⟨f_121, wl_122, r_123, z_124, h⟩ := gb_bd_s h
          refine gb_calli (va_runV (C := RX12) (As := [.int v2, .int 2]) (rest := []) ⟨hx, hb, hml, hown, hq⟩ (mc_ofGoose l D cT tt b1 b hb1 n f_69 wl_70 v2 2 f_121 wl_122 r_123 z_124) (cwV 2 hq (gb_gV w_1400 w_1402 s_4_8 w_14 w_1403) rfl rfl rfl (by decide +kernel) ⟨Nat.le_of_ble_eq_true rfl, Nat.le_of_ble_eq_true rfl⟩) (gb_preV (r := (RX12, TX12, 44)) (ci := 10) (q0 := 0) hSt hP rfl (gb_at b rfl) hS (fun q h => Nat.le_trans hb1 h.1) hP) rfl rfl hl.1 rfl (lv_room (Nat.le_of_ble_eq_true rfl)) dX12_two_132 ⟨Nat.le_of_ble_eq_true rfl, Nat.le_of_ble_eq_true rfl⟩) hS (fun _ h => h) (fun _ h => h) (fun q_125 H locs hY hk hS => ?_)
          obtain ⟨hq_125, hP⟩ := hY
          replace hq_125 := hq_125.symm
          subst hq_125
          refine lv_aload_n hx hb dX12_two_135 rfl (lv_at hl 2 rfl) ?_
          refine lv_iload hx hb dX12_two_136 (lv_at hl 1 rfl) ?_
          refine lv_iconst (v := 0) hx hb dX12_two_138 (by decide) ?_
          obtain ⟨f_126, wl_127, r_128, z_129, h⟩ := gb_bd_s h
          refine gb_calli (va_runV (C := RX12) (As := [.int x_59, .int 0]) (rest := [.int r_123]) ⟨hx, hb, hml, hown, hq⟩ (mc_ofPath l D cT tt b1 b hb1 n f_121 wl_122 x_59 0 f_126 wl_127 r_128 z_129) (cwV 2 hq (gb_gV w_1388 w_1390 s_4_5 w_14 w_1391) rfl rfl rfl (by decide +kernel) ⟨Nat.le_of_ble_eq_true rfl, Nat.le_of_ble_eq_true rfl⟩) (gb_preV (r := (RX12, TX12, 44)) (ci := 10) (q0 := 0) hSt hP rfl (gb_at b rfl) hS (fun q h => Nat.le_trans hb1 h.1) hP) rfl rfl hl.1 rfl (lv_room (Nat.le_of_ble_eq_true rfl)) dX12_two_139 ⟨Nat.le_of_ble_eq_true rfl, Nat.le_of_ble_eq_true rfl⟩) hS (fun _ h => h) (fun _ h => h) (fun q_130 H locs hY hk hS => ?_)
          obtain ⟨hq_130, hP⟩ := hY
          replace hq_130 := hq_130.symm
          subst hq_130
          refine lv_isub hx hb dX12_two_142 ?_
          refine lv_goto (tgt := 147) hx hb dX12_two_143 (by decide) ?_
          exact L147 _ ih _ _ _ _ _ _ _ _ _ _ _ _ _ _ _ h hP hS (lv_sub hl [2, 3, 4, 5, 6, 7, 8, 9, 1, 0] rfl)
  unfold ms_two at h
  refine lv_aload_n hx hb dX12_two_0 rfl (lv_at hl 0 rfl) ?_
  refine lv_iload_n hx hb dX12_two_1 rfl (lv_at hl 1 rfl) ?_
  obtain ⟨f_1, wl_2, r_3, z_4, h⟩ := gb_bd_s h
  refine gb_calli (va_runV (C := RX12) (As := [.int p1]) (rest := []) ⟨hx, hb, hml, hown, hq⟩ (mc_isBorder l D cT tt b1 b hb1 n f w p1 f_1 wl_2 r_3 z_4) (cwV 1 hq (gb_gV w_1372 w_1374 s_4_1 w_14 w_1375) rfl rfl rfl (by decide +kernel) ⟨Nat.le_of_ble_eq_true rfl, Nat.le_of_ble_eq_true rfl⟩) (gb_preV (r := (RX12, TX12, 44)) (ci := 10) (q0 := 0) hSt hP rfl (gb_at b rfl) hS (fun q h => Nat.le_trans hb1 h.1) hP) rfl rfl hl.1 rfl (lv_room (Nat.le_of_ble_eq_true rfl)) dX12_two_2 ⟨Nat.le_of_ble_eq_true rfl, Nat.le_of_ble_eq_true rfl⟩) hS (fun _ h => h) (fun _ h => h) (fun q_5 H locs hY hk hS => ?_)
  obtain ⟨hq_5, hP⟩ := hY
  replace hq_5 := hq_5.symm
  subst hq_5
  refine lv_if_eq (tgt := 42) hx hb dX12_two_5 (by decide) (fun c_6 => ?_) (fun c_6 => ?_)
  · rw [if_pos c_6] at h
    refine lv_iconst (v := (-1)) hx hb dX12_two_42 (by decide) ?_
    obtain ⟨e1, e2, e3⟩ := gb_eq3 h
    exact W.iret (v := (-1)) hx hb hr (fun t ht hW => gb_ri ht ⟨e3, by rw [← e1, ← e2]; exact hP⟩ hS) hS.2.2 dX12_two_43
  · rw [if_neg c_6] at h
    refine lv_aload_n hx hb dX12_two_8 rfl (lv_at hl 0 rfl) ?_
    refine lv_iload_n hx hb dX12_two_9 rfl (lv_at hl 2 rfl) ?_
    obtain ⟨f_7, wl_8, r_9, z_10, h⟩ := gb_bd_s h
    refine gb_calli (va_runV (C := RX12) (As := [.int p2]) (rest := []) ⟨hx, hb, hml, hown, hq⟩ (mc_isGoose l D cT tt b1 b hb1 n f_1 wl_2 p2 f_7 wl_8 r_9 z_10) (cwV 1 hq (gb_gV w_1392 w_1394 s_4_6 w_14 w_1395) rfl rfl rfl (by decide +kernel) ⟨Nat.le_of_ble_eq_true rfl, Nat.le_of_ble_eq_true rfl⟩) (gb_preV (r := (RX12, TX12, 44)) (ci := 10) (q0 := 0) hSt hP rfl (gb_at b rfl) hS (fun q h => Nat.le_trans hb1 h.1) hP) rfl rfl hl.1 rfl (lv_room (Nat.le_of_ble_eq_true rfl)) dX12_two_10 ⟨Nat.le_of_ble_eq_true rfl, Nat.le_of_ble_eq_true rfl⟩) hS (fun _ h => h) (fun _ h => h) (fun q_11 H locs hY hk hS => ?_)
    obtain ⟨hq_11, hP⟩ := hY
    replace hq_11 := hq_11.symm
    subst hq_11
    refine lv_if_eq (tgt := 42) hx hb dX12_two_13 (by decide) (fun c_12 => ?_) (fun c_12 => ?_)
    · rw [if_pos c_12] at h
      refine lv_iconst (v := (-1)) hx hb dX12_two_42 (by decide) ?_
      obtain ⟨e1, e2, e3⟩ := gb_eq3 h
      exact W.iret (v := (-1)) hx hb hr (fun t ht hW => gb_ri ht ⟨e3, by rw [← e1, ← e2]; exact hP⟩ hS) hS.2.2 dX12_two_43
    · rw [if_neg c_12] at h
      refine lv_aload_n hx hb dX12_two_16 rfl (lv_at hl 0 rfl) ?_
      obtain ⟨f_13, wl_14, r_15, z_16, h⟩ := gb_bd_s h
      refine gb_calli (va_runV (C := RX12) (As := []) (rest := []) ⟨hx, hb, hml, hown, hq⟩ (mc_paths l D cT tt b1 b hb1 n f_7 wl_8 f_13 wl_14 r_15 z_16) (cwV 0 hq (gb_gV w_1384 w_1386 s_4_4 w_14 w_1387) rfl rfl rfl (by decide +kernel) ⟨Nat.le_of_ble_eq_true rfl, Nat.le_of_ble_eq_true rfl⟩) (gb_preV (r := (RX12, TX12, 44)) (ci := 10) (q0 := 0) hSt hP rfl (gb_at b rfl) hS (fun q h => Nat.le_trans hb1 h.1) hP) rfl rfl hl.1 rfl (lv_room (Nat.le_of_ble_eq_true rfl)) dX12_two_17 ⟨Nat.le_of_ble_eq_true rfl, Nat.le_of_ble_eq_true rfl⟩) hS (fun _ h => h) (fun _ h => h) (fun q_17 H locs hY hk hS => ?_)
      obtain ⟨hq_17, hP⟩ := hY
      replace hq_17 := hq_17.symm
      subst hq_17
      refine lv_if_eq (tgt := 42) hx hb dX12_two_20 (by decide) (fun c_18 => ?_) (fun c_18 => ?_)
      · rw [if_pos c_18] at h
        refine lv_iconst (v := (-1)) hx hb dX12_two_42 (by decide) ?_
        obtain ⟨e1, e2, e3⟩ := gb_eq3 h
        exact W.iret (v := (-1)) hx hb hr (fun t ht hW => gb_ri ht ⟨e3, by rw [← e1, ← e2]; exact hP⟩ hS) hS.2.2 dX12_two_43
      · rw [if_neg c_18] at h
        refine lv_aload_n hx hb dX12_two_23 rfl (lv_at hl 0 rfl) ?_
        refine lv_iconst (v := 0) hx hb dX12_two_24 (by decide) ?_
        refine lv_iload_n hx hb dX12_two_25 rfl (lv_at hl 3 rfl) ?_
        obtain ⟨f_19, wl_20, r_21, z_22, h⟩ := gb_bd_s h
        refine gb_calli (va_runV (C := RX12) (As := [.int 0, .int p3]) (rest := []) ⟨hx, hb, hml, hown, hq⟩ (mc_isOf l D cT tt b1 b hb1 n f_13 wl_14 0 p3 f_19 wl_20 r_21 z_22) (cwV 2 hq (gb_gV w_1272 w_1274 s_3_0 w_14 w_1275) rfl rfl rfl (by decide +kernel) ⟨Nat.le_of_ble_eq_true rfl, Nat.le_of_ble_eq_true rfl⟩) (gb_preV (r := (RX12, TX12, 44)) (ci := 10) (q0 := 0) hSt hP rfl (gb_at b rfl) hS (fun q h => Nat.le_trans hb1 h.1) hP) rfl rfl hl.1 rfl (lv_room (Nat.le_of_ble_eq_true rfl)) dX12_two_26 ⟨Nat.le_of_ble_eq_true rfl, Nat.le_of_ble_eq_true rfl⟩) hS (fun _ h => h) (fun _ h => h) (fun q_23 H locs hY hk hS => ?_)
        obtain ⟨hq_23, hP⟩ := hY
        replace hq_23 := hq_23.symm
        subst hq_23
        refine lv_if_eq (tgt := 42) hx hb dX12_two_29 (by decide) (fun c_24 => ?_) (fun c_24 => ?_)
        · rw [if_pos c_24] at h
          refine lv_iconst (v := (-1)) hx hb dX12_two_42 (by decide) ?_
          obtain ⟨e1, e2, e3⟩ := gb_eq3 h
          exact W.iret (v := (-1)) hx hb hr (fun t ht hW => gb_ri ht ⟨e3, by rw [← e1, ← e2]; exact hP⟩ hS) hS.2.2 dX12_two_43
        · rw [if_neg c_24] at h
          refine lv_iload hx hb dX12_two_32 (lv_at hl 4 rfl) ?_
          refine lv_iconst (v := 0) hx hb dX12_two_34 (by decide) ?_
          refine lv_iconst (v := 2) hx hb dX12_two_35 (by decide) ?_
          obtain ⟨f_25, wl_26, r_27, z_28, h⟩ := gb_bd_s h
          refine gb_calli (va_runS (As := [.int p4, .int 0, .int 2]) (rest := []) ⟨hx, hb, hml, hown, hq⟩ (mc_isIn l D cT tt b1 b hb1 n f_19 wl_20 p4 0 2 f_25 wl_26 r_27 z_28) (va_cwS 3 hq (gb_gS w_1269 w_1270 w_14 w_1271) rfl rfl rfl (by decide +kernel) ⟨Nat.le_of_ble_eq_true rfl, Nat.le_of_ble_eq_true rfl⟩) (gb_preS hSt hS (fun q h => Nat.le_trans hb1 h.1) hP) rfl rfl hl.1 rfl (lv_room (Nat.le_of_ble_eq_true rfl)) dX12_two_36 ⟨Nat.le_of_ble_eq_true rfl, Nat.le_of_ble_eq_true rfl⟩) hS (fun _ h => h) (fun _ h => h) (fun q_29 H locs hY hk hS => ?_)
          obtain ⟨hq_29, hP⟩ := hY
          replace hq_29 := hq_29.symm
          subst hq_29
          refine lv_if_ne (tgt := 44) hx hb dX12_two_39 (by decide) (fun c_30 => ?_) (fun c_30 => ?_)
          · rw [if_neg c_30] at h
            refine lv_aload_n hx hb dX12_two_44 rfl (lv_at hl 0 rfl) ?_
            refine va_get (ci := 10) (v := (.int (f_25 0 11))) (C := RX12) (T := TX12) (N := 44) hx hb hq i_X12 hown hK hP 0 (gb_at b rfl) rfl 11 (by decide) (hq _ w_1135) (fun _ h9 => h9) rfl dX12_two_45 ?_
            refine lv_topi (fun x_31 ex_31 => ?_)
            replace h := gb_lt_s ex_31 h
            refine lv_istore (lv' := [(5, .int x_31), (0, .ref (b + 0)), (1, .int p1), (2, .int p2), (3, .int p3), (4, .int p4)]) hx hb dX12_two_48 hl (by decide) rfl (fun ls hl => ?_)
            refine lv_iconst (v := 0) hx hb dX12_two_50 (by decide) ?_
            refine lv_iload_n hx hb dX12_two_51 rfl (lv_at hl 4 rfl) ?_
            obtain ⟨f_32, wl_33, r_34, z_35, h⟩ := gb_bd_s h
            refine gb_calli (va_runS (As := [.int 0, .int p3]) (rest := []) ⟨hx, hb, hml, hown, hq⟩ (mc_placeOf l D cT tt b1 b hb1 n f_25 wl_26 0 p3 f_32 wl_33 r_34 z_35) (va_cwS 2 hq (gb_gS w_1361 w_1362 w_14 w_1363) rfl rfl rfl (by decide +kernel) ⟨Nat.le_of_ble_eq_true rfl, Nat.le_of_ble_eq_true rfl⟩) (gb_preS hSt hS (fun q h => Nat.le_trans hb1 h.1) hP) rfl rfl hl.1 rfl (lv_room (Nat.le_of_ble_eq_true rfl)) dX12_two_52 ⟨Nat.le_of_ble_eq_true rfl, Nat.le_of_ble_eq_true rfl⟩) hS (fun _ h => h) (fun _ h => h) (fun q_36 H locs hY hk hS => ?_)
            obtain ⟨hq_36, hP⟩ := hY
            replace hq_36 := hq_36.symm
            subst hq_36
            refine lv_istore (lv' := [(6, .int r_34), (5, .int x_31), (0, .ref (b + 0)), (1, .int p1), (2, .int p2), (3, .int p3), (4, .int p4)]) hx hb dX12_two_55 hl (by decide) rfl (fun ls hl => ?_)
            refine lv_iconst (v := (-1)) hx hb dX12_two_57 (by decide) ?_
            refine lv_istore (lv' := [(7, .int (-1)), (6, .int r_34), (5, .int x_31), (0, .ref (b + 0)), (1, .int p1), (2, .int p2), (3, .int p3), (4, .int p4)]) hx hb dX12_two_58 hl (by decide) rfl (fun ls hl => ?_)
            refine lv_iconst (v := 0) hx hb dX12_two_60 (by decide) ?_
            refine lv_istore (lv' := [(8, .int 0), (7, .int (-1)), (6, .int r_34), (5, .int x_31), (0, .ref (b + 0)), (1, .int p1), (2, .int p2), (3, .int p3), (4, .int p4)]) hx hb dX12_two_61 hl (by decide) rfl (fun ls hl => ?_)
            refine lv_iconst (v := 0) hx hb dX12_two_63 (by decide) ?_
            refine lv_istore (lv' := [(9, .int 0), (8, .int 0), (7, .int (-1)), (6, .int r_34), (5, .int x_31), (0, .ref (b + 0)), (1, .int p1), (2, .int p2), (3, .int p3), (4, .int p4)]) hx hb dX12_two_64 hl (by decide) rfl (fun ls hl => ?_)
            exact L66 n _ _ _ _ _ _ _ _ _ _ _ _ h hP hS (lv_sub hl [5, 7, 9, 4, 3, 2, 1, 0] rfl)
          · rw [if_pos c_30] at h
            refine lv_iconst (v := (-1)) hx hb dX12_two_42 (by decide) ?_
            obtain ⟨e1, e2, e3⟩ := gb_eq3 h
            exact W.iret (v := (-1)) hx hb hr (fun t ht hW => gb_ri ht ⟨e3, by rw [← e1, ← e2]; exact hP⟩ hS) hS.2.2 dX12_two_43
theorem dX12_backs_0 : decode cX12_backs 0 = .ok (.aload_n 0, 1) := dc_42 (show ((cX12_backs.data.toList.drop 0).take 1).map UInt8.toNat = [42] by decide +kernel)
theorem dX12_backs_1 : decode cX12_backs 1 = .ok (.iload_n 1, 1) := dc_27 (show ((cX12_backs.data.toList.drop 1).take 1).map UInt8.toNat = [27] by decide +kernel)
theorem dX12_backs_2 : decode cX12_backs 2 = .ok (.invokevirtual 205, 3) := dc_182 (show ((cX12_backs.data.toList.drop 2).take 3).map UInt8.toNat = [182, 0, 205] by decide +kernel) rfl
theorem dX12_backs_5 : decode cX12_backs 5 = .ok (.ifCond .eq 22, 3) := dc_153 (show ((cX12_backs.data.toList.drop 5).take 3).map UInt8.toNat = [153, 0, 22] by decide +kernel) rfl
theorem dX12_backs_27 : decode cX12_backs 27 = .ok (.iconst (-1), 1) := dc_2 (show ((cX12_backs.data.toList.drop 27).take 1).map UInt8.toNat = [2] by decide +kernel)
theorem dX12_backs_28 : decode cX12_backs 28 = .ok (.ireturn, 1) := dc_172 (show ((cX12_backs.data.toList.drop 28).take 1).map UInt8.toNat = [172] by decide +kernel)
theorem dX12_backs_8 : decode cX12_backs 8 = .ok (.aload_n 0, 1) := dc_42 (show ((cX12_backs.data.toList.drop 8).take 1).map UInt8.toNat = [42] by decide +kernel)
theorem dX12_backs_9 : decode cX12_backs 9 = .ok (.iload_n 2, 1) := dc_28 (show ((cX12_backs.data.toList.drop 9).take 1).map UInt8.toNat = [28] by decide +kernel)
theorem dX12_backs_10 : decode cX12_backs 10 = .ok (.invokevirtual 208, 3) := dc_182 (show ((cX12_backs.data.toList.drop 10).take 3).map UInt8.toNat = [182, 0, 208] by decide +kernel) rfl
theorem dX12_backs_13 : decode cX12_backs 13 = .ok (.ifCond .eq 14, 3) := dc_153 (show ((cX12_backs.data.toList.drop 13).take 3).map UInt8.toNat = [153, 0, 14] by decide +kernel) rfl
theorem dX12_backs_16 : decode cX12_backs 16 = .ok (.iload_n 3, 1) := dc_29 (show ((cX12_backs.data.toList.drop 16).take 1).map UInt8.toNat = [29] by decide +kernel)
theorem dX12_backs_17 : decode cX12_backs 17 = .ok (.iconst 0, 1) := dc_3 (show ((cX12_backs.data.toList.drop 17).take 1).map UInt8.toNat = [3] by decide +kernel)
theorem dX12_backs_18 : decode cX12_backs 18 = .ok (.sipush 9999, 3) := dc_17 (show ((cX12_backs.data.toList.drop 18).take 3).map UInt8.toNat = [17, 39, 15] by decide +kernel) rfl
theorem dX12_backs_21 : decode cX12_backs 21 = .ok (.invokestatic 129, 3) := dc_184 (show ((cX12_backs.data.toList.drop 21).take 3).map UInt8.toNat = [184, 0, 129] by decide +kernel) rfl
theorem dX12_backs_24 : decode cX12_backs 24 = .ok (.ifCond .ne 5, 3) := dc_154 (show ((cX12_backs.data.toList.drop 24).take 3).map UInt8.toNat = [154, 0, 5] by decide +kernel) rfl
theorem dX12_backs_29 : decode cX12_backs 29 = .ok (.iconst (-1), 1) := dc_2 (show ((cX12_backs.data.toList.drop 29).take 1).map UInt8.toNat = [2] by decide +kernel)
theorem dX12_backs_30 : decode cX12_backs 30 = .ok (.istore 5, 2) := dc_54 (show ((cX12_backs.data.toList.drop 30).take 2).map UInt8.toNat = [54, 5] by decide +kernel) rfl
theorem dX12_backs_32 : decode cX12_backs 32 = .ok (.iconst 0, 1) := dc_3 (show ((cX12_backs.data.toList.drop 32).take 1).map UInt8.toNat = [3] by decide +kernel)
theorem dX12_backs_33 : decode cX12_backs 33 = .ok (.istore 6, 2) := dc_54 (show ((cX12_backs.data.toList.drop 33).take 2).map UInt8.toNat = [54, 6] by decide +kernel) rfl
theorem dX12_backs_35 : decode cX12_backs 35 = .ok (.iload 6, 2) := dc_21 (show ((cX12_backs.data.toList.drop 35).take 2).map UInt8.toNat = [21, 6] by decide +kernel) rfl
theorem dX12_backs_37 : decode cX12_backs 37 = .ok (.iconst 1, 1) := dc_4 (show ((cX12_backs.data.toList.drop 37).take 1).map UInt8.toNat = [4] by decide +kernel)
theorem dX12_backs_38 : decode cX12_backs 38 = .ok (.aload_n 0, 1) := dc_42 (show ((cX12_backs.data.toList.drop 38).take 1).map UInt8.toNat = [42] by decide +kernel)
theorem dX12_backs_39 : decode cX12_backs 39 = .ok (.invokevirtual 202, 3) := dc_182 (show ((cX12_backs.data.toList.drop 39).take 3).map UInt8.toNat = [182, 0, 202] by decide +kernel) rfl
theorem dX12_backs_42 : decode cX12_backs 42 = .ok (.ishl, 1) := dc_120 (show ((cX12_backs.data.toList.drop 42).take 1).map UInt8.toNat = [120] by decide +kernel)
theorem dX12_backs_43 : decode cX12_backs 43 = .ok (.if_icmp .ge 92, 3) := dc_162 (show ((cX12_backs.data.toList.drop 43).take 3).map UInt8.toNat = [162, 0, 92] by decide +kernel) rfl
theorem dX12_backs_135 : decode cX12_backs 135 = .ok (.iload 4, 2) := dc_21 (show ((cX12_backs.data.toList.drop 135).take 2).map UInt8.toNat = [21, 4] by decide +kernel) rfl
theorem dX12_backs_137 : decode cX12_backs 137 = .ok (.ifCond .eq 11, 3) := dc_153 (show ((cX12_backs.data.toList.drop 137).take 3).map UInt8.toNat = [153, 0, 11] by decide +kernel) rfl
theorem dX12_backs_148 : decode cX12_backs 148 = .ok (.iload 5, 2) := dc_21 (show ((cX12_backs.data.toList.drop 148).take 2).map UInt8.toNat = [21, 5] by decide +kernel) rfl
theorem dX12_backs_150 : decode cX12_backs 150 = .ok (.ireturn, 1) := dc_172 (show ((cX12_backs.data.toList.drop 150).take 1).map UInt8.toNat = [172] by decide +kernel)
theorem dX12_backs_140 : decode cX12_backs 140 = .ok (.iload 5, 2) := dc_21 (show ((cX12_backs.data.toList.drop 140).take 2).map UInt8.toNat = [21, 5] by decide +kernel) rfl
theorem dX12_backs_142 : decode cX12_backs 142 = .ok (.invokestatic 400, 3) := dc_184 (show ((cX12_backs.data.toList.drop 142).take 3).map UInt8.toNat = [184, 1, 144] by decide +kernel) rfl
theorem dX12_bits_0 : decode cX12_bits 0 = .ok (.iconst 0, 1) := dc_3 (show ((cX12_bits.data.toList.drop 0).take 1).map UInt8.toNat = [3] by decide +kernel)
theorem dX12_bits_1 : decode cX12_bits 1 = .ok (.istore_n 1, 1) := dc_60 (show ((cX12_bits.data.toList.drop 1).take 1).map UInt8.toNat = [60] by decide +kernel)
theorem dX12_bits_2 : decode cX12_bits 2 = .ok (.iconst 0, 1) := dc_3 (show ((cX12_bits.data.toList.drop 2).take 1).map UInt8.toNat = [3] by decide +kernel)
theorem dX12_bits_3 : decode cX12_bits 3 = .ok (.istore_n 2, 1) := dc_61 (show ((cX12_bits.data.toList.drop 3).take 1).map UInt8.toNat = [61] by decide +kernel)
theorem dX12_bits_4 : decode cX12_bits 4 = .ok (.iload_n 2, 1) := dc_28 (show ((cX12_bits.data.toList.drop 4).take 1).map UInt8.toNat = [28] by decide +kernel)
theorem dX12_bits_5 : decode cX12_bits 5 = .ok (.bipush 31, 2) := dc_16 (show ((cX12_bits.data.toList.drop 5).take 2).map UInt8.toNat = [16, 31] by decide +kernel) rfl
theorem dX12_bits_7 : decode cX12_bits 7 = .ok (.if_icmp .ge 17, 3) := dc_162 (show ((cX12_bits.data.toList.drop 7).take 3).map UInt8.toNat = [162, 0, 17] by decide +kernel) rfl
theorem dX12_bits_24 : decode cX12_bits 24 = .ok (.iload_n 1, 1) := dc_27 (show ((cX12_bits.data.toList.drop 24).take 1).map UInt8.toNat = [27] by decide +kernel)
theorem dX12_bits_25 : decode cX12_bits 25 = .ok (.ireturn, 1) := dc_172 (show ((cX12_bits.data.toList.drop 25).take 1).map UInt8.toNat = [172] by decide +kernel)
theorem dX12_bits_10 : decode cX12_bits 10 = .ok (.iload_n 1, 1) := dc_27 (show ((cX12_bits.data.toList.drop 10).take 1).map UInt8.toNat = [27] by decide +kernel)
theorem dX12_bits_11 : decode cX12_bits 11 = .ok (.iload_n 0, 1) := dc_26 (show ((cX12_bits.data.toList.drop 11).take 1).map UInt8.toNat = [26] by decide +kernel)
theorem dX12_bits_12 : decode cX12_bits 12 = .ok (.iload_n 2, 1) := dc_28 (show ((cX12_bits.data.toList.drop 12).take 1).map UInt8.toNat = [28] by decide +kernel)
theorem dX12_bits_13 : decode cX12_bits 13 = .ok (.ishr, 1) := dc_122 (show ((cX12_bits.data.toList.drop 13).take 1).map UInt8.toNat = [122] by decide +kernel)
theorem dX12_bits_14 : decode cX12_bits 14 = .ok (.iconst 1, 1) := dc_4 (show ((cX12_bits.data.toList.drop 14).take 1).map UInt8.toNat = [4] by decide +kernel)
theorem dX12_bits_15 : decode cX12_bits 15 = .ok (.iand, 1) := dc_126 (show ((cX12_bits.data.toList.drop 15).take 1).map UInt8.toNat = [126] by decide +kernel)
theorem dX12_bits_16 : decode cX12_bits 16 = .ok (.iadd, 1) := dc_96 (show ((cX12_bits.data.toList.drop 16).take 1).map UInt8.toNat = [96] by decide +kernel)
theorem dX12_bits_17 : decode cX12_bits 17 = .ok (.istore_n 1, 1) := dc_60 (show ((cX12_bits.data.toList.drop 17).take 1).map UInt8.toNat = [60] by decide +kernel)
theorem dX12_bits_18 : decode cX12_bits 18 = .ok (.iinc 2 1, 3) := dc_132 (show ((cX12_bits.data.toList.drop 18).take 3).map UInt8.toNat = [132, 2, 1] by decide +kernel) rfl
theorem dX12_bits_21 : decode cX12_bits 21 = .ok (.goto (-17), 3) := dc_167 (show ((cX12_bits.data.toList.drop 21).take 3).map UInt8.toNat = [167, 255, 239] by decide +kernel) rfl
def ms_bits_4 (n : Nat) : Nat → gb_F → Int64 → Int32 → Int32 → Int32 → gb_MR Int32
  | 0, _, _, _, _, _ => none
  | mm + 1, f, w, v0, v1, v2 => (if (31 : Int32) ≤ v2 then some (f, w, v1) else gb_lt (v1 + ((v0 >>> (v2 &&& 31)) &&& 1)) (fun x_2 => gb_lt (v2 + 1) (fun x_3 => ms_bits_4 n mm f w v0 x_2 x_3)))
def ms_bits (n : Nat) (f : gb_F) (w : Int64) (p1 : Int32) : gb_MR Int32 := ms_bits_4 n n f w p1 0 0
set_option maxHeartbeats 8000000 in
set_option maxRecDepth 100000 in
theorem mc_bits (l : Launch) (D : va_G) (cT : Nat → ClassId) (tt : Nat → Nat) (b1 b : Nat) (hb1 : b1 ≤ b) (n : Nat) (f : gb_F) (w : Int64) (p1 : Int32) (fE : gb_F) (wE : Int64) (rE : Int32) (h : ms_bits n f w p1 = some (fE, wE, rE)) : Met l yX12_bits (.code yX12_bits cX12_bits 3 (some FieldType.int) :: gb_wA) ({ frames := 0, cells := 0, slots := 0, locals := 0 }) (gb_Pc D cT tt b1 [.int p1] (fun h => va_P D vwCl (gb_wl b (gb_MW cT b f w)) h)) (gb_Qi (fun r h => r = rE ∧ va_P D vwCl (gb_wl b (gb_MW cT b fE wE)) h) (gb_fr b 22)) 0 0 (gb_fr b 22) := by
  refine Met.ofW (cc := cX12_bits) (maxL := 3) (ret := (some FieldType.int)) (by decide) rfl ?_
  intro p e s m args below meth c s₁ B hml hv
  obtain ⟨rfl, hSt, hP⟩ := hv
  have hx := B.exec
  have hb := B.bytes
  have hr := B.returns
  have hts := atoms_spec (ws := .code yX12_bits cX12_bits 3 (some FieldType.int) :: gb_wA) B.pre
  have hq : ∀ w ∈ gb_wA, w.before _ s = true := fun w h => hts w (List.mem_cons_of_mem _ h)
  have hown : s.vm.findClass RX12 = some m.cls := findClass_of_methodNamed B.named
  have hlocks := B.notSynchronized
  clear B hts
  have hK := hSt.1
  have hS : va_S (gb_fr b 22) s.heap s.heap [] := va_S.rf
  have hl := lv_entry ([.int p1]) (n := 3) (Nat.le_of_ble_eq_true rfl)
  rw [lg_entry_eq]
  generalize (lg_sl ([.int p1]) ++ List.replicate (3 - (lg_sl ([.int p1])).length) Slot.unset).toArray = ls at hl ⊢
  replace hl : lv_has ls 3 [(0, .int p1)] := hl
  have L4 : ∀ (mm : Nat) (f : gb_F) (w : Int64) (v0 : Int32) (v1 : Int32) (v2 : Int32) (H : Heap) (locs : List Loc) (ls : Array Slot), ms_bits_4 n mm f w v0 v1 v2 = some (fE, wE, rE) → va_P D vwCl (gb_wl b (gb_MW cT b f w)) H → va_S (gb_fr b 22) s.heap H locs → lv_has ls 3 [(0, .int v0), (1, .int v1), (2, .int v2)] → W p l e (headSpec (.code yX12_bits cX12_bits 3 (some FieldType.int) :: gb_wA) ({ frames := 0, cells := 0, slots := 0, locals := 0 })).room s m ([.int p1]).toArray below meth c H locs 0 0 (MQ below (gb_Qi (fun r h => r = rE ∧ va_P D vwCl (gb_wl b (gb_MW cT b fE wE)) h) (gb_fr b 22)) ([.int p1]).toArray s 0 0 (gb_fr b 22)) (F0 m 4 ls []) := by
    clear h hP hS hl ls f w
    intro mm
    induction mm with
    | zero =>
      intro f w v0 v1 v2 H locs ls h
      cases h
    | succ mm ih =>
      intro f w v0 v1 v2 H locs ls h hP hS hl
      rw [ms_bits_4] at h
      refine lv_iload_n hx hb dX12_bits_4 rfl (lv_at hl 2 rfl) ?_
      refine lv_bipush (v := 31) hx hb dX12_bits_5 (by decide) ?_
      refine lv_icmp_ge (tgt := 24) hx hb dX12_bits_7 (by decide) (fun c_1 => ?_) (fun c_1 => ?_)
      · rw [if_pos c_1] at h
        refine lv_iload_n hx hb dX12_bits_24 rfl (lv_at hl 1 rfl) ?_
        obtain ⟨e1, e2, e3⟩ := gb_eq3 h
        exact W.iret (v := v1) hx hb hr (fun t ht hW => gb_ri ht ⟨e3, by rw [← e1, ← e2]; exact hP⟩ hS) hS.2.2 dX12_bits_25
      · rw [if_neg c_1] at h
        refine lv_iload_n hx hb dX12_bits_10 rfl (lv_at hl 1 rfl) ?_
        refine lv_iload_n hx hb dX12_bits_11 rfl (lv_at hl 0 rfl) ?_
        refine lv_iload_n hx hb dX12_bits_12 rfl (lv_at hl 2 rfl) ?_
        refine lv_ishr hx hb dX12_bits_13 ?_
        refine lv_iconst (v := 1) hx hb dX12_bits_14 (by decide) ?_
        refine lv_iand hx hb dX12_bits_15 ?_
        refine lv_iadd hx hb dX12_bits_16 ?_
        refine lv_topi (fun x_2 ex_2 => ?_)
        replace h := gb_lt_s ex_2 h
        refine lv_istore_n (lv' := [(1, .int x_2), (0, .int v0), (2, .int v2)]) hx hb dX12_bits_17 rfl hl (by decide) rfl (fun ls hl => ?_)
        obtain ⟨x_3, ex_3⟩ : ∃ q, q = (v2 + 1) := ⟨_, rfl⟩
        replace h := gb_lt_s ex_3 h
        refine lv_iinc (v := x_3) (lv' := [(2, .int x_3), (1, .int x_2), (0, .int v0)]) hx hb dX12_bits_18 hl (k := 2) rfl (by rw [ex_3]; rfl) (by decide) rfl (fun ls hl => ?_)
        refine lv_goto (tgt := 4) hx hb dX12_bits_21 (by decide) ?_
        exact ih _ _ _ _ _ _ _ _ h hP hS (lv_sub hl [2, 1, 0] rfl)
  unfold ms_bits at h
  refine lv_iconst (v := 0) hx hb dX12_bits_0 (by decide) ?_
  refine lv_istore_n (lv' := [(1, .int 0), (0, .int p1)]) hx hb dX12_bits_1 rfl hl (by decide) rfl (fun ls hl => ?_)
  refine lv_iconst (v := 0) hx hb dX12_bits_2 (by decide) ?_
  refine lv_istore_n (lv' := [(2, .int 0), (1, .int 0), (0, .int p1)]) hx hb dX12_bits_3 rfl hl (by decide) rfl (fun ls hl => ?_)
  exact L4 n _ _ _ _ _ _ _ _ h hP hS (lv_sub hl [2, 1, 0] rfl)
theorem w_1684 : (Cond.code ({ cls := "GooseBorderModel", name := "bits", desc := "(I)I" } : MethodName) prog_14_method_109_code (3 : Nat) (Option.some FieldType.int)) ∈ gb_wA := gb_t8 4 rfl rfl
theorem w_1682 : (Cond.methodLink "GooseBorderModel" (400 : Nat) ({ cls := "GooseBorderModel", name := "bits", desc := "(I)I" } : MethodName)) ∈ gb_wA := gb_t8 2 rfl rfl
theorem w_1683 : (Cond.static ({ cls := "GooseBorderModel", name := "bits", desc := "(I)I" } : MethodName)) ∈ gb_wA := gb_t8 3 rfl rfl
theorem dX12_backs_145 : decode cX12_backs 145 = .ok (.goto 5, 3) := dc_167 (show ((cX12_backs.data.toList.drop 145).take 3).map UInt8.toNat = [167, 0, 5] by decide +kernel) rfl
theorem dX12_backs_46 : decode cX12_backs 46 = .ok (.iconst 0, 1) := dc_3 (show ((cX12_backs.data.toList.drop 46).take 1).map UInt8.toNat = [3] by decide +kernel)
theorem dX12_backs_47 : decode cX12_backs 47 = .ok (.istore 7, 2) := dc_54 (show ((cX12_backs.data.toList.drop 47).take 2).map UInt8.toNat = [54, 7] by decide +kernel) rfl
theorem dX12_backs_49 : decode cX12_backs 49 = .ok (.iconst 0, 1) := dc_3 (show ((cX12_backs.data.toList.drop 49).take 1).map UInt8.toNat = [3] by decide +kernel)
theorem dX12_backs_50 : decode cX12_backs 50 = .ok (.istore 8, 2) := dc_54 (show ((cX12_backs.data.toList.drop 50).take 2).map UInt8.toNat = [54, 8] by decide +kernel) rfl
theorem dX12_backs_52 : decode cX12_backs 52 = .ok (.iload 8, 2) := dc_21 (show ((cX12_backs.data.toList.drop 52).take 2).map UInt8.toNat = [21, 8] by decide +kernel) rfl
theorem dX12_backs_54 : decode cX12_backs 54 = .ok (.aload_n 0, 1) := dc_42 (show ((cX12_backs.data.toList.drop 54).take 1).map UInt8.toNat = [42] by decide +kernel)
theorem dX12_backs_55 : decode cX12_backs 55 = .ok (.invokevirtual 202, 3) := dc_182 (show ((cX12_backs.data.toList.drop 55).take 3).map UInt8.toNat = [182, 0, 202] by decide +kernel) rfl
theorem dX12_backs_58 : decode cX12_backs 58 = .ok (.if_icmp .ge 43, 3) := dc_162 (show ((cX12_backs.data.toList.drop 58).take 3).map UInt8.toNat = [162, 0, 43] by decide +kernel) rfl
theorem dX12_backs_101 : decode cX12_backs 101 = .ok (.iload 7, 2) := dc_21 (show ((cX12_backs.data.toList.drop 101).take 2).map UInt8.toNat = [21, 7] by decide +kernel) rfl
theorem dX12_backs_103 : decode cX12_backs 103 = .ok (.iload_n 3, 1) := dc_29 (show ((cX12_backs.data.toList.drop 103).take 1).map UInt8.toNat = [29] by decide +kernel)
theorem dX12_backs_104 : decode cX12_backs 104 = .ok (.if_icmp .gt 25, 3) := dc_163 (show ((cX12_backs.data.toList.drop 104).take 3).map UInt8.toNat = [163, 0, 25] by decide +kernel) rfl
theorem dX12_backs_129 : decode cX12_backs 129 = .ok (.iinc 6 1, 3) := dc_132 (show ((cX12_backs.data.toList.drop 129).take 3).map UInt8.toNat = [132, 6, 1] by decide +kernel) rfl
theorem dX12_backs_132 : decode cX12_backs 132 = .ok (.goto (-97), 3) := dc_167 (show ((cX12_backs.data.toList.drop 132).take 3).map UInt8.toNat = [167, 255, 159] by decide +kernel) rfl
theorem dX12_backs_107 : decode cX12_backs 107 = .ok (.iload 5, 2) := dc_21 (show ((cX12_backs.data.toList.drop 107).take 2).map UInt8.toNat = [21, 5] by decide +kernel) rfl
theorem dX12_backs_109 : decode cX12_backs 109 = .ok (.ifCond .lt 16, 3) := dc_155 (show ((cX12_backs.data.toList.drop 109).take 3).map UInt8.toNat = [155, 0, 16] by decide +kernel) rfl
theorem dX12_backs_125 : decode cX12_backs 125 = .ok (.iload 6, 2) := dc_21 (show ((cX12_backs.data.toList.drop 125).take 2).map UInt8.toNat = [21, 6] by decide +kernel) rfl
theorem dX12_backs_127 : decode cX12_backs 127 = .ok (.istore 5, 2) := dc_54 (show ((cX12_backs.data.toList.drop 127).take 2).map UInt8.toNat = [54, 5] by decide +kernel) rfl
theorem dX12_backs_112 : decode cX12_backs 112 = .ok (.iload 6, 2) := dc_21 (show ((cX12_backs.data.toList.drop 112).take 2).map UInt8.toNat = [21, 6] by decide +kernel) rfl
theorem dX12_backs_114 : decode cX12_backs 114 = .ok (.invokestatic 400, 3) := dc_184 (show ((cX12_backs.data.toList.drop 114).take 3).map UInt8.toNat = [184, 1, 144] by decide +kernel) rfl
theorem dX12_backs_117 : decode cX12_backs 117 = .ok (.iload 5, 2) := dc_21 (show ((cX12_backs.data.toList.drop 117).take 2).map UInt8.toNat = [21, 5] by decide +kernel) rfl
theorem dX12_backs_119 : decode cX12_backs 119 = .ok (.invokestatic 400, 3) := dc_184 (show ((cX12_backs.data.toList.drop 119).take 3).map UInt8.toNat = [184, 1, 144] by decide +kernel) rfl
theorem dX12_backs_122 : decode cX12_backs 122 = .ok (.if_icmp .ge 7, 3) := dc_162 (show ((cX12_backs.data.toList.drop 122).take 3).map UInt8.toNat = [162, 0, 7] by decide +kernel) rfl
theorem dX12_backs_61 : decode cX12_backs 61 = .ok (.iload 7, 2) := dc_21 (show ((cX12_backs.data.toList.drop 61).take 2).map UInt8.toNat = [21, 7] by decide +kernel) rfl
theorem dX12_backs_63 : decode cX12_backs 63 = .ok (.iload 6, 2) := dc_21 (show ((cX12_backs.data.toList.drop 63).take 2).map UInt8.toNat = [21, 6] by decide +kernel) rfl
theorem dX12_backs_65 : decode cX12_backs 65 = .ok (.iload 8, 2) := dc_21 (show ((cX12_backs.data.toList.drop 65).take 2).map UInt8.toNat = [21, 8] by decide +kernel) rfl
theorem dX12_backs_67 : decode cX12_backs 67 = .ok (.ishr, 1) := dc_122 (show ((cX12_backs.data.toList.drop 67).take 1).map UInt8.toNat = [122] by decide +kernel)
theorem dX12_backs_68 : decode cX12_backs 68 = .ok (.iconst 1, 1) := dc_4 (show ((cX12_backs.data.toList.drop 68).take 1).map UInt8.toNat = [4] by decide +kernel)
theorem dX12_backs_69 : decode cX12_backs 69 = .ok (.iand, 1) := dc_126 (show ((cX12_backs.data.toList.drop 69).take 1).map UInt8.toNat = [126] by decide +kernel)
theorem dX12_backs_70 : decode cX12_backs 70 = .ok (.iconst 1, 1) := dc_4 (show ((cX12_backs.data.toList.drop 70).take 1).map UInt8.toNat = [4] by decide +kernel)
theorem dX12_backs_71 : decode cX12_backs 71 = .ok (.if_icmp .ne 14, 3) := dc_160 (show ((cX12_backs.data.toList.drop 71).take 3).map UInt8.toNat = [160, 0, 14] by decide +kernel) rfl
theorem dX12_backs_85 : decode cX12_backs 85 = .ok (.aload_n 0, 1) := dc_42 (show ((cX12_backs.data.toList.drop 85).take 1).map UInt8.toNat = [42] by decide +kernel)
theorem dX12_backs_86 : decode cX12_backs 86 = .ok (.iload 8, 2) := dc_21 (show ((cX12_backs.data.toList.drop 86).take 2).map UInt8.toNat = [21, 8] by decide +kernel) rfl
theorem dX12_backs_88 : decode cX12_backs 88 = .ok (.iload_n 2, 1) := dc_28 (show ((cX12_backs.data.toList.drop 88).take 1).map UInt8.toNat = [28] by decide +kernel)
theorem dX12_backs_89 : decode cX12_backs 89 = .ok (.invokevirtual 297, 3) := dc_182 (show ((cX12_backs.data.toList.drop 89).take 3).map UInt8.toNat = [182, 1, 41] by decide +kernel) rfl
theorem dX12_backs_92 : decode cX12_backs 92 = .ok (.iadd, 1) := dc_96 (show ((cX12_backs.data.toList.drop 92).take 1).map UInt8.toNat = [96] by decide +kernel)
theorem dX12_backs_93 : decode cX12_backs 93 = .ok (.istore 7, 2) := dc_54 (show ((cX12_backs.data.toList.drop 93).take 2).map UInt8.toNat = [54, 7] by decide +kernel) rfl
theorem dX12_backs_95 : decode cX12_backs 95 = .ok (.iinc 8 1, 3) := dc_132 (show ((cX12_backs.data.toList.drop 95).take 3).map UInt8.toNat = [132, 8, 1] by decide +kernel) rfl
theorem dX12_backs_98 : decode cX12_backs 98 = .ok (.goto (-46), 3) := dc_167 (show ((cX12_backs.data.toList.drop 98).take 3).map UInt8.toNat = [167, 255, 210] by decide +kernel) rfl
theorem dX12_backs_74 : decode cX12_backs 74 = .ok (.aload_n 0, 1) := dc_42 (show ((cX12_backs.data.toList.drop 74).take 1).map UInt8.toNat = [42] by decide +kernel)
theorem dX12_backs_75 : decode cX12_backs 75 = .ok (.iload 8, 2) := dc_21 (show ((cX12_backs.data.toList.drop 75).take 2).map UInt8.toNat = [21, 8] by decide +kernel) rfl
theorem dX12_backs_77 : decode cX12_backs 77 = .ok (.iload_n 2, 1) := dc_28 (show ((cX12_backs.data.toList.drop 77).take 1).map UInt8.toNat = [28] by decide +kernel)
theorem dX12_backs_78 : decode cX12_backs 78 = .ok (.invokevirtual 297, 3) := dc_182 (show ((cX12_backs.data.toList.drop 78).take 3).map UInt8.toNat = [182, 1, 41] by decide +kernel) rfl
theorem dX12_backs_81 : decode cX12_backs 81 = .ok (.ineg, 1) := dc_116 (show ((cX12_backs.data.toList.drop 81).take 1).map UInt8.toNat = [116] by decide +kernel)
theorem dX12_backs_82 : decode cX12_backs 82 = .ok (.goto 10, 3) := dc_167 (show ((cX12_backs.data.toList.drop 82).take 3).map UInt8.toNat = [167, 0, 10] by decide +kernel) rfl
def ms_backs_52 (n : Nat) (k35 : gb_F → Int64 → Int32 → Int32 → Int32 → Int32 → Int32 → gb_MR Int32) : Nat → gb_F → Int64 → Int32 → Int32 → Int32 → Int32 → Int32 → Int32 → Int32 → gb_MR Int32
  | 0, _, _, _, _, _, _, _, _, _ => none
  | mm + 1, f, w, v2, v3, v4, v5, v6, v7, v8 => gb_bd (ms_geese n f w) (fun f_31 wl_32 r_33 => (if r_33 ≤ v8 then (if v3 < v7 then gb_lt (v6 + 1) (fun x_38 => k35 f_31 wl_32 v2 v3 v4 v5 x_38) else (if v5 < 0 then gb_lt (v6 + 1) (fun x_40 => k35 f_31 wl_32 v2 v3 v4 v6 x_40) else gb_bd (ms_bits n f_31 wl_32 v6) (fun f_41 wl_42 r_43 => gb_bd (ms_bits n f_41 wl_42 v5) (fun f_46 wl_47 r_48 => (if r_48 ≤ r_43 then gb_lt (v6 + 1) (fun x_52 => k35 f_46 wl_47 v2 v3 v4 v5 x_52) else gb_lt (v6 + 1) (fun x_53 => k35 f_46 wl_47 v2 v3 v4 v6 x_53)))))) else (if ((v6 >>> (v8 &&& 31)) &&& 1) = 1 then gb_bd (ms_firstMarks n f_31 wl_32 v8 v2) (fun f_62 wl_63 r_64 => gb_lt (v7 + (-r_64)) (fun x_67 => gb_lt (v8 + 1) (fun x_68 => ms_backs_52 n k35 mm f_62 wl_63 v2 v3 v4 v5 v6 x_67 x_68))) else gb_bd (ms_firstMarks n f_31 wl_32 v8 v2) (fun f_55 wl_56 r_57 => gb_lt (v7 + r_57) (fun x_60 => gb_lt (v8 + 1) (fun x_61 => ms_backs_52 n k35 mm f_55 wl_56 v2 v3 v4 v5 v6 x_60 x_61))))))
def ms_backs_35 (n : Nat) : Nat → gb_F → Int64 → Int32 → Int32 → Int32 → Int32 → Int32 → gb_MR Int32
  | 0, _, _, _, _, _, _, _ => none
  | mm + 1, f, w, v2, v3, v4, v5, v6 => gb_bd (ms_geese n f w) (fun f_19 wl_20 r_21 => (if (1 <<< (r_21 &&& 31)) ≤ v6 then (if v4 = 0 then some (f_19, wl_20, v5) else gb_bd (ms_bits n f_19 wl_20 v5) (fun f_26 wl_27 r_28 => some (f_26, wl_27, r_28))) else ms_backs_52 n (fun f w v2 v3 v4 v5 v6 => ms_backs_35 n mm f w v2 v3 v4 v5 v6) n f_19 wl_20 v2 v3 v4 v5 v6 0 0))
def ms_backs (n : Nat) (f : gb_F) (w : Int64) (p1 : Int32) (p2 : Int32) (p3 : Int32) (p4 : Int32) : gb_MR Int32 := gb_bd (ms_isBorder n f w p1) (fun f_1 wl_2 r_3 => (if r_3 = 0 then some (f_1, wl_2, (-1)) else gb_bd (ms_isPath n f_1 wl_2 p2) (fun f_7 wl_8 r_9 => (if r_9 = 0 then some (f_7, wl_8, (-1)) else gb_bd (ms_isIn n f_7 wl_8 p3 0 9999) (fun f_13 wl_14 r_15 => (if r_15 = 0 then some (f_13, wl_14, (-1)) else ms_backs_35 n n f_13 wl_14 p2 p3 p4 (-1) 0))))))
set_option maxHeartbeats 8000000 in
set_option maxRecDepth 100000 in
theorem mc_backs (l : Launch) (D : va_G) (cT : Nat → ClassId) (tt : Nat → Nat) (b1 b : Nat) (hb1 : b1 ≤ b) (n : Nat) (f : gb_F) (w : Int64) (p1 : Int32) (p2 : Int32) (p3 : Int32) (p4 : Int32) (fE : gb_F) (wE : Int64) (rE : Int32) (h : ms_backs n f w p1 p2 p3 p4 = some (fE, wE, rE)) : Met l yX12_backs (.code yX12_backs cX12_backs 9 (some FieldType.int) :: gb_wA) ({ frames := 4, cells := 0, slots := 0, locals := 92 }) (gb_Pc D cT tt b1 [.ref (b + 0), .int p1, .int p2, .int p3, .int p4] (fun h => va_P D vwCl (gb_wl b (gb_MW cT b f w)) h)) (gb_Qi (fun r h => r = rE ∧ va_P D vwCl (gb_wl b (gb_MW cT b fE wE)) h) (gb_fr b 22)) 0 0 (gb_fr b 22) := by
  refine Met.ofW (cc := cX12_backs) (maxL := 9) (ret := (some FieldType.int)) (by decide) rfl ?_
  intro p e s m args below meth c s₁ B hml hv
  obtain ⟨rfl, hSt, hP⟩ := hv
  have hx := B.exec
  have hb := B.bytes
  have hr := B.returns
  have hts := atoms_spec (ws := .code yX12_backs cX12_backs 9 (some FieldType.int) :: gb_wA) B.pre
  have hq : ∀ w ∈ gb_wA, w.before _ s = true := fun w h => hts w (List.mem_cons_of_mem _ h)
  have hown : s.vm.findClass RX12 = some m.cls := findClass_of_methodNamed B.named
  have hlocks := B.notSynchronized
  clear B hts
  have hK := hSt.1
  have hS : va_S (gb_fr b 22) s.heap s.heap [] := va_S.rf
  have hl := lv_entry ([.ref (b + 0), .int p1, .int p2, .int p3, .int p4]) (n := 9) (Nat.le_of_ble_eq_true rfl)
  rw [lg_entry_eq]
  generalize (lg_sl ([.ref (b + 0), .int p1, .int p2, .int p3, .int p4]) ++ List.replicate (9 - (lg_sl ([.ref (b + 0), .int p1, .int p2, .int p3, .int p4])).length) Slot.unset).toArray = ls at hl ⊢
  replace hl : lv_has ls 9 [(0, .ref (b + 0)), (1, .int p1), (2, .int p2), (3, .int p3), (4, .int p4)] := hl
  have L52 : ∀ (k35 : gb_F → Int64 → Int32 → Int32 → Int32 → Int32 → Int32 → gb_MR Int32) (hk35 : ∀ (f : gb_F) (w : Int64) (v2 : Int32) (v3 : Int32) (v4 : Int32) (v5 : Int32) (v6 : Int32) (H : Heap) (locs : List Loc) (ls : Array Slot), k35 f w v2 v3 v4 v5 v6 = some (fE, wE, rE) → va_P D vwCl (gb_wl b (gb_MW cT b f w)) H → va_S (gb_fr b 22) s.heap H locs → lv_has ls 9 [(0, .ref (b + 0)), (2, .int v2), (3, .int v3), (4, .int v4), (5, .int v5), (6, .int v6)] → W p l e (headSpec (.code yX12_backs cX12_backs 9 (some FieldType.int) :: gb_wA) ({ frames := 4, cells := 0, slots := 0, locals := 92 })).room s m ([.ref (b + 0), .int p1, .int p2, .int p3, .int p4]).toArray below meth c H locs 0 0 (MQ below (gb_Qi (fun r h => r = rE ∧ va_P D vwCl (gb_wl b (gb_MW cT b fE wE)) h) (gb_fr b 22)) ([.ref (b + 0), .int p1, .int p2, .int p3, .int p4]).toArray s 0 0 (gb_fr b 22)) (F0 m 35 ls [])) (mm : Nat) (f : gb_F) (w : Int64) (v2 : Int32) (v3 : Int32) (v4 : Int32) (v5 : Int32) (v6 : Int32) (v7 : Int32) (v8 : Int32) (H : Heap) (locs : List Loc) (ls : Array Slot), ms_backs_52 n k35 mm f w v2 v3 v4 v5 v6 v7 v8 = some (fE, wE, rE) → va_P D vwCl (gb_wl b (gb_MW cT b f w)) H → va_S (gb_fr b 22) s.heap H locs → lv_has ls 9 [(0, .ref (b + 0)), (2, .int v2), (3, .int v3), (4, .int v4), (5, .int v5), (6, .int v6), (7, .int v7), (8, .int v8)] → W p l e (headSpec (.code yX12_backs cX12_backs 9 (some FieldType.int) :: gb_wA) ({ frames := 4, cells := 0, slots := 0, locals := 92 })).room s m ([.ref (b + 0), .int p1, .int p2, .int p3, .int p4]).toArray below meth c H locs 0 0 (MQ below (gb_Qi (fun r h => r = rE ∧ va_P D vwCl (gb_wl b (gb_MW cT b fE wE)) h) (gb_fr b 22)) ([.ref (b + 0), .int p1, .int p2, .int p3, .int p4]).toArray s 0 0 (gb_fr b 22)) (F0 m 52 ls []) := by
    clear h hP hS hl ls f w
    intro k35 hk35 mm
    induction mm with
    | zero =>
      intro f w v2 v3 v4 v5 v6 v7 v8 H locs ls h
      cases h
    | succ mm ih =>
      intro f w v2 v3 v4 v5 v6 v7 v8 H locs ls h hP hS hl
      rw [ms_backs_52] at h
      refine lv_iload hx hb dX12_backs_52 (lv_at hl 7 rfl) ?_
      refine lv_aload_n hx hb dX12_backs_54 rfl (lv_at hl 0 rfl) ?_
      obtain ⟨f_31, wl_32, r_33, z_34, h⟩ := gb_bd_s h
      refine gb_calli (va_runV (C := RX12) (As := []) (rest := [.int v8]) ⟨hx, hb, hml, hown, hq⟩ (mc_geese l D cT tt b1 b hb1 n f w f_31 wl_32 r_33 z_34) (cwV 0 hq (gb_gV w_1396 w_1398 s_4_7 w_14 w_1399) rfl rfl rfl (by decide +kernel) ⟨Nat.le_of_ble_eq_true rfl, Nat.le_of_ble_eq_true rfl⟩) (gb_preV (r := (RX12, TX12, 44)) (ci := 10) (q0 := 0) hSt hP rfl (gb_at b rfl) hS (fun q h => Nat.le_trans hb1 h.1) hP) rfl rfl hl.1 rfl (lv_room (Nat.le_of_ble_eq_true rfl)) dX12_backs_55 ⟨Nat.le_of_ble_eq_true rfl, Nat.le_of_ble_eq_true rfl⟩) hS (fun _ h => h) (fun _ h => h) (fun q_35 H locs hY hk hS => ?_)
      obtain ⟨hq_35, hP⟩ := hY
      replace hq_35 := hq_35.symm
      subst hq_35
      refine lv_icmp_ge (tgt := 101) hx hb dX12_backs_58 (by decide) (fun c_36 => ?_) (fun c_36 => ?_)
      · rw [if_pos c_36] at h
        refine lv_iload hx hb dX12_backs_101 (lv_at hl 6 rfl) ?_
        refine lv_iload_n hx hb dX12_backs_103 rfl (lv_at hl 2 rfl) ?_
        refine lv_icmp_gt (tgt := 129) hx hb dX12_backs_104 (by decide) (fun c_37 => ?_) (fun c_37 => ?_)
        · rw [if_pos c_37] at h
          obtain ⟨x_38, ex_38⟩ : ∃ q, q = (v6 + 1) := ⟨_, rfl⟩
          replace h := gb_lt_s ex_38 h
          refine lv_iinc (v := x_38) (lv' := [(6, .int x_38), (0, .ref (b + 0)), (2, .int v2), (3, .int v3), (4, .int v4), (5, .int v5), (7, .int v7), (8, .int v8)]) hx hb dX12_backs_129 hl (k := 5) rfl (by rw [ex_38]; rfl) (by decide) rfl (fun ls hl => ?_)
          refine lv_goto (tgt := 35) hx hb dX12_backs_132 (by decide) ?_
          exact hk35 _ _ _ _ _ _ _ _ _ _ h hP hS (lv_sub hl [1, 2, 3, 4, 5, 0] rfl)
        · rw [if_neg c_37] at h
          refine lv_iload hx hb dX12_backs_107 (lv_at hl 4 rfl) ?_
          refine lv_if_lt (tgt := 125) hx hb dX12_backs_109 (by decide) (fun c_39 => ?_) (fun c_39 => ?_)
          · rw [if_pos c_39] at h
            refine lv_iload hx hb dX12_backs_125 (lv_at hl 5 rfl) ?_
            refine lv_istore (lv' := [(5, .int v6), (0, .ref (b + 0)), (2, .int v2), (3, .int v3), (4, .int v4), (6, .int v6), (7, .int v7), (8, .int v8)]) hx hb dX12_backs_127 hl (by decide) rfl (fun ls hl => ?_)
            obtain ⟨x_40, ex_40⟩ : ∃ q, q = (v6 + 1) := ⟨_, rfl⟩
            replace h := gb_lt_s ex_40 h
            refine lv_iinc (v := x_40) (lv' := [(6, .int x_40), (5, .int v6), (0, .ref (b + 0)), (2, .int v2), (3, .int v3), (4, .int v4), (7, .int v7), (8, .int v8)]) hx hb dX12_backs_129 hl (k := 5) rfl (by rw [ex_40]; rfl) (by decide) rfl (fun ls hl => ?_)
            refine lv_goto (tgt := 35) hx hb dX12_backs_132 (by decide) ?_
            exact hk35 _ _ _ _ _ _ _ _ _ _ h hP hS (lv_sub hl [2, 3, 4, 5, 1, 0] rfl)
          · rw [if_neg c_39] at h
            refine lv_iload hx hb dX12_backs_112 (lv_at hl 5 rfl) ?_
            obtain ⟨f_41, wl_42, r_43, z_44, h⟩ := gb_bd_s h
            refine gb_calli (va_runS (As := [.int v6]) (rest := []) ⟨hx, hb, hml, hown, hq⟩ (mc_bits l D cT tt b1 b hb1 n f_31 wl_32 v6 f_41 wl_42 r_43 z_44) (va_cwS 1 hq (gb_gS w_1682 w_1683 w_14 w_1684) rfl rfl rfl (by decide +kernel) ⟨Nat.le_of_ble_eq_true rfl, Nat.le_of_ble_eq_true rfl⟩) (gb_preS hSt hS (fun q h => Nat.le_trans hb1 h.1) hP) rfl rfl hl.1 rfl (lv_room (Nat.le_of_ble_eq_true rfl)) dX12_backs_114 ⟨Nat.le_of_ble_eq_true rfl, Nat.le_of_ble_eq_true rfl⟩) hS (fun _ h => h) (fun _ h => h) (fun q_45 H locs hY hk hS => ?_)
            obtain ⟨hq_45, hP⟩ := hY
            replace hq_45 := hq_45.symm
            subst hq_45
            refine lv_iload hx hb dX12_backs_117 (lv_at hl 4 rfl) ?_
            obtain ⟨f_46, wl_47, r_48, z_49, h⟩ := gb_bd_s h
            refine gb_calli (va_runS (As := [.int v5]) (rest := [.int r_43]) ⟨hx, hb, hml, hown, hq⟩ (mc_bits l D cT tt b1 b hb1 n f_41 wl_42 v5 f_46 wl_47 r_48 z_49) (va_cwS 1 hq (gb_gS w_1682 w_1683 w_14 w_1684) rfl rfl rfl (by decide +kernel) ⟨Nat.le_of_ble_eq_true rfl, Nat.le_of_ble_eq_true rfl⟩) (gb_preS hSt hS (fun q h => Nat.le_trans hb1 h.1) hP) rfl rfl hl.1 rfl (lv_room (Nat.le_of_ble_eq_true rfl)) dX12_backs_119 ⟨Nat.le_of_ble_eq_true rfl, Nat.le_of_ble_eq_true rfl⟩) hS (fun _ h => h) (fun _ h => h) (fun q_50 H locs hY hk hS => ?_)
            obtain ⟨hq_50, hP⟩ := hY
            replace hq_50 := hq_50.symm
            subst hq_50
            refine lv_icmp_ge (tgt := 129) hx hb dX12_backs_122 (by decide) (fun c_51 => ?_) (fun c_51 => ?_)
            · rw [if_pos c_51] at h
              obtain ⟨x_52, ex_52⟩ : ∃ q, q = (v6 + 1) := ⟨_, rfl⟩
              replace h := gb_lt_s ex_52 h
              refine lv_iinc (v := x_52) (lv' := [(6, .int x_52), (0, .ref (b + 0)), (2, .int v2), (3, .int v3), (4, .int v4), (5, .int v5), (7, .int v7), (8, .int v8)]) hx hb dX12_backs_129 hl (k := 5) rfl (by rw [ex_52]; rfl) (by decide) rfl (fun ls hl => ?_)
              refine lv_goto (tgt := 35) hx hb dX12_backs_132 (by decide) ?_
              exact hk35 _ _ _ _ _ _ _ _ _ _ h hP hS (lv_sub hl [1, 2, 3, 4, 5, 0] rfl)
            · rw [if_neg c_51] at h
              refine lv_iload hx hb dX12_backs_125 (lv_at hl 5 rfl) ?_
              refine lv_istore (lv' := [(5, .int v6), (0, .ref (b + 0)), (2, .int v2), (3, .int v3), (4, .int v4), (6, .int v6), (7, .int v7), (8, .int v8)]) hx hb dX12_backs_127 hl (by decide) rfl (fun ls hl => ?_)
              obtain ⟨x_53, ex_53⟩ : ∃ q, q = (v6 + 1) := ⟨_, rfl⟩
              replace h := gb_lt_s ex_53 h
              refine lv_iinc (v := x_53) (lv' := [(6, .int x_53), (5, .int v6), (0, .ref (b + 0)), (2, .int v2), (3, .int v3), (4, .int v4), (7, .int v7), (8, .int v8)]) hx hb dX12_backs_129 hl (k := 5) rfl (by rw [ex_53]; rfl) (by decide) rfl (fun ls hl => ?_)
              refine lv_goto (tgt := 35) hx hb dX12_backs_132 (by decide) ?_
              exact hk35 _ _ _ _ _ _ _ _ _ _ h hP hS (lv_sub hl [2, 3, 4, 5, 1, 0] rfl)
      · rw [if_neg c_36] at h
        refine lv_iload hx hb dX12_backs_61 (lv_at hl 6 rfl) ?_
        refine lv_iload hx hb dX12_backs_63 (lv_at hl 5 rfl) ?_
        refine lv_iload hx hb dX12_backs_65 (lv_at hl 7 rfl) ?_
        refine lv_ishr hx hb dX12_backs_67 ?_
        refine lv_iconst (v := 1) hx hb dX12_backs_68 (by decide) ?_
        refine lv_iand hx hb dX12_backs_69 ?_
        refine lv_iconst (v := 1) hx hb dX12_backs_70 (by decide) ?_
        refine lv_icmp_ne (tgt := 85) hx hb dX12_backs_71 (by decide) (fun c_54 => ?_) (fun c_54 => ?_)
        · rw [if_neg c_54] at h
          refine lv_aload_n hx hb dX12_backs_85 rfl (lv_at hl 0 rfl) ?_
          refine lv_iload hx hb dX12_backs_86 (lv_at hl 7 rfl) ?_
          refine lv_iload_n hx hb dX12_backs_88 rfl (lv_at hl 1 rfl) ?_
          obtain ⟨f_55, wl_56, r_57, z_58, h⟩ := gb_bd_s h
          refine gb_calli (va_runV (C := RX12) (As := [.int v8, .int v2]) (rest := [.int v7]) ⟨hx, hb, hml, hown, hq⟩ (mc_firstMarks l D cT tt b1 b hb1 n f_31 wl_32 v8 v2 f_55 wl_56 r_57 z_58) (cwV 2 hq (gb_gV w_1532 w_1534 s_6_0 w_14 w_1535) rfl rfl rfl (by decide +kernel) ⟨Nat.le_of_ble_eq_true rfl, Nat.le_of_ble_eq_true rfl⟩) (gb_preV (r := (RX12, TX12, 44)) (ci := 10) (q0 := 0) hSt hP rfl (gb_at b rfl) hS (fun q h => Nat.le_trans hb1 h.1) hP) rfl rfl hl.1 rfl (lv_room (Nat.le_of_ble_eq_true rfl)) dX12_backs_89 ⟨Nat.le_of_ble_eq_true rfl, Nat.le_of_ble_eq_true rfl⟩) hS (fun _ h => h) (fun _ h => h) (fun q_59 H locs hY hk hS => ?_)
          obtain ⟨hq_59, hP⟩ := hY
          replace hq_59 := hq_59.symm
          subst hq_59
          refine lv_iadd hx hb dX12_backs_92 ?_
          refine lv_topi (fun x_60 ex_60 => ?_)
          replace h := gb_lt_s ex_60 h
          refine lv_istore (lv' := [(7, .int x_60), (0, .ref (b + 0)), (2, .int v2), (3, .int v3), (4, .int v4), (5, .int v5), (6, .int v6), (8, .int v8)]) hx hb dX12_backs_93 hl (by decide) rfl (fun ls hl => ?_)
          obtain ⟨x_61, ex_61⟩ : ∃ q, q = (v8 + 1) := ⟨_, rfl⟩
          replace h := gb_lt_s ex_61 h
          refine lv_iinc (v := x_61) (lv' := [(8, .int x_61), (7, .int x_60), (0, .ref (b + 0)), (2, .int v2), (3, .int v3), (4, .int v4), (5, .int v5), (6, .int v6)]) hx hb dX12_backs_95 hl (k := 7) rfl (by rw [ex_61]; rfl) (by decide) rfl (fun ls hl => ?_)
          refine lv_goto (tgt := 52) hx hb dX12_backs_98 (by decide) ?_
          exact ih _ _ _ _ _ _ _ _ _ _ _ _ h hP hS (lv_sub hl [2, 3, 4, 5, 6, 7, 1, 0] rfl)
        · rw [if_pos c_54] at h
          refine lv_aload_n hx hb dX12_backs_74 rfl (lv_at hl 0 rfl) ?_
          refine lv_iload hx hb dX12_backs_75 (lv_at hl 7 rfl) ?_
          refine lv_iload_n hx hb dX12_backs_77 rfl (lv_at hl 1 rfl) ?_
          obtain ⟨f_62, wl_63, r_64, z_65, h⟩ := gb_bd_s h
          refine gb_calli (va_runV (C := RX12) (As := [.int v8, .int v2]) (rest := [.int v7]) ⟨hx, hb, hml, hown, hq⟩ (mc_firstMarks l D cT tt b1 b hb1 n f_31 wl_32 v8 v2 f_62 wl_63 r_64 z_65) (cwV 2 hq (gb_gV w_1532 w_1534 s_6_0 w_14 w_1535) rfl rfl rfl (by decide +kernel) ⟨Nat.le_of_ble_eq_true rfl, Nat.le_of_ble_eq_true rfl⟩) (gb_preV (r := (RX12, TX12, 44)) (ci := 10) (q0 := 0) hSt hP rfl (gb_at b rfl) hS (fun q h => Nat.le_trans hb1 h.1) hP) rfl rfl hl.1 rfl (lv_room (Nat.le_of_ble_eq_true rfl)) dX12_backs_78 ⟨Nat.le_of_ble_eq_true rfl, Nat.le_of_ble_eq_true rfl⟩) hS (fun _ h => h) (fun _ h => h) (fun q_66 H locs hY hk hS => ?_)
          obtain ⟨hq_66, hP⟩ := hY
          replace hq_66 := hq_66.symm
          subst hq_66
          refine lv_ineg hx hb dX12_backs_81 ?_
          refine lv_goto (tgt := 92) hx hb dX12_backs_82 (by decide) ?_
          refine lv_iadd hx hb dX12_backs_92 ?_
          refine lv_topi (fun x_67 ex_67 => ?_)
          replace h := gb_lt_s ex_67 h
          refine lv_istore (lv' := [(7, .int x_67), (0, .ref (b + 0)), (2, .int v2), (3, .int v3), (4, .int v4), (5, .int v5), (6, .int v6), (8, .int v8)]) hx hb dX12_backs_93 hl (by decide) rfl (fun ls hl => ?_)
          obtain ⟨x_68, ex_68⟩ : ∃ q, q = (v8 + 1) := ⟨_, rfl⟩
          replace h := gb_lt_s ex_68 h
          refine lv_iinc (v := x_68) (lv' := [(8, .int x_68), (7, .int x_67), (0, .ref (b + 0)), (2, .int v2), (3, .int v3), (4, .int v4), (5, .int v5), (6, .int v6)]) hx hb dX12_backs_95 hl (k := 7) rfl (by rw [ex_68]; rfl) (by decide) rfl (fun ls hl => ?_)
          refine lv_goto (tgt := 52) hx hb dX12_backs_98 (by decide) ?_
          exact ih _ _ _ _ _ _ _ _ _ _ _ _ h hP hS (lv_sub hl [2, 3, 4, 5, 6, 7, 1, 0] rfl)
  have L35 : ∀ (mm : Nat) (f : gb_F) (w : Int64) (v2 : Int32) (v3 : Int32) (v4 : Int32) (v5 : Int32) (v6 : Int32) (H : Heap) (locs : List Loc) (ls : Array Slot), ms_backs_35 n mm f w v2 v3 v4 v5 v6 = some (fE, wE, rE) → va_P D vwCl (gb_wl b (gb_MW cT b f w)) H → va_S (gb_fr b 22) s.heap H locs → lv_has ls 9 [(0, .ref (b + 0)), (2, .int v2), (3, .int v3), (4, .int v4), (5, .int v5), (6, .int v6)] → W p l e (headSpec (.code yX12_backs cX12_backs 9 (some FieldType.int) :: gb_wA) ({ frames := 4, cells := 0, slots := 0, locals := 92 })).room s m ([.ref (b + 0), .int p1, .int p2, .int p3, .int p4]).toArray below meth c H locs 0 0 (MQ below (gb_Qi (fun r h => r = rE ∧ va_P D vwCl (gb_wl b (gb_MW cT b fE wE)) h) (gb_fr b 22)) ([.ref (b + 0), .int p1, .int p2, .int p3, .int p4]).toArray s 0 0 (gb_fr b 22)) (F0 m 35 ls []) := by
    clear h hP hS hl ls f w
    intro mm
    induction mm with
    | zero =>
      intro f w v2 v3 v4 v5 v6 H locs ls h
      cases h
    | succ mm ih =>
      intro f w v2 v3 v4 v5 v6 H locs ls h hP hS hl
      rw [ms_backs_35] at h
      refine lv_iload hx hb dX12_backs_35 (lv_at hl 5 rfl) ?_
      refine lv_iconst (v := 1) hx hb dX12_backs_37 (by decide) ?_
      refine lv_aload_n hx hb dX12_backs_38 rfl (lv_at hl 0 rfl) ?_
      obtain ⟨f_19, wl_20, r_21, z_22, h⟩ := gb_bd_s h
      refine gb_calli (va_runV (C := RX12) (As := []) (rest := [.int 1, .int v6]) ⟨hx, hb, hml, hown, hq⟩ (mc_geese l D cT tt b1 b hb1 n f w f_19 wl_20 r_21 z_22) (cwV 0 hq (gb_gV w_1396 w_1398 s_4_7 w_14 w_1399) rfl rfl rfl (by decide +kernel) ⟨Nat.le_of_ble_eq_true rfl, Nat.le_of_ble_eq_true rfl⟩) (gb_preV (r := (RX12, TX12, 44)) (ci := 10) (q0 := 0) hSt hP rfl (gb_at b rfl) hS (fun q h => Nat.le_trans hb1 h.1) hP) rfl rfl hl.1 rfl (lv_room (Nat.le_of_ble_eq_true rfl)) dX12_backs_39 ⟨Nat.le_of_ble_eq_true rfl, Nat.le_of_ble_eq_true rfl⟩) hS (fun _ h => h) (fun _ h => h) (fun q_23 H locs hY hk hS => ?_)
      obtain ⟨hq_23, hP⟩ := hY
      replace hq_23 := hq_23.symm
      subst hq_23
      refine lv_ishl hx hb dX12_backs_42 ?_
      refine lv_icmp_ge (tgt := 135) hx hb dX12_backs_43 (by decide) (fun c_24 => ?_) (fun c_24 => ?_)
      · rw [if_pos c_24] at h
        refine lv_iload hx hb dX12_backs_135 (lv_at hl 3 rfl) ?_
        refine lv_if_eq (tgt := 148) hx hb dX12_backs_137 (by decide) (fun c_25 => ?_) (fun c_25 => ?_)
        · rw [if_pos c_25] at h
          refine lv_iload hx hb dX12_backs_148 (lv_at hl 4 rfl) ?_
          obtain ⟨e1, e2, e3⟩ := gb_eq3 h
          exact W.iret (v := v5) hx hb hr (fun t ht hW => gb_ri ht ⟨e3, by rw [← e1, ← e2]; exact hP⟩ hS) hS.2.2 dX12_backs_150
        · rw [if_neg c_25] at h
          refine lv_iload hx hb dX12_backs_140 (lv_at hl 4 rfl) ?_
          obtain ⟨f_26, wl_27, r_28, z_29, h⟩ := gb_bd_s h
          refine gb_calli (va_runS (As := [.int v5]) (rest := []) ⟨hx, hb, hml, hown, hq⟩ (mc_bits l D cT tt b1 b hb1 n f_19 wl_20 v5 f_26 wl_27 r_28 z_29) (va_cwS 1 hq (gb_gS w_1682 w_1683 w_14 w_1684) rfl rfl rfl (by decide +kernel) ⟨Nat.le_of_ble_eq_true rfl, Nat.le_of_ble_eq_true rfl⟩) (gb_preS hSt hS (fun q h => Nat.le_trans hb1 h.1) hP) rfl rfl hl.1 rfl (lv_room (Nat.le_of_ble_eq_true rfl)) dX12_backs_142 ⟨Nat.le_of_ble_eq_true rfl, Nat.le_of_ble_eq_true rfl⟩) hS (fun _ h => h) (fun _ h => h) (fun q_30 H locs hY hk hS => ?_)
          obtain ⟨hq_30, hP⟩ := hY
          replace hq_30 := hq_30.symm
          subst hq_30
          refine lv_goto (tgt := 150) hx hb dX12_backs_145 (by decide) ?_
          obtain ⟨e1, e2, e3⟩ := gb_eq3 h
          exact W.iret (v := r_28) hx hb hr (fun t ht hW => gb_ri ht ⟨e3, by rw [← e1, ← e2]; exact hP⟩ hS) hS.2.2 dX12_backs_150
      · rw [if_neg c_24] at h
        refine lv_iconst (v := 0) hx hb dX12_backs_46 (by decide) ?_
        refine lv_istore (lv' := [(7, .int 0), (0, .ref (b + 0)), (2, .int v2), (3, .int v3), (4, .int v4), (5, .int v5), (6, .int v6)]) hx hb dX12_backs_47 hl (by decide) rfl (fun ls hl => ?_)
        refine lv_iconst (v := 0) hx hb dX12_backs_49 (by decide) ?_
        refine lv_istore (lv' := [(8, .int 0), (7, .int 0), (0, .ref (b + 0)), (2, .int v2), (3, .int v3), (4, .int v4), (5, .int v5), (6, .int v6)]) hx hb dX12_backs_50 hl (by decide) rfl (fun ls hl => ?_)
        exact L52 _ ih n _ _ _ _ _ _ _ _ _ _ _ _ h hP hS (lv_sub hl [2, 3, 4, 5, 6, 7, 1, 0] rfl)
  unfold ms_backs at h
  refine lv_aload_n hx hb dX12_backs_0 rfl (lv_at hl 0 rfl) ?_
  refine lv_iload_n hx hb dX12_backs_1 rfl (lv_at hl 1 rfl) ?_
  obtain ⟨f_1, wl_2, r_3, z_4, h⟩ := gb_bd_s h
  refine gb_calli (va_runV (C := RX12) (As := [.int p1]) (rest := []) ⟨hx, hb, hml, hown, hq⟩ (mc_isBorder l D cT tt b1 b hb1 n f w p1 f_1 wl_2 r_3 z_4) (cwV 1 hq (gb_gV w_1372 w_1374 s_4_1 w_14 w_1375) rfl rfl rfl (by decide +kernel) ⟨Nat.le_of_ble_eq_true rfl, Nat.le_of_ble_eq_true rfl⟩) (gb_preV (r := (RX12, TX12, 44)) (ci := 10) (q0 := 0) hSt hP rfl (gb_at b rfl) hS (fun q h => Nat.le_trans hb1 h.1) hP) rfl rfl hl.1 rfl (lv_room (Nat.le_of_ble_eq_true rfl)) dX12_backs_2 ⟨Nat.le_of_ble_eq_true rfl, Nat.le_of_ble_eq_true rfl⟩) hS (fun _ h => h) (fun _ h => h) (fun q_5 H locs hY hk hS => ?_)
  obtain ⟨hq_5, hP⟩ := hY
  replace hq_5 := hq_5.symm
  subst hq_5
  refine lv_if_eq (tgt := 27) hx hb dX12_backs_5 (by decide) (fun c_6 => ?_) (fun c_6 => ?_)
  · rw [if_pos c_6] at h
    refine lv_iconst (v := (-1)) hx hb dX12_backs_27 (by decide) ?_
    obtain ⟨e1, e2, e3⟩ := gb_eq3 h
    exact W.iret (v := (-1)) hx hb hr (fun t ht hW => gb_ri ht ⟨e3, by rw [← e1, ← e2]; exact hP⟩ hS) hS.2.2 dX12_backs_28
  · rw [if_neg c_6] at h
    refine lv_aload_n hx hb dX12_backs_8 rfl (lv_at hl 0 rfl) ?_
    refine lv_iload_n hx hb dX12_backs_9 rfl (lv_at hl 2 rfl) ?_
    obtain ⟨f_7, wl_8, r_9, z_10, h⟩ := gb_bd_s h
    refine gb_calli (va_runV (C := RX12) (As := [.int p2]) (rest := []) ⟨hx, hb, hml, hown, hq⟩ (mc_isPath l D cT tt b1 b hb1 n f_1 wl_2 p2 f_7 wl_8 r_9 z_10) (cwV 1 hq (gb_gV w_1380 w_1382 s_4_3 w_14 w_1383) rfl rfl rfl (by decide +kernel) ⟨Nat.le_of_ble_eq_true rfl, Nat.le_of_ble_eq_true rfl⟩) (gb_preV (r := (RX12, TX12, 44)) (ci := 10) (q0 := 0) hSt hP rfl (gb_at b rfl) hS (fun q h => Nat.le_trans hb1 h.1) hP) rfl rfl hl.1 rfl (lv_room (Nat.le_of_ble_eq_true rfl)) dX12_backs_10 ⟨Nat.le_of_ble_eq_true rfl, Nat.le_of_ble_eq_true rfl⟩) hS (fun _ h => h) (fun _ h => h) (fun q_11 H locs hY hk hS => ?_)
    obtain ⟨hq_11, hP⟩ := hY
    replace hq_11 := hq_11.symm
    subst hq_11
    refine lv_if_eq (tgt := 27) hx hb dX12_backs_13 (by decide) (fun c_12 => ?_) (fun c_12 => ?_)
    · rw [if_pos c_12] at h
      refine lv_iconst (v := (-1)) hx hb dX12_backs_27 (by decide) ?_
      obtain ⟨e1, e2, e3⟩ := gb_eq3 h
      exact W.iret (v := (-1)) hx hb hr (fun t ht hW => gb_ri ht ⟨e3, by rw [← e1, ← e2]; exact hP⟩ hS) hS.2.2 dX12_backs_28
    · rw [if_neg c_12] at h
      refine lv_iload_n hx hb dX12_backs_16 rfl (lv_at hl 3 rfl) ?_
      refine lv_iconst (v := 0) hx hb dX12_backs_17 (by decide) ?_
      refine lv_sipush (v := 9999) hx hb dX12_backs_18 (by decide) ?_
      obtain ⟨f_13, wl_14, r_15, z_16, h⟩ := gb_bd_s h
      refine gb_calli (va_runS (As := [.int p3, .int 0, .int 9999]) (rest := []) ⟨hx, hb, hml, hown, hq⟩ (mc_isIn l D cT tt b1 b hb1 n f_7 wl_8 p3 0 9999 f_13 wl_14 r_15 z_16) (va_cwS 3 hq (gb_gS w_1269 w_1270 w_14 w_1271) rfl rfl rfl (by decide +kernel) ⟨Nat.le_of_ble_eq_true rfl, Nat.le_of_ble_eq_true rfl⟩) (gb_preS hSt hS (fun q h => Nat.le_trans hb1 h.1) hP) rfl rfl hl.1 rfl (lv_room (Nat.le_of_ble_eq_true rfl)) dX12_backs_21 ⟨Nat.le_of_ble_eq_true rfl, Nat.le_of_ble_eq_true rfl⟩) hS (fun _ h => h) (fun _ h => h) (fun q_17 H locs hY hk hS => ?_)
      obtain ⟨hq_17, hP⟩ := hY
      replace hq_17 := hq_17.symm
      subst hq_17
      refine lv_if_ne (tgt := 29) hx hb dX12_backs_24 (by decide) (fun c_18 => ?_) (fun c_18 => ?_)
      · rw [if_neg c_18] at h
        refine lv_iconst (v := (-1)) hx hb dX12_backs_29 (by decide) ?_
        refine lv_istore (lv' := [(5, .int (-1)), (0, .ref (b + 0)), (1, .int p1), (2, .int p2), (3, .int p3), (4, .int p4)]) hx hb dX12_backs_30 hl (by decide) rfl (fun ls hl => ?_)
        refine lv_iconst (v := 0) hx hb dX12_backs_32 (by decide) ?_
        refine lv_istore (lv' := [(6, .int 0), (5, .int (-1)), (0, .ref (b + 0)), (1, .int p1), (2, .int p2), (3, .int p3), (4, .int p4)]) hx hb dX12_backs_33 hl (by decide) rfl (fun ls hl => ?_)
        exact L35 n _ _ _ _ _ _ _ _ _ _ h hP hS (lv_sub hl [2, 4, 5, 6, 1, 0] rfl)
      · rw [if_pos c_18] at h
        refine lv_iconst (v := (-1)) hx hb dX12_backs_27 (by decide) ?_
        obtain ⟨e1, e2, e3⟩ := gb_eq3 h
        exact W.iret (v := (-1)) hx hb hr (fun t ht hW => gb_ri ht ⟨e3, by rw [← e1, ← e2]; exact hP⟩ hS) hS.2.2 dX12_backs_28
theorem dX12_apartWithout_0 : decode cX12_apartWithout 0 = .ok (.iconst (-1), 1) := dc_2 (show ((cX12_apartWithout.data.toList.drop 0).take 1).map UInt8.toNat = [2] by decide +kernel)
theorem dX12_apartWithout_1 : decode cX12_apartWithout 1 = .ok (.istore_n 2, 1) := dc_61 (show ((cX12_apartWithout.data.toList.drop 1).take 1).map UInt8.toNat = [61] by decide +kernel)
theorem dX12_apartWithout_2 : decode cX12_apartWithout 2 = .ok (.iconst 0, 1) := dc_3 (show ((cX12_apartWithout.data.toList.drop 2).take 1).map UInt8.toNat = [3] by decide +kernel)
theorem dX12_apartWithout_3 : decode cX12_apartWithout 3 = .ok (.istore_n 3, 1) := dc_62 (show ((cX12_apartWithout.data.toList.drop 3).take 1).map UInt8.toNat = [62] by decide +kernel)
theorem dX12_apartWithout_4 : decode cX12_apartWithout 4 = .ok (.iload_n 3, 1) := dc_29 (show ((cX12_apartWithout.data.toList.drop 4).take 1).map UInt8.toNat = [29] by decide +kernel)
theorem dX12_apartWithout_5 : decode cX12_apartWithout 5 = .ok (.aload_n 0, 1) := dc_42 (show ((cX12_apartWithout.data.toList.drop 5).take 1).map UInt8.toNat = [42] by decide +kernel)
theorem dX12_apartWithout_6 : decode cX12_apartWithout 6 = .ok (.invokevirtual 312, 3) := dc_182 (show ((cX12_apartWithout.data.toList.drop 6).take 3).map UInt8.toNat = [182, 1, 56] by decide +kernel) rfl
theorem dX12_apartWithout_9 : decode cX12_apartWithout 9 = .ok (.if_icmp .ge 180, 3) := dc_162 (show ((cX12_apartWithout.data.toList.drop 9).take 3).map UInt8.toNat = [162, 0, 180] by decide +kernel) rfl
theorem dX12_apartWithout_189 : decode cX12_apartWithout 189 = .ok (.iload_n 2, 1) := dc_28 (show ((cX12_apartWithout.data.toList.drop 189).take 1).map UInt8.toNat = [28] by decide +kernel)
theorem dX12_apartWithout_190 : decode cX12_apartWithout 190 = .ok (.ireturn, 1) := dc_172 (show ((cX12_apartWithout.data.toList.drop 190).take 1).map UInt8.toNat = [172] by decide +kernel)
theorem dX12_apartWithout_12 : decode cX12_apartWithout 12 = .ok (.aload_n 0, 1) := dc_42 (show ((cX12_apartWithout.data.toList.drop 12).take 1).map UInt8.toNat = [42] by decide +kernel)
theorem dX12_apartWithout_13 : decode cX12_apartWithout 13 = .ok (.iload_n 3, 1) := dc_29 (show ((cX12_apartWithout.data.toList.drop 13).take 1).map UInt8.toNat = [29] by decide +kernel)
theorem dX12_apartWithout_14 : decode cX12_apartWithout 14 = .ok (.invokevirtual 300, 3) := dc_182 (show ((cX12_apartWithout.data.toList.drop 14).take 3).map UInt8.toNat = [182, 1, 44] by decide +kernel) rfl
theorem dX12_apartWithout_17 : decode cX12_apartWithout 17 = .ok (.iconst (-1), 1) := dc_2 (show ((cX12_apartWithout.data.toList.drop 17).take 1).map UInt8.toNat = [2] by decide +kernel)
theorem dX12_apartWithout_18 : decode cX12_apartWithout 18 = .ok (.istore 4, 2) := dc_54 (show ((cX12_apartWithout.data.toList.drop 18).take 2).map UInt8.toNat = [54, 4] by decide +kernel) rfl
theorem dX12_apartWithout_20 : decode cX12_apartWithout 20 = .ok (.iconst 0, 1) := dc_3 (show ((cX12_apartWithout.data.toList.drop 20).take 1).map UInt8.toNat = [3] by decide +kernel)
theorem dX12_apartWithout_21 : decode cX12_apartWithout 21 = .ok (.istore 5, 2) := dc_54 (show ((cX12_apartWithout.data.toList.drop 21).take 2).map UInt8.toNat = [54, 5] by decide +kernel) rfl
theorem dX12_apartWithout_23 : decode cX12_apartWithout 23 = .ok (.iconst 0, 1) := dc_3 (show ((cX12_apartWithout.data.toList.drop 23).take 1).map UInt8.toNat = [3] by decide +kernel)
theorem dX12_apartWithout_24 : decode cX12_apartWithout 24 = .ok (.istore 6, 2) := dc_54 (show ((cX12_apartWithout.data.toList.drop 24).take 2).map UInt8.toNat = [54, 6] by decide +kernel) rfl
theorem dX12_apartWithout_26 : decode cX12_apartWithout 26 = .ok (.iload 6, 2) := dc_21 (show ((cX12_apartWithout.data.toList.drop 26).take 2).map UInt8.toNat = [21, 6] by decide +kernel) rfl
theorem dX12_apartWithout_28 : decode cX12_apartWithout 28 = .ok (.aload_n 0, 1) := dc_42 (show ((cX12_apartWithout.data.toList.drop 28).take 1).map UInt8.toNat = [42] by decide +kernel)
theorem dX12_apartWithout_29 : decode cX12_apartWithout 29 = .ok (.invokevirtual 199, 3) := dc_182 (show ((cX12_apartWithout.data.toList.drop 29).take 3).map UInt8.toNat = [182, 0, 199] by decide +kernel) rfl
theorem dX12_apartWithout_32 : decode cX12_apartWithout 32 = .ok (.if_icmp .ge 71, 3) := dc_162 (show ((cX12_apartWithout.data.toList.drop 32).take 3).map UInt8.toNat = [162, 0, 71] by decide +kernel) rfl
theorem dX12_apartWithout_103 : decode cX12_apartWithout 103 = .ok (.iload_n 3, 1) := dc_29 (show ((cX12_apartWithout.data.toList.drop 103).take 1).map UInt8.toNat = [29] by decide +kernel)
theorem dX12_apartWithout_104 : decode cX12_apartWithout 104 = .ok (.istore 6, 2) := dc_54 (show ((cX12_apartWithout.data.toList.drop 104).take 2).map UInt8.toNat = [54, 6] by decide +kernel) rfl
theorem dX12_apartWithout_106 : decode cX12_apartWithout 106 = .ok (.iconst 1, 1) := dc_4 (show ((cX12_apartWithout.data.toList.drop 106).take 1).map UInt8.toNat = [4] by decide +kernel)
theorem dX12_apartWithout_107 : decode cX12_apartWithout 107 = .ok (.istore 7, 2) := dc_54 (show ((cX12_apartWithout.data.toList.drop 107).take 2).map UInt8.toNat = [54, 7] by decide +kernel) rfl
theorem dX12_apartWithout_109 : decode cX12_apartWithout 109 = .ok (.iconst 0, 1) := dc_3 (show ((cX12_apartWithout.data.toList.drop 109).take 1).map UInt8.toNat = [3] by decide +kernel)
theorem dX12_apartWithout_110 : decode cX12_apartWithout 110 = .ok (.istore 8, 2) := dc_54 (show ((cX12_apartWithout.data.toList.drop 110).take 2).map UInt8.toNat = [54, 8] by decide +kernel) rfl
theorem dX12_apartWithout_112 : decode cX12_apartWithout 112 = .ok (.iload 8, 2) := dc_21 (show ((cX12_apartWithout.data.toList.drop 112).take 2).map UInt8.toNat = [21, 8] by decide +kernel) rfl
theorem dX12_apartWithout_114 : decode cX12_apartWithout 114 = .ok (.aload_n 0, 1) := dc_42 (show ((cX12_apartWithout.data.toList.drop 114).take 1).map UInt8.toNat = [42] by decide +kernel)
theorem dX12_apartWithout_115 : decode cX12_apartWithout 115 = .ok (.invokevirtual 202, 3) := dc_182 (show ((cX12_apartWithout.data.toList.drop 115).take 3).map UInt8.toNat = [182, 0, 202] by decide +kernel) rfl
theorem dX12_apartWithout_118 : decode cX12_apartWithout 118 = .ok (.if_icmp .ge 41, 3) := dc_162 (show ((cX12_apartWithout.data.toList.drop 118).take 3).map UInt8.toNat = [162, 0, 41] by decide +kernel) rfl
theorem dX12_apartWithout_159 : decode cX12_apartWithout 159 = .ok (.iload 7, 2) := dc_21 (show ((cX12_apartWithout.data.toList.drop 159).take 2).map UInt8.toNat = [21, 7] by decide +kernel) rfl
theorem dX12_apartWithout_161 : decode cX12_apartWithout 161 = .ok (.ifCond .eq 22, 3) := dc_153 (show ((cX12_apartWithout.data.toList.drop 161).take 3).map UInt8.toNat = [153, 0, 22] by decide +kernel) rfl
theorem dX12_apartWithout_183 : decode cX12_apartWithout 183 = .ok (.iinc 3 1, 3) := dc_132 (show ((cX12_apartWithout.data.toList.drop 183).take 3).map UInt8.toNat = [132, 3, 1] by decide +kernel) rfl
theorem dX12_apartWithout_186 : decode cX12_apartWithout 186 = .ok (.goto (-182), 3) := dc_167 (show ((cX12_apartWithout.data.toList.drop 186).take 3).map UInt8.toNat = [167, 255, 74] by decide +kernel) rfl
theorem dX12_apartWithout_164 : decode cX12_apartWithout 164 = .ok (.iload_n 2, 1) := dc_28 (show ((cX12_apartWithout.data.toList.drop 164).take 1).map UInt8.toNat = [28] by decide +kernel)
theorem dX12_apartWithout_165 : decode cX12_apartWithout 165 = .ok (.ifCond .lt 12, 3) := dc_155 (show ((cX12_apartWithout.data.toList.drop 165).take 3).map UInt8.toNat = [155, 0, 12] by decide +kernel) rfl
theorem dX12_apartWithout_177 : decode cX12_apartWithout 177 = .ok (.iload 5, 2) := dc_21 (show ((cX12_apartWithout.data.toList.drop 177).take 2).map UInt8.toNat = [21, 5] by decide +kernel) rfl
theorem dX12_apartWithout_179 : decode cX12_apartWithout 179 = .ok (.iload 4, 2) := dc_21 (show ((cX12_apartWithout.data.toList.drop 179).take 2).map UInt8.toNat = [21, 4] by decide +kernel) rfl
theorem dX12_apartWithout_181 : decode cX12_apartWithout 181 = .ok (.isub, 1) := dc_100 (show ((cX12_apartWithout.data.toList.drop 181).take 1).map UInt8.toNat = [100] by decide +kernel)
theorem dX12_apartWithout_182 : decode cX12_apartWithout 182 = .ok (.istore_n 2, 1) := dc_61 (show ((cX12_apartWithout.data.toList.drop 182).take 1).map UInt8.toNat = [61] by decide +kernel)
theorem dX12_apartWithout_168 : decode cX12_apartWithout 168 = .ok (.iload 5, 2) := dc_21 (show ((cX12_apartWithout.data.toList.drop 168).take 2).map UInt8.toNat = [21, 5] by decide +kernel) rfl
theorem dX12_apartWithout_170 : decode cX12_apartWithout 170 = .ok (.iload 4, 2) := dc_21 (show ((cX12_apartWithout.data.toList.drop 170).take 2).map UInt8.toNat = [21, 4] by decide +kernel) rfl
theorem dX12_apartWithout_172 : decode cX12_apartWithout 172 = .ok (.isub, 1) := dc_100 (show ((cX12_apartWithout.data.toList.drop 172).take 1).map UInt8.toNat = [100] by decide +kernel)
theorem dX12_apartWithout_173 : decode cX12_apartWithout 173 = .ok (.iload_n 2, 1) := dc_28 (show ((cX12_apartWithout.data.toList.drop 173).take 1).map UInt8.toNat = [28] by decide +kernel)
theorem dX12_apartWithout_174 : decode cX12_apartWithout 174 = .ok (.if_icmp .ge 9, 3) := dc_162 (show ((cX12_apartWithout.data.toList.drop 174).take 3).map UInt8.toNat = [162, 0, 9] by decide +kernel) rfl
theorem dX12_apartWithout_121 : decode cX12_apartWithout 121 = .ok (.iload 7, 2) := dc_21 (show ((cX12_apartWithout.data.toList.drop 121).take 2).map UInt8.toNat = [21, 7] by decide +kernel) rfl
theorem dX12_apartWithout_123 : decode cX12_apartWithout 123 = .ok (.ifCond .eq 18, 3) := dc_153 (show ((cX12_apartWithout.data.toList.drop 123).take 3).map UInt8.toNat = [153, 0, 18] by decide +kernel) rfl
theorem dX12_apartWithout_141 : decode cX12_apartWithout 141 = .ok (.iconst 0, 1) := dc_3 (show ((cX12_apartWithout.data.toList.drop 141).take 1).map UInt8.toNat = [3] by decide +kernel)
theorem dX12_apartWithout_142 : decode cX12_apartWithout 142 = .ok (.istore 7, 2) := dc_54 (show ((cX12_apartWithout.data.toList.drop 142).take 2).map UInt8.toNat = [54, 7] by decide +kernel) rfl
theorem dX12_apartWithout_144 : decode cX12_apartWithout 144 = .ok (.iload 6, 2) := dc_21 (show ((cX12_apartWithout.data.toList.drop 144).take 2).map UInt8.toNat = [21, 6] by decide +kernel) rfl
theorem dX12_apartWithout_146 : decode cX12_apartWithout 146 = .ok (.aload_n 0, 1) := dc_42 (show ((cX12_apartWithout.data.toList.drop 146).take 1).map UInt8.toNat = [42] by decide +kernel)
theorem dX12_apartWithout_147 : decode cX12_apartWithout 147 = .ok (.invokevirtual 199, 3) := dc_182 (show ((cX12_apartWithout.data.toList.drop 147).take 3).map UInt8.toNat = [182, 0, 199] by decide +kernel) rfl
theorem dX12_apartWithout_150 : decode cX12_apartWithout 150 = .ok (.idiv, 1) := dc_108 (show ((cX12_apartWithout.data.toList.drop 150).take 1).map UInt8.toNat = [108] by decide +kernel)
theorem dX12_apartWithout_151 : decode cX12_apartWithout 151 = .ok (.istore 6, 2) := dc_54 (show ((cX12_apartWithout.data.toList.drop 151).take 2).map UInt8.toNat = [54, 6] by decide +kernel) rfl
theorem dX12_apartWithout_153 : decode cX12_apartWithout 153 = .ok (.iinc 8 1, 3) := dc_132 (show ((cX12_apartWithout.data.toList.drop 153).take 3).map UInt8.toNat = [132, 8, 1] by decide +kernel) rfl
theorem dX12_apartWithout_156 : decode cX12_apartWithout 156 = .ok (.goto (-44), 3) := dc_167 (show ((cX12_apartWithout.data.toList.drop 156).take 3).map UInt8.toNat = [167, 255, 212] by decide +kernel) rfl
theorem dX12_apartWithout_126 : decode cX12_apartWithout 126 = .ok (.iload 6, 2) := dc_21 (show ((cX12_apartWithout.data.toList.drop 126).take 2).map UInt8.toNat = [21, 6] by decide +kernel) rfl
theorem dX12_apartWithout_128 : decode cX12_apartWithout 128 = .ok (.aload_n 0, 1) := dc_42 (show ((cX12_apartWithout.data.toList.drop 128).take 1).map UInt8.toNat = [42] by decide +kernel)
theorem dX12_apartWithout_129 : decode cX12_apartWithout 129 = .ok (.invokevirtual 199, 3) := dc_182 (show ((cX12_apartWithout.data.toList.drop 129).take 3).map UInt8.toNat = [182, 0, 199] by decide +kernel) rfl
theorem dX12_apartWithout_132 : decode cX12_apartWithout 132 = .ok (.irem, 1) := dc_112 (show ((cX12_apartWithout.data.toList.drop 132).take 1).map UInt8.toNat = [112] by decide +kernel)
theorem dX12_apartWithout_133 : decode cX12_apartWithout 133 = .ok (.iload_n 1, 1) := dc_27 (show ((cX12_apartWithout.data.toList.drop 133).take 1).map UInt8.toNat = [27] by decide +kernel)
theorem dX12_apartWithout_134 : decode cX12_apartWithout 134 = .ok (.if_icmp .eq 7, 3) := dc_159 (show ((cX12_apartWithout.data.toList.drop 134).take 3).map UInt8.toNat = [159, 0, 7] by decide +kernel) rfl
theorem dX12_apartWithout_137 : decode cX12_apartWithout 137 = .ok (.iconst 1, 1) := dc_4 (show ((cX12_apartWithout.data.toList.drop 137).take 1).map UInt8.toNat = [4] by decide +kernel)
theorem dX12_apartWithout_138 : decode cX12_apartWithout 138 = .ok (.goto 4, 3) := dc_167 (show ((cX12_apartWithout.data.toList.drop 138).take 3).map UInt8.toNat = [167, 0, 4] by decide +kernel) rfl
theorem dX12_apartWithout_35 : decode cX12_apartWithout 35 = .ok (.iload 6, 2) := dc_21 (show ((cX12_apartWithout.data.toList.drop 35).take 2).map UInt8.toNat = [21, 6] by decide +kernel) rfl
theorem dX12_apartWithout_37 : decode cX12_apartWithout 37 = .ok (.iload_n 1, 1) := dc_27 (show ((cX12_apartWithout.data.toList.drop 37).take 1).map UInt8.toNat = [27] by decide +kernel)
theorem dX12_apartWithout_38 : decode cX12_apartWithout 38 = .ok (.if_icmp .ne 6, 3) := dc_160 (show ((cX12_apartWithout.data.toList.drop 38).take 3).map UInt8.toNat = [160, 0, 6] by decide +kernel) rfl
theorem dX12_apartWithout_44 : decode cX12_apartWithout 44 = .ok (.iload 4, 2) := dc_21 (show ((cX12_apartWithout.data.toList.drop 44).take 2).map UInt8.toNat = [21, 4] by decide +kernel) rfl
theorem dX12_apartWithout_46 : decode cX12_apartWithout 46 = .ok (.ifCond .lt 14, 3) := dc_155 (show ((cX12_apartWithout.data.toList.drop 46).take 3).map UInt8.toNat = [155, 0, 14] by decide +kernel) rfl
theorem dX12_apartWithout_60 : decode cX12_apartWithout 60 = .ok (.aload_n 0, 1) := dc_42 (show ((cX12_apartWithout.data.toList.drop 60).take 1).map UInt8.toNat = [42] by decide +kernel)
theorem dX12_apartWithout_61 : decode cX12_apartWithout 61 = .ok (.iload 6, 2) := dc_21 (show ((cX12_apartWithout.data.toList.drop 61).take 2).map UInt8.toNat = [21, 6] by decide +kernel) rfl
theorem dX12_apartWithout_63 : decode cX12_apartWithout 63 = .ok (.invokevirtual 303, 3) := dc_182 (show ((cX12_apartWithout.data.toList.drop 63).take 3).map UInt8.toNat = [182, 1, 47] by decide +kernel) rfl
theorem dX12_apartWithout_66 : decode cX12_apartWithout 66 = .ok (.goto 5, 3) := dc_167 (show ((cX12_apartWithout.data.toList.drop 66).take 3).map UInt8.toNat = [167, 0, 5] by decide +kernel) rfl
theorem dX12_apartWithout_71 : decode cX12_apartWithout 71 = .ok (.istore 4, 2) := dc_54 (show ((cX12_apartWithout.data.toList.drop 71).take 2).map UInt8.toNat = [54, 4] by decide +kernel) rfl
theorem dX12_apartWithout_73 : decode cX12_apartWithout 73 = .ok (.aload_n 0, 1) := dc_42 (show ((cX12_apartWithout.data.toList.drop 73).take 1).map UInt8.toNat = [42] by decide +kernel)
theorem dX12_apartWithout_74 : decode cX12_apartWithout 74 = .ok (.iload 6, 2) := dc_21 (show ((cX12_apartWithout.data.toList.drop 74).take 2).map UInt8.toNat = [21, 6] by decide +kernel) rfl
theorem dX12_apartWithout_76 : decode cX12_apartWithout 76 = .ok (.invokevirtual 303, 3) := dc_182 (show ((cX12_apartWithout.data.toList.drop 76).take 3).map UInt8.toNat = [182, 1, 47] by decide +kernel) rfl
theorem dX12_apartWithout_79 : decode cX12_apartWithout 79 = .ok (.iload 5, 2) := dc_21 (show ((cX12_apartWithout.data.toList.drop 79).take 2).map UInt8.toNat = [21, 5] by decide +kernel) rfl
theorem dX12_apartWithout_81 : decode cX12_apartWithout 81 = .ok (.if_icmp .le 12, 3) := dc_164 (show ((cX12_apartWithout.data.toList.drop 81).take 3).map UInt8.toNat = [164, 0, 12] by decide +kernel) rfl
theorem dX12_apartWithout_93 : decode cX12_apartWithout 93 = .ok (.iload 5, 2) := dc_21 (show ((cX12_apartWithout.data.toList.drop 93).take 2).map UInt8.toNat = [21, 5] by decide +kernel) rfl
theorem dX12_apartWithout_95 : decode cX12_apartWithout 95 = .ok (.istore 5, 2) := dc_54 (show ((cX12_apartWithout.data.toList.drop 95).take 2).map UInt8.toNat = [54, 5] by decide +kernel) rfl
theorem dX12_apartWithout_97 : decode cX12_apartWithout 97 = .ok (.iinc 6 1, 3) := dc_132 (show ((cX12_apartWithout.data.toList.drop 97).take 3).map UInt8.toNat = [132, 6, 1] by decide +kernel) rfl
theorem dX12_apartWithout_100 : decode cX12_apartWithout 100 = .ok (.goto (-74), 3) := dc_167 (show ((cX12_apartWithout.data.toList.drop 100).take 3).map UInt8.toNat = [167, 255, 182] by decide +kernel) rfl
theorem dX12_apartWithout_84 : decode cX12_apartWithout 84 = .ok (.aload_n 0, 1) := dc_42 (show ((cX12_apartWithout.data.toList.drop 84).take 1).map UInt8.toNat = [42] by decide +kernel)
theorem dX12_apartWithout_85 : decode cX12_apartWithout 85 = .ok (.iload 6, 2) := dc_21 (show ((cX12_apartWithout.data.toList.drop 85).take 2).map UInt8.toNat = [21, 6] by decide +kernel) rfl
theorem dX12_apartWithout_87 : decode cX12_apartWithout 87 = .ok (.invokevirtual 303, 3) := dc_182 (show ((cX12_apartWithout.data.toList.drop 87).take 3).map UInt8.toNat = [182, 1, 47] by decide +kernel) rfl
theorem dX12_apartWithout_90 : decode cX12_apartWithout 90 = .ok (.goto 5, 3) := dc_167 (show ((cX12_apartWithout.data.toList.drop 90).take 3).map UInt8.toNat = [167, 0, 5] by decide +kernel) rfl
theorem dX12_apartWithout_49 : decode cX12_apartWithout 49 = .ok (.aload_n 0, 1) := dc_42 (show ((cX12_apartWithout.data.toList.drop 49).take 1).map UInt8.toNat = [42] by decide +kernel)
theorem dX12_apartWithout_50 : decode cX12_apartWithout 50 = .ok (.iload 6, 2) := dc_21 (show ((cX12_apartWithout.data.toList.drop 50).take 2).map UInt8.toNat = [21, 6] by decide +kernel) rfl
theorem dX12_apartWithout_52 : decode cX12_apartWithout 52 = .ok (.invokevirtual 303, 3) := dc_182 (show ((cX12_apartWithout.data.toList.drop 52).take 3).map UInt8.toNat = [182, 1, 47] by decide +kernel) rfl
theorem dX12_apartWithout_55 : decode cX12_apartWithout 55 = .ok (.iload 4, 2) := dc_21 (show ((cX12_apartWithout.data.toList.drop 55).take 2).map UInt8.toNat = [21, 4] by decide +kernel) rfl
theorem dX12_apartWithout_57 : decode cX12_apartWithout 57 = .ok (.if_icmp .ge 12, 3) := dc_162 (show ((cX12_apartWithout.data.toList.drop 57).take 3).map UInt8.toNat = [162, 0, 12] by decide +kernel) rfl
theorem dX12_apartWithout_69 : decode cX12_apartWithout 69 = .ok (.iload 4, 2) := dc_21 (show ((cX12_apartWithout.data.toList.drop 69).take 2).map UInt8.toNat = [21, 4] by decide +kernel) rfl
theorem dX12_apartWithout_41 : decode cX12_apartWithout 41 = .ok (.goto 56, 3) := dc_167 (show ((cX12_apartWithout.data.toList.drop 41).take 3).map UInt8.toNat = [167, 0, 56] by decide +kernel) rfl
def ms_apartWithout_112 (n : Nat) (k4 : gb_F → Int64 → Int32 → Int32 → Int32 → gb_MR Int32) : Nat → gb_F → Int64 → Int32 → Int32 → Int32 → Int32 → Int32 → Int32 → Int32 → Int32 → gb_MR Int32
  | 0, _, _, _, _, _, _, _, _, _, _ => none
  | mm + 1, f, w, v1, v2, v3, v4, v5, v6, v7, v8 => gb_bd (ms_geese n f w) (fun f_18 wl_19 r_20 => (if r_20 ≤ v8 then (if v7 = 0 then gb_lt (v3 + 1) (fun x_25 => k4 f_18 wl_19 v1 v2 x_25) else (if v2 < 0 then gb_lt (v5 - v4) (fun x_27 => gb_lt (v3 + 1) (fun x_28 => k4 f_18 wl_19 v1 x_27 x_28)) else (if v2 ≤ (v5 - v4) then gb_lt (v3 + 1) (fun x_30 => k4 f_18 wl_19 v1 v2 x_30) else gb_lt (v5 - v4) (fun x_31 => gb_lt (v3 + 1) (fun x_32 => k4 f_18 wl_19 v1 x_31 x_32))))) else (if v7 = 0 then gb_bd (ms_paths n f_18 wl_19) (fun f_34 wl_35 r_36 => gb_nz r_36 (gb_lt (v6 / r_36) (fun x_40 => gb_lt (v8 + 1) (fun x_41 => ms_apartWithout_112 n k4 mm f_34 wl_35 v1 v2 v3 v4 v5 x_40 0 x_41)))) else gb_bd (ms_paths n f_18 wl_19) (fun f_42 wl_43 r_44 => gb_nz r_44 (gb_lt (v6 - v6 / r_44 * r_44) (fun x_48 => (if x_48 = v1 then gb_bd (ms_paths n f_42 wl_43) (fun f_50 wl_51 r_52 => gb_nz r_52 (gb_lt (v6 / r_52) (fun x_56 => gb_lt (v8 + 1) (fun x_57 => ms_apartWithout_112 n k4 mm f_50 wl_51 v1 v2 v3 v4 v5 x_56 0 x_57)))) else gb_bd (ms_paths n f_42 wl_43) (fun f_58 wl_59 r_60 => gb_nz r_60 (gb_lt (v6 / r_60) (fun x_64 => gb_lt (v8 + 1) (fun x_65 => ms_apartWithout_112 n k4 mm f_58 wl_59 v1 v2 v3 v4 v5 x_64 1 x_65)))))))))))
def ms_apartWithout_71 (n : Nat) (k4 : gb_F → Int64 → Int32 → Int32 → Int32 → gb_MR Int32) (k26 : gb_F → Int64 → Int32 → Int32 → Int32 → Int32 → Int32 → Int32 → gb_MR Int32) (f : gb_F) (w : Int64) (v1 : Int32) (v2 : Int32) (v3 : Int32) (v5 : Int32) (v6 : Int32) (t0 : Int32) : gb_MR Int32 := gb_bd (ms_payOf n f w v6) (fun f_73 wl_74 r_75 => (if r_75 ≤ v5 then gb_lt (v6 + 1) (fun x_79 => k26 f_73 wl_74 v1 v2 v3 t0 v5 x_79) else gb_bd (ms_payOf n f_73 wl_74 v6) (fun f_80 wl_81 r_82 => gb_lt (v6 + 1) (fun x_85 => k26 f_80 wl_81 v1 v2 v3 t0 r_82 x_85))))
def ms_apartWithout_60 (n : Nat) (k4 : gb_F → Int64 → Int32 → Int32 → Int32 → gb_MR Int32) (k26 : gb_F → Int64 → Int32 → Int32 → Int32 → Int32 → Int32 → Int32 → gb_MR Int32) (f : gb_F) (w : Int64) (v1 : Int32) (v2 : Int32) (v3 : Int32) (v5 : Int32) (v6 : Int32) : gb_MR Int32 := gb_bd (ms_payOf n f w v6) (fun f_68 wl_69 r_70 => ms_apartWithout_71 n k4 k26 f_68 wl_69 v1 v2 v3 v5 v6 r_70)
def ms_apartWithout_26 (n : Nat) (k4 : gb_F → Int64 → Int32 → Int32 → Int32 → gb_MR Int32) : Nat → gb_F → Int64 → Int32 → Int32 → Int32 → Int32 → Int32 → Int32 → gb_MR Int32
  | 0, _, _, _, _, _, _, _, _ => none
  | mm + 1, f, w, v1, v2, v3, v4, v5, v6 => gb_bd (ms_paths n f w) (fun f_12 wl_13 r_14 => (if r_14 ≤ v6 then ms_apartWithout_112 n k4 n f_12 wl_13 v1 v2 v3 v4 v5 v3 1 0 else (if v6 = v1 then gb_lt (v6 + 1) (fun x_92 => ms_apartWithout_26 n k4 mm f_12 wl_13 v1 v2 v3 v4 v5 x_92) else (if v4 < 0 then ms_apartWithout_60 n k4 (fun f w v1 v2 v3 v4 v5 v6 => ms_apartWithout_26 n k4 mm f w v1 v2 v3 v4 v5 v6) f_12 wl_13 v1 v2 v3 v5 v6 else gb_bd (ms_payOf n f_12 wl_13 v6) (fun f_86 wl_87 r_88 => (if v4 ≤ r_88 then ms_apartWithout_71 n k4 (fun f w v1 v2 v3 v4 v5 v6 => ms_apartWithout_26 n k4 mm f w v1 v2 v3 v4 v5 v6) f_86 wl_87 v1 v2 v3 v5 v6 v4 else ms_apartWithout_60 n k4 (fun f w v1 v2 v3 v4 v5 v6 => ms_apartWithout_26 n k4 mm f w v1 v2 v3 v4 v5 v6) f_86 wl_87 v1 v2 v3 v5 v6))))))
def ms_apartWithout_4 (n : Nat) : Nat → gb_F → Int64 → Int32 → Int32 → Int32 → gb_MR Int32
  | 0, _, _, _, _, _ => none
  | mm + 1, f, w, v1, v2, v3 => gb_bd (ms_codes n f w) (fun f_1 wl_2 r_3 => (if r_3 ≤ v3 then some (f_1, wl_2, v2) else gb_bd (ms_sums n f_1 wl_2 v3) (fun f_7 wl_8 _ => ms_apartWithout_26 n (fun f w v1 v2 v3 => ms_apartWithout_4 n mm f w v1 v2 v3) n f_7 wl_8 v1 v2 v3 (-1) 0 0)))
def ms_apartWithout (n : Nat) (f : gb_F) (w : Int64) (p1 : Int32) : gb_MR Int32 := ms_apartWithout_4 n n f w p1 (-1) 0
set_option maxHeartbeats 8000000 in
set_option maxRecDepth 100000 in
theorem mc_apartWithout (l : Launch) (D : va_G) (cT : Nat → ClassId) (tt : Nat → Nat) (b1 b : Nat) (hb1 : b1 ≤ b) (n : Nat) (f : gb_F) (w : Int64) (p1 : Int32) (fE : gb_F) (wE : Int64) (rE : Int32) (h : ms_apartWithout n f w p1 = some (fE, wE, rE)) : Met l yX12_apartWithout (.code yX12_apartWithout cX12_apartWithout 9 (some FieldType.int) :: gb_wA) ({ frames := 4, cells := 0, slots := 0, locals := 86 }) (gb_Pc D cT tt b1 [.ref (b + 0), .int p1] (fun h => va_P D vwCl (gb_wl b (gb_MW cT b f w)) h)) (gb_Qi (fun r h => r = rE ∧ va_P D vwCl (gb_wl b (gb_MW cT b fE wE)) h) (gb_fr b 22)) 0 0 (gb_fr b 22) := by
  refine Met.ofW (cc := cX12_apartWithout) (maxL := 9) (ret := (some FieldType.int)) (by decide) rfl ?_
  intro p e s m args below meth c s₁ B hml hv
  obtain ⟨rfl, hSt, hP⟩ := hv
  have hx := B.exec
  have hb := B.bytes
  have hr := B.returns
  have hts := atoms_spec (ws := .code yX12_apartWithout cX12_apartWithout 9 (some FieldType.int) :: gb_wA) B.pre
  have hq : ∀ w ∈ gb_wA, w.before _ s = true := fun w h => hts w (List.mem_cons_of_mem _ h)
  have hown : s.vm.findClass RX12 = some m.cls := findClass_of_methodNamed B.named
  have hlocks := B.notSynchronized
  clear B hts
  have hK := hSt.1
  have hS : va_S (gb_fr b 22) s.heap s.heap [] := va_S.rf
  have hl := lv_entry ([.ref (b + 0), .int p1]) (n := 9) (Nat.le_of_ble_eq_true rfl)
  rw [lg_entry_eq]
  generalize (lg_sl ([.ref (b + 0), .int p1]) ++ List.replicate (9 - (lg_sl ([.ref (b + 0), .int p1])).length) Slot.unset).toArray = ls at hl ⊢
  replace hl : lv_has ls 9 [(0, .ref (b + 0)), (1, .int p1)] := hl
  have L112 : ∀ (k4 : gb_F → Int64 → Int32 → Int32 → Int32 → gb_MR Int32) (hk4 : ∀ (f : gb_F) (w : Int64) (v1 : Int32) (v2 : Int32) (v3 : Int32) (H : Heap) (locs : List Loc) (ls : Array Slot), k4 f w v1 v2 v3 = some (fE, wE, rE) → va_P D vwCl (gb_wl b (gb_MW cT b f w)) H → va_S (gb_fr b 22) s.heap H locs → lv_has ls 9 [(0, .ref (b + 0)), (1, .int v1), (2, .int v2), (3, .int v3)] → W p l e (headSpec (.code yX12_apartWithout cX12_apartWithout 9 (some FieldType.int) :: gb_wA) ({ frames := 4, cells := 0, slots := 0, locals := 86 })).room s m ([.ref (b + 0), .int p1]).toArray below meth c H locs 0 0 (MQ below (gb_Qi (fun r h => r = rE ∧ va_P D vwCl (gb_wl b (gb_MW cT b fE wE)) h) (gb_fr b 22)) ([.ref (b + 0), .int p1]).toArray s 0 0 (gb_fr b 22)) (F0 m 4 ls [])) (mm : Nat) (f : gb_F) (w : Int64) (v1 : Int32) (v2 : Int32) (v3 : Int32) (v4 : Int32) (v5 : Int32) (v6 : Int32) (v7 : Int32) (v8 : Int32) (H : Heap) (locs : List Loc) (ls : Array Slot), ms_apartWithout_112 n k4 mm f w v1 v2 v3 v4 v5 v6 v7 v8 = some (fE, wE, rE) → va_P D vwCl (gb_wl b (gb_MW cT b f w)) H → va_S (gb_fr b 22) s.heap H locs → lv_has ls 9 [(0, .ref (b + 0)), (1, .int v1), (2, .int v2), (3, .int v3), (4, .int v4), (5, .int v5), (6, .int v6), (7, .int v7), (8, .int v8)] → W p l e (headSpec (.code yX12_apartWithout cX12_apartWithout 9 (some FieldType.int) :: gb_wA) ({ frames := 4, cells := 0, slots := 0, locals := 86 })).room s m ([.ref (b + 0), .int p1]).toArray below meth c H locs 0 0 (MQ below (gb_Qi (fun r h => r = rE ∧ va_P D vwCl (gb_wl b (gb_MW cT b fE wE)) h) (gb_fr b 22)) ([.ref (b + 0), .int p1]).toArray s 0 0 (gb_fr b 22)) (F0 m 112 ls []) := by
    clear h hP hS hl ls f w
    intro k4 hk4 mm
    induction mm with
    | zero =>
      intro f w v1 v2 v3 v4 v5 v6 v7 v8 H locs ls h
      cases h
    | succ mm ih =>
      intro f w v1 v2 v3 v4 v5 v6 v7 v8 H locs ls h hP hS hl
      rw [ms_apartWithout_112] at h
      refine lv_iload hx hb dX12_apartWithout_112 (lv_at hl 8 rfl) ?_
      refine lv_aload_n hx hb dX12_apartWithout_114 rfl (lv_at hl 0 rfl) ?_
      obtain ⟨f_18, wl_19, r_20, z_21, h⟩ := gb_bd_s h
      refine gb_calli (va_runV (C := RX12) (As := []) (rest := [.int v8]) ⟨hx, hb, hml, hown, hq⟩ (mc_geese l D cT tt b1 b hb1 n f w f_18 wl_19 r_20 z_21) (cwV 0 hq (gb_gV w_1396 w_1398 s_4_7 w_14 w_1399) rfl rfl rfl (by decide +kernel) ⟨Nat.le_of_ble_eq_true rfl, Nat.le_of_ble_eq_true rfl⟩) (gb_preV (r := (RX12, TX12, 44)) (ci := 10) (q0 := 0) hSt hP rfl (gb_at b rfl) hS (fun q h => Nat.le_trans hb1 h.1) hP) rfl rfl hl.1 rfl (lv_room (Nat.le_of_ble_eq_true rfl)) dX12_apartWithout_115 ⟨Nat.le_of_ble_eq_true rfl, Nat.le_of_ble_eq_true rfl⟩) hS (fun _ h => h) (fun _ h => h) (fun q_22 H locs hY hk hS => ?_)
      obtain ⟨hq_22, hP⟩ := hY
      replace hq_22 := hq_22.symm
      subst hq_22
      refine lv_icmp_ge (tgt := 159) hx hb dX12_apartWithout_118 (by decide) (fun c_23 => ?_) (fun c_23 => ?_)
      · rw [if_pos c_23] at h
        refine lv_iload hx hb dX12_apartWithout_159 (lv_at hl 7 rfl) ?_
        refine lv_if_eq (tgt := 183) hx hb dX12_apartWithout_161 (by decide) (fun c_24 => ?_) (fun c_24 => ?_)
        · rw [if_pos c_24] at h
          obtain ⟨x_25, ex_25⟩ : ∃ q, q = (v3 + 1) := ⟨_, rfl⟩
          replace h := gb_lt_s ex_25 h
          refine lv_iinc (v := x_25) (lv' := [(3, .int x_25), (0, .ref (b + 0)), (1, .int v1), (2, .int v2), (4, .int v4), (5, .int v5), (6, .int v6), (7, .int v7), (8, .int v8)]) hx hb dX12_apartWithout_183 hl (k := 3) rfl (by rw [ex_25]; rfl) (by decide) rfl (fun ls hl => ?_)
          refine lv_goto (tgt := 4) hx hb dX12_apartWithout_186 (by decide) ?_
          exact hk4 _ _ _ _ _ _ _ _ h hP hS (lv_sub hl [1, 2, 3, 0] rfl)
        · rw [if_neg c_24] at h
          refine lv_iload_n hx hb dX12_apartWithout_164 rfl (lv_at hl 2 rfl) ?_
          refine lv_if_lt (tgt := 177) hx hb dX12_apartWithout_165 (by decide) (fun c_26 => ?_) (fun c_26 => ?_)
          · rw [if_pos c_26] at h
            refine lv_iload hx hb dX12_apartWithout_177 (lv_at hl 5 rfl) ?_
            refine lv_iload hx hb dX12_apartWithout_179 (lv_at hl 4 rfl) ?_
            refine lv_isub hx hb dX12_apartWithout_181 ?_
            refine lv_topi (fun x_27 ex_27 => ?_)
            replace h := gb_lt_s ex_27 h
            refine lv_istore_n (lv' := [(2, .int x_27), (0, .ref (b + 0)), (1, .int v1), (3, .int v3), (4, .int v4), (5, .int v5), (6, .int v6), (7, .int v7), (8, .int v8)]) hx hb dX12_apartWithout_182 rfl hl (by decide) rfl (fun ls hl => ?_)
            obtain ⟨x_28, ex_28⟩ : ∃ q, q = (v3 + 1) := ⟨_, rfl⟩
            replace h := gb_lt_s ex_28 h
            refine lv_iinc (v := x_28) (lv' := [(3, .int x_28), (2, .int x_27), (0, .ref (b + 0)), (1, .int v1), (4, .int v4), (5, .int v5), (6, .int v6), (7, .int v7), (8, .int v8)]) hx hb dX12_apartWithout_183 hl (k := 3) rfl (by rw [ex_28]; rfl) (by decide) rfl (fun ls hl => ?_)
            refine lv_goto (tgt := 4) hx hb dX12_apartWithout_186 (by decide) ?_
            exact hk4 _ _ _ _ _ _ _ _ h hP hS (lv_sub hl [2, 3, 1, 0] rfl)
          · rw [if_neg c_26] at h
            refine lv_iload hx hb dX12_apartWithout_168 (lv_at hl 5 rfl) ?_
            refine lv_iload hx hb dX12_apartWithout_170 (lv_at hl 4 rfl) ?_
            refine lv_isub hx hb dX12_apartWithout_172 ?_
            refine lv_iload_n hx hb dX12_apartWithout_173 rfl (lv_at hl 2 rfl) ?_
            refine lv_icmp_ge (tgt := 183) hx hb dX12_apartWithout_174 (by decide) (fun c_29 => ?_) (fun c_29 => ?_)
            · rw [if_pos c_29] at h
              obtain ⟨x_30, ex_30⟩ : ∃ q, q = (v3 + 1) := ⟨_, rfl⟩
              replace h := gb_lt_s ex_30 h
              refine lv_iinc (v := x_30) (lv' := [(3, .int x_30), (0, .ref (b + 0)), (1, .int v1), (2, .int v2), (4, .int v4), (5, .int v5), (6, .int v6), (7, .int v7), (8, .int v8)]) hx hb dX12_apartWithout_183 hl (k := 3) rfl (by rw [ex_30]; rfl) (by decide) rfl (fun ls hl => ?_)
              refine lv_goto (tgt := 4) hx hb dX12_apartWithout_186 (by decide) ?_
              exact hk4 _ _ _ _ _ _ _ _ h hP hS (lv_sub hl [1, 2, 3, 0] rfl)
            · rw [if_neg c_29] at h
              refine lv_iload hx hb dX12_apartWithout_177 (lv_at hl 5 rfl) ?_
              refine lv_iload hx hb dX12_apartWithout_179 (lv_at hl 4 rfl) ?_
              refine lv_isub hx hb dX12_apartWithout_181 ?_
              refine lv_topi (fun x_31 ex_31 => ?_)
              replace h := gb_lt_s ex_31 h
              refine lv_istore_n (lv' := [(2, .int x_31), (0, .ref (b + 0)), (1, .int v1), (3, .int v3), (4, .int v4), (5, .int v5), (6, .int v6), (7, .int v7), (8, .int v8)]) hx hb dX12_apartWithout_182 rfl hl (by decide) rfl (fun ls hl => ?_)
              obtain ⟨x_32, ex_32⟩ : ∃ q, q = (v3 + 1) := ⟨_, rfl⟩
              replace h := gb_lt_s ex_32 h
              refine lv_iinc (v := x_32) (lv' := [(3, .int x_32), (2, .int x_31), (0, .ref (b + 0)), (1, .int v1), (4, .int v4), (5, .int v5), (6, .int v6), (7, .int v7), (8, .int v8)]) hx hb dX12_apartWithout_183 hl (k := 3) rfl (by rw [ex_32]; rfl) (by decide) rfl (fun ls hl => ?_)
              refine lv_goto (tgt := 4) hx hb dX12_apartWithout_186 (by decide) ?_
              exact hk4 _ _ _ _ _ _ _ _ h hP hS (lv_sub hl [2, 3, 1, 0] rfl)
      · rw [if_neg c_23] at h
        refine lv_iload hx hb dX12_apartWithout_121 (lv_at hl 7 rfl) ?_
        refine lv_if_eq (tgt := 141) hx hb dX12_apartWithout_123 (by decide) (fun c_33 => ?_) (fun c_33 => ?_)
        · rw [if_pos c_33] at h
          refine lv_iconst (v := 0) hx hb dX12_apartWithout_141 (by decide) ?_
          refine lv_istore (lv' := [(7, .int 0), (0, .ref (b + 0)), (1, .int v1), (2, .int v2), (3, .int v3), (4, .int v4), (5, .int v5), (6, .int v6), (8, .int v8)]) hx hb dX12_apartWithout_142 hl (by decide) rfl (fun ls hl => ?_)
          refine lv_iload hx hb dX12_apartWithout_144 (lv_at hl 7 rfl) ?_
          refine lv_aload_n hx hb dX12_apartWithout_146 rfl (lv_at hl 1 rfl) ?_
          obtain ⟨f_34, wl_35, r_36, z_37, h⟩ := gb_bd_s h
          refine gb_calli (va_runV (C := RX12) (As := []) (rest := [.int v6]) ⟨hx, hb, hml, hown, hq⟩ (mc_paths l D cT tt b1 b hb1 n f_18 wl_19 f_34 wl_35 r_36 z_37) (cwV 0 hq (gb_gV w_1384 w_1386 s_4_4 w_14 w_1387) rfl rfl rfl (by decide +kernel) ⟨Nat.le_of_ble_eq_true rfl, Nat.le_of_ble_eq_true rfl⟩) (gb_preV (r := (RX12, TX12, 44)) (ci := 10) (q0 := 0) hSt hP rfl (gb_at b rfl) hS (fun q h => Nat.le_trans hb1 h.1) hP) rfl rfl hl.1 rfl (lv_room (Nat.le_of_ble_eq_true rfl)) dX12_apartWithout_147 ⟨Nat.le_of_ble_eq_true rfl, Nat.le_of_ble_eq_true rfl⟩) hS (fun _ h => h) (fun _ h => h) (fun q_38 H locs hY hk hS => ?_)
          obtain ⟨hq_38, hP⟩ := hY
          replace hq_38 := hq_38.symm
          subst hq_38
          obtain ⟨z_39, h⟩ := gb_nz_s h
          refine lv_idiv hx hb dX12_apartWithout_150 z_39 ?_
          refine lv_topi (fun x_40 ex_40 => ?_)
          replace h := gb_lt_s ex_40 h
          refine lv_istore (lv' := [(6, .int x_40), (7, .int 0), (0, .ref (b + 0)), (1, .int v1), (2, .int v2), (3, .int v3), (4, .int v4), (5, .int v5), (8, .int v8)]) hx hb dX12_apartWithout_151 hl (by decide) rfl (fun ls hl => ?_)
          obtain ⟨x_41, ex_41⟩ : ∃ q, q = (v8 + 1) := ⟨_, rfl⟩
          replace h := gb_lt_s ex_41 h
          refine lv_iinc (v := x_41) (lv' := [(8, .int x_41), (6, .int x_40), (7, .int 0), (0, .ref (b + 0)), (1, .int v1), (2, .int v2), (3, .int v3), (4, .int v4), (5, .int v5)]) hx hb dX12_apartWithout_153 hl (k := 8) rfl (by rw [ex_41]; rfl) (by decide) rfl (fun ls hl => ?_)
          refine lv_goto (tgt := 112) hx hb dX12_apartWithout_156 (by decide) ?_
          exact ih _ _ _ _ _ _ _ _ _ _ _ _ _ h hP hS (lv_sub hl [3, 4, 5, 6, 7, 8, 1, 2, 0] rfl)
        · rw [if_neg c_33] at h
          refine lv_iload hx hb dX12_apartWithout_126 (lv_at hl 6 rfl) ?_
          refine lv_aload_n hx hb dX12_apartWithout_128 rfl (lv_at hl 0 rfl) ?_
          obtain ⟨f_42, wl_43, r_44, z_45, h⟩ := gb_bd_s h
          refine gb_calli (va_runV (C := RX12) (As := []) (rest := [.int v6]) ⟨hx, hb, hml, hown, hq⟩ (mc_paths l D cT tt b1 b hb1 n f_18 wl_19 f_42 wl_43 r_44 z_45) (cwV 0 hq (gb_gV w_1384 w_1386 s_4_4 w_14 w_1387) rfl rfl rfl (by decide +kernel) ⟨Nat.le_of_ble_eq_true rfl, Nat.le_of_ble_eq_true rfl⟩) (gb_preV (r := (RX12, TX12, 44)) (ci := 10) (q0 := 0) hSt hP rfl (gb_at b rfl) hS (fun q h => Nat.le_trans hb1 h.1) hP) rfl rfl hl.1 rfl (lv_room (Nat.le_of_ble_eq_true rfl)) dX12_apartWithout_129 ⟨Nat.le_of_ble_eq_true rfl, Nat.le_of_ble_eq_true rfl⟩) hS (fun _ h => h) (fun _ h => h) (fun q_46 H locs hY hk hS => ?_)
          obtain ⟨hq_46, hP⟩ := hY
          replace hq_46 := hq_46.symm
          subst hq_46
          obtain ⟨z_47, h⟩ := gb_nz_s h
          refine lv_irem hx hb dX12_apartWithout_132 z_47 ?_
          refine lv_topi (fun x_48 ex_48 => ?_)
          replace h := gb_lt_s ex_48 h
          refine lv_iload_n hx hb dX12_apartWithout_133 rfl (lv_at hl 1 rfl) ?_
          refine lv_icmp_eq (tgt := 141) hx hb dX12_apartWithout_134 (by decide) (fun c_49 => ?_) (fun c_49 => ?_)
          · rw [if_pos c_49] at h
            refine lv_iconst (v := 0) hx hb dX12_apartWithout_141 (by decide) ?_
            refine lv_istore (lv' := [(7, .int 0), (0, .ref (b + 0)), (1, .int v1), (2, .int v2), (3, .int v3), (4, .int v4), (5, .int v5), (6, .int v6), (8, .int v8)]) hx hb dX12_apartWithout_142 hl (by decide) rfl (fun ls hl => ?_)
            refine lv_iload hx hb dX12_apartWithout_144 (lv_at hl 7 rfl) ?_
            refine lv_aload_n hx hb dX12_apartWithout_146 rfl (lv_at hl 1 rfl) ?_
            obtain ⟨f_50, wl_51, r_52, z_53, h⟩ := gb_bd_s h
            refine gb_calli (va_runV (C := RX12) (As := []) (rest := [.int v6]) ⟨hx, hb, hml, hown, hq⟩ (mc_paths l D cT tt b1 b hb1 n f_42 wl_43 f_50 wl_51 r_52 z_53) (cwV 0 hq (gb_gV w_1384 w_1386 s_4_4 w_14 w_1387) rfl rfl rfl (by decide +kernel) ⟨Nat.le_of_ble_eq_true rfl, Nat.le_of_ble_eq_true rfl⟩) (gb_preV (r := (RX12, TX12, 44)) (ci := 10) (q0 := 0) hSt hP rfl (gb_at b rfl) hS (fun q h => Nat.le_trans hb1 h.1) hP) rfl rfl hl.1 rfl (lv_room (Nat.le_of_ble_eq_true rfl)) dX12_apartWithout_147 ⟨Nat.le_of_ble_eq_true rfl, Nat.le_of_ble_eq_true rfl⟩) hS (fun _ h => h) (fun _ h => h) (fun q_54 H locs hY hk hS => ?_)
            obtain ⟨hq_54, hP⟩ := hY
            replace hq_54 := hq_54.symm
            subst hq_54
            obtain ⟨z_55, h⟩ := gb_nz_s h
            refine lv_idiv hx hb dX12_apartWithout_150 z_55 ?_
            refine lv_topi (fun x_56 ex_56 => ?_)
            replace h := gb_lt_s ex_56 h
            refine lv_istore (lv' := [(6, .int x_56), (7, .int 0), (0, .ref (b + 0)), (1, .int v1), (2, .int v2), (3, .int v3), (4, .int v4), (5, .int v5), (8, .int v8)]) hx hb dX12_apartWithout_151 hl (by decide) rfl (fun ls hl => ?_)
            obtain ⟨x_57, ex_57⟩ : ∃ q, q = (v8 + 1) := ⟨_, rfl⟩
            replace h := gb_lt_s ex_57 h
            refine lv_iinc (v := x_57) (lv' := [(8, .int x_57), (6, .int x_56), (7, .int 0), (0, .ref (b + 0)), (1, .int v1), (2, .int v2), (3, .int v3), (4, .int v4), (5, .int v5)]) hx hb dX12_apartWithout_153 hl (k := 8) rfl (by rw [ex_57]; rfl) (by decide) rfl (fun ls hl => ?_)
            refine lv_goto (tgt := 112) hx hb dX12_apartWithout_156 (by decide) ?_
            exact ih _ _ _ _ _ _ _ _ _ _ _ _ _ h hP hS (lv_sub hl [3, 4, 5, 6, 7, 8, 1, 2, 0] rfl)
          · rw [if_neg c_49] at h
            refine lv_iconst (v := 1) hx hb dX12_apartWithout_137 (by decide) ?_
            refine lv_goto (tgt := 142) hx hb dX12_apartWithout_138 (by decide) ?_
            refine lv_istore (lv' := [(7, .int 1), (0, .ref (b + 0)), (1, .int v1), (2, .int v2), (3, .int v3), (4, .int v4), (5, .int v5), (6, .int v6), (8, .int v8)]) hx hb dX12_apartWithout_142 hl (by decide) rfl (fun ls hl => ?_)
            refine lv_iload hx hb dX12_apartWithout_144 (lv_at hl 7 rfl) ?_
            refine lv_aload_n hx hb dX12_apartWithout_146 rfl (lv_at hl 1 rfl) ?_
            obtain ⟨f_58, wl_59, r_60, z_61, h⟩ := gb_bd_s h
            refine gb_calli (va_runV (C := RX12) (As := []) (rest := [.int v6]) ⟨hx, hb, hml, hown, hq⟩ (mc_paths l D cT tt b1 b hb1 n f_42 wl_43 f_58 wl_59 r_60 z_61) (cwV 0 hq (gb_gV w_1384 w_1386 s_4_4 w_14 w_1387) rfl rfl rfl (by decide +kernel) ⟨Nat.le_of_ble_eq_true rfl, Nat.le_of_ble_eq_true rfl⟩) (gb_preV (r := (RX12, TX12, 44)) (ci := 10) (q0 := 0) hSt hP rfl (gb_at b rfl) hS (fun q h => Nat.le_trans hb1 h.1) hP) rfl rfl hl.1 rfl (lv_room (Nat.le_of_ble_eq_true rfl)) dX12_apartWithout_147 ⟨Nat.le_of_ble_eq_true rfl, Nat.le_of_ble_eq_true rfl⟩) hS (fun _ h => h) (fun _ h => h) (fun q_62 H locs hY hk hS => ?_)
            obtain ⟨hq_62, hP⟩ := hY
            replace hq_62 := hq_62.symm
            subst hq_62
            obtain ⟨z_63, h⟩ := gb_nz_s h
            refine lv_idiv hx hb dX12_apartWithout_150 z_63 ?_
            refine lv_topi (fun x_64 ex_64 => ?_)
            replace h := gb_lt_s ex_64 h
            refine lv_istore (lv' := [(6, .int x_64), (7, .int 1), (0, .ref (b + 0)), (1, .int v1), (2, .int v2), (3, .int v3), (4, .int v4), (5, .int v5), (8, .int v8)]) hx hb dX12_apartWithout_151 hl (by decide) rfl (fun ls hl => ?_)
            obtain ⟨x_65, ex_65⟩ : ∃ q, q = (v8 + 1) := ⟨_, rfl⟩
            replace h := gb_lt_s ex_65 h
            refine lv_iinc (v := x_65) (lv' := [(8, .int x_65), (6, .int x_64), (7, .int 1), (0, .ref (b + 0)), (1, .int v1), (2, .int v2), (3, .int v3), (4, .int v4), (5, .int v5)]) hx hb dX12_apartWithout_153 hl (k := 8) rfl (by rw [ex_65]; rfl) (by decide) rfl (fun ls hl => ?_)
            refine lv_goto (tgt := 112) hx hb dX12_apartWithout_156 (by decide) ?_
            exact ih _ _ _ _ _ _ _ _ _ _ _ _ _ h hP hS (lv_sub hl [3, 4, 5, 6, 7, 8, 1, 2, 0] rfl)
  have L71 : ∀ (k4 : gb_F → Int64 → Int32 → Int32 → Int32 → gb_MR Int32) (k26 : gb_F → Int64 → Int32 → Int32 → Int32 → Int32 → Int32 → Int32 → gb_MR Int32) (hk4 : ∀ (f : gb_F) (w : Int64) (v1 : Int32) (v2 : Int32) (v3 : Int32) (H : Heap) (locs : List Loc) (ls : Array Slot), k4 f w v1 v2 v3 = some (fE, wE, rE) → va_P D vwCl (gb_wl b (gb_MW cT b f w)) H → va_S (gb_fr b 22) s.heap H locs → lv_has ls 9 [(0, .ref (b + 0)), (1, .int v1), (2, .int v2), (3, .int v3)] → W p l e (headSpec (.code yX12_apartWithout cX12_apartWithout 9 (some FieldType.int) :: gb_wA) ({ frames := 4, cells := 0, slots := 0, locals := 86 })).room s m ([.ref (b + 0), .int p1]).toArray below meth c H locs 0 0 (MQ below (gb_Qi (fun r h => r = rE ∧ va_P D vwCl (gb_wl b (gb_MW cT b fE wE)) h) (gb_fr b 22)) ([.ref (b + 0), .int p1]).toArray s 0 0 (gb_fr b 22)) (F0 m 4 ls [])) (hk26 : ∀ (f : gb_F) (w : Int64) (v1 : Int32) (v2 : Int32) (v3 : Int32) (v4 : Int32) (v5 : Int32) (v6 : Int32) (H : Heap) (locs : List Loc) (ls : Array Slot), k26 f w v1 v2 v3 v4 v5 v6 = some (fE, wE, rE) → va_P D vwCl (gb_wl b (gb_MW cT b f w)) H → va_S (gb_fr b 22) s.heap H locs → lv_has ls 9 [(0, .ref (b + 0)), (1, .int v1), (2, .int v2), (3, .int v3), (4, .int v4), (5, .int v5), (6, .int v6)] → W p l e (headSpec (.code yX12_apartWithout cX12_apartWithout 9 (some FieldType.int) :: gb_wA) ({ frames := 4, cells := 0, slots := 0, locals := 86 })).room s m ([.ref (b + 0), .int p1]).toArray below meth c H locs 0 0 (MQ below (gb_Qi (fun r h => r = rE ∧ va_P D vwCl (gb_wl b (gb_MW cT b fE wE)) h) (gb_fr b 22)) ([.ref (b + 0), .int p1]).toArray s 0 0 (gb_fr b 22)) (F0 m 26 ls [])) (f : gb_F) (w : Int64) (v1 : Int32) (v2 : Int32) (v3 : Int32) (v5 : Int32) (v6 : Int32) (t0 : Int32) (H : Heap) (locs : List Loc) (ls : Array Slot), ms_apartWithout_71 n k4 k26 f w v1 v2 v3 v5 v6 t0 = some (fE, wE, rE) → va_P D vwCl (gb_wl b (gb_MW cT b f w)) H → va_S (gb_fr b 22) s.heap H locs → lv_has ls 9 [(0, .ref (b + 0)), (1, .int v1), (2, .int v2), (3, .int v3), (5, .int v5), (6, .int v6)] → W p l e (headSpec (.code yX12_apartWithout cX12_apartWithout 9 (some FieldType.int) :: gb_wA) ({ frames := 4, cells := 0, slots := 0, locals := 86 })).room s m ([.ref (b + 0), .int p1]).toArray below meth c H locs 0 0 (MQ below (gb_Qi (fun r h => r = rE ∧ va_P D vwCl (gb_wl b (gb_MW cT b fE wE)) h) (gb_fr b 22)) ([.ref (b + 0), .int p1]).toArray s 0 0 (gb_fr b 22)) (F0 m 71 ls [.int t0]) := by
    clear h hP hS hl ls f w
    intro k4 k26 hk4 hk26 f w v1 v2 v3 v5 v6 t0 H locs ls h hP hS hl
    unfold ms_apartWithout_71 at h
    refine lv_istore (lv' := [(4, .int t0), (0, .ref (b + 0)), (1, .int v1), (2, .int v2), (3, .int v3), (5, .int v5), (6, .int v6)]) hx hb dX12_apartWithout_71 hl (by decide) rfl (fun ls hl => ?_)
    refine lv_aload_n hx hb dX12_apartWithout_73 rfl (lv_at hl 1 rfl) ?_
    refine lv_iload hx hb dX12_apartWithout_74 (lv_at hl 6 rfl) ?_
    obtain ⟨f_73, wl_74, r_75, z_76, h⟩ := gb_bd_s h
    refine gb_calli (va_runV (C := RX12) (As := [.int v6]) (rest := []) ⟨hx, hb, hml, hown, hq⟩ (mc_payOf l D cT tt b1 b hb1 n f w v6 f_73 wl_74 r_75 z_76) (cwV 1 hq (gb_gV w_1548 w_1550 s_6_4 w_14 w_1551) rfl rfl rfl (by decide +kernel) ⟨Nat.le_of_ble_eq_true rfl, Nat.le_of_ble_eq_true rfl⟩) (gb_preV (r := (RX12, TX12, 44)) (ci := 10) (q0 := 0) hSt hP rfl (gb_at b rfl) hS (fun q h => Nat.le_trans hb1 h.1) hP) rfl rfl hl.1 rfl (lv_room (Nat.le_of_ble_eq_true rfl)) dX12_apartWithout_76 ⟨Nat.le_of_ble_eq_true rfl, Nat.le_of_ble_eq_true rfl⟩) hS (fun _ h => h) (fun _ h => h) (fun q_77 H locs hY hk hS => ?_)
    obtain ⟨hq_77, hP⟩ := hY
    replace hq_77 := hq_77.symm
    subst hq_77
    refine lv_iload hx hb dX12_apartWithout_79 (lv_at hl 5 rfl) ?_
    refine lv_icmp_le (tgt := 93) hx hb dX12_apartWithout_81 (by decide) (fun c_78 => ?_) (fun c_78 => ?_)
    · rw [if_pos c_78] at h
      refine lv_iload hx hb dX12_apartWithout_93 (lv_at hl 5 rfl) ?_
      refine lv_istore (lv' := [(5, .int v5), (4, .int t0), (0, .ref (b + 0)), (1, .int v1), (2, .int v2), (3, .int v3), (6, .int v6)]) hx hb dX12_apartWithout_95 hl (by decide) rfl (fun ls hl => ?_)
      obtain ⟨x_79, ex_79⟩ : ∃ q, q = (v6 + 1) := ⟨_, rfl⟩
      replace h := gb_lt_s ex_79 h
      refine lv_iinc (v := x_79) (lv' := [(6, .int x_79), (5, .int v5), (4, .int t0), (0, .ref (b + 0)), (1, .int v1), (2, .int v2), (3, .int v3)]) hx hb dX12_apartWithout_97 hl (k := 6) rfl (by rw [ex_79]; rfl) (by decide) rfl (fun ls hl => ?_)
      refine lv_goto (tgt := 26) hx hb dX12_apartWithout_100 (by decide) ?_
      exact hk26 _ _ _ _ _ _ _ _ _ _ _ h hP hS (lv_sub hl [3, 4, 5, 6, 2, 1, 0] rfl)
    · rw [if_neg c_78] at h
      refine lv_aload_n hx hb dX12_apartWithout_84 rfl (lv_at hl 1 rfl) ?_
      refine lv_iload hx hb dX12_apartWithout_85 (lv_at hl 6 rfl) ?_
      obtain ⟨f_80, wl_81, r_82, z_83, h⟩ := gb_bd_s h
      refine gb_calli (va_runV (C := RX12) (As := [.int v6]) (rest := []) ⟨hx, hb, hml, hown, hq⟩ (mc_payOf l D cT tt b1 b hb1 n f_73 wl_74 v6 f_80 wl_81 r_82 z_83) (cwV 1 hq (gb_gV w_1548 w_1550 s_6_4 w_14 w_1551) rfl rfl rfl (by decide +kernel) ⟨Nat.le_of_ble_eq_true rfl, Nat.le_of_ble_eq_true rfl⟩) (gb_preV (r := (RX12, TX12, 44)) (ci := 10) (q0 := 0) hSt hP rfl (gb_at b rfl) hS (fun q h => Nat.le_trans hb1 h.1) hP) rfl rfl hl.1 rfl (lv_room (Nat.le_of_ble_eq_true rfl)) dX12_apartWithout_87 ⟨Nat.le_of_ble_eq_true rfl, Nat.le_of_ble_eq_true rfl⟩) hS (fun _ h => h) (fun _ h => h) (fun q_84 H locs hY hk hS => ?_)
      obtain ⟨hq_84, hP⟩ := hY
      replace hq_84 := hq_84.symm
      subst hq_84
      refine lv_goto (tgt := 95) hx hb dX12_apartWithout_90 (by decide) ?_
      refine lv_istore (lv' := [(5, .int r_82), (4, .int t0), (0, .ref (b + 0)), (1, .int v1), (2, .int v2), (3, .int v3), (6, .int v6)]) hx hb dX12_apartWithout_95 hl (by decide) rfl (fun ls hl => ?_)
      obtain ⟨x_85, ex_85⟩ : ∃ q, q = (v6 + 1) := ⟨_, rfl⟩
      replace h := gb_lt_s ex_85 h
      refine lv_iinc (v := x_85) (lv' := [(6, .int x_85), (5, .int r_82), (4, .int t0), (0, .ref (b + 0)), (1, .int v1), (2, .int v2), (3, .int v3)]) hx hb dX12_apartWithout_97 hl (k := 6) rfl (by rw [ex_85]; rfl) (by decide) rfl (fun ls hl => ?_)
      refine lv_goto (tgt := 26) hx hb dX12_apartWithout_100 (by decide) ?_
      exact hk26 _ _ _ _ _ _ _ _ _ _ _ h hP hS (lv_sub hl [3, 4, 5, 6, 2, 1, 0] rfl)
  have L60 : ∀ (k4 : gb_F → Int64 → Int32 → Int32 → Int32 → gb_MR Int32) (k26 : gb_F → Int64 → Int32 → Int32 → Int32 → Int32 → Int32 → Int32 → gb_MR Int32) (hk4 : ∀ (f : gb_F) (w : Int64) (v1 : Int32) (v2 : Int32) (v3 : Int32) (H : Heap) (locs : List Loc) (ls : Array Slot), k4 f w v1 v2 v3 = some (fE, wE, rE) → va_P D vwCl (gb_wl b (gb_MW cT b f w)) H → va_S (gb_fr b 22) s.heap H locs → lv_has ls 9 [(0, .ref (b + 0)), (1, .int v1), (2, .int v2), (3, .int v3)] → W p l e (headSpec (.code yX12_apartWithout cX12_apartWithout 9 (some FieldType.int) :: gb_wA) ({ frames := 4, cells := 0, slots := 0, locals := 86 })).room s m ([.ref (b + 0), .int p1]).toArray below meth c H locs 0 0 (MQ below (gb_Qi (fun r h => r = rE ∧ va_P D vwCl (gb_wl b (gb_MW cT b fE wE)) h) (gb_fr b 22)) ([.ref (b + 0), .int p1]).toArray s 0 0 (gb_fr b 22)) (F0 m 4 ls [])) (hk26 : ∀ (f : gb_F) (w : Int64) (v1 : Int32) (v2 : Int32) (v3 : Int32) (v4 : Int32) (v5 : Int32) (v6 : Int32) (H : Heap) (locs : List Loc) (ls : Array Slot), k26 f w v1 v2 v3 v4 v5 v6 = some (fE, wE, rE) → va_P D vwCl (gb_wl b (gb_MW cT b f w)) H → va_S (gb_fr b 22) s.heap H locs → lv_has ls 9 [(0, .ref (b + 0)), (1, .int v1), (2, .int v2), (3, .int v3), (4, .int v4), (5, .int v5), (6, .int v6)] → W p l e (headSpec (.code yX12_apartWithout cX12_apartWithout 9 (some FieldType.int) :: gb_wA) ({ frames := 4, cells := 0, slots := 0, locals := 86 })).room s m ([.ref (b + 0), .int p1]).toArray below meth c H locs 0 0 (MQ below (gb_Qi (fun r h => r = rE ∧ va_P D vwCl (gb_wl b (gb_MW cT b fE wE)) h) (gb_fr b 22)) ([.ref (b + 0), .int p1]).toArray s 0 0 (gb_fr b 22)) (F0 m 26 ls [])) (f : gb_F) (w : Int64) (v1 : Int32) (v2 : Int32) (v3 : Int32) (v5 : Int32) (v6 : Int32) (H : Heap) (locs : List Loc) (ls : Array Slot), ms_apartWithout_60 n k4 k26 f w v1 v2 v3 v5 v6 = some (fE, wE, rE) → va_P D vwCl (gb_wl b (gb_MW cT b f w)) H → va_S (gb_fr b 22) s.heap H locs → lv_has ls 9 [(0, .ref (b + 0)), (1, .int v1), (2, .int v2), (3, .int v3), (5, .int v5), (6, .int v6)] → W p l e (headSpec (.code yX12_apartWithout cX12_apartWithout 9 (some FieldType.int) :: gb_wA) ({ frames := 4, cells := 0, slots := 0, locals := 86 })).room s m ([.ref (b + 0), .int p1]).toArray below meth c H locs 0 0 (MQ below (gb_Qi (fun r h => r = rE ∧ va_P D vwCl (gb_wl b (gb_MW cT b fE wE)) h) (gb_fr b 22)) ([.ref (b + 0), .int p1]).toArray s 0 0 (gb_fr b 22)) (F0 m 60 ls []) := by
    clear h hP hS hl ls f w
    intro k4 k26 hk4 hk26 f w v1 v2 v3 v5 v6 H locs ls h hP hS hl
    unfold ms_apartWithout_60 at h
    refine lv_aload_n hx hb dX12_apartWithout_60 rfl (lv_at hl 0 rfl) ?_
    refine lv_iload hx hb dX12_apartWithout_61 (lv_at hl 5 rfl) ?_
    obtain ⟨f_68, wl_69, r_70, z_71, h⟩ := gb_bd_s h
    refine gb_calli (va_runV (C := RX12) (As := [.int v6]) (rest := []) ⟨hx, hb, hml, hown, hq⟩ (mc_payOf l D cT tt b1 b hb1 n f w v6 f_68 wl_69 r_70 z_71) (cwV 1 hq (gb_gV w_1548 w_1550 s_6_4 w_14 w_1551) rfl rfl rfl (by decide +kernel) ⟨Nat.le_of_ble_eq_true rfl, Nat.le_of_ble_eq_true rfl⟩) (gb_preV (r := (RX12, TX12, 44)) (ci := 10) (q0 := 0) hSt hP rfl (gb_at b rfl) hS (fun q h => Nat.le_trans hb1 h.1) hP) rfl rfl hl.1 rfl (lv_room (Nat.le_of_ble_eq_true rfl)) dX12_apartWithout_63 ⟨Nat.le_of_ble_eq_true rfl, Nat.le_of_ble_eq_true rfl⟩) hS (fun _ h => h) (fun _ h => h) (fun q_72 H locs hY hk hS => ?_)
    obtain ⟨hq_72, hP⟩ := hY
    replace hq_72 := hq_72.symm
    subst hq_72
    refine lv_goto (tgt := 71) hx hb dX12_apartWithout_66 (by decide) ?_
    exact L71 k4 k26 hk4 hk26 _ _ _ _ _ _ _ _ _ _ _ h hP hS (lv_sub hl [0, 1, 2, 3, 4, 5] rfl)
  have L26 : ∀ (k4 : gb_F → Int64 → Int32 → Int32 → Int32 → gb_MR Int32) (hk4 : ∀ (f : gb_F) (w : Int64) (v1 : Int32) (v2 : Int32) (v3 : Int32) (H : Heap) (locs : List Loc) (ls : Array Slot), k4 f w v1 v2 v3 = some (fE, wE, rE) → va_P D vwCl (gb_wl b (gb_MW cT b f w)) H → va_S (gb_fr b 22) s.heap H locs → lv_has ls 9 [(0, .ref (b + 0)), (1, .int v1), (2, .int v2), (3, .int v3)] → W p l e (headSpec (.code yX12_apartWithout cX12_apartWithout 9 (some FieldType.int) :: gb_wA) ({ frames := 4, cells := 0, slots := 0, locals := 86 })).room s m ([.ref (b + 0), .int p1]).toArray below meth c H locs 0 0 (MQ below (gb_Qi (fun r h => r = rE ∧ va_P D vwCl (gb_wl b (gb_MW cT b fE wE)) h) (gb_fr b 22)) ([.ref (b + 0), .int p1]).toArray s 0 0 (gb_fr b 22)) (F0 m 4 ls [])) (mm : Nat) (f : gb_F) (w : Int64) (v1 : Int32) (v2 : Int32) (v3 : Int32) (v4 : Int32) (v5 : Int32) (v6 : Int32) (H : Heap) (locs : List Loc) (ls : Array Slot), ms_apartWithout_26 n k4 mm f w v1 v2 v3 v4 v5 v6 = some (fE, wE, rE) → va_P D vwCl (gb_wl b (gb_MW cT b f w)) H → va_S (gb_fr b 22) s.heap H locs → lv_has ls 9 [(0, .ref (b + 0)), (1, .int v1), (2, .int v2), (3, .int v3), (4, .int v4), (5, .int v5), (6, .int v6)] → W p l e (headSpec (.code yX12_apartWithout cX12_apartWithout 9 (some FieldType.int) :: gb_wA) ({ frames := 4, cells := 0, slots := 0, locals := 86 })).room s m ([.ref (b + 0), .int p1]).toArray below meth c H locs 0 0 (MQ below (gb_Qi (fun r h => r = rE ∧ va_P D vwCl (gb_wl b (gb_MW cT b fE wE)) h) (gb_fr b 22)) ([.ref (b + 0), .int p1]).toArray s 0 0 (gb_fr b 22)) (F0 m 26 ls []) := by
    clear h hP hS hl ls f w
    intro k4 hk4 mm
    induction mm with
    | zero =>
      intro f w v1 v2 v3 v4 v5 v6 H locs ls h
      cases h
    | succ mm ih =>
      intro f w v1 v2 v3 v4 v5 v6 H locs ls h hP hS hl
      rw [ms_apartWithout_26] at h
      refine lv_iload hx hb dX12_apartWithout_26 (lv_at hl 6 rfl) ?_
      refine lv_aload_n hx hb dX12_apartWithout_28 rfl (lv_at hl 0 rfl) ?_
      obtain ⟨f_12, wl_13, r_14, z_15, h⟩ := gb_bd_s h
      refine gb_calli (va_runV (C := RX12) (As := []) (rest := [.int v6]) ⟨hx, hb, hml, hown, hq⟩ (mc_paths l D cT tt b1 b hb1 n f w f_12 wl_13 r_14 z_15) (cwV 0 hq (gb_gV w_1384 w_1386 s_4_4 w_14 w_1387) rfl rfl rfl (by decide +kernel) ⟨Nat.le_of_ble_eq_true rfl, Nat.le_of_ble_eq_true rfl⟩) (gb_preV (r := (RX12, TX12, 44)) (ci := 10) (q0 := 0) hSt hP rfl (gb_at b rfl) hS (fun q h => Nat.le_trans hb1 h.1) hP) rfl rfl hl.1 rfl (lv_room (Nat.le_of_ble_eq_true rfl)) dX12_apartWithout_29 ⟨Nat.le_of_ble_eq_true rfl, Nat.le_of_ble_eq_true rfl⟩) hS (fun _ h => h) (fun _ h => h) (fun q_16 H locs hY hk hS => ?_)
      obtain ⟨hq_16, hP⟩ := hY
      replace hq_16 := hq_16.symm
      subst hq_16
      refine lv_icmp_ge (tgt := 103) hx hb dX12_apartWithout_32 (by decide) (fun c_17 => ?_) (fun c_17 => ?_)
      · rw [if_pos c_17] at h
        refine lv_iload_n hx hb dX12_apartWithout_103 rfl (lv_at hl 3 rfl) ?_
        refine lv_istore (lv' := [(6, .int v3), (0, .ref (b + 0)), (1, .int v1), (2, .int v2), (3, .int v3), (4, .int v4), (5, .int v5)]) hx hb dX12_apartWithout_104 hl (by decide) rfl (fun ls hl => ?_)
        refine lv_iconst (v := 1) hx hb dX12_apartWithout_106 (by decide) ?_
        refine lv_istore (lv' := [(7, .int 1), (6, .int v3), (0, .ref (b + 0)), (1, .int v1), (2, .int v2), (3, .int v3), (4, .int v4), (5, .int v5)]) hx hb dX12_apartWithout_107 hl (by decide) rfl (fun ls hl => ?_)
        refine lv_iconst (v := 0) hx hb dX12_apartWithout_109 (by decide) ?_
        refine lv_istore (lv' := [(8, .int 0), (7, .int 1), (6, .int v3), (0, .ref (b + 0)), (1, .int v1), (2, .int v2), (3, .int v3), (4, .int v4), (5, .int v5)]) hx hb dX12_apartWithout_110 hl (by decide) rfl (fun ls hl => ?_)
        exact L112 k4 hk4 n _ _ _ _ _ _ _ _ _ _ _ _ _ h hP hS (lv_sub hl [3, 4, 5, 6, 7, 8, 2, 1, 0] rfl)
      · rw [if_neg c_17] at h
        refine lv_iload hx hb dX12_apartWithout_35 (lv_at hl 6 rfl) ?_
        refine lv_iload_n hx hb dX12_apartWithout_37 rfl (lv_at hl 1 rfl) ?_
        refine lv_icmp_ne (tgt := 44) hx hb dX12_apartWithout_38 (by decide) (fun c_66 => ?_) (fun c_66 => ?_)
        · rw [if_neg c_66] at h
          refine lv_iload hx hb dX12_apartWithout_44 (lv_at hl 4 rfl) ?_
          refine lv_if_lt (tgt := 60) hx hb dX12_apartWithout_46 (by decide) (fun c_67 => ?_) (fun c_67 => ?_)
          · rw [if_pos c_67] at h
            exact L60 k4 _ hk4 ih _ _ _ _ _ _ _ _ _ _ h hP hS (lv_sub hl [0, 1, 2, 3, 5, 6] rfl)
          · rw [if_neg c_67] at h
            refine lv_aload_n hx hb dX12_apartWithout_49 rfl (lv_at hl 0 rfl) ?_
            refine lv_iload hx hb dX12_apartWithout_50 (lv_at hl 6 rfl) ?_
            obtain ⟨f_86, wl_87, r_88, z_89, h⟩ := gb_bd_s h
            refine gb_calli (va_runV (C := RX12) (As := [.int v6]) (rest := []) ⟨hx, hb, hml, hown, hq⟩ (mc_payOf l D cT tt b1 b hb1 n f_12 wl_13 v6 f_86 wl_87 r_88 z_89) (cwV 1 hq (gb_gV w_1548 w_1550 s_6_4 w_14 w_1551) rfl rfl rfl (by decide +kernel) ⟨Nat.le_of_ble_eq_true rfl, Nat.le_of_ble_eq_true rfl⟩) (gb_preV (r := (RX12, TX12, 44)) (ci := 10) (q0 := 0) hSt hP rfl (gb_at b rfl) hS (fun q h => Nat.le_trans hb1 h.1) hP) rfl rfl hl.1 rfl (lv_room (Nat.le_of_ble_eq_true rfl)) dX12_apartWithout_52 ⟨Nat.le_of_ble_eq_true rfl, Nat.le_of_ble_eq_true rfl⟩) hS (fun _ h => h) (fun _ h => h) (fun q_90 H locs hY hk hS => ?_)
            obtain ⟨hq_90, hP⟩ := hY
            replace hq_90 := hq_90.symm
            subst hq_90
            refine lv_iload hx hb dX12_apartWithout_55 (lv_at hl 4 rfl) ?_
            refine lv_icmp_ge (tgt := 69) hx hb dX12_apartWithout_57 (by decide) (fun c_91 => ?_) (fun c_91 => ?_)
            · rw [if_pos c_91] at h
              refine lv_iload hx hb dX12_apartWithout_69 (lv_at hl 4 rfl) ?_
              exact L71 k4 _ hk4 ih _ _ _ _ _ _ _ _ _ _ _ h hP hS (lv_sub hl [0, 1, 2, 3, 5, 6] rfl)
            · rw [if_neg c_91] at h
              exact L60 k4 _ hk4 ih _ _ _ _ _ _ _ _ _ _ h hP hS (lv_sub hl [0, 1, 2, 3, 5, 6] rfl)
        · rw [if_pos c_66] at h
          refine lv_goto (tgt := 97) hx hb dX12_apartWithout_41 (by decide) ?_
          obtain ⟨x_92, ex_92⟩ : ∃ q, q = (v6 + 1) := ⟨_, rfl⟩
          replace h := gb_lt_s ex_92 h
          refine lv_iinc (v := x_92) (lv' := [(6, .int x_92), (0, .ref (b + 0)), (1, .int v1), (2, .int v2), (3, .int v3), (4, .int v4), (5, .int v5)]) hx hb dX12_apartWithout_97 hl (k := 6) rfl (by rw [ex_92]; rfl) (by decide) rfl (fun ls hl => ?_)
          refine lv_goto (tgt := 26) hx hb dX12_apartWithout_100 (by decide) ?_
          exact ih _ _ _ _ _ _ _ _ _ _ _ h hP hS (lv_sub hl [1, 2, 3, 4, 5, 6, 0] rfl)
  have L4 : ∀ (mm : Nat) (f : gb_F) (w : Int64) (v1 : Int32) (v2 : Int32) (v3 : Int32) (H : Heap) (locs : List Loc) (ls : Array Slot), ms_apartWithout_4 n mm f w v1 v2 v3 = some (fE, wE, rE) → va_P D vwCl (gb_wl b (gb_MW cT b f w)) H → va_S (gb_fr b 22) s.heap H locs → lv_has ls 9 [(0, .ref (b + 0)), (1, .int v1), (2, .int v2), (3, .int v3)] → W p l e (headSpec (.code yX12_apartWithout cX12_apartWithout 9 (some FieldType.int) :: gb_wA) ({ frames := 4, cells := 0, slots := 0, locals := 86 })).room s m ([.ref (b + 0), .int p1]).toArray below meth c H locs 0 0 (MQ below (gb_Qi (fun r h => r = rE ∧ va_P D vwCl (gb_wl b (gb_MW cT b fE wE)) h) (gb_fr b 22)) ([.ref (b + 0), .int p1]).toArray s 0 0 (gb_fr b 22)) (F0 m 4 ls []) := by
    clear h hP hS hl ls f w
    intro mm
    induction mm with
    | zero =>
      intro f w v1 v2 v3 H locs ls h
      cases h
    | succ mm ih =>
      intro f w v1 v2 v3 H locs ls h hP hS hl
      rw [ms_apartWithout_4] at h
      refine lv_iload_n hx hb dX12_apartWithout_4 rfl (lv_at hl 3 rfl) ?_
      refine lv_aload_n hx hb dX12_apartWithout_5 rfl (lv_at hl 0 rfl) ?_
      obtain ⟨f_1, wl_2, r_3, z_4, h⟩ := gb_bd_s h
      refine gb_calli (va_runV (C := RX12) (As := []) (rest := [.int v3]) ⟨hx, hb, hml, hown, hq⟩ (mc_codes l D cT tt b1 b hb1 n f w f_1 wl_2 r_3 z_4) (cwV 0 hq (gb_gV w_1536 w_1538 s_6_1 w_14 w_1539) rfl rfl rfl (by decide +kernel) ⟨Nat.le_of_ble_eq_true rfl, Nat.le_of_ble_eq_true rfl⟩) (gb_preV (r := (RX12, TX12, 44)) (ci := 10) (q0 := 0) hSt hP rfl (gb_at b rfl) hS (fun q h => Nat.le_trans hb1 h.1) hP) rfl rfl hl.1 rfl (lv_room (Nat.le_of_ble_eq_true rfl)) dX12_apartWithout_6 ⟨Nat.le_of_ble_eq_true rfl, Nat.le_of_ble_eq_true rfl⟩) hS (fun _ h => h) (fun _ h => h) (fun q_5 H locs hY hk hS => ?_)
      obtain ⟨hq_5, hP⟩ := hY
      replace hq_5 := hq_5.symm
      subst hq_5
      refine lv_icmp_ge (tgt := 189) hx hb dX12_apartWithout_9 (by decide) (fun c_6 => ?_) (fun c_6 => ?_)
      · rw [if_pos c_6] at h
        refine lv_iload_n hx hb dX12_apartWithout_189 rfl (lv_at hl 2 rfl) ?_
        obtain ⟨e1, e2, e3⟩ := gb_eq3 h
        exact W.iret (v := v2) hx hb hr (fun t ht hW => gb_ri ht ⟨e3, by rw [← e1, ← e2]; exact hP⟩ hS) hS.2.2 dX12_apartWithout_190
      · rw [if_neg c_6] at h
        refine lv_aload_n hx hb dX12_apartWithout_12 rfl (lv_at hl 0 rfl) ?_
        refine lv_iload_n hx hb dX12_apartWithout_13 rfl (lv_at hl 3 rfl) ?_
        obtain ⟨f_7, wl_8, r_9, z_10, h⟩ := gb_bd_s h
        refine gb_callv (va_runV (C := RX12) (As := [.int v3]) (rest := []) ⟨hx, hb, hml, hown, hq⟩ (mc_sums l D cT tt b1 b hb1 n f_1 wl_2 v3 f_7 wl_8 r_9 z_10) (cwV 1 hq (gb_gV w_1544 w_1546 s_6_3 w_14 w_1547) rfl rfl rfl (by decide +kernel) ⟨Nat.le_of_ble_eq_true rfl, Nat.le_of_ble_eq_true rfl⟩) (gb_preV (r := (RX12, TX12, 44)) (ci := 10) (q0 := 0) hSt hP rfl (gb_at b rfl) hS (fun q h => Nat.le_trans hb1 h.1) hP) rfl rfl hl.1 rfl (lv_room (Nat.le_of_ble_eq_true rfl)) dX12_apartWithout_14 ⟨Nat.le_of_ble_eq_true rfl, Nat.le_of_ble_eq_true rfl⟩) hS (fun _ h => h) (fun _ h => h) (fun H locs hY hk hS => ?_)
        have hP := hY
        refine lv_iconst (v := (-1)) hx hb dX12_apartWithout_17 (by decide) ?_
        refine lv_istore (lv' := [(4, .int (-1)), (0, .ref (b + 0)), (1, .int v1), (2, .int v2), (3, .int v3)]) hx hb dX12_apartWithout_18 hl (by decide) rfl (fun ls hl => ?_)
        refine lv_iconst (v := 0) hx hb dX12_apartWithout_20 (by decide) ?_
        refine lv_istore (lv' := [(5, .int 0), (4, .int (-1)), (0, .ref (b + 0)), (1, .int v1), (2, .int v2), (3, .int v3)]) hx hb dX12_apartWithout_21 hl (by decide) rfl (fun ls hl => ?_)
        refine lv_iconst (v := 0) hx hb dX12_apartWithout_23 (by decide) ?_
        refine lv_istore (lv' := [(6, .int 0), (5, .int 0), (4, .int (-1)), (0, .ref (b + 0)), (1, .int v1), (2, .int v2), (3, .int v3)]) hx hb dX12_apartWithout_24 hl (by decide) rfl (fun ls hl => ?_)
        exact L26 _ ih n _ _ _ _ _ _ _ _ _ _ _ h hP hS (lv_sub hl [3, 4, 5, 6, 2, 1, 0] rfl)
  unfold ms_apartWithout at h
  refine lv_iconst (v := (-1)) hx hb dX12_apartWithout_0 (by decide) ?_
  refine lv_istore_n (lv' := [(2, .int (-1)), (0, .ref (b + 0)), (1, .int p1)]) hx hb dX12_apartWithout_1 rfl hl (by decide) rfl (fun ls hl => ?_)
  refine lv_iconst (v := 0) hx hb dX12_apartWithout_2 (by decide) ?_
  refine lv_istore_n (lv' := [(3, .int 0), (2, .int (-1)), (0, .ref (b + 0)), (1, .int p1)]) hx hb dX12_apartWithout_3 rfl hl (by decide) rfl (fun ls hl => ?_)
  exact L4 n _ _ _ _ _ _ _ _ h hP hS (lv_sub hl [2, 3, 1, 0] rfl)
theorem dX12_close_0 : decode cX12_close 0 = .ok (.aload_n 0, 1) := dc_42 (show ((cX12_close.data.toList.drop 0).take 1).map UInt8.toNat = [42] by decide +kernel)
theorem dX12_close_1 : decode cX12_close 1 = .ok (.iload_n 1, 1) := dc_27 (show ((cX12_close.data.toList.drop 1).take 1).map UInt8.toNat = [27] by decide +kernel)
theorem dX12_close_2 : decode cX12_close 2 = .ok (.invokevirtual 319, 3) := dc_182 (show ((cX12_close.data.toList.drop 2).take 3).map UInt8.toNat = [182, 1, 63] by decide +kernel) rfl
theorem dX12_close_5 : decode cX12_close 5 = .ok (.ifCond .eq 11, 3) := dc_153 (show ((cX12_close.data.toList.drop 5).take 3).map UInt8.toNat = [153, 0, 11] by decide +kernel) rfl
theorem dX12_close_16 : decode cX12_close 16 = .ok (.iconst (-1), 1) := dc_2 (show ((cX12_close.data.toList.drop 16).take 1).map UInt8.toNat = [2] by decide +kernel)
theorem dX12_close_17 : decode cX12_close 17 = .ok (.ireturn, 1) := dc_172 (show ((cX12_close.data.toList.drop 17).take 1).map UInt8.toNat = [172] by decide +kernel)
theorem dX12_close_8 : decode cX12_close 8 = .ok (.aload_n 0, 1) := dc_42 (show ((cX12_close.data.toList.drop 8).take 1).map UInt8.toNat = [42] by decide +kernel)
theorem dX12_close_9 : decode cX12_close 9 = .ok (.invokevirtual 199, 3) := dc_182 (show ((cX12_close.data.toList.drop 9).take 3).map UInt8.toNat = [182, 0, 199] by decide +kernel) rfl
theorem dX12_close_12 : decode cX12_close 12 = .ok (.iconst 2, 1) := dc_5 (show ((cX12_close.data.toList.drop 12).take 1).map UInt8.toNat = [5] by decide +kernel)
theorem dX12_close_13 : decode cX12_close 13 = .ok (.if_icmp .ge 5, 3) := dc_162 (show ((cX12_close.data.toList.drop 13).take 3).map UInt8.toNat = [162, 0, 5] by decide +kernel) rfl
theorem dX12_close_18 : decode cX12_close 18 = .ok (.aload_n 0, 1) := dc_42 (show ((cX12_close.data.toList.drop 18).take 1).map UInt8.toNat = [42] by decide +kernel)
theorem dX12_close_19 : decode cX12_close 19 = .ok (.invokevirtual 306, 3) := dc_182 (show ((cX12_close.data.toList.drop 19).take 3).map UInt8.toNat = [182, 1, 50] by decide +kernel) rfl
theorem dX12_close_22 : decode cX12_close 22 = .ok (.iconst (-1), 1) := dc_2 (show ((cX12_close.data.toList.drop 22).take 1).map UInt8.toNat = [2] by decide +kernel)
theorem dX12_close_23 : decode cX12_close 23 = .ok (.istore_n 3, 1) := dc_62 (show ((cX12_close.data.toList.drop 23).take 1).map UInt8.toNat = [62] by decide +kernel)
theorem dX12_close_24 : decode cX12_close 24 = .ok (.iconst 0, 1) := dc_3 (show ((cX12_close.data.toList.drop 24).take 1).map UInt8.toNat = [3] by decide +kernel)
theorem dX12_close_25 : decode cX12_close 25 = .ok (.istore 4, 2) := dc_54 (show ((cX12_close.data.toList.drop 25).take 2).map UInt8.toNat = [54, 4] by decide +kernel) rfl
theorem dX12_close_27 : decode cX12_close 27 = .ok (.iconst 0, 1) := dc_3 (show ((cX12_close.data.toList.drop 27).take 1).map UInt8.toNat = [3] by decide +kernel)
theorem dX12_close_28 : decode cX12_close 28 = .ok (.istore 5, 2) := dc_54 (show ((cX12_close.data.toList.drop 28).take 2).map UInt8.toNat = [54, 5] by decide +kernel) rfl
theorem dX12_close_30 : decode cX12_close 30 = .ok (.iload 5, 2) := dc_21 (show ((cX12_close.data.toList.drop 30).take 2).map UInt8.toNat = [21, 5] by decide +kernel) rfl
theorem dX12_close_32 : decode cX12_close 32 = .ok (.aload_n 0, 1) := dc_42 (show ((cX12_close.data.toList.drop 32).take 1).map UInt8.toNat = [42] by decide +kernel)
theorem dX12_close_33 : decode cX12_close 33 = .ok (.invokevirtual 199, 3) := dc_182 (show ((cX12_close.data.toList.drop 33).take 3).map UInt8.toNat = [182, 0, 199] by decide +kernel) rfl
theorem dX12_close_36 : decode cX12_close 36 = .ok (.if_icmp .ge 38, 3) := dc_162 (show ((cX12_close.data.toList.drop 36).take 3).map UInt8.toNat = [162, 0, 38] by decide +kernel) rfl
theorem dX12_close_74 : decode cX12_close 74 = .ok (.iload_n 2, 1) := dc_28 (show ((cX12_close.data.toList.drop 74).take 1).map UInt8.toNat = [28] by decide +kernel)
theorem dX12_close_75 : decode cX12_close 75 = .ok (.ifCond .eq 8, 3) := dc_153 (show ((cX12_close.data.toList.drop 75).take 3).map UInt8.toNat = [153, 0, 8] by decide +kernel) rfl
theorem dX12_close_83 : decode cX12_close 83 = .ok (.iload_n 3, 1) := dc_29 (show ((cX12_close.data.toList.drop 83).take 1).map UInt8.toNat = [29] by decide +kernel)
theorem dX12_close_84 : decode cX12_close 84 = .ok (.ireturn, 1) := dc_172 (show ((cX12_close.data.toList.drop 84).take 1).map UInt8.toNat = [172] by decide +kernel)
theorem dX12_close_78 : decode cX12_close 78 = .ok (.iload 4, 2) := dc_21 (show ((cX12_close.data.toList.drop 78).take 2).map UInt8.toNat = [21, 4] by decide +kernel) rfl
theorem dX12_close_80 : decode cX12_close 80 = .ok (.goto 4, 3) := dc_167 (show ((cX12_close.data.toList.drop 80).take 3).map UInt8.toNat = [167, 0, 4] by decide +kernel) rfl
theorem dX12_close_39 : decode cX12_close 39 = .ok (.aload_n 0, 1) := dc_42 (show ((cX12_close.data.toList.drop 39).take 1).map UInt8.toNat = [42] by decide +kernel)
theorem dX12_close_40 : decode cX12_close 40 = .ok (.iload 5, 2) := dc_21 (show ((cX12_close.data.toList.drop 40).take 2).map UInt8.toNat = [21, 5] by decide +kernel) rfl
theorem dX12_close_42 : decode cX12_close 42 = .ok (.invokevirtual 403, 3) := dc_182 (show ((cX12_close.data.toList.drop 42).take 3).map UInt8.toNat = [182, 1, 147] by decide +kernel) rfl
theorem w_1692 : (Cond.code ({ cls := "GooseBorderModel", name := "apartWithout", desc := "(I)I" } : MethodName) prog_14_method_110_code (9 : Nat) (Option.some FieldType.int)) ∈ gb_wA := gb_t8 12 rfl rfl
theorem w_1689 : (Cond.methodLink "GooseBorderModel" (403 : Nat) ({ cls := "GooseBorderModel", name := "apartWithout", desc := "(I)I" } : MethodName)) ∈ gb_wA := gb_t8 9 rfl rfl
theorem w_1691 : (Cond.instanceMethod ({ cls := "GooseBorderModel", name := "apartWithout", desc := "(I)I" } : MethodName)) ∈ gb_wA := gb_t8 11 rfl rfl
theorem s_7_4 : Cond.selects "GooseBorderModel" (⟨"GooseBorderModel", "apartWithout", "(I)I"⟩ : MethodName) (⟨"GooseBorderModel", "apartWithout", "(I)I"⟩ : MethodName) ∈ gb_wA := gb_s7 4 rfl rfl
theorem dX12_close_45 : decode cX12_close 45 = .ok (.istore 6, 2) := dc_54 (show ((cX12_close.data.toList.drop 45).take 2).map UInt8.toNat = [54, 6] by decide +kernel) rfl
theorem dX12_close_47 : decode cX12_close 47 = .ok (.iload_n 3, 1) := dc_29 (show ((cX12_close.data.toList.drop 47).take 1).map UInt8.toNat = [29] by decide +kernel)
theorem dX12_close_48 : decode cX12_close 48 = .ok (.ifCond .lt 13, 3) := dc_155 (show ((cX12_close.data.toList.drop 48).take 3).map UInt8.toNat = [155, 0, 13] by decide +kernel) rfl
theorem dX12_close_61 : decode cX12_close 61 = .ok (.iload 5, 2) := dc_21 (show ((cX12_close.data.toList.drop 61).take 2).map UInt8.toNat = [21, 5] by decide +kernel) rfl
theorem dX12_close_63 : decode cX12_close 63 = .ok (.istore_n 3, 1) := dc_62 (show ((cX12_close.data.toList.drop 63).take 1).map UInt8.toNat = [62] by decide +kernel)
theorem dX12_close_64 : decode cX12_close 64 = .ok (.iload 6, 2) := dc_21 (show ((cX12_close.data.toList.drop 64).take 2).map UInt8.toNat = [21, 6] by decide +kernel) rfl
theorem dX12_close_66 : decode cX12_close 66 = .ok (.istore 4, 2) := dc_54 (show ((cX12_close.data.toList.drop 66).take 2).map UInt8.toNat = [54, 4] by decide +kernel) rfl
theorem dX12_close_68 : decode cX12_close 68 = .ok (.iinc 5 1, 3) := dc_132 (show ((cX12_close.data.toList.drop 68).take 3).map UInt8.toNat = [132, 5, 1] by decide +kernel) rfl
theorem dX12_close_71 : decode cX12_close 71 = .ok (.goto (-41), 3) := dc_167 (show ((cX12_close.data.toList.drop 71).take 3).map UInt8.toNat = [167, 255, 215] by decide +kernel) rfl
theorem dX12_close_51 : decode cX12_close 51 = .ok (.iload 6, 2) := dc_21 (show ((cX12_close.data.toList.drop 51).take 2).map UInt8.toNat = [21, 6] by decide +kernel) rfl
theorem dX12_close_53 : decode cX12_close 53 = .ok (.iload 4, 2) := dc_21 (show ((cX12_close.data.toList.drop 53).take 2).map UInt8.toNat = [21, 4] by decide +kernel) rfl
theorem dX12_close_55 : decode cX12_close 55 = .ok (.if_icmp .lt 6, 3) := dc_161 (show ((cX12_close.data.toList.drop 55).take 3).map UInt8.toNat = [161, 0, 6] by decide +kernel) rfl
theorem dX12_close_58 : decode cX12_close 58 = .ok (.goto 10, 3) := dc_167 (show ((cX12_close.data.toList.drop 58).take 3).map UInt8.toNat = [167, 0, 10] by decide +kernel) rfl
def ms_close_30 (n : Nat) : Nat → gb_F → Int64 → Int32 → Int32 → Int32 → Int32 → gb_MR Int32
  | 0, _, _, _, _, _, _ => none
  | mm + 1, f, w, v2, v3, v4, v5 => gb_bd (ms_paths n f w) (fun f_18 wl_19 r_20 => (if r_20 ≤ v5 then (if v2 = 0 then some (f_18, wl_19, v3) else some (f_18, wl_19, v4)) else gb_bd (ms_apartWithout n f_18 wl_19 v5) (fun f_25 wl_26 r_27 => (if v3 < 0 then gb_lt (v5 + 1) (fun x_31 => ms_close_30 n mm f_25 wl_26 v2 v5 r_27 x_31) else (if r_27 < v4 then gb_lt (v5 + 1) (fun x_33 => ms_close_30 n mm f_25 wl_26 v2 v5 r_27 x_33) else gb_lt (v5 + 1) (fun x_34 => ms_close_30 n mm f_25 wl_26 v2 v3 v4 x_34))))))
def ms_close (n : Nat) (f : gb_F) (w : Int64) (p1 : Int32) (p2 : Int32) : gb_MR Int32 := gb_bd (ms_canMarch n f w p1) (fun f_1 wl_2 r_3 => (if r_3 = 0 then some (f_1, wl_2, (-1)) else gb_bd (ms_paths n f_1 wl_2) (fun f_7 wl_8 r_9 => (if (2 : Int32) ≤ r_9 then gb_bd (ms_measures n f_7 wl_8) (fun f_13 wl_14 _ => ms_close_30 n n f_13 wl_14 p2 (-1) 0 0) else some (f_7, wl_8, (-1))))))
set_option maxHeartbeats 8000000 in
set_option maxRecDepth 100000 in
theorem mc_close (l : Launch) (D : va_G) (cT : Nat → ClassId) (tt : Nat → Nat) (b1 b : Nat) (hb1 : b1 ≤ b) (n : Nat) (f : gb_F) (w : Int64) (p1 : Int32) (p2 : Int32) (fE : gb_F) (wE : Int64) (rE : Int32) (h : ms_close n f w p1 p2 = some (fE, wE, rE)) : Met l yX12_close (.code yX12_close cX12_close 7 (some FieldType.int) :: gb_wA) ({ frames := 5, cells := 0, slots := 0, locals := 114 }) (gb_Pc D cT tt b1 [.ref (b + 0), .int p1, .int p2] (fun h => va_P D vwCl (gb_wl b (gb_MW cT b f w)) h)) (gb_Qi (fun r h => r = rE ∧ va_P D vwCl (gb_wl b (gb_MW cT b fE wE)) h) (gb_fr b 22)) 0 0 (gb_fr b 22) := by
  refine Met.ofW (cc := cX12_close) (maxL := 7) (ret := (some FieldType.int)) (by decide) rfl ?_
  intro p e s m args below meth c s₁ B hml hv
  obtain ⟨rfl, hSt, hP⟩ := hv
  have hx := B.exec
  have hb := B.bytes
  have hr := B.returns
  have hts := atoms_spec (ws := .code yX12_close cX12_close 7 (some FieldType.int) :: gb_wA) B.pre
  have hq : ∀ w ∈ gb_wA, w.before _ s = true := fun w h => hts w (List.mem_cons_of_mem _ h)
  have hown : s.vm.findClass RX12 = some m.cls := findClass_of_methodNamed B.named
  have hlocks := B.notSynchronized
  clear B hts
  have hK := hSt.1
  have hS : va_S (gb_fr b 22) s.heap s.heap [] := va_S.rf
  have hl := lv_entry ([.ref (b + 0), .int p1, .int p2]) (n := 7) (Nat.le_of_ble_eq_true rfl)
  rw [lg_entry_eq]
  generalize (lg_sl ([.ref (b + 0), .int p1, .int p2]) ++ List.replicate (7 - (lg_sl ([.ref (b + 0), .int p1, .int p2])).length) Slot.unset).toArray = ls at hl ⊢
  replace hl : lv_has ls 7 [(0, .ref (b + 0)), (1, .int p1), (2, .int p2)] := hl
  have L30 : ∀ (mm : Nat) (f : gb_F) (w : Int64) (v2 : Int32) (v3 : Int32) (v4 : Int32) (v5 : Int32) (H : Heap) (locs : List Loc) (ls : Array Slot), ms_close_30 n mm f w v2 v3 v4 v5 = some (fE, wE, rE) → va_P D vwCl (gb_wl b (gb_MW cT b f w)) H → va_S (gb_fr b 22) s.heap H locs → lv_has ls 7 [(0, .ref (b + 0)), (2, .int v2), (3, .int v3), (4, .int v4), (5, .int v5)] → W p l e (headSpec (.code yX12_close cX12_close 7 (some FieldType.int) :: gb_wA) ({ frames := 5, cells := 0, slots := 0, locals := 114 })).room s m ([.ref (b + 0), .int p1, .int p2]).toArray below meth c H locs 0 0 (MQ below (gb_Qi (fun r h => r = rE ∧ va_P D vwCl (gb_wl b (gb_MW cT b fE wE)) h) (gb_fr b 22)) ([.ref (b + 0), .int p1, .int p2]).toArray s 0 0 (gb_fr b 22)) (F0 m 30 ls []) := by
    clear h hP hS hl ls f w
    intro mm
    induction mm with
    | zero =>
      intro f w v2 v3 v4 v5 H locs ls h
      cases h
    | succ mm ih =>
      intro f w v2 v3 v4 v5 H locs ls h hP hS hl
      rw [ms_close_30] at h
      refine lv_iload hx hb dX12_close_30 (lv_at hl 4 rfl) ?_
      refine lv_aload_n hx hb dX12_close_32 rfl (lv_at hl 0 rfl) ?_
      obtain ⟨f_18, wl_19, r_20, z_21, h⟩ := gb_bd_s h
      refine gb_calli (va_runV (C := RX12) (As := []) (rest := [.int v5]) ⟨hx, hb, hml, hown, hq⟩ (mc_paths l D cT tt b1 b hb1 n f w f_18 wl_19 r_20 z_21) (cwV 0 hq (gb_gV w_1384 w_1386 s_4_4 w_14 w_1387) rfl rfl rfl (by decide +kernel) ⟨Nat.le_of_ble_eq_true rfl, Nat.le_of_ble_eq_true rfl⟩) (gb_preV (r := (RX12, TX12, 44)) (ci := 10) (q0 := 0) hSt hP rfl (gb_at b rfl) hS (fun q h => Nat.le_trans hb1 h.1) hP) rfl rfl hl.1 rfl (lv_room (Nat.le_of_ble_eq_true rfl)) dX12_close_33 ⟨Nat.le_of_ble_eq_true rfl, Nat.le_of_ble_eq_true rfl⟩) hS (fun _ h => h) (fun _ h => h) (fun q_22 H locs hY hk hS => ?_)
      obtain ⟨hq_22, hP⟩ := hY
      replace hq_22 := hq_22.symm
      subst hq_22
      refine lv_icmp_ge (tgt := 74) hx hb dX12_close_36 (by decide) (fun c_23 => ?_) (fun c_23 => ?_)
      · rw [if_pos c_23] at h
        refine lv_iload_n hx hb dX12_close_74 rfl (lv_at hl 1 rfl) ?_
        refine lv_if_eq (tgt := 83) hx hb dX12_close_75 (by decide) (fun c_24 => ?_) (fun c_24 => ?_)
        · rw [if_pos c_24] at h
          refine lv_iload_n hx hb dX12_close_83 rfl (lv_at hl 2 rfl) ?_
          obtain ⟨e1, e2, e3⟩ := gb_eq3 h
          exact W.iret (v := v3) hx hb hr (fun t ht hW => gb_ri ht ⟨e3, by rw [← e1, ← e2]; exact hP⟩ hS) hS.2.2 dX12_close_84
        · rw [if_neg c_24] at h
          refine lv_iload hx hb dX12_close_78 (lv_at hl 3 rfl) ?_
          refine lv_goto (tgt := 84) hx hb dX12_close_80 (by decide) ?_
          obtain ⟨e1, e2, e3⟩ := gb_eq3 h
          exact W.iret (v := v4) hx hb hr (fun t ht hW => gb_ri ht ⟨e3, by rw [← e1, ← e2]; exact hP⟩ hS) hS.2.2 dX12_close_84
      · rw [if_neg c_23] at h
        refine lv_aload_n hx hb dX12_close_39 rfl (lv_at hl 0 rfl) ?_
        refine lv_iload hx hb dX12_close_40 (lv_at hl 4 rfl) ?_
        obtain ⟨f_25, wl_26, r_27, z_28, h⟩ := gb_bd_s h
        refine gb_calli (va_runV (C := RX12) (As := [.int v5]) (rest := []) ⟨hx, hb, hml, hown, hq⟩ (mc_apartWithout l D cT tt b1 b hb1 n f_18 wl_19 v5 f_25 wl_26 r_27 z_28) (cwV 1 hq (gb_gV w_1689 w_1691 s_7_4 w_14 w_1692) rfl rfl rfl (by decide +kernel) ⟨Nat.le_of_ble_eq_true rfl, Nat.le_of_ble_eq_true rfl⟩) (gb_preV (r := (RX12, TX12, 44)) (ci := 10) (q0 := 0) hSt hP rfl (gb_at b rfl) hS (fun q h => Nat.le_trans hb1 h.1) hP) rfl rfl hl.1 rfl (lv_room (Nat.le_of_ble_eq_true rfl)) dX12_close_42 ⟨Nat.le_of_ble_eq_true rfl, Nat.le_of_ble_eq_true rfl⟩) hS (fun _ h => h) (fun _ h => h) (fun q_29 H locs hY hk hS => ?_)
        obtain ⟨hq_29, hP⟩ := hY
        replace hq_29 := hq_29.symm
        subst hq_29
        refine lv_istore (lv' := [(6, .int r_27), (0, .ref (b + 0)), (2, .int v2), (3, .int v3), (4, .int v4), (5, .int v5)]) hx hb dX12_close_45 hl (by decide) rfl (fun ls hl => ?_)
        refine lv_iload_n hx hb dX12_close_47 rfl (lv_at hl 3 rfl) ?_
        refine lv_if_lt (tgt := 61) hx hb dX12_close_48 (by decide) (fun c_30 => ?_) (fun c_30 => ?_)
        · rw [if_pos c_30] at h
          refine lv_iload hx hb dX12_close_61 (lv_at hl 5 rfl) ?_
          refine lv_istore_n (lv' := [(3, .int v5), (6, .int r_27), (0, .ref (b + 0)), (2, .int v2), (4, .int v4), (5, .int v5)]) hx hb dX12_close_63 rfl hl (by decide) rfl (fun ls hl => ?_)
          refine lv_iload hx hb dX12_close_64 (lv_at hl 1 rfl) ?_
          refine lv_istore (lv' := [(4, .int r_27), (3, .int v5), (6, .int r_27), (0, .ref (b + 0)), (2, .int v2), (5, .int v5)]) hx hb dX12_close_66 hl (by decide) rfl (fun ls hl => ?_)
          obtain ⟨x_31, ex_31⟩ : ∃ q, q = (v5 + 1) := ⟨_, rfl⟩
          replace h := gb_lt_s ex_31 h
          refine lv_iinc (v := x_31) (lv' := [(5, .int x_31), (4, .int r_27), (3, .int v5), (6, .int r_27), (0, .ref (b + 0)), (2, .int v2)]) hx hb dX12_close_68 hl (k := 5) rfl (by rw [ex_31]; rfl) (by decide) rfl (fun ls hl => ?_)
          refine lv_goto (tgt := 30) hx hb dX12_close_71 (by decide) ?_
          exact ih _ _ _ _ _ _ _ _ _ h hP hS (lv_sub hl [4, 5, 2, 1, 0] rfl)
        · rw [if_neg c_30] at h
          refine lv_iload hx hb dX12_close_51 (lv_at hl 0 rfl) ?_
          refine lv_iload hx hb dX12_close_53 (lv_at hl 4 rfl) ?_
          refine lv_icmp_lt (tgt := 61) hx hb dX12_close_55 (by decide) (fun c_32 => ?_) (fun c_32 => ?_)
          · rw [if_pos c_32] at h
            refine lv_iload hx hb dX12_close_61 (lv_at hl 5 rfl) ?_
            refine lv_istore_n (lv' := [(3, .int v5), (6, .int r_27), (0, .ref (b + 0)), (2, .int v2), (4, .int v4), (5, .int v5)]) hx hb dX12_close_63 rfl hl (by decide) rfl (fun ls hl => ?_)
            refine lv_iload hx hb dX12_close_64 (lv_at hl 1 rfl) ?_
            refine lv_istore (lv' := [(4, .int r_27), (3, .int v5), (6, .int r_27), (0, .ref (b + 0)), (2, .int v2), (5, .int v5)]) hx hb dX12_close_66 hl (by decide) rfl (fun ls hl => ?_)
            obtain ⟨x_33, ex_33⟩ : ∃ q, q = (v5 + 1) := ⟨_, rfl⟩
            replace h := gb_lt_s ex_33 h
            refine lv_iinc (v := x_33) (lv' := [(5, .int x_33), (4, .int r_27), (3, .int v5), (6, .int r_27), (0, .ref (b + 0)), (2, .int v2)]) hx hb dX12_close_68 hl (k := 5) rfl (by rw [ex_33]; rfl) (by decide) rfl (fun ls hl => ?_)
            refine lv_goto (tgt := 30) hx hb dX12_close_71 (by decide) ?_
            exact ih _ _ _ _ _ _ _ _ _ h hP hS (lv_sub hl [4, 5, 2, 1, 0] rfl)
          · rw [if_neg c_32] at h
            refine lv_goto (tgt := 68) hx hb dX12_close_58 (by decide) ?_
            obtain ⟨x_34, ex_34⟩ : ∃ q, q = (v5 + 1) := ⟨_, rfl⟩
            replace h := gb_lt_s ex_34 h
            refine lv_iinc (v := x_34) (lv' := [(5, .int x_34), (6, .int r_27), (0, .ref (b + 0)), (2, .int v2), (3, .int v3), (4, .int v4)]) hx hb dX12_close_68 hl (k := 5) rfl (by rw [ex_34]; rfl) (by decide) rfl (fun ls hl => ?_)
            refine lv_goto (tgt := 30) hx hb dX12_close_71 (by decide) ?_
            exact ih _ _ _ _ _ _ _ _ _ h hP hS (lv_sub hl [2, 3, 4, 5, 0] rfl)
  unfold ms_close at h
  refine lv_aload_n hx hb dX12_close_0 rfl (lv_at hl 0 rfl) ?_
  refine lv_iload_n hx hb dX12_close_1 rfl (lv_at hl 1 rfl) ?_
  obtain ⟨f_1, wl_2, r_3, z_4, h⟩ := gb_bd_s h
  refine gb_calli (va_runV (C := RX12) (As := [.int p1]) (rest := []) ⟨hx, hb, hml, hown, hq⟩ (mc_canMarch l D cT tt b1 b hb1 n f w p1 f_1 wl_2 r_3 z_4) (cwV 1 hq (gb_gV w_1520 w_1522 s_5_13 w_14 w_1523) rfl rfl rfl (by decide +kernel) ⟨Nat.le_of_ble_eq_true rfl, Nat.le_of_ble_eq_true rfl⟩) (gb_preV (r := (RX12, TX12, 44)) (ci := 10) (q0 := 0) hSt hP rfl (gb_at b rfl) hS (fun q h => Nat.le_trans hb1 h.1) hP) rfl rfl hl.1 rfl (lv_room (Nat.le_of_ble_eq_true rfl)) dX12_close_2 ⟨Nat.le_of_ble_eq_true rfl, Nat.le_of_ble_eq_true rfl⟩) hS (fun _ h => h) (fun _ h => h) (fun q_5 H locs hY hk hS => ?_)
  obtain ⟨hq_5, hP⟩ := hY
  replace hq_5 := hq_5.symm
  subst hq_5
  refine lv_if_eq (tgt := 16) hx hb dX12_close_5 (by decide) (fun c_6 => ?_) (fun c_6 => ?_)
  · rw [if_pos c_6] at h
    refine lv_iconst (v := (-1)) hx hb dX12_close_16 (by decide) ?_
    obtain ⟨e1, e2, e3⟩ := gb_eq3 h
    exact W.iret (v := (-1)) hx hb hr (fun t ht hW => gb_ri ht ⟨e3, by rw [← e1, ← e2]; exact hP⟩ hS) hS.2.2 dX12_close_17
  · rw [if_neg c_6] at h
    refine lv_aload_n hx hb dX12_close_8 rfl (lv_at hl 0 rfl) ?_
    obtain ⟨f_7, wl_8, r_9, z_10, h⟩ := gb_bd_s h
    refine gb_calli (va_runV (C := RX12) (As := []) (rest := []) ⟨hx, hb, hml, hown, hq⟩ (mc_paths l D cT tt b1 b hb1 n f_1 wl_2 f_7 wl_8 r_9 z_10) (cwV 0 hq (gb_gV w_1384 w_1386 s_4_4 w_14 w_1387) rfl rfl rfl (by decide +kernel) ⟨Nat.le_of_ble_eq_true rfl, Nat.le_of_ble_eq_true rfl⟩) (gb_preV (r := (RX12, TX12, 44)) (ci := 10) (q0 := 0) hSt hP rfl (gb_at b rfl) hS (fun q h => Nat.le_trans hb1 h.1) hP) rfl rfl hl.1 rfl (lv_room (Nat.le_of_ble_eq_true rfl)) dX12_close_9 ⟨Nat.le_of_ble_eq_true rfl, Nat.le_of_ble_eq_true rfl⟩) hS (fun _ h => h) (fun _ h => h) (fun q_11 H locs hY hk hS => ?_)
    obtain ⟨hq_11, hP⟩ := hY
    replace hq_11 := hq_11.symm
    subst hq_11
    refine lv_iconst (v := 2) hx hb dX12_close_12 (by decide) ?_
    refine lv_icmp_ge (tgt := 18) hx hb dX12_close_13 (by decide) (fun c_12 => ?_) (fun c_12 => ?_)
    · rw [if_pos c_12] at h
      refine lv_aload_n hx hb dX12_close_18 rfl (lv_at hl 0 rfl) ?_
      obtain ⟨f_13, wl_14, r_15, z_16, h⟩ := gb_bd_s h
      refine gb_callv (va_runV (C := RX12) (As := []) (rest := []) ⟨hx, hb, hml, hown, hq⟩ (mc_measures l D cT tt b1 b hb1 n f_7 wl_8 f_13 wl_14 r_15 z_16) (cwV 0 hq (gb_gV w_1528 w_1530 s_5_15 w_14 w_1531) rfl rfl rfl (by decide +kernel) ⟨Nat.le_of_ble_eq_true rfl, Nat.le_of_ble_eq_true rfl⟩) (gb_preV (r := (RX12, TX12, 44)) (ci := 10) (q0 := 0) hSt hP rfl (gb_at b rfl) hS (fun q h => Nat.le_trans hb1 h.1) hP) rfl rfl hl.1 rfl (lv_room (Nat.le_of_ble_eq_true rfl)) dX12_close_19 ⟨Nat.le_of_ble_eq_true rfl, Nat.le_of_ble_eq_true rfl⟩) hS (fun _ h => h) (fun _ h => h) (fun H locs hY hk hS => ?_)
      have hP := hY
      refine lv_iconst (v := (-1)) hx hb dX12_close_22 (by decide) ?_
      refine lv_istore_n (lv' := [(3, .int (-1)), (0, .ref (b + 0)), (1, .int p1), (2, .int p2)]) hx hb dX12_close_23 rfl hl (by decide) rfl (fun ls hl => ?_)
      refine lv_iconst (v := 0) hx hb dX12_close_24 (by decide) ?_
      refine lv_istore (lv' := [(4, .int 0), (3, .int (-1)), (0, .ref (b + 0)), (1, .int p1), (2, .int p2)]) hx hb dX12_close_25 hl (by decide) rfl (fun ls hl => ?_)
      refine lv_iconst (v := 0) hx hb dX12_close_27 (by decide) ?_
      refine lv_istore (lv' := [(5, .int 0), (4, .int 0), (3, .int (-1)), (0, .ref (b + 0)), (1, .int p1), (2, .int p2)]) hx hb dX12_close_28 hl (by decide) rfl (fun ls hl => ?_)
      exact L30 n _ _ _ _ _ _ _ _ _ h hP hS (lv_sub hl [3, 5, 2, 1, 0] rfl)
    · rw [if_neg c_12] at h
      refine lv_iconst (v := (-1)) hx hb dX12_close_16 (by decide) ?_
      obtain ⟨e1, e2, e3⟩ := gb_eq3 h
      exact W.iret (v := (-1)) hx hb hr (fun t ht hW => gb_ri ht ⟨e3, by rw [← e1, ← e2]; exact hP⟩ hS) hS.2.2 dX12_close_17
theorem dX12_near_0 : decode cX12_near 0 = .ok (.aload_n 0, 1) := dc_42 (show ((cX12_near.data.toList.drop 0).take 1).map UInt8.toNat = [42] by decide +kernel)
theorem dX12_near_1 : decode cX12_near 1 = .ok (.iload_n 1, 1) := dc_27 (show ((cX12_near.data.toList.drop 1).take 1).map UInt8.toNat = [27] by decide +kernel)
theorem dX12_near_2 : decode cX12_near 2 = .ok (.iload_n 2, 1) := dc_28 (show ((cX12_near.data.toList.drop 2).take 1).map UInt8.toNat = [28] by decide +kernel)
theorem dX12_near_3 : decode cX12_near 3 = .ok (.invokevirtual 373, 3) := dc_182 (show ((cX12_near.data.toList.drop 3).take 3).map UInt8.toNat = [182, 1, 117] by decide +kernel) rfl
theorem dX12_near_6 : decode cX12_near 6 = .ok (.ifCond .eq 35, 3) := dc_153 (show ((cX12_near.data.toList.drop 6).take 3).map UInt8.toNat = [153, 0, 35] by decide +kernel) rfl
theorem dX12_near_41 : decode cX12_near 41 = .ok (.iconst (-1), 1) := dc_2 (show ((cX12_near.data.toList.drop 41).take 1).map UInt8.toNat = [2] by decide +kernel)
theorem dX12_near_42 : decode cX12_near 42 = .ok (.ireturn, 1) := dc_172 (show ((cX12_near.data.toList.drop 42).take 1).map UInt8.toNat = [172] by decide +kernel)
theorem dX12_near_9 : decode cX12_near 9 = .ok (.iload_n 3, 1) := dc_29 (show ((cX12_near.data.toList.drop 9).take 1).map UInt8.toNat = [29] by decide +kernel)
theorem dX12_near_10 : decode cX12_near 10 = .ok (.iconst 0, 1) := dc_3 (show ((cX12_near.data.toList.drop 10).take 1).map UInt8.toNat = [3] by decide +kernel)
theorem dX12_near_11 : decode cX12_near 11 = .ok (.aload_n 0, 1) := dc_42 (show ((cX12_near.data.toList.drop 11).take 1).map UInt8.toNat = [42] by decide +kernel)
theorem dX12_near_12 : decode cX12_near 12 = .ok (.getfield 7, 3) := dc_180 (show ((cX12_near.data.toList.drop 12).take 3).map UInt8.toNat = [180, 0, 7] by decide +kernel) rfl
theorem dX12_near_15 : decode cX12_near 15 = .ok (.aload_n 0, 1) := dc_42 (show ((cX12_near.data.toList.drop 15).take 1).map UInt8.toNat = [42] by decide +kernel)
theorem dX12_near_16 : decode cX12_near 16 = .ok (.getfield 341, 3) := dc_180 (show ((cX12_near.data.toList.drop 16).take 3).map UInt8.toNat = [180, 1, 85] by decide +kernel) rfl
theorem dX12_near_19 : decode cX12_near 19 = .ok (.iaload, 1) := dc_46 (show ((cX12_near.data.toList.drop 19).take 1).map UInt8.toNat = [46] by decide +kernel)
theorem dX12_near_20 : decode cX12_near 20 = .ok (.iconst 1, 1) := dc_4 (show ((cX12_near.data.toList.drop 20).take 1).map UInt8.toNat = [4] by decide +kernel)
theorem dX12_near_21 : decode cX12_near 21 = .ok (.isub, 1) := dc_100 (show ((cX12_near.data.toList.drop 21).take 1).map UInt8.toNat = [100] by decide +kernel)
theorem dX12_near_22 : decode cX12_near 22 = .ok (.invokestatic 129, 3) := dc_184 (show ((cX12_near.data.toList.drop 22).take 3).map UInt8.toNat = [184, 0, 129] by decide +kernel) rfl
theorem dX12_near_25 : decode cX12_near 25 = .ok (.ifCond .eq 16, 3) := dc_153 (show ((cX12_near.data.toList.drop 25).take 3).map UInt8.toNat = [153, 0, 16] by decide +kernel) rfl
theorem dX12_near_28 : decode cX12_near 28 = .ok (.aload_n 0, 1) := dc_42 (show ((cX12_near.data.toList.drop 28).take 1).map UInt8.toNat = [42] by decide +kernel)
theorem dX12_near_29 : decode cX12_near 29 = .ok (.aload_n 0, 1) := dc_42 (show ((cX12_near.data.toList.drop 29).take 1).map UInt8.toNat = [42] by decide +kernel)
theorem dX12_near_30 : decode cX12_near 30 = .ok (.iload_n 3, 1) := dc_29 (show ((cX12_near.data.toList.drop 30).take 1).map UInt8.toNat = [29] by decide +kernel)
theorem dX12_near_31 : decode cX12_near 31 = .ok (.iconst 0, 1) := dc_3 (show ((cX12_near.data.toList.drop 31).take 1).map UInt8.toNat = [3] by decide +kernel)
theorem dX12_near_32 : decode cX12_near 32 = .ok (.invokevirtual 344, 3) := dc_182 (show ((cX12_near.data.toList.drop 32).take 3).map UInt8.toNat = [182, 1, 88] by decide +kernel) rfl
theorem dX12_near_35 : decode cX12_near 35 = .ok (.invokevirtual 208, 3) := dc_182 (show ((cX12_near.data.toList.drop 35).take 3).map UInt8.toNat = [182, 0, 208] by decide +kernel) rfl
theorem dX12_near_38 : decode cX12_near 38 = .ok (.ifCond .ne 5, 3) := dc_154 (show ((cX12_near.data.toList.drop 38).take 3).map UInt8.toNat = [154, 0, 5] by decide +kernel) rfl
theorem dX12_near_43 : decode cX12_near 43 = .ok (.iconst (-1), 1) := dc_2 (show ((cX12_near.data.toList.drop 43).take 1).map UInt8.toNat = [2] by decide +kernel)
theorem dX12_near_44 : decode cX12_near 44 = .ok (.istore 4, 2) := dc_54 (show ((cX12_near.data.toList.drop 44).take 2).map UInt8.toNat = [54, 4] by decide +kernel) rfl
theorem dX12_near_46 : decode cX12_near 46 = .ok (.iconst 0, 1) := dc_3 (show ((cX12_near.data.toList.drop 46).take 1).map UInt8.toNat = [3] by decide +kernel)
theorem dX12_near_47 : decode cX12_near 47 = .ok (.istore 5, 2) := dc_54 (show ((cX12_near.data.toList.drop 47).take 2).map UInt8.toNat = [54, 5] by decide +kernel) rfl
theorem dX12_near_49 : decode cX12_near 49 = .ok (.iconst 0, 1) := dc_3 (show ((cX12_near.data.toList.drop 49).take 1).map UInt8.toNat = [3] by decide +kernel)
theorem dX12_near_50 : decode cX12_near 50 = .ok (.istore 6, 2) := dc_54 (show ((cX12_near.data.toList.drop 50).take 2).map UInt8.toNat = [54, 6] by decide +kernel) rfl
theorem dX12_near_52 : decode cX12_near 52 = .ok (.iload 6, 2) := dc_21 (show ((cX12_near.data.toList.drop 52).take 2).map UInt8.toNat = [21, 6] by decide +kernel) rfl
theorem dX12_near_54 : decode cX12_near 54 = .ok (.iconst 1, 1) := dc_4 (show ((cX12_near.data.toList.drop 54).take 1).map UInt8.toNat = [4] by decide +kernel)
theorem dX12_near_55 : decode cX12_near 55 = .ok (.aload_n 0, 1) := dc_42 (show ((cX12_near.data.toList.drop 55).take 1).map UInt8.toNat = [42] by decide +kernel)
theorem dX12_near_56 : decode cX12_near 56 = .ok (.invokevirtual 202, 3) := dc_182 (show ((cX12_near.data.toList.drop 56).take 3).map UInt8.toNat = [182, 0, 202] by decide +kernel) rfl
theorem dX12_near_59 : decode cX12_near 59 = .ok (.ishl, 1) := dc_120 (show ((cX12_near.data.toList.drop 59).take 1).map UInt8.toNat = [120] by decide +kernel)
theorem dX12_near_60 : decode cX12_near 60 = .ok (.if_icmp .ge 106, 3) := dc_162 (show ((cX12_near.data.toList.drop 60).take 3).map UInt8.toNat = [162, 0, 106] by decide +kernel) rfl
theorem dX12_near_166 : decode cX12_near 166 = .ok (.iload 4, 2) := dc_21 (show ((cX12_near.data.toList.drop 166).take 2).map UInt8.toNat = [21, 4] by decide +kernel) rfl
theorem dX12_near_168 : decode cX12_near 168 = .ok (.ireturn, 1) := dc_172 (show ((cX12_near.data.toList.drop 168).take 1).map UInt8.toNat = [172] by decide +kernel)
theorem dX12_near_63 : decode cX12_near 63 = .ok (.aload_n 0, 1) := dc_42 (show ((cX12_near.data.toList.drop 63).take 1).map UInt8.toNat = [42] by decide +kernel)
theorem dX12_near_64 : decode cX12_near 64 = .ok (.iload_n 3, 1) := dc_29 (show ((cX12_near.data.toList.drop 64).take 1).map UInt8.toNat = [29] by decide +kernel)
theorem dX12_near_65 : decode cX12_near 65 = .ok (.iconst 1, 1) := dc_4 (show ((cX12_near.data.toList.drop 65).take 1).map UInt8.toNat = [4] by decide +kernel)
theorem dX12_near_66 : decode cX12_near 66 = .ok (.invokevirtual 344, 3) := dc_182 (show ((cX12_near.data.toList.drop 66).take 3).map UInt8.toNat = [182, 1, 88] by decide +kernel) rfl
theorem dX12_near_69 : decode cX12_near 69 = .ok (.ineg, 1) := dc_116 (show ((cX12_near.data.toList.drop 69).take 1).map UInt8.toNat = [116] by decide +kernel)
theorem dX12_near_70 : decode cX12_near 70 = .ok (.istore 7, 2) := dc_54 (show ((cX12_near.data.toList.drop 70).take 2).map UInt8.toNat = [54, 7] by decide +kernel) rfl
theorem dX12_near_72 : decode cX12_near 72 = .ok (.iconst 0, 1) := dc_3 (show ((cX12_near.data.toList.drop 72).take 1).map UInt8.toNat = [3] by decide +kernel)
theorem dX12_near_73 : decode cX12_near 73 = .ok (.istore 8, 2) := dc_54 (show ((cX12_near.data.toList.drop 73).take 2).map UInt8.toNat = [54, 8] by decide +kernel) rfl
theorem dX12_near_75 : decode cX12_near 75 = .ok (.iload 8, 2) := dc_21 (show ((cX12_near.data.toList.drop 75).take 2).map UInt8.toNat = [21, 8] by decide +kernel) rfl
theorem dX12_near_77 : decode cX12_near 77 = .ok (.aload_n 0, 1) := dc_42 (show ((cX12_near.data.toList.drop 77).take 1).map UInt8.toNat = [42] by decide +kernel)
theorem dX12_near_78 : decode cX12_near 78 = .ok (.invokevirtual 202, 3) := dc_182 (show ((cX12_near.data.toList.drop 78).take 3).map UInt8.toNat = [182, 0, 202] by decide +kernel) rfl
theorem dX12_near_81 : decode cX12_near 81 = .ok (.if_icmp .ge 41, 3) := dc_162 (show ((cX12_near.data.toList.drop 81).take 3).map UInt8.toNat = [162, 0, 41] by decide +kernel) rfl
theorem dX12_near_122 : decode cX12_near 122 = .ok (.iload 7, 2) := dc_21 (show ((cX12_near.data.toList.drop 122).take 2).map UInt8.toNat = [21, 7] by decide +kernel) rfl
theorem dX12_near_124 : decode cX12_near 124 = .ok (.ifCond .ge 9, 3) := dc_156 (show ((cX12_near.data.toList.drop 124).take 3).map UInt8.toNat = [156, 0, 9] by decide +kernel) rfl
theorem dX12_near_133 : decode cX12_near 133 = .ok (.iload 7, 2) := dc_21 (show ((cX12_near.data.toList.drop 133).take 2).map UInt8.toNat = [21, 7] by decide +kernel) rfl
theorem dX12_near_135 : decode cX12_near 135 = .ok (.istore 7, 2) := dc_54 (show ((cX12_near.data.toList.drop 135).take 2).map UInt8.toNat = [54, 7] by decide +kernel) rfl
theorem dX12_near_137 : decode cX12_near 137 = .ok (.iload 4, 2) := dc_21 (show ((cX12_near.data.toList.drop 137).take 2).map UInt8.toNat = [21, 4] by decide +kernel) rfl
theorem dX12_near_139 : decode cX12_near 139 = .ok (.ifCond .lt 13, 3) := dc_155 (show ((cX12_near.data.toList.drop 139).take 3).map UInt8.toNat = [155, 0, 13] by decide +kernel) rfl
theorem dX12_near_152 : decode cX12_near 152 = .ok (.iload 6, 2) := dc_21 (show ((cX12_near.data.toList.drop 152).take 2).map UInt8.toNat = [21, 6] by decide +kernel) rfl
theorem dX12_near_154 : decode cX12_near 154 = .ok (.istore 4, 2) := dc_54 (show ((cX12_near.data.toList.drop 154).take 2).map UInt8.toNat = [54, 4] by decide +kernel) rfl
theorem dX12_near_156 : decode cX12_near 156 = .ok (.iload 7, 2) := dc_21 (show ((cX12_near.data.toList.drop 156).take 2).map UInt8.toNat = [21, 7] by decide +kernel) rfl
theorem dX12_near_158 : decode cX12_near 158 = .ok (.istore 5, 2) := dc_54 (show ((cX12_near.data.toList.drop 158).take 2).map UInt8.toNat = [54, 5] by decide +kernel) rfl
theorem dX12_near_160 : decode cX12_near 160 = .ok (.iinc 6 1, 3) := dc_132 (show ((cX12_near.data.toList.drop 160).take 3).map UInt8.toNat = [132, 6, 1] by decide +kernel) rfl
theorem dX12_near_163 : decode cX12_near 163 = .ok (.goto (-111), 3) := dc_167 (show ((cX12_near.data.toList.drop 163).take 3).map UInt8.toNat = [167, 255, 145] by decide +kernel) rfl
theorem dX12_near_142 : decode cX12_near 142 = .ok (.iload 7, 2) := dc_21 (show ((cX12_near.data.toList.drop 142).take 2).map UInt8.toNat = [21, 7] by decide +kernel) rfl
theorem dX12_near_144 : decode cX12_near 144 = .ok (.iload 5, 2) := dc_21 (show ((cX12_near.data.toList.drop 144).take 2).map UInt8.toNat = [21, 5] by decide +kernel) rfl
theorem dX12_near_146 : decode cX12_near 146 = .ok (.if_icmp .lt 6, 3) := dc_161 (show ((cX12_near.data.toList.drop 146).take 3).map UInt8.toNat = [161, 0, 6] by decide +kernel) rfl
theorem dX12_near_149 : decode cX12_near 149 = .ok (.goto 11, 3) := dc_167 (show ((cX12_near.data.toList.drop 149).take 3).map UInt8.toNat = [167, 0, 11] by decide +kernel) rfl
theorem dX12_near_127 : decode cX12_near 127 = .ok (.iload 7, 2) := dc_21 (show ((cX12_near.data.toList.drop 127).take 2).map UInt8.toNat = [21, 7] by decide +kernel) rfl
theorem dX12_near_129 : decode cX12_near 129 = .ok (.ineg, 1) := dc_116 (show ((cX12_near.data.toList.drop 129).take 1).map UInt8.toNat = [116] by decide +kernel)
theorem dX12_near_130 : decode cX12_near 130 = .ok (.goto 5, 3) := dc_167 (show ((cX12_near.data.toList.drop 130).take 3).map UInt8.toNat = [167, 0, 5] by decide +kernel) rfl
theorem dX12_near_84 : decode cX12_near 84 = .ok (.iload 7, 2) := dc_21 (show ((cX12_near.data.toList.drop 84).take 2).map UInt8.toNat = [21, 7] by decide +kernel) rfl
theorem dX12_near_86 : decode cX12_near 86 = .ok (.iload 6, 2) := dc_21 (show ((cX12_near.data.toList.drop 86).take 2).map UInt8.toNat = [21, 6] by decide +kernel) rfl
theorem dX12_near_88 : decode cX12_near 88 = .ok (.iload 8, 2) := dc_21 (show ((cX12_near.data.toList.drop 88).take 2).map UInt8.toNat = [21, 8] by decide +kernel) rfl
theorem dX12_near_90 : decode cX12_near 90 = .ok (.ishr, 1) := dc_122 (show ((cX12_near.data.toList.drop 90).take 1).map UInt8.toNat = [122] by decide +kernel)
theorem dX12_near_91 : decode cX12_near 91 = .ok (.iconst 1, 1) := dc_4 (show ((cX12_near.data.toList.drop 91).take 1).map UInt8.toNat = [4] by decide +kernel)
theorem dX12_near_92 : decode cX12_near 92 = .ok (.iand, 1) := dc_126 (show ((cX12_near.data.toList.drop 92).take 1).map UInt8.toNat = [126] by decide +kernel)
theorem dX12_near_93 : decode cX12_near 93 = .ok (.iconst 1, 1) := dc_4 (show ((cX12_near.data.toList.drop 93).take 1).map UInt8.toNat = [4] by decide +kernel)
theorem dX12_near_94 : decode cX12_near 94 = .ok (.if_icmp .ne 18, 3) := dc_160 (show ((cX12_near.data.toList.drop 94).take 3).map UInt8.toNat = [160, 0, 18] by decide +kernel) rfl
theorem dX12_near_112 : decode cX12_near 112 = .ok (.iconst 0, 1) := dc_3 (show ((cX12_near.data.toList.drop 112).take 1).map UInt8.toNat = [3] by decide +kernel)
theorem dX12_near_113 : decode cX12_near 113 = .ok (.iadd, 1) := dc_96 (show ((cX12_near.data.toList.drop 113).take 1).map UInt8.toNat = [96] by decide +kernel)
theorem dX12_near_114 : decode cX12_near 114 = .ok (.istore 7, 2) := dc_54 (show ((cX12_near.data.toList.drop 114).take 2).map UInt8.toNat = [54, 7] by decide +kernel) rfl
theorem dX12_near_116 : decode cX12_near 116 = .ok (.iinc 8 1, 3) := dc_132 (show ((cX12_near.data.toList.drop 116).take 3).map UInt8.toNat = [132, 8, 1] by decide +kernel) rfl
theorem dX12_near_119 : decode cX12_near 119 = .ok (.goto (-44), 3) := dc_167 (show ((cX12_near.data.toList.drop 119).take 3).map UInt8.toNat = [167, 255, 212] by decide +kernel) rfl
theorem dX12_near_97 : decode cX12_near 97 = .ok (.aload_n 0, 1) := dc_42 (show ((cX12_near.data.toList.drop 97).take 1).map UInt8.toNat = [42] by decide +kernel)
theorem dX12_near_98 : decode cX12_near 98 = .ok (.iload 8, 2) := dc_21 (show ((cX12_near.data.toList.drop 98).take 2).map UInt8.toNat = [21, 8] by decide +kernel) rfl
theorem dX12_near_100 : decode cX12_near 100 = .ok (.aload_n 0, 1) := dc_42 (show ((cX12_near.data.toList.drop 100).take 1).map UInt8.toNat = [42] by decide +kernel)
theorem dX12_near_101 : decode cX12_near 101 = .ok (.iload_n 3, 1) := dc_29 (show ((cX12_near.data.toList.drop 101).take 1).map UInt8.toNat = [29] by decide +kernel)
theorem dX12_near_102 : decode cX12_near 102 = .ok (.iconst 0, 1) := dc_3 (show ((cX12_near.data.toList.drop 102).take 1).map UInt8.toNat = [3] by decide +kernel)
theorem dX12_near_103 : decode cX12_near 103 = .ok (.invokevirtual 344, 3) := dc_182 (show ((cX12_near.data.toList.drop 103).take 3).map UInt8.toNat = [182, 1, 88] by decide +kernel) rfl
theorem dX12_near_106 : decode cX12_near 106 = .ok (.invokevirtual 297, 3) := dc_182 (show ((cX12_near.data.toList.drop 106).take 3).map UInt8.toNat = [182, 1, 41] by decide +kernel) rfl
theorem dX12_near_109 : decode cX12_near 109 = .ok (.goto 4, 3) := dc_167 (show ((cX12_near.data.toList.drop 109).take 3).map UInt8.toNat = [167, 0, 4] by decide +kernel) rfl
def ms_near_75 (n : Nat) (k52 : gb_F → Int64 → Int32 → Int32 → Int32 → Int32 → gb_MR Int32) : Nat → gb_F → Int64 → Int32 → Int32 → Int32 → Int32 → Int32 → Int32 → gb_MR Int32
  | 0, _, _, _, _, _, _, _, _ => none
  | mm + 1, f, w, v3, v4, v5, v6, v7, v8 => gb_bd (ms_geese n f w) (fun f_38 wl_39 r_40 => (if r_40 ≤ v8 then (if (0 : Int32) ≤ v7 then (if v4 < 0 then gb_lt (v6 + 1) (fun x_46 => k52 f_38 wl_39 v3 v6 v7 x_46) else (if v7 < v5 then gb_lt (v6 + 1) (fun x_48 => k52 f_38 wl_39 v3 v6 v7 x_48) else gb_lt (v6 + 1) (fun x_49 => k52 f_38 wl_39 v3 v4 v5 x_49))) else gb_lt (-v7) (fun x_50 => (if v4 < 0 then gb_lt (v6 + 1) (fun x_52 => k52 f_38 wl_39 v3 v6 x_50 x_52) else (if x_50 < v5 then gb_lt (v6 + 1) (fun x_54 => k52 f_38 wl_39 v3 v6 x_50 x_54) else gb_lt (v6 + 1) (fun x_55 => k52 f_38 wl_39 v3 v4 v5 x_55))))) else (if ((v6 >>> (v8 &&& 31)) &&& 1) = 1 then gb_bd (ms_seenOf n f_38 wl_39 v3 0) (fun f_59 wl_60 r_61 => gb_bd (ms_firstMarks n f_59 wl_60 v8 r_61) (fun f_64 wl_65 r_66 => gb_lt (v7 + r_66) (fun x_69 => gb_lt (v8 + 1) (fun x_70 => ms_near_75 n k52 mm f_64 wl_65 v3 v4 v5 v6 x_69 x_70)))) else gb_lt (v7 + 0) (fun x_57 => gb_lt (v8 + 1) (fun x_58 => ms_near_75 n k52 mm f_38 wl_39 v3 v4 v5 v6 x_57 x_58)))))
def ms_near_52 (n : Nat) : Nat → gb_F → Int64 → Int32 → Int32 → Int32 → Int32 → gb_MR Int32
  | 0, _, _, _, _, _, _ => none
  | mm + 1, f, w, v3, v4, v5, v6 => gb_bd (ms_geese n f w) (fun f_26 wl_27 r_28 => (if (1 <<< (r_28 &&& 31)) ≤ v6 then some (f_26, wl_27, v4) else gb_bd (ms_seenOf n f_26 wl_27 v3 1) (fun f_32 wl_33 r_34 => gb_lt (-r_34) (fun x_37 => ms_near_75 n (fun f w v3 v4 v5 v6 => ms_near_52 n mm f w v3 v4 v5 v6) n f_32 wl_33 v3 v4 v5 v6 x_37 0))))
def ms_near (n : Nat) (f : gb_F) (w : Int64) (p1 : Int32) (p2 : Int32) (p3 : Int32) : gb_MR Int32 := gb_bd (ms_areSeen n f w p1 p2) (fun f_1 wl_2 r_3 => (if r_3 = 0 then some (f_1, wl_2, (-1)) else gb_ck (f_1 0 29) 3968 (gb_lt (f_1 1 (Int32.toNatClampNeg (f_1 0 29))) (fun x_8 => gb_bd (ms_isIn n f_1 wl_2 p3 0 (x_8 - 1)) (fun f_9 wl_10 r_11 => (if r_11 = 0 then some (f_9, wl_10, (-1)) else gb_bd (ms_seenOf n f_9 wl_10 p3 0) (fun f_15 wl_16 r_17 => gb_bd (ms_isPath n f_15 wl_16 r_17) (fun f_20 wl_21 r_22 => (if r_22 = 0 then some (f_20, wl_21, (-1)) else ms_near_52 n n f_20 wl_21 p3 (-1) 0 0)))))))))
set_option maxHeartbeats 8000000 in
set_option maxRecDepth 100000 in
theorem mc_near (l : Launch) (D : va_G) (cT : Nat → ClassId) (tt : Nat → Nat) (b1 b : Nat) (hb1 : b1 ≤ b) (n : Nat) (f : gb_F) (w : Int64) (p1 : Int32) (p2 : Int32) (p3 : Int32) (fE : gb_F) (wE : Int64) (rE : Int32) (h : ms_near n f w p1 p2 p3 = some (fE, wE, rE)) : Met l yX12_near (.code yX12_near cX12_near 9 (some FieldType.int) :: gb_wA) ({ frames := 4, cells := 0, slots := 0, locals := 92 }) (gb_Pc D cT tt b1 [.ref (b + 0), .int p1, .int p2, .int p3] (fun h => va_P D vwCl (gb_wl b (gb_MW cT b f w)) h)) (gb_Qi (fun r h => r = rE ∧ va_P D vwCl (gb_wl b (gb_MW cT b fE wE)) h) (gb_fr b 22)) 0 0 (gb_fr b 22) := by
  refine Met.ofW (cc := cX12_near) (maxL := 9) (ret := (some FieldType.int)) (by decide) rfl ?_
  intro p e s m args below meth c s₁ B hml hv
  obtain ⟨rfl, hSt, hP⟩ := hv
  have hx := B.exec
  have hb := B.bytes
  have hr := B.returns
  have hts := atoms_spec (ws := .code yX12_near cX12_near 9 (some FieldType.int) :: gb_wA) B.pre
  have hq : ∀ w ∈ gb_wA, w.before _ s = true := fun w h => hts w (List.mem_cons_of_mem _ h)
  have hown : s.vm.findClass RX12 = some m.cls := findClass_of_methodNamed B.named
  have hlocks := B.notSynchronized
  clear B hts
  have hK := hSt.1
  have hS : va_S (gb_fr b 22) s.heap s.heap [] := va_S.rf
  have hl := lv_entry ([.ref (b + 0), .int p1, .int p2, .int p3]) (n := 9) (Nat.le_of_ble_eq_true rfl)
  rw [lg_entry_eq]
  generalize (lg_sl ([.ref (b + 0), .int p1, .int p2, .int p3]) ++ List.replicate (9 - (lg_sl ([.ref (b + 0), .int p1, .int p2, .int p3])).length) Slot.unset).toArray = ls at hl ⊢
  replace hl : lv_has ls 9 [(0, .ref (b + 0)), (1, .int p1), (2, .int p2), (3, .int p3)] := hl
  have L75 : ∀ (k52 : gb_F → Int64 → Int32 → Int32 → Int32 → Int32 → gb_MR Int32) (hk52 : ∀ (f : gb_F) (w : Int64) (v3 : Int32) (v4 : Int32) (v5 : Int32) (v6 : Int32) (H : Heap) (locs : List Loc) (ls : Array Slot), k52 f w v3 v4 v5 v6 = some (fE, wE, rE) → va_P D vwCl (gb_wl b (gb_MW cT b f w)) H → va_S (gb_fr b 22) s.heap H locs → lv_has ls 9 [(0, .ref (b + 0)), (3, .int v3), (4, .int v4), (5, .int v5), (6, .int v6)] → W p l e (headSpec (.code yX12_near cX12_near 9 (some FieldType.int) :: gb_wA) ({ frames := 4, cells := 0, slots := 0, locals := 92 })).room s m ([.ref (b + 0), .int p1, .int p2, .int p3]).toArray below meth c H locs 0 0 (MQ below (gb_Qi (fun r h => r = rE ∧ va_P D vwCl (gb_wl b (gb_MW cT b fE wE)) h) (gb_fr b 22)) ([.ref (b + 0), .int p1, .int p2, .int p3]).toArray s 0 0 (gb_fr b 22)) (F0 m 52 ls [])) (mm : Nat) (f : gb_F) (w : Int64) (v3 : Int32) (v4 : Int32) (v5 : Int32) (v6 : Int32) (v7 : Int32) (v8 : Int32) (H : Heap) (locs : List Loc) (ls : Array Slot), ms_near_75 n k52 mm f w v3 v4 v5 v6 v7 v8 = some (fE, wE, rE) → va_P D vwCl (gb_wl b (gb_MW cT b f w)) H → va_S (gb_fr b 22) s.heap H locs → lv_has ls 9 [(0, .ref (b + 0)), (3, .int v3), (4, .int v4), (5, .int v5), (6, .int v6), (7, .int v7), (8, .int v8)] → W p l e (headSpec (.code yX12_near cX12_near 9 (some FieldType.int) :: gb_wA) ({ frames := 4, cells := 0, slots := 0, locals := 92 })).room s m ([.ref (b + 0), .int p1, .int p2, .int p3]).toArray below meth c H locs 0 0 (MQ below (gb_Qi (fun r h => r = rE ∧ va_P D vwCl (gb_wl b (gb_MW cT b fE wE)) h) (gb_fr b 22)) ([.ref (b + 0), .int p1, .int p2, .int p3]).toArray s 0 0 (gb_fr b 22)) (F0 m 75 ls []) := by
    clear h hP hS hl ls f w
    intro k52 hk52 mm
    induction mm with
    | zero =>
      intro f w v3 v4 v5 v6 v7 v8 H locs ls h
      cases h
    | succ mm ih =>
      intro f w v3 v4 v5 v6 v7 v8 H locs ls h hP hS hl
      rw [ms_near_75] at h
      refine lv_iload hx hb dX12_near_75 (lv_at hl 6 rfl) ?_
      refine lv_aload_n hx hb dX12_near_77 rfl (lv_at hl 0 rfl) ?_
      obtain ⟨f_38, wl_39, r_40, z_41, h⟩ := gb_bd_s h
      refine gb_calli (va_runV (C := RX12) (As := []) (rest := [.int v8]) ⟨hx, hb, hml, hown, hq⟩ (mc_geese l D cT tt b1 b hb1 n f w f_38 wl_39 r_40 z_41) (cwV 0 hq (gb_gV w_1396 w_1398 s_4_7 w_14 w_1399) rfl rfl rfl (by decide +kernel) ⟨Nat.le_of_ble_eq_true rfl, Nat.le_of_ble_eq_true rfl⟩) (gb_preV (r := (RX12, TX12, 44)) (ci := 10) (q0 := 0) hSt hP rfl (gb_at b rfl) hS (fun q h => Nat.le_trans hb1 h.1) hP) rfl rfl hl.1 rfl (lv_room (Nat.le_of_ble_eq_true rfl)) dX12_near_78 ⟨Nat.le_of_ble_eq_true rfl, Nat.le_of_ble_eq_true rfl⟩) hS (fun _ h => h) (fun _ h => h) (fun q_42 H locs hY hk hS => ?_)
      obtain ⟨hq_42, hP⟩ := hY
      replace hq_42 := hq_42.symm
      subst hq_42
      refine lv_icmp_ge (tgt := 122) hx hb dX12_near_81 (by decide) (fun c_43 => ?_) (fun c_43 => ?_)
      · rw [if_pos c_43] at h
        refine lv_iload hx hb dX12_near_122 (lv_at hl 5 rfl) ?_
        refine lv_if_ge (tgt := 133) hx hb dX12_near_124 (by decide) (fun c_44 => ?_) (fun c_44 => ?_)
        · rw [if_pos c_44] at h
          refine lv_iload hx hb dX12_near_133 (lv_at hl 5 rfl) ?_
          refine lv_istore (lv' := [(7, .int v7), (0, .ref (b + 0)), (3, .int v3), (4, .int v4), (5, .int v5), (6, .int v6), (8, .int v8)]) hx hb dX12_near_135 hl (by decide) rfl (fun ls hl => ?_)
          refine lv_iload hx hb dX12_near_137 (lv_at hl 3 rfl) ?_
          refine lv_if_lt (tgt := 152) hx hb dX12_near_139 (by decide) (fun c_45 => ?_) (fun c_45 => ?_)
          · rw [if_pos c_45] at h
            refine lv_iload hx hb dX12_near_152 (lv_at hl 5 rfl) ?_
            refine lv_istore (lv' := [(4, .int v6), (7, .int v7), (0, .ref (b + 0)), (3, .int v3), (5, .int v5), (6, .int v6), (8, .int v8)]) hx hb dX12_near_154 hl (by decide) rfl (fun ls hl => ?_)
            refine lv_iload hx hb dX12_near_156 (lv_at hl 1 rfl) ?_
            refine lv_istore (lv' := [(5, .int v7), (4, .int v6), (7, .int v7), (0, .ref (b + 0)), (3, .int v3), (6, .int v6), (8, .int v8)]) hx hb dX12_near_158 hl (by decide) rfl (fun ls hl => ?_)
            obtain ⟨x_46, ex_46⟩ : ∃ q, q = (v6 + 1) := ⟨_, rfl⟩
            replace h := gb_lt_s ex_46 h
            refine lv_iinc (v := x_46) (lv' := [(6, .int x_46), (5, .int v7), (4, .int v6), (7, .int v7), (0, .ref (b + 0)), (3, .int v3), (8, .int v8)]) hx hb dX12_near_160 hl (k := 5) rfl (by rw [ex_46]; rfl) (by decide) rfl (fun ls hl => ?_)
            refine lv_goto (tgt := 52) hx hb dX12_near_163 (by decide) ?_
            exact hk52 _ _ _ _ _ _ _ _ _ h hP hS (lv_sub hl [4, 5, 2, 1, 0] rfl)
          · rw [if_neg c_45] at h
            refine lv_iload hx hb dX12_near_142 (lv_at hl 0 rfl) ?_
            refine lv_iload hx hb dX12_near_144 (lv_at hl 4 rfl) ?_
            refine lv_icmp_lt (tgt := 152) hx hb dX12_near_146 (by decide) (fun c_47 => ?_) (fun c_47 => ?_)
            · rw [if_pos c_47] at h
              refine lv_iload hx hb dX12_near_152 (lv_at hl 5 rfl) ?_
              refine lv_istore (lv' := [(4, .int v6), (7, .int v7), (0, .ref (b + 0)), (3, .int v3), (5, .int v5), (6, .int v6), (8, .int v8)]) hx hb dX12_near_154 hl (by decide) rfl (fun ls hl => ?_)
              refine lv_iload hx hb dX12_near_156 (lv_at hl 1 rfl) ?_
              refine lv_istore (lv' := [(5, .int v7), (4, .int v6), (7, .int v7), (0, .ref (b + 0)), (3, .int v3), (6, .int v6), (8, .int v8)]) hx hb dX12_near_158 hl (by decide) rfl (fun ls hl => ?_)
              obtain ⟨x_48, ex_48⟩ : ∃ q, q = (v6 + 1) := ⟨_, rfl⟩
              replace h := gb_lt_s ex_48 h
              refine lv_iinc (v := x_48) (lv' := [(6, .int x_48), (5, .int v7), (4, .int v6), (7, .int v7), (0, .ref (b + 0)), (3, .int v3), (8, .int v8)]) hx hb dX12_near_160 hl (k := 5) rfl (by rw [ex_48]; rfl) (by decide) rfl (fun ls hl => ?_)
              refine lv_goto (tgt := 52) hx hb dX12_near_163 (by decide) ?_
              exact hk52 _ _ _ _ _ _ _ _ _ h hP hS (lv_sub hl [4, 5, 2, 1, 0] rfl)
            · rw [if_neg c_47] at h
              refine lv_goto (tgt := 160) hx hb dX12_near_149 (by decide) ?_
              obtain ⟨x_49, ex_49⟩ : ∃ q, q = (v6 + 1) := ⟨_, rfl⟩
              replace h := gb_lt_s ex_49 h
              refine lv_iinc (v := x_49) (lv' := [(6, .int x_49), (7, .int v7), (0, .ref (b + 0)), (3, .int v3), (4, .int v4), (5, .int v5), (8, .int v8)]) hx hb dX12_near_160 hl (k := 5) rfl (by rw [ex_49]; rfl) (by decide) rfl (fun ls hl => ?_)
              refine lv_goto (tgt := 52) hx hb dX12_near_163 (by decide) ?_
              exact hk52 _ _ _ _ _ _ _ _ _ h hP hS (lv_sub hl [2, 3, 4, 5, 0] rfl)
        · rw [if_neg c_44] at h
          refine lv_iload hx hb dX12_near_127 (lv_at hl 5 rfl) ?_
          refine lv_ineg hx hb dX12_near_129 ?_
          refine lv_goto (tgt := 135) hx hb dX12_near_130 (by decide) ?_
          refine lv_topi (fun x_50 ex_50 => ?_)
          replace h := gb_lt_s ex_50 h
          refine lv_istore (lv' := [(7, .int x_50), (0, .ref (b + 0)), (3, .int v3), (4, .int v4), (5, .int v5), (6, .int v6), (8, .int v8)]) hx hb dX12_near_135 hl (by decide) rfl (fun ls hl => ?_)
          refine lv_iload hx hb dX12_near_137 (lv_at hl 3 rfl) ?_
          refine lv_if_lt (tgt := 152) hx hb dX12_near_139 (by decide) (fun c_51 => ?_) (fun c_51 => ?_)
          · rw [if_pos c_51] at h
            refine lv_iload hx hb dX12_near_152 (lv_at hl 5 rfl) ?_
            refine lv_istore (lv' := [(4, .int v6), (7, .int x_50), (0, .ref (b + 0)), (3, .int v3), (5, .int v5), (6, .int v6), (8, .int v8)]) hx hb dX12_near_154 hl (by decide) rfl (fun ls hl => ?_)
            refine lv_iload hx hb dX12_near_156 (lv_at hl 1 rfl) ?_
            refine lv_istore (lv' := [(5, .int x_50), (4, .int v6), (7, .int x_50), (0, .ref (b + 0)), (3, .int v3), (6, .int v6), (8, .int v8)]) hx hb dX12_near_158 hl (by decide) rfl (fun ls hl => ?_)
            obtain ⟨x_52, ex_52⟩ : ∃ q, q = (v6 + 1) := ⟨_, rfl⟩
            replace h := gb_lt_s ex_52 h
            refine lv_iinc (v := x_52) (lv' := [(6, .int x_52), (5, .int x_50), (4, .int v6), (7, .int x_50), (0, .ref (b + 0)), (3, .int v3), (8, .int v8)]) hx hb dX12_near_160 hl (k := 5) rfl (by rw [ex_52]; rfl) (by decide) rfl (fun ls hl => ?_)
            refine lv_goto (tgt := 52) hx hb dX12_near_163 (by decide) ?_
            exact hk52 _ _ _ _ _ _ _ _ _ h hP hS (lv_sub hl [4, 5, 2, 1, 0] rfl)
          · rw [if_neg c_51] at h
            refine lv_iload hx hb dX12_near_142 (lv_at hl 0 rfl) ?_
            refine lv_iload hx hb dX12_near_144 (lv_at hl 4 rfl) ?_
            refine lv_icmp_lt (tgt := 152) hx hb dX12_near_146 (by decide) (fun c_53 => ?_) (fun c_53 => ?_)
            · rw [if_pos c_53] at h
              refine lv_iload hx hb dX12_near_152 (lv_at hl 5 rfl) ?_
              refine lv_istore (lv' := [(4, .int v6), (7, .int x_50), (0, .ref (b + 0)), (3, .int v3), (5, .int v5), (6, .int v6), (8, .int v8)]) hx hb dX12_near_154 hl (by decide) rfl (fun ls hl => ?_)
              refine lv_iload hx hb dX12_near_156 (lv_at hl 1 rfl) ?_
              refine lv_istore (lv' := [(5, .int x_50), (4, .int v6), (7, .int x_50), (0, .ref (b + 0)), (3, .int v3), (6, .int v6), (8, .int v8)]) hx hb dX12_near_158 hl (by decide) rfl (fun ls hl => ?_)
              obtain ⟨x_54, ex_54⟩ : ∃ q, q = (v6 + 1) := ⟨_, rfl⟩
              replace h := gb_lt_s ex_54 h
              refine lv_iinc (v := x_54) (lv' := [(6, .int x_54), (5, .int x_50), (4, .int v6), (7, .int x_50), (0, .ref (b + 0)), (3, .int v3), (8, .int v8)]) hx hb dX12_near_160 hl (k := 5) rfl (by rw [ex_54]; rfl) (by decide) rfl (fun ls hl => ?_)
              refine lv_goto (tgt := 52) hx hb dX12_near_163 (by decide) ?_
              exact hk52 _ _ _ _ _ _ _ _ _ h hP hS (lv_sub hl [4, 5, 2, 1, 0] rfl)
            · rw [if_neg c_53] at h
              refine lv_goto (tgt := 160) hx hb dX12_near_149 (by decide) ?_
              obtain ⟨x_55, ex_55⟩ : ∃ q, q = (v6 + 1) := ⟨_, rfl⟩
              replace h := gb_lt_s ex_55 h
              refine lv_iinc (v := x_55) (lv' := [(6, .int x_55), (7, .int x_50), (0, .ref (b + 0)), (3, .int v3), (4, .int v4), (5, .int v5), (8, .int v8)]) hx hb dX12_near_160 hl (k := 5) rfl (by rw [ex_55]; rfl) (by decide) rfl (fun ls hl => ?_)
              refine lv_goto (tgt := 52) hx hb dX12_near_163 (by decide) ?_
              exact hk52 _ _ _ _ _ _ _ _ _ h hP hS (lv_sub hl [2, 3, 4, 5, 0] rfl)
      · rw [if_neg c_43] at h
        refine lv_iload hx hb dX12_near_84 (lv_at hl 5 rfl) ?_
        refine lv_iload hx hb dX12_near_86 (lv_at hl 4 rfl) ?_
        refine lv_iload hx hb dX12_near_88 (lv_at hl 6 rfl) ?_
        refine lv_ishr hx hb dX12_near_90 ?_
        refine lv_iconst (v := 1) hx hb dX12_near_91 (by decide) ?_
        refine lv_iand hx hb dX12_near_92 ?_
        refine lv_iconst (v := 1) hx hb dX12_near_93 (by decide) ?_
        refine lv_icmp_ne (tgt := 112) hx hb dX12_near_94 (by decide) (fun c_56 => ?_) (fun c_56 => ?_)
        · rw [if_neg c_56] at h
          refine lv_iconst (v := 0) hx hb dX12_near_112 (by decide) ?_
          refine lv_iadd hx hb dX12_near_113 ?_
          refine lv_topi (fun x_57 ex_57 => ?_)
          replace h := gb_lt_s ex_57 h
          refine lv_istore (lv' := [(7, .int x_57), (0, .ref (b + 0)), (3, .int v3), (4, .int v4), (5, .int v5), (6, .int v6), (8, .int v8)]) hx hb dX12_near_114 hl (by decide) rfl (fun ls hl => ?_)
          obtain ⟨x_58, ex_58⟩ : ∃ q, q = (v8 + 1) := ⟨_, rfl⟩
          replace h := gb_lt_s ex_58 h
          refine lv_iinc (v := x_58) (lv' := [(8, .int x_58), (7, .int x_57), (0, .ref (b + 0)), (3, .int v3), (4, .int v4), (5, .int v5), (6, .int v6)]) hx hb dX12_near_116 hl (k := 6) rfl (by rw [ex_58]; rfl) (by decide) rfl (fun ls hl => ?_)
          refine lv_goto (tgt := 75) hx hb dX12_near_119 (by decide) ?_
          exact ih _ _ _ _ _ _ _ _ _ _ _ h hP hS (lv_sub hl [2, 3, 4, 5, 6, 1, 0] rfl)
        · rw [if_pos c_56] at h
          refine lv_aload_n hx hb dX12_near_97 rfl (lv_at hl 0 rfl) ?_
          refine lv_iload hx hb dX12_near_98 (lv_at hl 6 rfl) ?_
          refine lv_aload_n hx hb dX12_near_100 rfl (lv_at hl 0 rfl) ?_
          refine lv_iload_n hx hb dX12_near_101 rfl (lv_at hl 1 rfl) ?_
          refine lv_iconst (v := 0) hx hb dX12_near_102 (by decide) ?_
          obtain ⟨f_59, wl_60, r_61, z_62, h⟩ := gb_bd_s h
          refine gb_calli (va_runV (C := RX12) (As := [.int v3, .int 0]) (rest := [.int v8, .ref (b + 0), .int v7]) ⟨hx, hb, hml, hown, hq⟩ (mc_seenOf l D cT tt b1 b hb1 n f_38 wl_39 v3 0 f_59 wl_60 r_61 z_62) (cwV 2 hq (gb_gV w_1600 w_1602 s_6_10 w_14 w_1603) rfl rfl rfl (by decide +kernel) ⟨Nat.le_of_ble_eq_true rfl, Nat.le_of_ble_eq_true rfl⟩) (gb_preV (r := (RX12, TX12, 44)) (ci := 10) (q0 := 0) hSt hP rfl (gb_at b rfl) hS (fun q h => Nat.le_trans hb1 h.1) hP) rfl rfl hl.1 rfl (lv_room (Nat.le_of_ble_eq_true rfl)) dX12_near_103 ⟨Nat.le_of_ble_eq_true rfl, Nat.le_of_ble_eq_true rfl⟩) hS (fun _ h => h) (fun _ h => h) (fun q_63 H locs hY hk hS => ?_)
          obtain ⟨hq_63, hP⟩ := hY
          replace hq_63 := hq_63.symm
          subst hq_63
          obtain ⟨f_64, wl_65, r_66, z_67, h⟩ := gb_bd_s h
          refine gb_calli (va_runV (C := RX12) (As := [.int v8, .int r_61]) (rest := [.int v7]) ⟨hx, hb, hml, hown, hq⟩ (mc_firstMarks l D cT tt b1 b hb1 n f_59 wl_60 v8 r_61 f_64 wl_65 r_66 z_67) (cwV 2 hq (gb_gV w_1532 w_1534 s_6_0 w_14 w_1535) rfl rfl rfl (by decide +kernel) ⟨Nat.le_of_ble_eq_true rfl, Nat.le_of_ble_eq_true rfl⟩) (gb_preV (r := (RX12, TX12, 44)) (ci := 10) (q0 := 0) hSt hP rfl (gb_at b rfl) hS (fun q h => Nat.le_trans hb1 h.1) hP) rfl rfl hl.1 rfl (lv_room (Nat.le_of_ble_eq_true rfl)) dX12_near_106 ⟨Nat.le_of_ble_eq_true rfl, Nat.le_of_ble_eq_true rfl⟩) hS (fun _ h => h) (fun _ h => h) (fun q_68 H locs hY hk hS => ?_)
          obtain ⟨hq_68, hP⟩ := hY
          replace hq_68 := hq_68.symm
          subst hq_68
          refine lv_goto (tgt := 113) hx hb dX12_near_109 (by decide) ?_
          refine lv_iadd hx hb dX12_near_113 ?_
          refine lv_topi (fun x_69 ex_69 => ?_)
          replace h := gb_lt_s ex_69 h
          refine lv_istore (lv' := [(7, .int x_69), (0, .ref (b + 0)), (3, .int v3), (4, .int v4), (5, .int v5), (6, .int v6), (8, .int v8)]) hx hb dX12_near_114 hl (by decide) rfl (fun ls hl => ?_)
          obtain ⟨x_70, ex_70⟩ : ∃ q, q = (v8 + 1) := ⟨_, rfl⟩
          replace h := gb_lt_s ex_70 h
          refine lv_iinc (v := x_70) (lv' := [(8, .int x_70), (7, .int x_69), (0, .ref (b + 0)), (3, .int v3), (4, .int v4), (5, .int v5), (6, .int v6)]) hx hb dX12_near_116 hl (k := 6) rfl (by rw [ex_70]; rfl) (by decide) rfl (fun ls hl => ?_)
          refine lv_goto (tgt := 75) hx hb dX12_near_119 (by decide) ?_
          exact ih _ _ _ _ _ _ _ _ _ _ _ h hP hS (lv_sub hl [2, 3, 4, 5, 6, 1, 0] rfl)
  have L52 : ∀ (mm : Nat) (f : gb_F) (w : Int64) (v3 : Int32) (v4 : Int32) (v5 : Int32) (v6 : Int32) (H : Heap) (locs : List Loc) (ls : Array Slot), ms_near_52 n mm f w v3 v4 v5 v6 = some (fE, wE, rE) → va_P D vwCl (gb_wl b (gb_MW cT b f w)) H → va_S (gb_fr b 22) s.heap H locs → lv_has ls 9 [(0, .ref (b + 0)), (3, .int v3), (4, .int v4), (5, .int v5), (6, .int v6)] → W p l e (headSpec (.code yX12_near cX12_near 9 (some FieldType.int) :: gb_wA) ({ frames := 4, cells := 0, slots := 0, locals := 92 })).room s m ([.ref (b + 0), .int p1, .int p2, .int p3]).toArray below meth c H locs 0 0 (MQ below (gb_Qi (fun r h => r = rE ∧ va_P D vwCl (gb_wl b (gb_MW cT b fE wE)) h) (gb_fr b 22)) ([.ref (b + 0), .int p1, .int p2, .int p3]).toArray s 0 0 (gb_fr b 22)) (F0 m 52 ls []) := by
    clear h hP hS hl ls f w
    intro mm
    induction mm with
    | zero =>
      intro f w v3 v4 v5 v6 H locs ls h
      cases h
    | succ mm ih =>
      intro f w v3 v4 v5 v6 H locs ls h hP hS hl
      rw [ms_near_52] at h
      refine lv_iload hx hb dX12_near_52 (lv_at hl 4 rfl) ?_
      refine lv_iconst (v := 1) hx hb dX12_near_54 (by decide) ?_
      refine lv_aload_n hx hb dX12_near_55 rfl (lv_at hl 0 rfl) ?_
      obtain ⟨f_26, wl_27, r_28, z_29, h⟩ := gb_bd_s h
      refine gb_calli (va_runV (C := RX12) (As := []) (rest := [.int 1, .int v6]) ⟨hx, hb, hml, hown, hq⟩ (mc_geese l D cT tt b1 b hb1 n f w f_26 wl_27 r_28 z_29) (cwV 0 hq (gb_gV w_1396 w_1398 s_4_7 w_14 w_1399) rfl rfl rfl (by decide +kernel) ⟨Nat.le_of_ble_eq_true rfl, Nat.le_of_ble_eq_true rfl⟩) (gb_preV (r := (RX12, TX12, 44)) (ci := 10) (q0 := 0) hSt hP rfl (gb_at b rfl) hS (fun q h => Nat.le_trans hb1 h.1) hP) rfl rfl hl.1 rfl (lv_room (Nat.le_of_ble_eq_true rfl)) dX12_near_56 ⟨Nat.le_of_ble_eq_true rfl, Nat.le_of_ble_eq_true rfl⟩) hS (fun _ h => h) (fun _ h => h) (fun q_30 H locs hY hk hS => ?_)
      obtain ⟨hq_30, hP⟩ := hY
      replace hq_30 := hq_30.symm
      subst hq_30
      refine lv_ishl hx hb dX12_near_59 ?_
      refine lv_icmp_ge (tgt := 166) hx hb dX12_near_60 (by decide) (fun c_31 => ?_) (fun c_31 => ?_)
      · rw [if_pos c_31] at h
        refine lv_iload hx hb dX12_near_166 (lv_at hl 2 rfl) ?_
        obtain ⟨e1, e2, e3⟩ := gb_eq3 h
        exact W.iret (v := v4) hx hb hr (fun t ht hW => gb_ri ht ⟨e3, by rw [← e1, ← e2]; exact hP⟩ hS) hS.2.2 dX12_near_168
      · rw [if_neg c_31] at h
        refine lv_aload_n hx hb dX12_near_63 rfl (lv_at hl 0 rfl) ?_
        refine lv_iload_n hx hb dX12_near_64 rfl (lv_at hl 1 rfl) ?_
        refine lv_iconst (v := 1) hx hb dX12_near_65 (by decide) ?_
        obtain ⟨f_32, wl_33, r_34, z_35, h⟩ := gb_bd_s h
        refine gb_calli (va_runV (C := RX12) (As := [.int v3, .int 1]) (rest := []) ⟨hx, hb, hml, hown, hq⟩ (mc_seenOf l D cT tt b1 b hb1 n f_26 wl_27 v3 1 f_32 wl_33 r_34 z_35) (cwV 2 hq (gb_gV w_1600 w_1602 s_6_10 w_14 w_1603) rfl rfl rfl (by decide +kernel) ⟨Nat.le_of_ble_eq_true rfl, Nat.le_of_ble_eq_true rfl⟩) (gb_preV (r := (RX12, TX12, 44)) (ci := 10) (q0 := 0) hSt hP rfl (gb_at b rfl) hS (fun q h => Nat.le_trans hb1 h.1) hP) rfl rfl hl.1 rfl (lv_room (Nat.le_of_ble_eq_true rfl)) dX12_near_66 ⟨Nat.le_of_ble_eq_true rfl, Nat.le_of_ble_eq_true rfl⟩) hS (fun _ h => h) (fun _ h => h) (fun q_36 H locs hY hk hS => ?_)
        obtain ⟨hq_36, hP⟩ := hY
        replace hq_36 := hq_36.symm
        subst hq_36
        refine lv_ineg hx hb dX12_near_69 ?_
        refine lv_topi (fun x_37 ex_37 => ?_)
        replace h := gb_lt_s ex_37 h
        refine lv_istore (lv' := [(7, .int x_37), (0, .ref (b + 0)), (3, .int v3), (4, .int v4), (5, .int v5), (6, .int v6)]) hx hb dX12_near_70 hl (by decide) rfl (fun ls hl => ?_)
        refine lv_iconst (v := 0) hx hb dX12_near_72 (by decide) ?_
        refine lv_istore (lv' := [(8, .int 0), (7, .int x_37), (0, .ref (b + 0)), (3, .int v3), (4, .int v4), (5, .int v5), (6, .int v6)]) hx hb dX12_near_73 hl (by decide) rfl (fun ls hl => ?_)
        exact L75 _ ih n _ _ _ _ _ _ _ _ _ _ _ h hP hS (lv_sub hl [2, 3, 4, 5, 6, 1, 0] rfl)
  unfold ms_near at h
  refine lv_aload_n hx hb dX12_near_0 rfl (lv_at hl 0 rfl) ?_
  refine lv_iload_n hx hb dX12_near_1 rfl (lv_at hl 1 rfl) ?_
  refine lv_iload_n hx hb dX12_near_2 rfl (lv_at hl 2 rfl) ?_
  obtain ⟨f_1, wl_2, r_3, z_4, h⟩ := gb_bd_s h
  refine gb_calli (va_runV (C := RX12) (As := [.int p1, .int p2]) (rest := []) ⟨hx, hb, hml, hown, hq⟩ (mc_areSeen l D cT tt b1 b hb1 n f w p1 p2 f_1 wl_2 r_3 z_4) (cwV 2 hq (gb_gV w_1608 w_1610 s_6_11 w_14 w_1611) rfl rfl rfl (by decide +kernel) ⟨Nat.le_of_ble_eq_true rfl, Nat.le_of_ble_eq_true rfl⟩) (gb_preV (r := (RX12, TX12, 44)) (ci := 10) (q0 := 0) hSt hP rfl (gb_at b rfl) hS (fun q h => Nat.le_trans hb1 h.1) hP) rfl rfl hl.1 rfl (lv_room (Nat.le_of_ble_eq_true rfl)) dX12_near_3 ⟨Nat.le_of_ble_eq_true rfl, Nat.le_of_ble_eq_true rfl⟩) hS (fun _ h => h) (fun _ h => h) (fun q_5 H locs hY hk hS => ?_)
  obtain ⟨hq_5, hP⟩ := hY
  replace hq_5 := hq_5.symm
  subst hq_5
  refine lv_if_eq (tgt := 41) hx hb dX12_near_6 (by decide) (fun c_6 => ?_) (fun c_6 => ?_)
  · rw [if_pos c_6] at h
    refine lv_iconst (v := (-1)) hx hb dX12_near_41 (by decide) ?_
    obtain ⟨e1, e2, e3⟩ := gb_eq3 h
    exact W.iret (v := (-1)) hx hb hr (fun t ht hW => gb_ri ht ⟨e3, by rw [← e1, ← e2]; exact hP⟩ hS) hS.2.2 dX12_near_42
  · rw [if_neg c_6] at h
    refine lv_iload_n hx hb dX12_near_9 rfl (lv_at hl 3 rfl) ?_
    refine lv_iconst (v := 0) hx hb dX12_near_10 (by decide) ?_
    refine lv_aload_n hx hb dX12_near_11 rfl (lv_at hl 0 rfl) ?_
    refine va_get (ci := 10) (v := (.ref (b + 1))) (C := RX12) (T := TX12) (N := 44) hx hb hq i_X12 hown hK hP 0 (gb_at b rfl) rfl 0 (by decide) (hq _ w_1124) (fun _ h9 => h9) rfl dX12_near_12 ?_
    refine lv_aload_n hx hb dX12_near_15 rfl (lv_at hl 0 rfl) ?_
    refine va_get (ci := 10) (v := (.int (f_1 0 29))) (C := RX12) (T := TX12) (N := 44) hx hb hq i_X12 hown hK hP 0 (gb_at b rfl) rfl 29 (by decide) (hq _ w_1153) (fun _ h9 => h9) rfl dX12_near_16 ?_
    obtain ⟨z_7, h⟩ := gb_ck_s h
    refine va_iald hx hb hK hP 1 0 (gb_at b rfl) rfl z_7 dX12_near_19 ?_
    refine lv_topi (fun x_8 ex_8 => ?_)
    replace h := gb_lt_s ex_8 h
    refine lv_iconst (v := 1) hx hb dX12_near_20 (by decide) ?_
    refine lv_isub hx hb dX12_near_21 ?_
    obtain ⟨f_9, wl_10, r_11, z_12, h⟩ := gb_bd_s h
    refine gb_calli (va_runS (As := [.int p3, .int 0, .int (x_8 - 1)]) (rest := []) ⟨hx, hb, hml, hown, hq⟩ (mc_isIn l D cT tt b1 b hb1 n f_1 wl_2 p3 0 (x_8 - 1) f_9 wl_10 r_11 z_12) (va_cwS 3 hq (gb_gS w_1269 w_1270 w_14 w_1271) rfl rfl rfl (by decide +kernel) ⟨Nat.le_of_ble_eq_true rfl, Nat.le_of_ble_eq_true rfl⟩) (gb_preS hSt hS (fun q h => Nat.le_trans hb1 h.1) hP) rfl rfl hl.1 rfl (lv_room (Nat.le_of_ble_eq_true rfl)) dX12_near_22 ⟨Nat.le_of_ble_eq_true rfl, Nat.le_of_ble_eq_true rfl⟩) hS (fun _ h => h) (fun _ h => h) (fun q_13 H locs hY hk hS => ?_)
    obtain ⟨hq_13, hP⟩ := hY
    replace hq_13 := hq_13.symm
    subst hq_13
    refine lv_if_eq (tgt := 41) hx hb dX12_near_25 (by decide) (fun c_14 => ?_) (fun c_14 => ?_)
    · rw [if_pos c_14] at h
      refine lv_iconst (v := (-1)) hx hb dX12_near_41 (by decide) ?_
      obtain ⟨e1, e2, e3⟩ := gb_eq3 h
      exact W.iret (v := (-1)) hx hb hr (fun t ht hW => gb_ri ht ⟨e3, by rw [← e1, ← e2]; exact hP⟩ hS) hS.2.2 dX12_near_42
    · rw [if_neg c_14] at h
      refine lv_aload_n hx hb dX12_near_28 rfl (lv_at hl 0 rfl) ?_
      refine lv_aload_n hx hb dX12_near_29 rfl (lv_at hl 0 rfl) ?_
      refine lv_iload_n hx hb dX12_near_30 rfl (lv_at hl 3 rfl) ?_
      refine lv_iconst (v := 0) hx hb dX12_near_31 (by decide) ?_
      obtain ⟨f_15, wl_16, r_17, z_18, h⟩ := gb_bd_s h
      refine gb_calli (va_runV (C := RX12) (As := [.int p3, .int 0]) (rest := [.ref (b + 0)]) ⟨hx, hb, hml, hown, hq⟩ (mc_seenOf l D cT tt b1 b hb1 n f_9 wl_10 p3 0 f_15 wl_16 r_17 z_18) (cwV 2 hq (gb_gV w_1600 w_1602 s_6_10 w_14 w_1603) rfl rfl rfl (by decide +kernel) ⟨Nat.le_of_ble_eq_true rfl, Nat.le_of_ble_eq_true rfl⟩) (gb_preV (r := (RX12, TX12, 44)) (ci := 10) (q0 := 0) hSt hP rfl (gb_at b rfl) hS (fun q h => Nat.le_trans hb1 h.1) hP) rfl rfl hl.1 rfl (lv_room (Nat.le_of_ble_eq_true rfl)) dX12_near_32 ⟨Nat.le_of_ble_eq_true rfl, Nat.le_of_ble_eq_true rfl⟩) hS (fun _ h => h) (fun _ h => h) (fun q_19 H locs hY hk hS => ?_)
      obtain ⟨hq_19, hP⟩ := hY
      replace hq_19 := hq_19.symm
      subst hq_19
      obtain ⟨f_20, wl_21, r_22, z_23, h⟩ := gb_bd_s h
      refine gb_calli (va_runV (C := RX12) (As := [.int r_17]) (rest := []) ⟨hx, hb, hml, hown, hq⟩ (mc_isPath l D cT tt b1 b hb1 n f_15 wl_16 r_17 f_20 wl_21 r_22 z_23) (cwV 1 hq (gb_gV w_1380 w_1382 s_4_3 w_14 w_1383) rfl rfl rfl (by decide +kernel) ⟨Nat.le_of_ble_eq_true rfl, Nat.le_of_ble_eq_true rfl⟩) (gb_preV (r := (RX12, TX12, 44)) (ci := 10) (q0 := 0) hSt hP rfl (gb_at b rfl) hS (fun q h => Nat.le_trans hb1 h.1) hP) rfl rfl hl.1 rfl (lv_room (Nat.le_of_ble_eq_true rfl)) dX12_near_35 ⟨Nat.le_of_ble_eq_true rfl, Nat.le_of_ble_eq_true rfl⟩) hS (fun _ h => h) (fun _ h => h) (fun q_24 H locs hY hk hS => ?_)
      obtain ⟨hq_24, hP⟩ := hY
      replace hq_24 := hq_24.symm
      subst hq_24
      refine lv_if_ne (tgt := 43) hx hb dX12_near_38 (by decide) (fun c_25 => ?_) (fun c_25 => ?_)
      · rw [if_neg c_25] at h
        refine lv_iconst (v := (-1)) hx hb dX12_near_43 (by decide) ?_
        refine lv_istore (lv' := [(4, .int (-1)), (0, .ref (b + 0)), (1, .int p1), (2, .int p2), (3, .int p3)]) hx hb dX12_near_44 hl (by decide) rfl (fun ls hl => ?_)
        refine lv_iconst (v := 0) hx hb dX12_near_46 (by decide) ?_
        refine lv_istore (lv' := [(5, .int 0), (4, .int (-1)), (0, .ref (b + 0)), (1, .int p1), (2, .int p2), (3, .int p3)]) hx hb dX12_near_47 hl (by decide) rfl (fun ls hl => ?_)
        refine lv_iconst (v := 0) hx hb dX12_near_49 (by decide) ?_
        refine lv_istore (lv' := [(6, .int 0), (5, .int 0), (4, .int (-1)), (0, .ref (b + 0)), (1, .int p1), (2, .int p2), (3, .int p3)]) hx hb dX12_near_50 hl (by decide) rfl (fun ls hl => ?_)
        exact L52 n _ _ _ _ _ _ _ _ _ h hP hS (lv_sub hl [3, 6, 2, 1, 0] rfl)
      · rw [if_pos c_25] at h
        refine lv_iconst (v := (-1)) hx hb dX12_near_41 (by decide) ?_
        obtain ⟨e1, e2, e3⟩ := gb_eq3 h
        exact W.iret (v := (-1)) hx hb hr (fun t ht hW => gb_ri ht ⟨e3, by rw [← e1, ← e2]; exact hP⟩ hS) hS.2.2 dX12_near_42
theorem dX12_swaps_0 : decode cX12_swaps 0 = .ok (.iconst 0, 1) := dc_3 (show ((cX12_swaps.data.toList.drop 0).take 1).map UInt8.toNat = [3] by decide +kernel)
theorem dX12_swaps_1 : decode cX12_swaps 1 = .ok (.istore_n 2, 1) := dc_61 (show ((cX12_swaps.data.toList.drop 1).take 1).map UInt8.toNat = [61] by decide +kernel)
theorem dX12_swaps_2 : decode cX12_swaps 2 = .ok (.iload_n 2, 1) := dc_28 (show ((cX12_swaps.data.toList.drop 2).take 1).map UInt8.toNat = [28] by decide +kernel)
theorem dX12_swaps_3 : decode cX12_swaps 3 = .ok (.iconst 4, 1) := dc_7 (show ((cX12_swaps.data.toList.drop 3).take 1).map UInt8.toNat = [7] by decide +kernel)
theorem dX12_swaps_4 : decode cX12_swaps 4 = .ok (.if_icmp .ge 54, 3) := dc_162 (show ((cX12_swaps.data.toList.drop 4).take 3).map UInt8.toNat = [162, 0, 54] by decide +kernel) rfl
theorem dX12_swaps_58 : decode cX12_swaps 58 = .ok (.return_, 1) := dc_177 (show ((cX12_swaps.data.toList.drop 58).take 1).map UInt8.toNat = [177] by decide +kernel)
theorem dX12_swaps_7 : decode cX12_swaps 7 = .ok (.aload_n 0, 1) := dc_42 (show ((cX12_swaps.data.toList.drop 7).take 1).map UInt8.toNat = [42] by decide +kernel)
theorem dX12_swaps_8 : decode cX12_swaps 8 = .ok (.getfield 224, 3) := dc_180 (show ((cX12_swaps.data.toList.drop 8).take 3).map UInt8.toNat = [180, 0, 224] by decide +kernel) rfl
theorem dX12_swaps_11 : decode cX12_swaps 11 = .ok (.iconst 1, 1) := dc_4 (show ((cX12_swaps.data.toList.drop 11).take 1).map UInt8.toNat = [4] by decide +kernel)
theorem dX12_swaps_12 : decode cX12_swaps 12 = .ok (.iadd, 1) := dc_96 (show ((cX12_swaps.data.toList.drop 12).take 1).map UInt8.toNat = [96] by decide +kernel)
theorem dX12_swaps_13 : decode cX12_swaps 13 = .ok (.iconst 4, 1) := dc_7 (show ((cX12_swaps.data.toList.drop 13).take 1).map UInt8.toNat = [7] by decide +kernel)
theorem dX12_swaps_14 : decode cX12_swaps 14 = .ok (.iload_n 1, 1) := dc_27 (show ((cX12_swaps.data.toList.drop 14).take 1).map UInt8.toNat = [27] by decide +kernel)
theorem dX12_swaps_15 : decode cX12_swaps 15 = .ok (.imul, 1) := dc_104 (show ((cX12_swaps.data.toList.drop 15).take 1).map UInt8.toNat = [104] by decide +kernel)
theorem dX12_swaps_16 : decode cX12_swaps 16 = .ok (.iadd, 1) := dc_96 (show ((cX12_swaps.data.toList.drop 16).take 1).map UInt8.toNat = [96] by decide +kernel)
theorem dX12_swaps_17 : decode cX12_swaps 17 = .ok (.iload_n 2, 1) := dc_28 (show ((cX12_swaps.data.toList.drop 17).take 1).map UInt8.toNat = [28] by decide +kernel)
theorem dX12_swaps_18 : decode cX12_swaps 18 = .ok (.iadd, 1) := dc_96 (show ((cX12_swaps.data.toList.drop 18).take 1).map UInt8.toNat = [96] by decide +kernel)
theorem dX12_swaps_19 : decode cX12_swaps 19 = .ok (.istore_n 3, 1) := dc_62 (show ((cX12_swaps.data.toList.drop 19).take 1).map UInt8.toNat = [62] by decide +kernel)
theorem dX12_swaps_20 : decode cX12_swaps 20 = .ok (.aload_n 0, 1) := dc_42 (show ((cX12_swaps.data.toList.drop 20).take 1).map UInt8.toNat = [42] by decide +kernel)
theorem dX12_swaps_21 : decode cX12_swaps 21 = .ok (.getfield 7, 3) := dc_180 (show ((cX12_swaps.data.toList.drop 21).take 3).map UInt8.toNat = [180, 0, 7] by decide +kernel) rfl
theorem dX12_swaps_24 : decode cX12_swaps 24 = .ok (.iload_n 3, 1) := dc_29 (show ((cX12_swaps.data.toList.drop 24).take 1).map UInt8.toNat = [29] by decide +kernel)
theorem dX12_swaps_25 : decode cX12_swaps 25 = .ok (.iaload, 1) := dc_46 (show ((cX12_swaps.data.toList.drop 25).take 1).map UInt8.toNat = [46] by decide +kernel)
theorem dX12_swaps_26 : decode cX12_swaps 26 = .ok (.istore 4, 2) := dc_54 (show ((cX12_swaps.data.toList.drop 26).take 2).map UInt8.toNat = [54, 4] by decide +kernel) rfl
theorem dX12_swaps_28 : decode cX12_swaps 28 = .ok (.aload_n 0, 1) := dc_42 (show ((cX12_swaps.data.toList.drop 28).take 1).map UInt8.toNat = [42] by decide +kernel)
theorem dX12_swaps_29 : decode cX12_swaps 29 = .ok (.getfield 7, 3) := dc_180 (show ((cX12_swaps.data.toList.drop 29).take 3).map UInt8.toNat = [180, 0, 7] by decide +kernel) rfl
theorem dX12_swaps_32 : decode cX12_swaps 32 = .ok (.iload_n 3, 1) := dc_29 (show ((cX12_swaps.data.toList.drop 32).take 1).map UInt8.toNat = [29] by decide +kernel)
theorem dX12_swaps_33 : decode cX12_swaps 33 = .ok (.aload_n 0, 1) := dc_42 (show ((cX12_swaps.data.toList.drop 33).take 1).map UInt8.toNat = [42] by decide +kernel)
theorem dX12_swaps_34 : decode cX12_swaps 34 = .ok (.getfield 7, 3) := dc_180 (show ((cX12_swaps.data.toList.drop 34).take 3).map UInt8.toNat = [180, 0, 7] by decide +kernel) rfl
theorem dX12_swaps_37 : decode cX12_swaps 37 = .ok (.iload_n 3, 1) := dc_29 (show ((cX12_swaps.data.toList.drop 37).take 1).map UInt8.toNat = [29] by decide +kernel)
theorem dX12_swaps_38 : decode cX12_swaps 38 = .ok (.iconst 4, 1) := dc_7 (show ((cX12_swaps.data.toList.drop 38).take 1).map UInt8.toNat = [7] by decide +kernel)
theorem dX12_swaps_39 : decode cX12_swaps 39 = .ok (.iadd, 1) := dc_96 (show ((cX12_swaps.data.toList.drop 39).take 1).map UInt8.toNat = [96] by decide +kernel)
theorem dX12_swaps_40 : decode cX12_swaps 40 = .ok (.iaload, 1) := dc_46 (show ((cX12_swaps.data.toList.drop 40).take 1).map UInt8.toNat = [46] by decide +kernel)
theorem dX12_swaps_41 : decode cX12_swaps 41 = .ok (.iastore, 1) := dc_79 (show ((cX12_swaps.data.toList.drop 41).take 1).map UInt8.toNat = [79] by decide +kernel)
theorem dX12_swaps_42 : decode cX12_swaps 42 = .ok (.aload_n 0, 1) := dc_42 (show ((cX12_swaps.data.toList.drop 42).take 1).map UInt8.toNat = [42] by decide +kernel)
theorem dX12_swaps_43 : decode cX12_swaps 43 = .ok (.getfield 7, 3) := dc_180 (show ((cX12_swaps.data.toList.drop 43).take 3).map UInt8.toNat = [180, 0, 7] by decide +kernel) rfl
theorem dX12_swaps_46 : decode cX12_swaps 46 = .ok (.iload_n 3, 1) := dc_29 (show ((cX12_swaps.data.toList.drop 46).take 1).map UInt8.toNat = [29] by decide +kernel)
theorem dX12_swaps_47 : decode cX12_swaps 47 = .ok (.iconst 4, 1) := dc_7 (show ((cX12_swaps.data.toList.drop 47).take 1).map UInt8.toNat = [7] by decide +kernel)
theorem dX12_swaps_48 : decode cX12_swaps 48 = .ok (.iadd, 1) := dc_96 (show ((cX12_swaps.data.toList.drop 48).take 1).map UInt8.toNat = [96] by decide +kernel)
theorem dX12_swaps_49 : decode cX12_swaps 49 = .ok (.iload 4, 2) := dc_21 (show ((cX12_swaps.data.toList.drop 49).take 2).map UInt8.toNat = [21, 4] by decide +kernel) rfl
theorem dX12_swaps_51 : decode cX12_swaps 51 = .ok (.iastore, 1) := dc_79 (show ((cX12_swaps.data.toList.drop 51).take 1).map UInt8.toNat = [79] by decide +kernel)
theorem dX12_swaps_52 : decode cX12_swaps 52 = .ok (.iinc 2 1, 3) := dc_132 (show ((cX12_swaps.data.toList.drop 52).take 3).map UInt8.toNat = [132, 2, 1] by decide +kernel) rfl
theorem dX12_swaps_55 : decode cX12_swaps 55 = .ok (.goto (-53), 3) := dc_167 (show ((cX12_swaps.data.toList.drop 55).take 3).map UInt8.toNat = [167, 255, 203] by decide +kernel) rfl
def ms_swaps_2 (n : Nat) : Nat → gb_F → Int64 → Int32 → Int32 → gb_MR Unit
  | 0, _, _, _, _ => none
  | mm + 1, f, w, v1, v2 => (if (4 : Int32) ≤ v2 then some (f, w, ()) else gb_lt ((((f 0 12) + 1) + (4 * v1)) + v2) (fun x_2 => gb_ck x_2 3968 (gb_lt (f 1 (Int32.toNatClampNeg x_2)) (fun x_4 => gb_ck (x_2 + 4) 3968 (gb_lt (f 1 (Int32.toNatClampNeg (x_2 + 4))) (fun x_6 => gb_ck x_2 3968 (gb_lt (gb_u f 1 (upd (f 1) (Int32.toNatClampNeg x_2) x_6)) (fun f_8 => gb_ck (x_2 + 4) 3968 (gb_lt (gb_u f_8 1 (upd (f_8 1) (Int32.toNatClampNeg (x_2 + 4)) x_4)) (fun f_10 => gb_lt (v2 + 1) (fun x_11 => ms_swaps_2 n mm f_10 w v1 x_11)))))))))))
def ms_swaps (n : Nat) (f : gb_F) (w : Int64) (p1 : Int32) : gb_MR Unit := ms_swaps_2 n n f w p1 0
set_option maxHeartbeats 8000000 in
set_option maxRecDepth 100000 in
theorem mc_swaps (l : Launch) (D : va_G) (cT : Nat → ClassId) (tt : Nat → Nat) (b1 b : Nat) (hb1 : b1 ≤ b) (n : Nat) (f : gb_F) (w : Int64) (p1 : Int32) (fE : gb_F) (wE : Int64) (rE : Unit) (h : ms_swaps n f w p1 = some (fE, wE, rE)) : Met l yX12_swaps (.code yX12_swaps cX12_swaps 5 none :: gb_wA) ({ frames := 0, cells := 0, slots := 0, locals := 0 }) (gb_Pc D cT tt b1 [.ref (b + 0), .int p1] (fun h => va_P D vwCl (gb_wl b (gb_MW cT b f w)) h)) (gb_Qv (fun h => va_P D vwCl (gb_wl b (gb_MW cT b fE wE)) h) (gb_fr b 22)) 0 0 (gb_fr b 22) := by
  refine Met.ofW (cc := cX12_swaps) (maxL := 5) (ret := none) (by decide) rfl ?_
  intro p e s m args below meth c s₁ B hml hv
  obtain ⟨rfl, hSt, hP⟩ := hv
  have hx := B.exec
  have hb := B.bytes
  have hr := B.returns
  have hts := atoms_spec (ws := .code yX12_swaps cX12_swaps 5 none :: gb_wA) B.pre
  have hq : ∀ w ∈ gb_wA, w.before _ s = true := fun w h => hts w (List.mem_cons_of_mem _ h)
  have hown : s.vm.findClass RX12 = some m.cls := findClass_of_methodNamed B.named
  have hlocks := B.notSynchronized
  clear B hts
  have hK := hSt.1
  have hS : va_S (gb_fr b 22) s.heap s.heap [] := va_S.rf
  have hl := lv_entry ([.ref (b + 0), .int p1]) (n := 5) (Nat.le_of_ble_eq_true rfl)
  rw [lg_entry_eq]
  generalize (lg_sl ([.ref (b + 0), .int p1]) ++ List.replicate (5 - (lg_sl ([.ref (b + 0), .int p1])).length) Slot.unset).toArray = ls at hl ⊢
  replace hl : lv_has ls 5 [(0, .ref (b + 0)), (1, .int p1)] := hl
  have L2 : ∀ (mm : Nat) (f : gb_F) (w : Int64) (v1 : Int32) (v2 : Int32) (H : Heap) (locs : List Loc) (ls : Array Slot), ms_swaps_2 n mm f w v1 v2 = some (fE, wE, rE) → va_P D vwCl (gb_wl b (gb_MW cT b f w)) H → va_S (gb_fr b 22) s.heap H locs → lv_has ls 5 [(0, .ref (b + 0)), (1, .int v1), (2, .int v2)] → W p l e (headSpec (.code yX12_swaps cX12_swaps 5 none :: gb_wA) ({ frames := 0, cells := 0, slots := 0, locals := 0 })).room s m ([.ref (b + 0), .int p1]).toArray below meth c H locs 0 0 (MQ below (gb_Qv (fun h => va_P D vwCl (gb_wl b (gb_MW cT b fE wE)) h) (gb_fr b 22)) ([.ref (b + 0), .int p1]).toArray s 0 0 (gb_fr b 22)) (F0 m 2 ls []) := by
    clear h hP hS hl ls f w
    intro mm
    induction mm with
    | zero =>
      intro f w v1 v2 H locs ls h
      cases h
    | succ mm ih =>
      intro f w v1 v2 H locs ls h hP hS hl
      rw [ms_swaps_2] at h
      refine lv_iload_n hx hb dX12_swaps_2 rfl (lv_at hl 2 rfl) ?_
      refine lv_iconst (v := 4) hx hb dX12_swaps_3 (by decide) ?_
      refine lv_icmp_ge (tgt := 58) hx hb dX12_swaps_4 (by decide) (fun c_1 => ?_) (fun c_1 => ?_)
      · rw [if_pos c_1] at h
        obtain ⟨e1, e2, -⟩ := gb_eq3 h
        exact W.vret hx hb hr (fun t ht hW => gb_rv ht (by rw [← e1, ← e2]; exact hP) hS) hS.2.2 dX12_swaps_58
      · rw [if_neg c_1] at h
        refine lv_aload_n hx hb dX12_swaps_7 rfl (lv_at hl 0 rfl) ?_
        refine va_get (ci := 10) (v := (.int (f 0 12))) (C := RX12) (T := TX12) (N := 44) hx hb hq i_X12 hown hK hP 0 (gb_at b rfl) rfl 12 (by decide) (hq _ w_1136) (fun _ h9 => h9) rfl dX12_swaps_8 ?_
        refine lv_iconst (v := 1) hx hb dX12_swaps_11 (by decide) ?_
        refine lv_iadd hx hb dX12_swaps_12 ?_
        refine lv_iconst (v := 4) hx hb dX12_swaps_13 (by decide) ?_
        refine lv_iload_n hx hb dX12_swaps_14 rfl (lv_at hl 1 rfl) ?_
        refine lv_imul hx hb dX12_swaps_15 ?_
        refine lv_iadd hx hb dX12_swaps_16 ?_
        refine lv_iload_n hx hb dX12_swaps_17 rfl (lv_at hl 2 rfl) ?_
        refine lv_iadd hx hb dX12_swaps_18 ?_
        refine lv_topi (fun x_2 ex_2 => ?_)
        replace h := gb_lt_s ex_2 h
        refine lv_istore_n (lv' := [(3, .int x_2), (0, .ref (b + 0)), (1, .int v1), (2, .int v2)]) hx hb dX12_swaps_19 rfl hl (by decide) rfl (fun ls hl => ?_)
        refine lv_aload_n hx hb dX12_swaps_20 rfl (lv_at hl 1 rfl) ?_
        refine va_get (ci := 10) (v := (.ref (b + 1))) (C := RX12) (T := TX12) (N := 44) hx hb hq i_X12 hown hK hP 0 (gb_at b rfl) rfl 0 (by decide) (hq _ w_1124) (fun _ h9 => h9) rfl dX12_swaps_21 ?_
        refine lv_iload_n hx hb dX12_swaps_24 rfl (lv_at hl 0 rfl) ?_
        obtain ⟨z_3, h⟩ := gb_ck_s h
        refine va_iald hx hb hK hP 1 0 (gb_at b rfl) rfl z_3 dX12_swaps_25 ?_
        refine lv_topi (fun x_4 ex_4 => ?_)
        replace h := gb_lt_s ex_4 h
        refine lv_istore (lv' := [(4, .int x_4), (3, .int x_2), (0, .ref (b + 0)), (1, .int v1), (2, .int v2)]) hx hb dX12_swaps_26 hl (by decide) rfl (fun ls hl => ?_)
        refine lv_aload_n hx hb dX12_swaps_28 rfl (lv_at hl 2 rfl) ?_
        refine va_get (ci := 10) (v := (.ref (b + 1))) (C := RX12) (T := TX12) (N := 44) hx hb hq i_X12 hown hK hP 0 (gb_at b rfl) rfl 0 (by decide) (hq _ w_1124) (fun _ h9 => h9) rfl dX12_swaps_29 ?_
        refine lv_iload_n hx hb dX12_swaps_32 rfl (lv_at hl 1 rfl) ?_
        refine lv_aload_n hx hb dX12_swaps_33 rfl (lv_at hl 2 rfl) ?_
        refine va_get (ci := 10) (v := (.ref (b + 1))) (C := RX12) (T := TX12) (N := 44) hx hb hq i_X12 hown hK hP 0 (gb_at b rfl) rfl 0 (by decide) (hq _ w_1124) (fun _ h9 => h9) rfl dX12_swaps_34 ?_
        refine lv_iload_n hx hb dX12_swaps_37 rfl (lv_at hl 1 rfl) ?_
        refine lv_iconst (v := 4) hx hb dX12_swaps_38 (by decide) ?_
        refine lv_iadd hx hb dX12_swaps_39 ?_
        obtain ⟨z_5, h⟩ := gb_ck_s h
        refine va_iald hx hb hK hP 1 0 (gb_at b rfl) rfl z_5 dX12_swaps_40 ?_
        refine lv_topi (fun x_6 ex_6 => ?_)
        replace h := gb_lt_s ex_6 h
        obtain ⟨z_7, h⟩ := gb_ck_s h
        refine gb_iast (x := x_6) hx hb hK hP (fun k h => ⟨Nat.le_add_right b k, Nat.add_lt_add_left h b⟩) hS rfl 1 0 rfl rfl z_7 dX12_swaps_41 (fun H locs hP hz_ hS => ?_)
        obtain ⟨f_8, ef_8⟩ : ∃ q, q = (gb_u f 1 (upd (f 1) (Int32.toNatClampNeg x_2) x_6)) := ⟨_, rfl⟩
        replace hP : va_P D vwCl (gb_wl b (gb_MW cT b f_8 w)) H := by rw [ef_8]; exact hP
        replace h := gb_lt_s ef_8 h
        refine lv_aload_n hx hb dX12_swaps_42 rfl (lv_at hl 2 rfl) ?_
        refine va_get (ci := 10) (v := (.ref (b + 1))) (C := RX12) (T := TX12) (N := 44) hx hb hq i_X12 hown hK hP 0 (gb_at b rfl) rfl 0 (by decide) (hq _ w_1124) (fun _ h9 => h9) rfl dX12_swaps_43 ?_
        refine lv_iload_n hx hb dX12_swaps_46 rfl (lv_at hl 1 rfl) ?_
        refine lv_iconst (v := 4) hx hb dX12_swaps_47 (by decide) ?_
        refine lv_iadd hx hb dX12_swaps_48 ?_
        refine lv_iload hx hb dX12_swaps_49 (lv_at hl 0 rfl) ?_
        obtain ⟨z_9, h⟩ := gb_ck_s h
        refine gb_iast (x := x_4) hx hb hK hP (fun k h => ⟨Nat.le_add_right b k, Nat.add_lt_add_left h b⟩) hS rfl 1 0 rfl rfl z_9 dX12_swaps_51 (fun H locs hP hz_ hS => ?_)
        obtain ⟨f_10, ef_10⟩ : ∃ q, q = (gb_u f_8 1 (upd (f_8 1) (Int32.toNatClampNeg (x_2 + 4)) x_4)) := ⟨_, rfl⟩
        replace hP : va_P D vwCl (gb_wl b (gb_MW cT b f_10 w)) H := by rw [ef_10]; exact hP
        replace h := gb_lt_s ef_10 h
        obtain ⟨x_11, ex_11⟩ : ∃ q, q = (v2 + 1) := ⟨_, rfl⟩
        replace h := gb_lt_s ex_11 h
        refine lv_iinc (v := x_11) (lv' := [(2, .int x_11), (4, .int x_4), (3, .int x_2), (0, .ref (b + 0)), (1, .int v1)]) hx hb dX12_swaps_52 hl (k := 4) rfl (by rw [ex_11]; rfl) (by decide) rfl (fun ls hl => ?_)
        refine lv_goto (tgt := 2) hx hb dX12_swaps_55 (by decide) ?_
        exact ih _ _ _ _ _ _ _ h hP hS (lv_sub hl [3, 4, 0] rfl)
  unfold ms_swaps at h
  refine lv_iconst (v := 0) hx hb dX12_swaps_0 (by decide) ?_
  refine lv_istore_n (lv' := [(2, .int 0), (0, .ref (b + 0)), (1, .int p1)]) hx hb dX12_swaps_1 rfl hl (by decide) rfl (fun ls hl => ?_)
  exact L2 n _ _ _ _ _ _ _ h hP hS (lv_sub hl [1, 2, 0] rfl)
theorem dX12_shift_0 : decode cX12_shift 0 = .ok (.aload_n 0, 1) := dc_42 (show ((cX12_shift.data.toList.drop 0).take 1).map UInt8.toNat = [42] by decide +kernel)
theorem dX12_shift_1 : decode cX12_shift 1 = .ok (.iload_n 1, 1) := dc_27 (show ((cX12_shift.data.toList.drop 1).take 1).map UInt8.toNat = [27] by decide +kernel)
theorem dX12_shift_2 : decode cX12_shift 2 = .ok (.iload_n 2, 1) := dc_28 (show ((cX12_shift.data.toList.drop 2).take 1).map UInt8.toNat = [28] by decide +kernel)
theorem dX12_shift_3 : decode cX12_shift 3 = .ok (.invokevirtual 264, 3) := dc_182 (show ((cX12_shift.data.toList.drop 3).take 3).map UInt8.toNat = [182, 1, 8] by decide +kernel) rfl
theorem dX12_shift_6 : decode cX12_shift 6 = .ok (.ifCond .ne 5, 3) := dc_154 (show ((cX12_shift.data.toList.drop 6).take 3).map UInt8.toNat = [154, 0, 5] by decide +kernel) rfl
theorem dX12_shift_11 : decode cX12_shift 11 = .ok (.aload_n 0, 1) := dc_42 (show ((cX12_shift.data.toList.drop 11).take 1).map UInt8.toNat = [42] by decide +kernel)
theorem dX12_shift_12 : decode cX12_shift 12 = .ok (.bipush 24, 2) := dc_16 (show ((cX12_shift.data.toList.drop 12).take 2).map UInt8.toNat = [16, 24] by decide +kernel) rfl
theorem dX12_shift_14 : decode cX12_shift 14 = .ok (.invokevirtual 267, 3) := dc_182 (show ((cX12_shift.data.toList.drop 14).take 3).map UInt8.toNat = [182, 1, 11] by decide +kernel) rfl
theorem dX12_shift_17 : decode cX12_shift 17 = .ok (.aload_n 0, 1) := dc_42 (show ((cX12_shift.data.toList.drop 17).take 1).map UInt8.toNat = [42] by decide +kernel)
theorem dX12_shift_18 : decode cX12_shift 18 = .ok (.getfield 236, 3) := dc_180 (show ((cX12_shift.data.toList.drop 18).take 3).map UInt8.toNat = [180, 0, 236] by decide +kernel) rfl
theorem dX12_shift_21 : decode cX12_shift 21 = .ok (.istore 4, 2) := dc_54 (show ((cX12_shift.data.toList.drop 21).take 2).map UInt8.toNat = [54, 4] by decide +kernel) rfl
theorem dX12_shift_23 : decode cX12_shift 23 = .ok (.aload_n 0, 1) := dc_42 (show ((cX12_shift.data.toList.drop 23).take 1).map UInt8.toNat = [42] by decide +kernel)
theorem dX12_shift_24 : decode cX12_shift 24 = .ok (.invokevirtual 285, 3) := dc_182 (show ((cX12_shift.data.toList.drop 24).take 3).map UInt8.toNat = [182, 1, 29] by decide +kernel) rfl
theorem dX12_shift_27 : decode cX12_shift 27 = .ok (.istore 5, 2) := dc_54 (show ((cX12_shift.data.toList.drop 27).take 2).map UInt8.toNat = [54, 5] by decide +kernel) rfl
theorem dX12_shift_29 : decode cX12_shift 29 = .ok (.iconst (-1), 1) := dc_2 (show ((cX12_shift.data.toList.drop 29).take 1).map UInt8.toNat = [2] by decide +kernel)
theorem dX12_shift_30 : decode cX12_shift 30 = .ok (.istore 6, 2) := dc_54 (show ((cX12_shift.data.toList.drop 30).take 2).map UInt8.toNat = [54, 6] by decide +kernel) rfl
theorem dX12_shift_32 : decode cX12_shift 32 = .ok (.iconst 0, 1) := dc_3 (show ((cX12_shift.data.toList.drop 32).take 1).map UInt8.toNat = [3] by decide +kernel)
theorem dX12_shift_33 : decode cX12_shift 33 = .ok (.istore 7, 2) := dc_54 (show ((cX12_shift.data.toList.drop 33).take 2).map UInt8.toNat = [54, 7] by decide +kernel) rfl
theorem dX12_shift_35 : decode cX12_shift 35 = .ok (.iload 7, 2) := dc_21 (show ((cX12_shift.data.toList.drop 35).take 2).map UInt8.toNat = [21, 7] by decide +kernel) rfl
theorem dX12_shift_37 : decode cX12_shift 37 = .ok (.iconst 1, 1) := dc_4 (show ((cX12_shift.data.toList.drop 37).take 1).map UInt8.toNat = [4] by decide +kernel)
theorem dX12_shift_38 : decode cX12_shift 38 = .ok (.iadd, 1) := dc_96 (show ((cX12_shift.data.toList.drop 38).take 1).map UInt8.toNat = [96] by decide +kernel)
theorem dX12_shift_39 : decode cX12_shift 39 = .ok (.iload 4, 2) := dc_21 (show ((cX12_shift.data.toList.drop 39).take 2).map UInt8.toNat = [21, 4] by decide +kernel) rfl
theorem dX12_shift_41 : decode cX12_shift 41 = .ok (.if_icmp .ge 82, 3) := dc_162 (show ((cX12_shift.data.toList.drop 41).take 3).map UInt8.toNat = [162, 0, 82] by decide +kernel) rfl
theorem dX12_shift_123 : decode cX12_shift 123 = .ok (.iload_n 3, 1) := dc_29 (show ((cX12_shift.data.toList.drop 123).take 1).map UInt8.toNat = [29] by decide +kernel)
theorem dX12_shift_124 : decode cX12_shift 124 = .ok (.ifCond .eq 13, 3) := dc_153 (show ((cX12_shift.data.toList.drop 124).take 3).map UInt8.toNat = [153, 0, 13] by decide +kernel) rfl
theorem dX12_shift_137 : decode cX12_shift 137 = .ok (.iload 6, 2) := dc_21 (show ((cX12_shift.data.toList.drop 137).take 2).map UInt8.toNat = [21, 6] by decide +kernel) rfl
theorem dX12_shift_139 : decode cX12_shift 139 = .ok (.ireturn, 1) := dc_172 (show ((cX12_shift.data.toList.drop 139).take 1).map UInt8.toNat = [172] by decide +kernel)
theorem dX12_shift_127 : decode cX12_shift 127 = .ok (.iload 6, 2) := dc_21 (show ((cX12_shift.data.toList.drop 127).take 2).map UInt8.toNat = [21, 6] by decide +kernel) rfl
theorem dX12_shift_129 : decode cX12_shift 129 = .ok (.ifCond .lt 8, 3) := dc_155 (show ((cX12_shift.data.toList.drop 129).take 3).map UInt8.toNat = [155, 0, 8] by decide +kernel) rfl
theorem dX12_shift_132 : decode cX12_shift 132 = .ok (.iload 5, 2) := dc_21 (show ((cX12_shift.data.toList.drop 132).take 2).map UInt8.toNat = [21, 5] by decide +kernel) rfl
theorem dX12_shift_134 : decode cX12_shift 134 = .ok (.goto 5, 3) := dc_167 (show ((cX12_shift.data.toList.drop 134).take 3).map UInt8.toNat = [167, 0, 5] by decide +kernel) rfl
theorem dX12_shift_44 : decode cX12_shift 44 = .ok (.aload_n 0, 1) := dc_42 (show ((cX12_shift.data.toList.drop 44).take 1).map UInt8.toNat = [42] by decide +kernel)
theorem dX12_shift_45 : decode cX12_shift 45 = .ok (.iload 7, 2) := dc_21 (show ((cX12_shift.data.toList.drop 45).take 2).map UInt8.toNat = [21, 7] by decide +kernel) rfl
theorem dX12_shift_47 : decode cX12_shift 47 = .ok (.invokevirtual 406, 3) := dc_182 (show ((cX12_shift.data.toList.drop 47).take 3).map UInt8.toNat = [182, 1, 150] by decide +kernel) rfl
theorem w_1704 : (Cond.code ({ cls := "GooseBorderModel", name := "swaps", desc := "(I)V" } : MethodName) prog_14_method_113_code (5 : Nat) (Option.none : Option FieldType)) ∈ gb_wA := gb_t8 24 rfl rfl
theorem w_1701 : (Cond.methodLink "GooseBorderModel" (406 : Nat) ({ cls := "GooseBorderModel", name := "swaps", desc := "(I)V" } : MethodName)) ∈ gb_wA := gb_t8 21 rfl rfl
theorem w_1703 : (Cond.instanceMethod ({ cls := "GooseBorderModel", name := "swaps", desc := "(I)V" } : MethodName)) ∈ gb_wA := gb_t8 23 rfl rfl
theorem s_7_5 : Cond.selects "GooseBorderModel" (⟨"GooseBorderModel", "swaps", "(I)V"⟩ : MethodName) (⟨"GooseBorderModel", "swaps", "(I)V"⟩ : MethodName) ∈ gb_wA := gb_s7 5 rfl rfl
theorem dX12_shift_50 : decode cX12_shift 50 = .ok (.aload_n 0, 1) := dc_42 (show ((cX12_shift.data.toList.drop 50).take 1).map UInt8.toNat = [42] by decide +kernel)
theorem dX12_shift_51 : decode cX12_shift 51 = .ok (.bipush 24, 2) := dc_16 (show ((cX12_shift.data.toList.drop 51).take 2).map UInt8.toNat = [16, 24] by decide +kernel) rfl
theorem dX12_shift_53 : decode cX12_shift 53 = .ok (.invokevirtual 267, 3) := dc_182 (show ((cX12_shift.data.toList.drop 53).take 3).map UInt8.toNat = [182, 1, 11] by decide +kernel) rfl
theorem dX12_shift_56 : decode cX12_shift 56 = .ok (.aload_n 0, 1) := dc_42 (show ((cX12_shift.data.toList.drop 56).take 1).map UInt8.toNat = [42] by decide +kernel)
theorem dX12_shift_57 : decode cX12_shift 57 = .ok (.getfield 236, 3) := dc_180 (show ((cX12_shift.data.toList.drop 57).take 3).map UInt8.toNat = [180, 0, 236] by decide +kernel) rfl
theorem dX12_shift_60 : decode cX12_shift 60 = .ok (.iload 4, 2) := dc_21 (show ((cX12_shift.data.toList.drop 60).take 2).map UInt8.toNat = [21, 4] by decide +kernel) rfl
theorem dX12_shift_62 : decode cX12_shift 62 = .ok (.if_icmp .lt 16, 3) := dc_161 (show ((cX12_shift.data.toList.drop 62).take 3).map UInt8.toNat = [161, 0, 16] by decide +kernel) rfl
theorem dX12_shift_78 : decode cX12_shift 78 = .ok (.iconst 0, 1) := dc_3 (show ((cX12_shift.data.toList.drop 78).take 1).map UInt8.toNat = [3] by decide +kernel)
theorem dX12_shift_79 : decode cX12_shift 79 = .ok (.istore 8, 2) := dc_54 (show ((cX12_shift.data.toList.drop 79).take 2).map UInt8.toNat = [54, 8] by decide +kernel) rfl
theorem dX12_shift_81 : decode cX12_shift 81 = .ok (.iload 8, 2) := dc_21 (show ((cX12_shift.data.toList.drop 81).take 2).map UInt8.toNat = [21, 8] by decide +kernel) rfl
theorem dX12_shift_83 : decode cX12_shift 83 = .ok (.ifCond .eq 10, 3) := dc_153 (show ((cX12_shift.data.toList.drop 83).take 3).map UInt8.toNat = [153, 0, 10] by decide +kernel) rfl
theorem dX12_shift_93 : decode cX12_shift 93 = .ok (.iload 5, 2) := dc_21 (show ((cX12_shift.data.toList.drop 93).take 2).map UInt8.toNat = [21, 5] by decide +kernel) rfl
theorem dX12_shift_95 : decode cX12_shift 95 = .ok (.istore 5, 2) := dc_54 (show ((cX12_shift.data.toList.drop 95).take 2).map UInt8.toNat = [54, 5] by decide +kernel) rfl
theorem dX12_shift_97 : decode cX12_shift 97 = .ok (.iload 8, 2) := dc_21 (show ((cX12_shift.data.toList.drop 97).take 2).map UInt8.toNat = [21, 8] by decide +kernel) rfl
theorem dX12_shift_99 : decode cX12_shift 99 = .ok (.ifCond .eq 8, 3) := dc_153 (show ((cX12_shift.data.toList.drop 99).take 3).map UInt8.toNat = [153, 0, 8] by decide +kernel) rfl
theorem dX12_shift_107 : decode cX12_shift 107 = .ok (.iload 6, 2) := dc_21 (show ((cX12_shift.data.toList.drop 107).take 2).map UInt8.toNat = [21, 6] by decide +kernel) rfl
theorem dX12_shift_109 : decode cX12_shift 109 = .ok (.istore 6, 2) := dc_54 (show ((cX12_shift.data.toList.drop 109).take 2).map UInt8.toNat = [54, 6] by decide +kernel) rfl
theorem dX12_shift_111 : decode cX12_shift 111 = .ok (.aload_n 0, 1) := dc_42 (show ((cX12_shift.data.toList.drop 111).take 1).map UInt8.toNat = [42] by decide +kernel)
theorem dX12_shift_112 : decode cX12_shift 112 = .ok (.iload 7, 2) := dc_21 (show ((cX12_shift.data.toList.drop 112).take 2).map UInt8.toNat = [21, 7] by decide +kernel) rfl
theorem dX12_shift_114 : decode cX12_shift 114 = .ok (.invokevirtual 406, 3) := dc_182 (show ((cX12_shift.data.toList.drop 114).take 3).map UInt8.toNat = [182, 1, 150] by decide +kernel) rfl
theorem dX12_shift_117 : decode cX12_shift 117 = .ok (.iinc 7 1, 3) := dc_132 (show ((cX12_shift.data.toList.drop 117).take 3).map UInt8.toNat = [132, 7, 1] by decide +kernel) rfl
theorem dX12_shift_120 : decode cX12_shift 120 = .ok (.goto (-85), 3) := dc_167 (show ((cX12_shift.data.toList.drop 120).take 3).map UInt8.toNat = [167, 255, 171] by decide +kernel) rfl
theorem dX12_shift_102 : decode cX12_shift 102 = .ok (.iload 7, 2) := dc_21 (show ((cX12_shift.data.toList.drop 102).take 2).map UInt8.toNat = [21, 7] by decide +kernel) rfl
theorem dX12_shift_104 : decode cX12_shift 104 = .ok (.goto 5, 3) := dc_167 (show ((cX12_shift.data.toList.drop 104).take 3).map UInt8.toNat = [167, 0, 5] by decide +kernel) rfl
theorem dX12_shift_86 : decode cX12_shift 86 = .ok (.aload_n 0, 1) := dc_42 (show ((cX12_shift.data.toList.drop 86).take 1).map UInt8.toNat = [42] by decide +kernel)
theorem dX12_shift_87 : decode cX12_shift 87 = .ok (.invokevirtual 285, 3) := dc_182 (show ((cX12_shift.data.toList.drop 87).take 3).map UInt8.toNat = [182, 1, 29] by decide +kernel) rfl
theorem dX12_shift_90 : decode cX12_shift 90 = .ok (.goto 5, 3) := dc_167 (show ((cX12_shift.data.toList.drop 90).take 3).map UInt8.toNat = [167, 0, 5] by decide +kernel) rfl
theorem dX12_shift_65 : decode cX12_shift 65 = .ok (.aload_n 0, 1) := dc_42 (show ((cX12_shift.data.toList.drop 65).take 1).map UInt8.toNat = [42] by decide +kernel)
theorem dX12_shift_66 : decode cX12_shift 66 = .ok (.invokevirtual 285, 3) := dc_182 (show ((cX12_shift.data.toList.drop 66).take 3).map UInt8.toNat = [182, 1, 29] by decide +kernel) rfl
theorem dX12_shift_69 : decode cX12_shift 69 = .ok (.iload 5, 2) := dc_21 (show ((cX12_shift.data.toList.drop 69).take 2).map UInt8.toNat = [21, 5] by decide +kernel) rfl
theorem dX12_shift_71 : decode cX12_shift 71 = .ok (.if_icmp .le 7, 3) := dc_164 (show ((cX12_shift.data.toList.drop 71).take 3).map UInt8.toNat = [164, 0, 7] by decide +kernel) rfl
theorem dX12_shift_74 : decode cX12_shift 74 = .ok (.iconst 1, 1) := dc_4 (show ((cX12_shift.data.toList.drop 74).take 1).map UInt8.toNat = [4] by decide +kernel)
theorem dX12_shift_75 : decode cX12_shift 75 = .ok (.goto 4, 3) := dc_167 (show ((cX12_shift.data.toList.drop 75).take 3).map UInt8.toNat = [167, 0, 4] by decide +kernel) rfl
theorem dX12_shift_9 : decode cX12_shift 9 = .ok (.iconst (-1), 1) := dc_2 (show ((cX12_shift.data.toList.drop 9).take 1).map UInt8.toNat = [2] by decide +kernel)
theorem dX12_shift_10 : decode cX12_shift 10 = .ok (.ireturn, 1) := dc_172 (show ((cX12_shift.data.toList.drop 10).take 1).map UInt8.toNat = [172] by decide +kernel)
def ms_shift_79 (n : Nat) (k35 : gb_F → Int64 → Int32 → Int32 → Int32 → Int32 → Int32 → gb_MR Int32) (f : gb_F) (w : Int64) (v3 : Int32) (v4 : Int32) (v5 : Int32) (v6 : Int32) (v7 : Int32) (t0 : Int32) : gb_MR Int32 := (if t0 = 0 then (if t0 = 0 then gb_bd (ms_swaps n f w v7) (fun f_34 wl_35 _ => gb_lt (v7 + 1) (fun x_39 => k35 f_34 wl_35 v3 v4 v5 v6 x_39)) else gb_bd (ms_swaps n f w v7) (fun f_40 wl_41 _ => gb_lt (v7 + 1) (fun x_45 => k35 f_40 wl_41 v3 v4 v5 v7 x_45))) else gb_bd (ms_allPay n f w) (fun f_46 wl_47 r_48 => (if t0 = 0 then gb_bd (ms_swaps n f_46 wl_47 v7) (fun f_52 wl_53 _ => gb_lt (v7 + 1) (fun x_57 => k35 f_52 wl_53 v3 v4 r_48 v6 x_57)) else gb_bd (ms_swaps n f_46 wl_47 v7) (fun f_58 wl_59 _ => gb_lt (v7 + 1) (fun x_63 => k35 f_58 wl_59 v3 v4 r_48 v7 x_63)))))
def ms_shift_78 (n : Nat) (k35 : gb_F → Int64 → Int32 → Int32 → Int32 → Int32 → Int32 → gb_MR Int32) (f : gb_F) (w : Int64) (v3 : Int32) (v4 : Int32) (v5 : Int32) (v6 : Int32) (v7 : Int32) : gb_MR Int32 := ms_shift_79 n k35 f w v3 v4 v5 v6 v7 0
def ms_shift_35 (n : Nat) : Nat → gb_F → Int64 → Int32 → Int32 → Int32 → Int32 → Int32 → gb_MR Int32
  | 0, _, _, _, _, _, _, _ => none
  | mm + 1, f, w, v3, v4, v5, v6, v7 => (if v4 ≤ (v7 + 1) then (if v3 = 0 then some (f, w, v6) else (if v6 < 0 then some (f, w, v6) else some (f, w, v5))) else gb_bd (ms_swaps n f w v7) (fun f_21 wl_22 _ => gb_bd (ms_runs n f_21 wl_22 24) (fun f_26 wl_27 _ => (if (f_26 0 23) < v4 then ms_shift_78 n (fun f w v3 v4 v5 v6 v7 => ms_shift_35 n mm f w v3 v4 v5 v6 v7) f_26 wl_27 v3 v4 v5 v6 v7 else gb_bd (ms_allPay n f_26 wl_27) (fun f_64 wl_65 r_66 => (if r_66 ≤ v5 then ms_shift_78 n (fun f w v3 v4 v5 v6 v7 => ms_shift_35 n mm f w v3 v4 v5 v6 v7) f_64 wl_65 v3 v4 v5 v6 v7 else ms_shift_79 n (fun f w v3 v4 v5 v6 v7 => ms_shift_35 n mm f w v3 v4 v5 v6 v7) f_64 wl_65 v3 v4 v5 v6 v7 1))))))
def ms_shift (n : Nat) (f : gb_F) (w : Int64) (p1 : Int32) (p2 : Int32) (p3 : Int32) : gb_MR Int32 := gb_bd (ms_areTold n f w p1 p2) (fun f_1 wl_2 r_3 => (if r_3 = 0 then some (f_1, wl_2, (-1)) else gb_bd (ms_runs n f_1 wl_2 24) (fun f_7 wl_8 _ => gb_lt (f_7 0 23) (fun x_12 => gb_bd (ms_allPay n f_7 wl_8) (fun f_13 wl_14 r_15 => ms_shift_35 n n f_13 wl_14 p3 x_12 r_15 (-1) 0)))))
set_option maxHeartbeats 8000000 in
set_option maxRecDepth 100000 in
theorem mc_shift (l : Launch) (D : va_G) (cT : Nat → ClassId) (tt : Nat → Nat) (b1 b : Nat) (hb1 : b1 ≤ b) (n : Nat) (f : gb_F) (w : Int64) (p1 : Int32) (p2 : Int32) (p3 : Int32) (fE : gb_F) (wE : Int64) (rE : Int32) (h : ms_shift n f w p1 p2 p3 = some (fE, wE, rE)) : Met l yX12_shift (.code yX12_shift cX12_shift 9 (some FieldType.int) :: gb_wA) ({ frames := 6, cells := 0, slots := 0, locals := 141 }) (gb_Pc D cT tt b1 [.ref (b + 0), .int p1, .int p2, .int p3] (fun h => va_P D vwCl (gb_wl b (gb_MW cT b f w)) h)) (gb_Qi (fun r h => r = rE ∧ va_P D vwCl (gb_wl b (gb_MW cT b fE wE)) h) (gb_fr b 22)) 0 0 (gb_fr b 22) := by
  refine Met.ofW (cc := cX12_shift) (maxL := 9) (ret := (some FieldType.int)) (by decide) rfl ?_
  intro p e s m args below meth c s₁ B hml hv
  obtain ⟨rfl, hSt, hP⟩ := hv
  have hx := B.exec
  have hb := B.bytes
  have hr := B.returns
  have hts := atoms_spec (ws := .code yX12_shift cX12_shift 9 (some FieldType.int) :: gb_wA) B.pre
  have hq : ∀ w ∈ gb_wA, w.before _ s = true := fun w h => hts w (List.mem_cons_of_mem _ h)
  have hown : s.vm.findClass RX12 = some m.cls := findClass_of_methodNamed B.named
  have hlocks := B.notSynchronized
  clear B hts
  have hK := hSt.1
  have hS : va_S (gb_fr b 22) s.heap s.heap [] := va_S.rf
  have hl := lv_entry ([.ref (b + 0), .int p1, .int p2, .int p3]) (n := 9) (Nat.le_of_ble_eq_true rfl)
  rw [lg_entry_eq]
  generalize (lg_sl ([.ref (b + 0), .int p1, .int p2, .int p3]) ++ List.replicate (9 - (lg_sl ([.ref (b + 0), .int p1, .int p2, .int p3])).length) Slot.unset).toArray = ls at hl ⊢
  replace hl : lv_has ls 9 [(0, .ref (b + 0)), (1, .int p1), (2, .int p2), (3, .int p3)] := hl
  have L79 : ∀ (k35 : gb_F → Int64 → Int32 → Int32 → Int32 → Int32 → Int32 → gb_MR Int32) (hk35 : ∀ (f : gb_F) (w : Int64) (v3 : Int32) (v4 : Int32) (v5 : Int32) (v6 : Int32) (v7 : Int32) (H : Heap) (locs : List Loc) (ls : Array Slot), k35 f w v3 v4 v5 v6 v7 = some (fE, wE, rE) → va_P D vwCl (gb_wl b (gb_MW cT b f w)) H → va_S (gb_fr b 22) s.heap H locs → lv_has ls 9 [(0, .ref (b + 0)), (3, .int v3), (4, .int v4), (5, .int v5), (6, .int v6), (7, .int v7)] → W p l e (headSpec (.code yX12_shift cX12_shift 9 (some FieldType.int) :: gb_wA) ({ frames := 6, cells := 0, slots := 0, locals := 141 })).room s m ([.ref (b + 0), .int p1, .int p2, .int p3]).toArray below meth c H locs 0 0 (MQ below (gb_Qi (fun r h => r = rE ∧ va_P D vwCl (gb_wl b (gb_MW cT b fE wE)) h) (gb_fr b 22)) ([.ref (b + 0), .int p1, .int p2, .int p3]).toArray s 0 0 (gb_fr b 22)) (F0 m 35 ls [])) (f : gb_F) (w : Int64) (v3 : Int32) (v4 : Int32) (v5 : Int32) (v6 : Int32) (v7 : Int32) (t0 : Int32) (H : Heap) (locs : List Loc) (ls : Array Slot), ms_shift_79 n k35 f w v3 v4 v5 v6 v7 t0 = some (fE, wE, rE) → va_P D vwCl (gb_wl b (gb_MW cT b f w)) H → va_S (gb_fr b 22) s.heap H locs → lv_has ls 9 [(0, .ref (b + 0)), (3, .int v3), (4, .int v4), (5, .int v5), (6, .int v6), (7, .int v7)] → W p l e (headSpec (.code yX12_shift cX12_shift 9 (some FieldType.int) :: gb_wA) ({ frames := 6, cells := 0, slots := 0, locals := 141 })).room s m ([.ref (b + 0), .int p1, .int p2, .int p3]).toArray below meth c H locs 0 0 (MQ below (gb_Qi (fun r h => r = rE ∧ va_P D vwCl (gb_wl b (gb_MW cT b fE wE)) h) (gb_fr b 22)) ([.ref (b + 0), .int p1, .int p2, .int p3]).toArray s 0 0 (gb_fr b 22)) (F0 m 79 ls [.int t0]) := by
    clear h hP hS hl ls f w
    intro k35 hk35 f w v3 v4 v5 v6 v7 t0 H locs ls h hP hS hl
    unfold ms_shift_79 at h
    refine lv_istore (lv' := [(8, .int t0), (0, .ref (b + 0)), (3, .int v3), (4, .int v4), (5, .int v5), (6, .int v6), (7, .int v7)]) hx hb dX12_shift_79 hl (by decide) rfl (fun ls hl => ?_)
    refine lv_iload hx hb dX12_shift_81 (lv_at hl 0 rfl) ?_
    refine lv_if_eq (tgt := 93) hx hb dX12_shift_83 (by decide) (fun c_32 => ?_) (fun c_32 => ?_)
    · rw [if_pos c_32] at h
      refine lv_iload hx hb dX12_shift_93 (lv_at hl 4 rfl) ?_
      refine lv_istore (lv' := [(5, .int v5), (8, .int t0), (0, .ref (b + 0)), (3, .int v3), (4, .int v4), (6, .int v6), (7, .int v7)]) hx hb dX12_shift_95 hl (by decide) rfl (fun ls hl => ?_)
      refine lv_iload hx hb dX12_shift_97 (lv_at hl 1 rfl) ?_
      refine lv_if_eq (tgt := 107) hx hb dX12_shift_99 (by decide) (fun c_33 => ?_) (fun c_33 => ?_)
      · rw [if_pos c_33] at h
        refine lv_iload hx hb dX12_shift_107 (lv_at hl 5 rfl) ?_
        refine lv_istore (lv' := [(6, .int v6), (5, .int v5), (8, .int t0), (0, .ref (b + 0)), (3, .int v3), (4, .int v4), (7, .int v7)]) hx hb dX12_shift_109 hl (by decide) rfl (fun ls hl => ?_)
        refine lv_aload_n hx hb dX12_shift_111 rfl (lv_at hl 3 rfl) ?_
        refine lv_iload hx hb dX12_shift_112 (lv_at hl 6 rfl) ?_
        obtain ⟨f_34, wl_35, r_36, z_37, h⟩ := gb_bd_s h
        refine gb_callv (va_runV (C := RX12) (As := [.int v7]) (rest := []) ⟨hx, hb, hml, hown, hq⟩ (mc_swaps l D cT tt b1 b hb1 n f w v7 f_34 wl_35 r_36 z_37) (cwV 1 hq (gb_gV w_1701 w_1703 s_7_5 w_14 w_1704) rfl rfl rfl (by decide +kernel) ⟨Nat.le_of_ble_eq_true rfl, Nat.le_of_ble_eq_true rfl⟩) (gb_preV (r := (RX12, TX12, 44)) (ci := 10) (q0 := 0) hSt hP rfl (gb_at b rfl) hS (fun q h => Nat.le_trans hb1 h.1) hP) rfl rfl hl.1 rfl (lv_room (Nat.le_of_ble_eq_true rfl)) dX12_shift_114 ⟨Nat.le_of_ble_eq_true rfl, Nat.le_of_ble_eq_true rfl⟩) hS (fun _ h => h) (fun _ h => h) (fun H locs hY hk hS => ?_)
        have hP := hY
        obtain ⟨x_39, ex_39⟩ : ∃ q, q = (v7 + 1) := ⟨_, rfl⟩
        replace h := gb_lt_s ex_39 h
        refine lv_iinc (v := x_39) (lv' := [(7, .int x_39), (6, .int v6), (5, .int v5), (8, .int t0), (0, .ref (b + 0)), (3, .int v3), (4, .int v4)]) hx hb dX12_shift_117 hl (k := 6) rfl (by rw [ex_39]; rfl) (by decide) rfl (fun ls hl => ?_)
        refine lv_goto (tgt := 35) hx hb dX12_shift_120 (by decide) ?_
        exact hk35 _ _ _ _ _ _ _ _ _ _ h hP hS (lv_sub hl [4, 5, 6, 2, 1, 0] rfl)
      · rw [if_neg c_33] at h
        refine lv_iload hx hb dX12_shift_102 (lv_at hl 6 rfl) ?_
        refine lv_goto (tgt := 109) hx hb dX12_shift_104 (by decide) ?_
        refine lv_istore (lv' := [(6, .int v7), (5, .int v5), (8, .int t0), (0, .ref (b + 0)), (3, .int v3), (4, .int v4), (7, .int v7)]) hx hb dX12_shift_109 hl (by decide) rfl (fun ls hl => ?_)
        refine lv_aload_n hx hb dX12_shift_111 rfl (lv_at hl 3 rfl) ?_
        refine lv_iload hx hb dX12_shift_112 (lv_at hl 6 rfl) ?_
        obtain ⟨f_40, wl_41, r_42, z_43, h⟩ := gb_bd_s h
        refine gb_callv (va_runV (C := RX12) (As := [.int v7]) (rest := []) ⟨hx, hb, hml, hown, hq⟩ (mc_swaps l D cT tt b1 b hb1 n f w v7 f_40 wl_41 r_42 z_43) (cwV 1 hq (gb_gV w_1701 w_1703 s_7_5 w_14 w_1704) rfl rfl rfl (by decide +kernel) ⟨Nat.le_of_ble_eq_true rfl, Nat.le_of_ble_eq_true rfl⟩) (gb_preV (r := (RX12, TX12, 44)) (ci := 10) (q0 := 0) hSt hP rfl (gb_at b rfl) hS (fun q h => Nat.le_trans hb1 h.1) hP) rfl rfl hl.1 rfl (lv_room (Nat.le_of_ble_eq_true rfl)) dX12_shift_114 ⟨Nat.le_of_ble_eq_true rfl, Nat.le_of_ble_eq_true rfl⟩) hS (fun _ h => h) (fun _ h => h) (fun H locs hY hk hS => ?_)
        have hP := hY
        obtain ⟨x_45, ex_45⟩ : ∃ q, q = (v7 + 1) := ⟨_, rfl⟩
        replace h := gb_lt_s ex_45 h
        refine lv_iinc (v := x_45) (lv' := [(7, .int x_45), (6, .int v7), (5, .int v5), (8, .int t0), (0, .ref (b + 0)), (3, .int v3), (4, .int v4)]) hx hb dX12_shift_117 hl (k := 6) rfl (by rw [ex_45]; rfl) (by decide) rfl (fun ls hl => ?_)
        refine lv_goto (tgt := 35) hx hb dX12_shift_120 (by decide) ?_
        exact hk35 _ _ _ _ _ _ _ _ _ _ h hP hS (lv_sub hl [4, 5, 6, 2, 1, 0] rfl)
    · rw [if_neg c_32] at h
      refine lv_aload_n hx hb dX12_shift_86 rfl (lv_at hl 1 rfl) ?_
      obtain ⟨f_46, wl_47, r_48, z_49, h⟩ := gb_bd_s h
      refine gb_calli (va_runV (C := RX12) (As := []) (rest := []) ⟨hx, hb, hml, hown, hq⟩ (mc_allPay l D cT tt b1 b hb1 n f w f_46 wl_47 r_48 z_49) (cwV 0 hq (gb_gV w_1496 w_1498 s_5_10 w_14 w_1499) rfl rfl rfl (by decide +kernel) ⟨Nat.le_of_ble_eq_true rfl, Nat.le_of_ble_eq_true rfl⟩) (gb_preV (r := (RX12, TX12, 44)) (ci := 10) (q0 := 0) hSt hP rfl (gb_at b rfl) hS (fun q h => Nat.le_trans hb1 h.1) hP) rfl rfl hl.1 rfl (lv_room (Nat.le_of_ble_eq_true rfl)) dX12_shift_87 ⟨Nat.le_of_ble_eq_true rfl, Nat.le_of_ble_eq_true rfl⟩) hS (fun _ h => h) (fun _ h => h) (fun q_50 H locs hY hk hS => ?_)
      obtain ⟨hq_50, hP⟩ := hY
      replace hq_50 := hq_50.symm
      subst hq_50
      refine lv_goto (tgt := 95) hx hb dX12_shift_90 (by decide) ?_
      refine lv_istore (lv' := [(5, .int r_48), (8, .int t0), (0, .ref (b + 0)), (3, .int v3), (4, .int v4), (6, .int v6), (7, .int v7)]) hx hb dX12_shift_95 hl (by decide) rfl (fun ls hl => ?_)
      refine lv_iload hx hb dX12_shift_97 (lv_at hl 1 rfl) ?_
      refine lv_if_eq (tgt := 107) hx hb dX12_shift_99 (by decide) (fun c_51 => ?_) (fun c_51 => ?_)
      · rw [if_pos c_51] at h
        refine lv_iload hx hb dX12_shift_107 (lv_at hl 5 rfl) ?_
        refine lv_istore (lv' := [(6, .int v6), (5, .int r_48), (8, .int t0), (0, .ref (b + 0)), (3, .int v3), (4, .int v4), (7, .int v7)]) hx hb dX12_shift_109 hl (by decide) rfl (fun ls hl => ?_)
        refine lv_aload_n hx hb dX12_shift_111 rfl (lv_at hl 3 rfl) ?_
        refine lv_iload hx hb dX12_shift_112 (lv_at hl 6 rfl) ?_
        obtain ⟨f_52, wl_53, r_54, z_55, h⟩ := gb_bd_s h
        refine gb_callv (va_runV (C := RX12) (As := [.int v7]) (rest := []) ⟨hx, hb, hml, hown, hq⟩ (mc_swaps l D cT tt b1 b hb1 n f_46 wl_47 v7 f_52 wl_53 r_54 z_55) (cwV 1 hq (gb_gV w_1701 w_1703 s_7_5 w_14 w_1704) rfl rfl rfl (by decide +kernel) ⟨Nat.le_of_ble_eq_true rfl, Nat.le_of_ble_eq_true rfl⟩) (gb_preV (r := (RX12, TX12, 44)) (ci := 10) (q0 := 0) hSt hP rfl (gb_at b rfl) hS (fun q h => Nat.le_trans hb1 h.1) hP) rfl rfl hl.1 rfl (lv_room (Nat.le_of_ble_eq_true rfl)) dX12_shift_114 ⟨Nat.le_of_ble_eq_true rfl, Nat.le_of_ble_eq_true rfl⟩) hS (fun _ h => h) (fun _ h => h) (fun H locs hY hk hS => ?_)
        have hP := hY
        obtain ⟨x_57, ex_57⟩ : ∃ q, q = (v7 + 1) := ⟨_, rfl⟩
        replace h := gb_lt_s ex_57 h
        refine lv_iinc (v := x_57) (lv' := [(7, .int x_57), (6, .int v6), (5, .int r_48), (8, .int t0), (0, .ref (b + 0)), (3, .int v3), (4, .int v4)]) hx hb dX12_shift_117 hl (k := 6) rfl (by rw [ex_57]; rfl) (by decide) rfl (fun ls hl => ?_)
        refine lv_goto (tgt := 35) hx hb dX12_shift_120 (by decide) ?_
        exact hk35 _ _ _ _ _ _ _ _ _ _ h hP hS (lv_sub hl [4, 5, 6, 2, 1, 0] rfl)
      · rw [if_neg c_51] at h
        refine lv_iload hx hb dX12_shift_102 (lv_at hl 6 rfl) ?_
        refine lv_goto (tgt := 109) hx hb dX12_shift_104 (by decide) ?_
        refine lv_istore (lv' := [(6, .int v7), (5, .int r_48), (8, .int t0), (0, .ref (b + 0)), (3, .int v3), (4, .int v4), (7, .int v7)]) hx hb dX12_shift_109 hl (by decide) rfl (fun ls hl => ?_)
        refine lv_aload_n hx hb dX12_shift_111 rfl (lv_at hl 3 rfl) ?_
        refine lv_iload hx hb dX12_shift_112 (lv_at hl 6 rfl) ?_
        obtain ⟨f_58, wl_59, r_60, z_61, h⟩ := gb_bd_s h
        refine gb_callv (va_runV (C := RX12) (As := [.int v7]) (rest := []) ⟨hx, hb, hml, hown, hq⟩ (mc_swaps l D cT tt b1 b hb1 n f_46 wl_47 v7 f_58 wl_59 r_60 z_61) (cwV 1 hq (gb_gV w_1701 w_1703 s_7_5 w_14 w_1704) rfl rfl rfl (by decide +kernel) ⟨Nat.le_of_ble_eq_true rfl, Nat.le_of_ble_eq_true rfl⟩) (gb_preV (r := (RX12, TX12, 44)) (ci := 10) (q0 := 0) hSt hP rfl (gb_at b rfl) hS (fun q h => Nat.le_trans hb1 h.1) hP) rfl rfl hl.1 rfl (lv_room (Nat.le_of_ble_eq_true rfl)) dX12_shift_114 ⟨Nat.le_of_ble_eq_true rfl, Nat.le_of_ble_eq_true rfl⟩) hS (fun _ h => h) (fun _ h => h) (fun H locs hY hk hS => ?_)
        have hP := hY
        obtain ⟨x_63, ex_63⟩ : ∃ q, q = (v7 + 1) := ⟨_, rfl⟩
        replace h := gb_lt_s ex_63 h
        refine lv_iinc (v := x_63) (lv' := [(7, .int x_63), (6, .int v7), (5, .int r_48), (8, .int t0), (0, .ref (b + 0)), (3, .int v3), (4, .int v4)]) hx hb dX12_shift_117 hl (k := 6) rfl (by rw [ex_63]; rfl) (by decide) rfl (fun ls hl => ?_)
        refine lv_goto (tgt := 35) hx hb dX12_shift_120 (by decide) ?_
        exact hk35 _ _ _ _ _ _ _ _ _ _ h hP hS (lv_sub hl [4, 5, 6, 2, 1, 0] rfl)
  have L78 : ∀ (k35 : gb_F → Int64 → Int32 → Int32 → Int32 → Int32 → Int32 → gb_MR Int32) (hk35 : ∀ (f : gb_F) (w : Int64) (v3 : Int32) (v4 : Int32) (v5 : Int32) (v6 : Int32) (v7 : Int32) (H : Heap) (locs : List Loc) (ls : Array Slot), k35 f w v3 v4 v5 v6 v7 = some (fE, wE, rE) → va_P D vwCl (gb_wl b (gb_MW cT b f w)) H → va_S (gb_fr b 22) s.heap H locs → lv_has ls 9 [(0, .ref (b + 0)), (3, .int v3), (4, .int v4), (5, .int v5), (6, .int v6), (7, .int v7)] → W p l e (headSpec (.code yX12_shift cX12_shift 9 (some FieldType.int) :: gb_wA) ({ frames := 6, cells := 0, slots := 0, locals := 141 })).room s m ([.ref (b + 0), .int p1, .int p2, .int p3]).toArray below meth c H locs 0 0 (MQ below (gb_Qi (fun r h => r = rE ∧ va_P D vwCl (gb_wl b (gb_MW cT b fE wE)) h) (gb_fr b 22)) ([.ref (b + 0), .int p1, .int p2, .int p3]).toArray s 0 0 (gb_fr b 22)) (F0 m 35 ls [])) (f : gb_F) (w : Int64) (v3 : Int32) (v4 : Int32) (v5 : Int32) (v6 : Int32) (v7 : Int32) (H : Heap) (locs : List Loc) (ls : Array Slot), ms_shift_78 n k35 f w v3 v4 v5 v6 v7 = some (fE, wE, rE) → va_P D vwCl (gb_wl b (gb_MW cT b f w)) H → va_S (gb_fr b 22) s.heap H locs → lv_has ls 9 [(0, .ref (b + 0)), (3, .int v3), (4, .int v4), (5, .int v5), (6, .int v6), (7, .int v7)] → W p l e (headSpec (.code yX12_shift cX12_shift 9 (some FieldType.int) :: gb_wA) ({ frames := 6, cells := 0, slots := 0, locals := 141 })).room s m ([.ref (b + 0), .int p1, .int p2, .int p3]).toArray below meth c H locs 0 0 (MQ below (gb_Qi (fun r h => r = rE ∧ va_P D vwCl (gb_wl b (gb_MW cT b fE wE)) h) (gb_fr b 22)) ([.ref (b + 0), .int p1, .int p2, .int p3]).toArray s 0 0 (gb_fr b 22)) (F0 m 78 ls []) := by
    clear h hP hS hl ls f w
    intro k35 hk35 f w v3 v4 v5 v6 v7 H locs ls h hP hS hl
    unfold ms_shift_78 at h
    refine lv_iconst (v := 0) hx hb dX12_shift_78 (by decide) ?_
    exact L79 k35 hk35 _ _ _ _ _ _ _ _ _ _ _ h hP hS (lv_sub hl [0, 1, 2, 3, 4, 5] rfl)
  have L35 : ∀ (mm : Nat) (f : gb_F) (w : Int64) (v3 : Int32) (v4 : Int32) (v5 : Int32) (v6 : Int32) (v7 : Int32) (H : Heap) (locs : List Loc) (ls : Array Slot), ms_shift_35 n mm f w v3 v4 v5 v6 v7 = some (fE, wE, rE) → va_P D vwCl (gb_wl b (gb_MW cT b f w)) H → va_S (gb_fr b 22) s.heap H locs → lv_has ls 9 [(0, .ref (b + 0)), (3, .int v3), (4, .int v4), (5, .int v5), (6, .int v6), (7, .int v7)] → W p l e (headSpec (.code yX12_shift cX12_shift 9 (some FieldType.int) :: gb_wA) ({ frames := 6, cells := 0, slots := 0, locals := 141 })).room s m ([.ref (b + 0), .int p1, .int p2, .int p3]).toArray below meth c H locs 0 0 (MQ below (gb_Qi (fun r h => r = rE ∧ va_P D vwCl (gb_wl b (gb_MW cT b fE wE)) h) (gb_fr b 22)) ([.ref (b + 0), .int p1, .int p2, .int p3]).toArray s 0 0 (gb_fr b 22)) (F0 m 35 ls []) := by
    clear h hP hS hl ls f w
    intro mm
    induction mm with
    | zero =>
      intro f w v3 v4 v5 v6 v7 H locs ls h
      cases h
    | succ mm ih =>
      intro f w v3 v4 v5 v6 v7 H locs ls h hP hS hl
      rw [ms_shift_35] at h
      refine lv_iload hx hb dX12_shift_35 (lv_at hl 5 rfl) ?_
      refine lv_iconst (v := 1) hx hb dX12_shift_37 (by decide) ?_
      refine lv_iadd hx hb dX12_shift_38 ?_
      refine lv_iload hx hb dX12_shift_39 (lv_at hl 2 rfl) ?_
      refine lv_icmp_ge (tgt := 123) hx hb dX12_shift_41 (by decide) (fun c_18 => ?_) (fun c_18 => ?_)
      · rw [if_pos c_18] at h
        refine lv_iload_n hx hb dX12_shift_123 rfl (lv_at hl 1 rfl) ?_
        refine lv_if_eq (tgt := 137) hx hb dX12_shift_124 (by decide) (fun c_19 => ?_) (fun c_19 => ?_)
        · rw [if_pos c_19] at h
          refine lv_iload hx hb dX12_shift_137 (lv_at hl 4 rfl) ?_
          obtain ⟨e1, e2, e3⟩ := gb_eq3 h
          exact W.iret (v := v6) hx hb hr (fun t ht hW => gb_ri ht ⟨e3, by rw [← e1, ← e2]; exact hP⟩ hS) hS.2.2 dX12_shift_139
        · rw [if_neg c_19] at h
          refine lv_iload hx hb dX12_shift_127 (lv_at hl 4 rfl) ?_
          refine lv_if_lt (tgt := 137) hx hb dX12_shift_129 (by decide) (fun c_20 => ?_) (fun c_20 => ?_)
          · rw [if_pos c_20] at h
            refine lv_iload hx hb dX12_shift_137 (lv_at hl 4 rfl) ?_
            obtain ⟨e1, e2, e3⟩ := gb_eq3 h
            exact W.iret (v := v6) hx hb hr (fun t ht hW => gb_ri ht ⟨e3, by rw [← e1, ← e2]; exact hP⟩ hS) hS.2.2 dX12_shift_139
          · rw [if_neg c_20] at h
            refine lv_iload hx hb dX12_shift_132 (lv_at hl 3 rfl) ?_
            refine lv_goto (tgt := 139) hx hb dX12_shift_134 (by decide) ?_
            obtain ⟨e1, e2, e3⟩ := gb_eq3 h
            exact W.iret (v := v5) hx hb hr (fun t ht hW => gb_ri ht ⟨e3, by rw [← e1, ← e2]; exact hP⟩ hS) hS.2.2 dX12_shift_139
      · rw [if_neg c_18] at h
        refine lv_aload_n hx hb dX12_shift_44 rfl (lv_at hl 0 rfl) ?_
        refine lv_iload hx hb dX12_shift_45 (lv_at hl 5 rfl) ?_
        obtain ⟨f_21, wl_22, r_23, z_24, h⟩ := gb_bd_s h
        refine gb_callv (va_runV (C := RX12) (As := [.int v7]) (rest := []) ⟨hx, hb, hml, hown, hq⟩ (mc_swaps l D cT tt b1 b hb1 n f w v7 f_21 wl_22 r_23 z_24) (cwV 1 hq (gb_gV w_1701 w_1703 s_7_5 w_14 w_1704) rfl rfl rfl (by decide +kernel) ⟨Nat.le_of_ble_eq_true rfl, Nat.le_of_ble_eq_true rfl⟩) (gb_preV (r := (RX12, TX12, 44)) (ci := 10) (q0 := 0) hSt hP rfl (gb_at b rfl) hS (fun q h => Nat.le_trans hb1 h.1) hP) rfl rfl hl.1 rfl (lv_room (Nat.le_of_ble_eq_true rfl)) dX12_shift_47 ⟨Nat.le_of_ble_eq_true rfl, Nat.le_of_ble_eq_true rfl⟩) hS (fun _ h => h) (fun _ h => h) (fun H locs hY hk hS => ?_)
        have hP := hY
        refine lv_aload_n hx hb dX12_shift_50 rfl (lv_at hl 0 rfl) ?_
        refine lv_bipush (v := 24) hx hb dX12_shift_51 (by decide) ?_
        obtain ⟨f_26, wl_27, r_28, z_29, h⟩ := gb_bd_s h
        refine gb_callv (va_runV (C := RX12) (As := [.int 24]) (rest := []) ⟨hx, hb, hml, hown, hq⟩ (mc_runs l D cT tt b1 b hb1 n f_21 wl_22 24 f_26 wl_27 r_28 z_29) (cwV 1 hq (gb_gV w_1432 w_1434 s_4_13 w_14 w_1435) rfl rfl rfl (by decide +kernel) ⟨Nat.le_of_ble_eq_true rfl, Nat.le_of_ble_eq_true rfl⟩) (gb_preV (r := (RX12, TX12, 44)) (ci := 10) (q0 := 0) hSt hP rfl (gb_at b rfl) hS (fun q h => Nat.le_trans hb1 h.1) hP) rfl rfl hl.1 rfl (lv_room (Nat.le_of_ble_eq_true rfl)) dX12_shift_53 ⟨Nat.le_of_ble_eq_true rfl, Nat.le_of_ble_eq_true rfl⟩) hS (fun _ h => h) (fun _ h => h) (fun H locs hY hk hS => ?_)
        have hP := hY
        refine lv_aload_n hx hb dX12_shift_56 rfl (lv_at hl 0 rfl) ?_
        refine va_get (ci := 10) (v := (.int (f_26 0 23))) (C := RX12) (T := TX12) (N := 44) hx hb hq i_X12 hown hK hP 0 (gb_at b rfl) rfl 23 (by decide) (hq _ w_1147) (fun _ h9 => h9) rfl dX12_shift_57 ?_
        refine lv_iload hx hb dX12_shift_60 (lv_at hl 2 rfl) ?_
        refine lv_icmp_lt (tgt := 78) hx hb dX12_shift_62 (by decide) (fun c_31 => ?_) (fun c_31 => ?_)
        · rw [if_pos c_31] at h
          exact L78 _ ih _ _ _ _ _ _ _ _ _ _ h hP hS (lv_sub hl [0, 1, 2, 3, 4, 5] rfl)
        · rw [if_neg c_31] at h
          refine lv_aload_n hx hb dX12_shift_65 rfl (lv_at hl 0 rfl) ?_
          obtain ⟨f_64, wl_65, r_66, z_67, h⟩ := gb_bd_s h
          refine gb_calli (va_runV (C := RX12) (As := []) (rest := []) ⟨hx, hb, hml, hown, hq⟩ (mc_allPay l D cT tt b1 b hb1 n f_26 wl_27 f_64 wl_65 r_66 z_67) (cwV 0 hq (gb_gV w_1496 w_1498 s_5_10 w_14 w_1499) rfl rfl rfl (by decide +kernel) ⟨Nat.le_of_ble_eq_true rfl, Nat.le_of_ble_eq_true rfl⟩) (gb_preV (r := (RX12, TX12, 44)) (ci := 10) (q0 := 0) hSt hP rfl (gb_at b rfl) hS (fun q h => Nat.le_trans hb1 h.1) hP) rfl rfl hl.1 rfl (lv_room (Nat.le_of_ble_eq_true rfl)) dX12_shift_66 ⟨Nat.le_of_ble_eq_true rfl, Nat.le_of_ble_eq_true rfl⟩) hS (fun _ h => h) (fun _ h => h) (fun q_68 H locs hY hk hS => ?_)
          obtain ⟨hq_68, hP⟩ := hY
          replace hq_68 := hq_68.symm
          subst hq_68
          refine lv_iload hx hb dX12_shift_69 (lv_at hl 3 rfl) ?_
          refine lv_icmp_le (tgt := 78) hx hb dX12_shift_71 (by decide) (fun c_69 => ?_) (fun c_69 => ?_)
          · rw [if_pos c_69] at h
            exact L78 _ ih _ _ _ _ _ _ _ _ _ _ h hP hS (lv_sub hl [0, 1, 2, 3, 4, 5] rfl)
          · rw [if_neg c_69] at h
            refine lv_iconst (v := 1) hx hb dX12_shift_74 (by decide) ?_
            refine lv_goto (tgt := 79) hx hb dX12_shift_75 (by decide) ?_
            exact L79 _ ih _ _ _ _ _ _ _ _ _ _ _ h hP hS (lv_sub hl [0, 1, 2, 3, 4, 5] rfl)
  unfold ms_shift at h
  refine lv_aload_n hx hb dX12_shift_0 rfl (lv_at hl 0 rfl) ?_
  refine lv_iload_n hx hb dX12_shift_1 rfl (lv_at hl 1 rfl) ?_
  refine lv_iload_n hx hb dX12_shift_2 rfl (lv_at hl 2 rfl) ?_
  obtain ⟨f_1, wl_2, r_3, z_4, h⟩ := gb_bd_s h
  refine gb_calli (va_runV (C := RX12) (As := [.int p1, .int p2]) (rest := []) ⟨hx, hb, hml, hown, hq⟩ (mc_areTold l D cT tt b1 b hb1 n f w p1 p2 f_1 wl_2 r_3 z_4) (cwV 2 hq (gb_gV w_1428 w_1430 s_4_12 w_14 w_1431) rfl rfl rfl (by decide +kernel) ⟨Nat.le_of_ble_eq_true rfl, Nat.le_of_ble_eq_true rfl⟩) (gb_preV (r := (RX12, TX12, 44)) (ci := 10) (q0 := 0) hSt hP rfl (gb_at b rfl) hS (fun q h => Nat.le_trans hb1 h.1) hP) rfl rfl hl.1 rfl (lv_room (Nat.le_of_ble_eq_true rfl)) dX12_shift_3 ⟨Nat.le_of_ble_eq_true rfl, Nat.le_of_ble_eq_true rfl⟩) hS (fun _ h => h) (fun _ h => h) (fun q_5 H locs hY hk hS => ?_)
  obtain ⟨hq_5, hP⟩ := hY
  replace hq_5 := hq_5.symm
  subst hq_5
  refine lv_if_ne (tgt := 11) hx hb dX12_shift_6 (by decide) (fun c_6 => ?_) (fun c_6 => ?_)
  · rw [if_neg c_6] at h
    refine lv_aload_n hx hb dX12_shift_11 rfl (lv_at hl 0 rfl) ?_
    refine lv_bipush (v := 24) hx hb dX12_shift_12 (by decide) ?_
    obtain ⟨f_7, wl_8, r_9, z_10, h⟩ := gb_bd_s h
    refine gb_callv (va_runV (C := RX12) (As := [.int 24]) (rest := []) ⟨hx, hb, hml, hown, hq⟩ (mc_runs l D cT tt b1 b hb1 n f_1 wl_2 24 f_7 wl_8 r_9 z_10) (cwV 1 hq (gb_gV w_1432 w_1434 s_4_13 w_14 w_1435) rfl rfl rfl (by decide +kernel) ⟨Nat.le_of_ble_eq_true rfl, Nat.le_of_ble_eq_true rfl⟩) (gb_preV (r := (RX12, TX12, 44)) (ci := 10) (q0 := 0) hSt hP rfl (gb_at b rfl) hS (fun q h => Nat.le_trans hb1 h.1) hP) rfl rfl hl.1 rfl (lv_room (Nat.le_of_ble_eq_true rfl)) dX12_shift_14 ⟨Nat.le_of_ble_eq_true rfl, Nat.le_of_ble_eq_true rfl⟩) hS (fun _ h => h) (fun _ h => h) (fun H locs hY hk hS => ?_)
    have hP := hY
    refine lv_aload_n hx hb dX12_shift_17 rfl (lv_at hl 0 rfl) ?_
    refine va_get (ci := 10) (v := (.int (f_7 0 23))) (C := RX12) (T := TX12) (N := 44) hx hb hq i_X12 hown hK hP 0 (gb_at b rfl) rfl 23 (by decide) (hq _ w_1147) (fun _ h9 => h9) rfl dX12_shift_18 ?_
    refine lv_topi (fun x_12 ex_12 => ?_)
    replace h := gb_lt_s ex_12 h
    refine lv_istore (lv' := [(4, .int x_12), (0, .ref (b + 0)), (1, .int p1), (2, .int p2), (3, .int p3)]) hx hb dX12_shift_21 hl (by decide) rfl (fun ls hl => ?_)
    refine lv_aload_n hx hb dX12_shift_23 rfl (lv_at hl 1 rfl) ?_
    obtain ⟨f_13, wl_14, r_15, z_16, h⟩ := gb_bd_s h
    refine gb_calli (va_runV (C := RX12) (As := []) (rest := []) ⟨hx, hb, hml, hown, hq⟩ (mc_allPay l D cT tt b1 b hb1 n f_7 wl_8 f_13 wl_14 r_15 z_16) (cwV 0 hq (gb_gV w_1496 w_1498 s_5_10 w_14 w_1499) rfl rfl rfl (by decide +kernel) ⟨Nat.le_of_ble_eq_true rfl, Nat.le_of_ble_eq_true rfl⟩) (gb_preV (r := (RX12, TX12, 44)) (ci := 10) (q0 := 0) hSt hP rfl (gb_at b rfl) hS (fun q h => Nat.le_trans hb1 h.1) hP) rfl rfl hl.1 rfl (lv_room (Nat.le_of_ble_eq_true rfl)) dX12_shift_24 ⟨Nat.le_of_ble_eq_true rfl, Nat.le_of_ble_eq_true rfl⟩) hS (fun _ h => h) (fun _ h => h) (fun q_17 H locs hY hk hS => ?_)
    obtain ⟨hq_17, hP⟩ := hY
    replace hq_17 := hq_17.symm
    subst hq_17
    refine lv_istore (lv' := [(5, .int r_15), (4, .int x_12), (0, .ref (b + 0)), (1, .int p1), (2, .int p2), (3, .int p3)]) hx hb dX12_shift_27 hl (by decide) rfl (fun ls hl => ?_)
    refine lv_iconst (v := (-1)) hx hb dX12_shift_29 (by decide) ?_
    refine lv_istore (lv' := [(6, .int (-1)), (5, .int r_15), (4, .int x_12), (0, .ref (b + 0)), (1, .int p1), (2, .int p2), (3, .int p3)]) hx hb dX12_shift_30 hl (by decide) rfl (fun ls hl => ?_)
    refine lv_iconst (v := 0) hx hb dX12_shift_32 (by decide) ?_
    refine lv_istore (lv' := [(7, .int 0), (6, .int (-1)), (5, .int r_15), (4, .int x_12), (0, .ref (b + 0)), (1, .int p1), (2, .int p2), (3, .int p3)]) hx hb dX12_shift_33 hl (by decide) rfl (fun ls hl => ?_)
    exact L35 n _ _ _ _ _ _ _ _ _ _ h hP hS (lv_sub hl [4, 7, 3, 2, 1, 0] rfl)
  · rw [if_pos c_6] at h
    refine lv_iconst (v := (-1)) hx hb dX12_shift_9 (by decide) ?_
    obtain ⟨e1, e2, e3⟩ := gb_eq3 h
    exact W.iret (v := (-1)) hx hb hr (fun t ht hW => gb_ri ht ⟨e3, by rw [← e1, ← e2]; exact hP⟩ hS) hS.2.2 dX12_shift_10
theorem dX12_isPut_0 : decode cX12_isPut 0 = .ok (.iload_n 1, 1) := dc_27 (show ((cX12_isPut.data.toList.drop 0).take 1).map UInt8.toNat = [27] by decide +kernel)
theorem dX12_isPut_1 : decode cX12_isPut 1 = .ok (.invokestatic 400, 3) := dc_184 (show ((cX12_isPut.data.toList.drop 1).take 3).map UInt8.toNat = [184, 1, 144] by decide +kernel) rfl
theorem dX12_isPut_4 : decode cX12_isPut 4 = .ok (.iconst 1, 1) := dc_4 (show ((cX12_isPut.data.toList.drop 4).take 1).map UInt8.toNat = [4] by decide +kernel)
theorem dX12_isPut_5 : decode cX12_isPut 5 = .ok (.isub, 1) := dc_100 (show ((cX12_isPut.data.toList.drop 5).take 1).map UInt8.toNat = [100] by decide +kernel)
theorem dX12_isPut_6 : decode cX12_isPut 6 = .ok (.istore_n 2, 1) := dc_61 (show ((cX12_isPut.data.toList.drop 6).take 1).map UInt8.toNat = [61] by decide +kernel)
theorem dX12_isPut_7 : decode cX12_isPut 7 = .ok (.iload_n 2, 1) := dc_28 (show ((cX12_isPut.data.toList.drop 7).take 1).map UInt8.toNat = [28] by decide +kernel)
theorem dX12_isPut_8 : decode cX12_isPut 8 = .ok (.ifCond .ge 7, 3) := dc_156 (show ((cX12_isPut.data.toList.drop 8).take 3).map UInt8.toNat = [156, 0, 7] by decide +kernel) rfl
theorem dX12_isPut_15 : decode cX12_isPut 15 = .ok (.iconst 0, 1) := dc_3 (show ((cX12_isPut.data.toList.drop 15).take 1).map UInt8.toNat = [3] by decide +kernel)
theorem dX12_isPut_16 : decode cX12_isPut 16 = .ok (.istore_n 3, 1) := dc_62 (show ((cX12_isPut.data.toList.drop 16).take 1).map UInt8.toNat = [62] by decide +kernel)
theorem dX12_isPut_17 : decode cX12_isPut 17 = .ok (.iconst 0, 1) := dc_3 (show ((cX12_isPut.data.toList.drop 17).take 1).map UInt8.toNat = [3] by decide +kernel)
theorem dX12_isPut_18 : decode cX12_isPut 18 = .ok (.istore 4, 2) := dc_54 (show ((cX12_isPut.data.toList.drop 18).take 2).map UInt8.toNat = [54, 4] by decide +kernel) rfl
theorem dX12_isPut_20 : decode cX12_isPut 20 = .ok (.iload 4, 2) := dc_21 (show ((cX12_isPut.data.toList.drop 20).take 2).map UInt8.toNat = [21, 4] by decide +kernel) rfl
theorem dX12_isPut_22 : decode cX12_isPut 22 = .ok (.aload_n 0, 1) := dc_42 (show ((cX12_isPut.data.toList.drop 22).take 1).map UInt8.toNat = [42] by decide +kernel)
theorem dX12_isPut_23 : decode cX12_isPut 23 = .ok (.invokevirtual 202, 3) := dc_182 (show ((cX12_isPut.data.toList.drop 23).take 3).map UInt8.toNat = [182, 0, 202] by decide +kernel) rfl
theorem dX12_isPut_26 : decode cX12_isPut 26 = .ok (.if_icmp .ge 70, 3) := dc_162 (show ((cX12_isPut.data.toList.drop 26).take 3).map UInt8.toNat = [162, 0, 70] by decide +kernel) rfl
theorem dX12_isPut_96 : decode cX12_isPut 96 = .ok (.iload_n 3, 1) := dc_29 (show ((cX12_isPut.data.toList.drop 96).take 1).map UInt8.toNat = [29] by decide +kernel)
theorem dX12_isPut_97 : decode cX12_isPut 97 = .ok (.ireturn, 1) := dc_172 (show ((cX12_isPut.data.toList.drop 97).take 1).map UInt8.toNat = [172] by decide +kernel)
theorem dX12_isPut_29 : decode cX12_isPut 29 = .ok (.iload_n 3, 1) := dc_29 (show ((cX12_isPut.data.toList.drop 29).take 1).map UInt8.toNat = [29] by decide +kernel)
theorem dX12_isPut_30 : decode cX12_isPut 30 = .ok (.ifCond .ne 54, 3) := dc_154 (show ((cX12_isPut.data.toList.drop 30).take 3).map UInt8.toNat = [154, 0, 54] by decide +kernel) rfl
theorem dX12_isPut_84 : decode cX12_isPut 84 = .ok (.iconst 1, 1) := dc_4 (show ((cX12_isPut.data.toList.drop 84).take 1).map UInt8.toNat = [4] by decide +kernel)
theorem dX12_isPut_85 : decode cX12_isPut 85 = .ok (.goto 4, 3) := dc_167 (show ((cX12_isPut.data.toList.drop 85).take 3).map UInt8.toNat = [167, 0, 4] by decide +kernel) rfl
theorem dX12_isPut_89 : decode cX12_isPut 89 = .ok (.istore_n 3, 1) := dc_62 (show ((cX12_isPut.data.toList.drop 89).take 1).map UInt8.toNat = [62] by decide +kernel)
theorem dX12_isPut_90 : decode cX12_isPut 90 = .ok (.iinc 4 1, 3) := dc_132 (show ((cX12_isPut.data.toList.drop 90).take 3).map UInt8.toNat = [132, 4, 1] by decide +kernel) rfl
theorem dX12_isPut_93 : decode cX12_isPut 93 = .ok (.goto (-73), 3) := dc_167 (show ((cX12_isPut.data.toList.drop 93).take 3).map UInt8.toNat = [167, 255, 183] by decide +kernel) rfl
theorem dX12_isPut_33 : decode cX12_isPut 33 = .ok (.iload_n 1, 1) := dc_27 (show ((cX12_isPut.data.toList.drop 33).take 1).map UInt8.toNat = [27] by decide +kernel)
theorem dX12_isPut_34 : decode cX12_isPut 34 = .ok (.iload 4, 2) := dc_21 (show ((cX12_isPut.data.toList.drop 34).take 2).map UInt8.toNat = [21, 4] by decide +kernel) rfl
theorem dX12_isPut_36 : decode cX12_isPut 36 = .ok (.ishr, 1) := dc_122 (show ((cX12_isPut.data.toList.drop 36).take 1).map UInt8.toNat = [122] by decide +kernel)
theorem dX12_isPut_37 : decode cX12_isPut 37 = .ok (.iconst 1, 1) := dc_4 (show ((cX12_isPut.data.toList.drop 37).take 1).map UInt8.toNat = [4] by decide +kernel)
theorem dX12_isPut_38 : decode cX12_isPut 38 = .ok (.iand, 1) := dc_126 (show ((cX12_isPut.data.toList.drop 38).take 1).map UInt8.toNat = [126] by decide +kernel)
theorem dX12_isPut_39 : decode cX12_isPut 39 = .ok (.iconst 1, 1) := dc_4 (show ((cX12_isPut.data.toList.drop 39).take 1).map UInt8.toNat = [4] by decide +kernel)
theorem dX12_isPut_40 : decode cX12_isPut 40 = .ok (.if_icmp .ne 48, 3) := dc_160 (show ((cX12_isPut.data.toList.drop 40).take 3).map UInt8.toNat = [160, 0, 48] by decide +kernel) rfl
theorem dX12_isPut_88 : decode cX12_isPut 88 = .ok (.iconst 0, 1) := dc_3 (show ((cX12_isPut.data.toList.drop 88).take 1).map UInt8.toNat = [3] by decide +kernel)
theorem dX12_isPut_43 : decode cX12_isPut 43 = .ok (.iload_n 2, 1) := dc_28 (show ((cX12_isPut.data.toList.drop 43).take 1).map UInt8.toNat = [28] by decide +kernel)
theorem dX12_isPut_44 : decode cX12_isPut 44 = .ok (.aload_n 0, 1) := dc_42 (show ((cX12_isPut.data.toList.drop 44).take 1).map UInt8.toNat = [42] by decide +kernel)
theorem dX12_isPut_45 : decode cX12_isPut 45 = .ok (.invokevirtual 199, 3) := dc_182 (show ((cX12_isPut.data.toList.drop 45).take 3).map UInt8.toNat = [182, 0, 199] by decide +kernel) rfl
theorem dX12_isPut_48 : decode cX12_isPut 48 = .ok (.if_icmp .ge 40, 3) := dc_162 (show ((cX12_isPut.data.toList.drop 48).take 3).map UInt8.toNat = [162, 0, 40] by decide +kernel) rfl
theorem dX12_isPut_51 : decode cX12_isPut 51 = .ok (.aload_n 0, 1) := dc_42 (show ((cX12_isPut.data.toList.drop 51).take 1).map UInt8.toNat = [42] by decide +kernel)
theorem dX12_isPut_52 : decode cX12_isPut 52 = .ok (.getfield 71, 3) := dc_180 (show ((cX12_isPut.data.toList.drop 52).take 3).map UInt8.toNat = [180, 0, 71] by decide +kernel) rfl
theorem dX12_isPut_55 : decode cX12_isPut 55 = .ok (.iload_n 1, 1) := dc_27 (show ((cX12_isPut.data.toList.drop 55).take 1).map UInt8.toNat = [27] by decide +kernel)
theorem dX12_isPut_56 : decode cX12_isPut 56 = .ok (.iconst 1, 1) := dc_4 (show ((cX12_isPut.data.toList.drop 56).take 1).map UInt8.toNat = [4] by decide +kernel)
theorem dX12_isPut_57 : decode cX12_isPut 57 = .ok (.iload 4, 2) := dc_21 (show ((cX12_isPut.data.toList.drop 57).take 2).map UInt8.toNat = [21, 4] by decide +kernel) rfl
theorem dX12_isPut_59 : decode cX12_isPut 59 = .ok (.ishl, 1) := dc_120 (show ((cX12_isPut.data.toList.drop 59).take 1).map UInt8.toNat = [120] by decide +kernel)
theorem dX12_isPut_60 : decode cX12_isPut 60 = .ok (.iconst (-1), 1) := dc_2 (show ((cX12_isPut.data.toList.drop 60).take 1).map UInt8.toNat = [2] by decide +kernel)
theorem dX12_isPut_61 : decode cX12_isPut 61 = .ok (.ixor, 1) := dc_130 (show ((cX12_isPut.data.toList.drop 61).take 1).map UInt8.toNat = [130] by decide +kernel)
theorem dX12_isPut_62 : decode cX12_isPut 62 = .ok (.iand, 1) := dc_126 (show ((cX12_isPut.data.toList.drop 62).take 1).map UInt8.toNat = [126] by decide +kernel)
theorem dX12_isPut_63 : decode cX12_isPut 63 = .ok (.baload, 1) := dc_51 (show ((cX12_isPut.data.toList.drop 63).take 1).map UInt8.toNat = [51] by decide +kernel)
theorem dX12_isPut_64 : decode cX12_isPut 64 = .ok (.ifCond .eq 24, 3) := dc_153 (show ((cX12_isPut.data.toList.drop 64).take 3).map UInt8.toNat = [153, 0, 24] by decide +kernel) rfl
theorem dX12_isPut_67 : decode cX12_isPut 67 = .ok (.aload_n 0, 1) := dc_42 (show ((cX12_isPut.data.toList.drop 67).take 1).map UInt8.toNat = [42] by decide +kernel)
theorem dX12_isPut_68 : decode cX12_isPut 68 = .ok (.iload_n 2, 1) := dc_28 (show ((cX12_isPut.data.toList.drop 68).take 1).map UInt8.toNat = [28] by decide +kernel)
theorem dX12_isPut_69 : decode cX12_isPut 69 = .ok (.iconst 1, 1) := dc_4 (show ((cX12_isPut.data.toList.drop 69).take 1).map UInt8.toNat = [4] by decide +kernel)
theorem dX12_isPut_70 : decode cX12_isPut 70 = .ok (.invokevirtual 211, 3) := dc_182 (show ((cX12_isPut.data.toList.drop 70).take 3).map UInt8.toNat = [182, 0, 211] by decide +kernel) rfl
theorem dX12_isPut_73 : decode cX12_isPut 73 = .ok (.aload_n 0, 1) := dc_42 (show ((cX12_isPut.data.toList.drop 73).take 1).map UInt8.toNat = [42] by decide +kernel)
theorem dX12_isPut_74 : decode cX12_isPut 74 = .ok (.iload 4, 2) := dc_21 (show ((cX12_isPut.data.toList.drop 74).take 2).map UInt8.toNat = [21, 4] by decide +kernel) rfl
theorem dX12_isPut_76 : decode cX12_isPut 76 = .ok (.iload_n 2, 1) := dc_28 (show ((cX12_isPut.data.toList.drop 76).take 1).map UInt8.toNat = [28] by decide +kernel)
theorem dX12_isPut_77 : decode cX12_isPut 77 = .ok (.invokevirtual 297, 3) := dc_182 (show ((cX12_isPut.data.toList.drop 77).take 3).map UInt8.toNat = [182, 1, 41] by decide +kernel) rfl
theorem dX12_isPut_80 : decode cX12_isPut 80 = .ok (.imul, 1) := dc_104 (show ((cX12_isPut.data.toList.drop 80).take 1).map UInt8.toNat = [104] by decide +kernel)
theorem dX12_isPut_81 : decode cX12_isPut 81 = .ok (.ifCond .le 7, 3) := dc_158 (show ((cX12_isPut.data.toList.drop 81).take 3).map UInt8.toNat = [158, 0, 7] by decide +kernel) rfl
theorem dX12_isPut_11 : decode cX12_isPut 11 = .ok (.iconst 1, 1) := dc_4 (show ((cX12_isPut.data.toList.drop 11).take 1).map UInt8.toNat = [4] by decide +kernel)
theorem dX12_isPut_12 : decode cX12_isPut 12 = .ok (.goto 4, 3) := dc_167 (show ((cX12_isPut.data.toList.drop 12).take 3).map UInt8.toNat = [167, 0, 4] by decide +kernel) rfl
def ms_isPut_20 (n : Nat) : Nat → gb_F → Int64 → Int32 → Int32 → Int32 → Int32 → gb_MR Int32
  | 0, _, _, _, _, _, _ => none
  | mm + 1, f, w, v1, v2, v3, v4 => gb_bd (ms_geese n f w) (fun f_8 wl_9 r_10 => (if r_10 ≤ v4 then gb_cb v3 (some (f_8, wl_9, v3)) else (if v3 = 0 then (if ((v1 >>> (v4 &&& 31)) &&& 1) = 1 then gb_bd (ms_paths n f_8 wl_9) (fun f_19 wl_20 r_21 => (if r_21 ≤ v2 then gb_lt (v4 + 1) (fun x_25 => ms_isPut_20 n mm f_19 wl_20 v1 v2 0 x_25) else gb_ck (v1 &&& ((1 <<< (v4 &&& 31)) ^^^ (-1))) 256 (gb_lt (f_19 21 (Int32.toNatClampNeg (v1 &&& ((1 <<< (v4 &&& 31)) ^^^ (-1))))) (fun x_27 => (if x_27 = 0 then gb_lt (v4 + 1) (fun x_29 => ms_isPut_20 n mm f_19 wl_20 v1 v2 0 x_29) else gb_bd (ms_ofPath n f_19 wl_20 v2 1) (fun f_30 wl_31 r_32 => gb_bd (ms_firstMarks n f_30 wl_31 v4 v2) (fun f_35 wl_36 r_37 => (if (r_32 * r_37) ≤ 0 then gb_lt (v4 + 1) (fun x_41 => ms_isPut_20 n mm f_35 wl_36 v1 v2 0 x_41) else gb_lt (v4 + 1) (fun x_42 => ms_isPut_20 n mm f_35 wl_36 v1 v2 1 x_42))))))))) else gb_lt (v4 + 1) (fun x_18 => ms_isPut_20 n mm f_8 wl_9 v1 v2 0 x_18)) else gb_lt (v4 + 1) (fun x_16 => ms_isPut_20 n mm f_8 wl_9 v1 v2 1 x_16))))
def ms_isPut (n : Nat) (f : gb_F) (w : Int64) (p1 : Int32) : gb_MR Int32 := gb_bd (ms_bits n f w p1) (fun f_1 wl_2 r_3 => gb_lt (r_3 - 1) (fun x_6 => (if (0 : Int32) ≤ x_6 then ms_isPut_20 n n f_1 wl_2 p1 x_6 0 0 else ms_isPut_20 n n f_1 wl_2 p1 x_6 1 0)))
set_option maxHeartbeats 8000000 in
set_option maxRecDepth 100000 in
theorem mc_isPut (l : Launch) (D : va_G) (cT : Nat → ClassId) (tt : Nat → Nat) (b1 b : Nat) (hb1 : b1 ≤ b) (n : Nat) (f : gb_F) (w : Int64) (p1 : Int32) (fE : gb_F) (wE : Int64) (rE : Int32) (h : ms_isPut n f w p1 = some (fE, wE, rE)) : Met l yX12_isPut (.code yX12_isPut cX12_isPut 5 (some FieldType.boolean) :: gb_wA) ({ frames := 4, cells := 0, slots := 0, locals := 92 }) (gb_Pc D cT tt b1 [.ref (b + 0), .int p1] (fun h => va_P D vwCl (gb_wl b (gb_MW cT b f w)) h)) (gb_Qi (fun r h => r = rE ∧ va_P D vwCl (gb_wl b (gb_MW cT b fE wE)) h) (gb_fr b 22)) 0 0 (gb_fr b 22) := by
  refine Met.ofW (cc := cX12_isPut) (maxL := 5) (ret := (some FieldType.boolean)) (by decide) rfl ?_
  intro p e s m args below meth c s₁ B hml hv
  obtain ⟨rfl, hSt, hP⟩ := hv
  have hx := B.exec
  have hb := B.bytes
  have hr := B.returns
  have hts := atoms_spec (ws := .code yX12_isPut cX12_isPut 5 (some FieldType.boolean) :: gb_wA) B.pre
  have hq : ∀ w ∈ gb_wA, w.before _ s = true := fun w h => hts w (List.mem_cons_of_mem _ h)
  have hown : s.vm.findClass RX12 = some m.cls := findClass_of_methodNamed B.named
  have hlocks := B.notSynchronized
  clear B hts
  have hK := hSt.1
  have hS : va_S (gb_fr b 22) s.heap s.heap [] := va_S.rf
  have hl := lv_entry ([.ref (b + 0), .int p1]) (n := 5) (Nat.le_of_ble_eq_true rfl)
  rw [lg_entry_eq]
  generalize (lg_sl ([.ref (b + 0), .int p1]) ++ List.replicate (5 - (lg_sl ([.ref (b + 0), .int p1])).length) Slot.unset).toArray = ls at hl ⊢
  replace hl : lv_has ls 5 [(0, .ref (b + 0)), (1, .int p1)] := hl
  have L20 : ∀ (mm : Nat) (f : gb_F) (w : Int64) (v1 : Int32) (v2 : Int32) (v3 : Int32) (v4 : Int32) (H : Heap) (locs : List Loc) (ls : Array Slot), ms_isPut_20 n mm f w v1 v2 v3 v4 = some (fE, wE, rE) → va_P D vwCl (gb_wl b (gb_MW cT b f w)) H → va_S (gb_fr b 22) s.heap H locs → lv_has ls 5 [(0, .ref (b + 0)), (1, .int v1), (2, .int v2), (3, .int v3), (4, .int v4)] → W p l e (headSpec (.code yX12_isPut cX12_isPut 5 (some FieldType.boolean) :: gb_wA) ({ frames := 4, cells := 0, slots := 0, locals := 92 })).room s m ([.ref (b + 0), .int p1]).toArray below meth c H locs 0 0 (MQ below (gb_Qi (fun r h => r = rE ∧ va_P D vwCl (gb_wl b (gb_MW cT b fE wE)) h) (gb_fr b 22)) ([.ref (b + 0), .int p1]).toArray s 0 0 (gb_fr b 22)) (F0 m 20 ls []) := by
    clear h hP hS hl ls f w
    intro mm
    induction mm with
    | zero =>
      intro f w v1 v2 v3 v4 H locs ls h
      cases h
    | succ mm ih =>
      intro f w v1 v2 v3 v4 H locs ls h hP hS hl
      rw [ms_isPut_20] at h
      refine lv_iload hx hb dX12_isPut_20 (lv_at hl 4 rfl) ?_
      refine lv_aload_n hx hb dX12_isPut_22 rfl (lv_at hl 0 rfl) ?_
      obtain ⟨f_8, wl_9, r_10, z_11, h⟩ := gb_bd_s h
      refine gb_calli (va_runV (C := RX12) (As := []) (rest := [.int v4]) ⟨hx, hb, hml, hown, hq⟩ (mc_geese l D cT tt b1 b hb1 n f w f_8 wl_9 r_10 z_11) (cwV 0 hq (gb_gV w_1396 w_1398 s_4_7 w_14 w_1399) rfl rfl rfl (by decide +kernel) ⟨Nat.le_of_ble_eq_true rfl, Nat.le_of_ble_eq_true rfl⟩) (gb_preV (r := (RX12, TX12, 44)) (ci := 10) (q0 := 0) hSt hP rfl (gb_at b rfl) hS (fun q h => Nat.le_trans hb1 h.1) hP) rfl rfl hl.1 rfl (lv_room (Nat.le_of_ble_eq_true rfl)) dX12_isPut_23 ⟨Nat.le_of_ble_eq_true rfl, Nat.le_of_ble_eq_true rfl⟩) hS (fun _ h => h) (fun _ h => h) (fun q_12 H locs hY hk hS => ?_)
      obtain ⟨hq_12, hP⟩ := hY
      replace hq_12 := hq_12.symm
      subst hq_12
      refine lv_icmp_ge (tgt := 96) hx hb dX12_isPut_26 (by decide) (fun c_13 => ?_) (fun c_13 => ?_)
      · rw [if_pos c_13] at h
        refine lv_iload_n hx hb dX12_isPut_96 rfl (lv_at hl 3 rfl) ?_
        obtain ⟨z_14, h⟩ := gb_cb_s h
        obtain ⟨e1, e2, e3⟩ := gb_eq3 h
        exact W.zret (v := v3) hx hb hr z_14.1 (fun t ht hW => gb_ri ht ⟨e3, by rw [← e1, ← e2]; exact hP⟩ hS) hS.2.2 dX12_isPut_97
      · rw [if_neg c_13] at h
        refine lv_iload_n hx hb dX12_isPut_29 rfl (lv_at hl 3 rfl) ?_
        refine lv_if_ne (tgt := 84) hx hb dX12_isPut_30 (by decide) (fun c_15 => ?_) (fun c_15 => ?_)
        · rw [if_neg c_15] at h
          refine lv_iconst (v := 1) hx hb dX12_isPut_84 (by decide) ?_
          refine lv_goto (tgt := 89) hx hb dX12_isPut_85 (by decide) ?_
          refine lv_istore_n (lv' := [(3, .int 1), (0, .ref (b + 0)), (1, .int v1), (2, .int v2), (4, .int v4)]) hx hb dX12_isPut_89 rfl hl (by decide) rfl (fun ls hl => ?_)
          obtain ⟨x_16, ex_16⟩ : ∃ q, q = (v4 + 1) := ⟨_, rfl⟩
          replace h := gb_lt_s ex_16 h
          refine lv_iinc (v := x_16) (lv' := [(4, .int x_16), (3, .int 1), (0, .ref (b + 0)), (1, .int v1), (2, .int v2)]) hx hb dX12_isPut_90 hl (k := 4) rfl (by rw [ex_16]; rfl) (by decide) rfl (fun ls hl => ?_)
          refine lv_goto (tgt := 20) hx hb dX12_isPut_93 (by decide) ?_
          exact ih _ _ _ _ _ _ _ _ _ h hP hS (lv_sub hl [2, 3, 4, 1, 0] rfl)
        · rw [if_pos c_15] at h
          refine lv_iload_n hx hb dX12_isPut_33 rfl (lv_at hl 1 rfl) ?_
          refine lv_iload hx hb dX12_isPut_34 (lv_at hl 4 rfl) ?_
          refine lv_ishr hx hb dX12_isPut_36 ?_
          refine lv_iconst (v := 1) hx hb dX12_isPut_37 (by decide) ?_
          refine lv_iand hx hb dX12_isPut_38 ?_
          refine lv_iconst (v := 1) hx hb dX12_isPut_39 (by decide) ?_
          refine lv_icmp_ne (tgt := 88) hx hb dX12_isPut_40 (by decide) (fun c_17 => ?_) (fun c_17 => ?_)
          · rw [if_neg c_17] at h
            refine lv_iconst (v := 0) hx hb dX12_isPut_88 (by decide) ?_
            refine lv_istore_n (lv' := [(3, .int 0), (0, .ref (b + 0)), (1, .int v1), (2, .int v2), (4, .int v4)]) hx hb dX12_isPut_89 rfl hl (by decide) rfl (fun ls hl => ?_)
            obtain ⟨x_18, ex_18⟩ : ∃ q, q = (v4 + 1) := ⟨_, rfl⟩
            replace h := gb_lt_s ex_18 h
            refine lv_iinc (v := x_18) (lv' := [(4, .int x_18), (3, .int 0), (0, .ref (b + 0)), (1, .int v1), (2, .int v2)]) hx hb dX12_isPut_90 hl (k := 4) rfl (by rw [ex_18]; rfl) (by decide) rfl (fun ls hl => ?_)
            refine lv_goto (tgt := 20) hx hb dX12_isPut_93 (by decide) ?_
            exact ih _ _ _ _ _ _ _ _ _ h hP hS (lv_sub hl [2, 3, 4, 1, 0] rfl)
          · rw [if_pos c_17] at h
            refine lv_iload_n hx hb dX12_isPut_43 rfl (lv_at hl 2 rfl) ?_
            refine lv_aload_n hx hb dX12_isPut_44 rfl (lv_at hl 0 rfl) ?_
            obtain ⟨f_19, wl_20, r_21, z_22, h⟩ := gb_bd_s h
            refine gb_calli (va_runV (C := RX12) (As := []) (rest := [.int v2]) ⟨hx, hb, hml, hown, hq⟩ (mc_paths l D cT tt b1 b hb1 n f_8 wl_9 f_19 wl_20 r_21 z_22) (cwV 0 hq (gb_gV w_1384 w_1386 s_4_4 w_14 w_1387) rfl rfl rfl (by decide +kernel) ⟨Nat.le_of_ble_eq_true rfl, Nat.le_of_ble_eq_true rfl⟩) (gb_preV (r := (RX12, TX12, 44)) (ci := 10) (q0 := 0) hSt hP rfl (gb_at b rfl) hS (fun q h => Nat.le_trans hb1 h.1) hP) rfl rfl hl.1 rfl (lv_room (Nat.le_of_ble_eq_true rfl)) dX12_isPut_45 ⟨Nat.le_of_ble_eq_true rfl, Nat.le_of_ble_eq_true rfl⟩) hS (fun _ h => h) (fun _ h => h) (fun q_23 H locs hY hk hS => ?_)
            obtain ⟨hq_23, hP⟩ := hY
            replace hq_23 := hq_23.symm
            subst hq_23
            refine lv_icmp_ge (tgt := 88) hx hb dX12_isPut_48 (by decide) (fun c_24 => ?_) (fun c_24 => ?_)
            · rw [if_pos c_24] at h
              refine lv_iconst (v := 0) hx hb dX12_isPut_88 (by decide) ?_
              refine lv_istore_n (lv' := [(3, .int 0), (0, .ref (b + 0)), (1, .int v1), (2, .int v2), (4, .int v4)]) hx hb dX12_isPut_89 rfl hl (by decide) rfl (fun ls hl => ?_)
              obtain ⟨x_25, ex_25⟩ : ∃ q, q = (v4 + 1) := ⟨_, rfl⟩
              replace h := gb_lt_s ex_25 h
              refine lv_iinc (v := x_25) (lv' := [(4, .int x_25), (3, .int 0), (0, .ref (b + 0)), (1, .int v1), (2, .int v2)]) hx hb dX12_isPut_90 hl (k := 4) rfl (by rw [ex_25]; rfl) (by decide) rfl (fun ls hl => ?_)
              refine lv_goto (tgt := 20) hx hb dX12_isPut_93 (by decide) ?_
              exact ih _ _ _ _ _ _ _ _ _ h hP hS (lv_sub hl [2, 3, 4, 1, 0] rfl)
            · rw [if_neg c_24] at h
              refine lv_aload_n hx hb dX12_isPut_51 rfl (lv_at hl 0 rfl) ?_
              refine va_get (ci := 10) (v := (.ref (b + 21))) (C := RX12) (T := TX12) (N := 44) hx hb hq i_X12 hown hK hP 0 (gb_at b rfl) rfl 43 (by decide) (hq _ w_1167) (fun _ h9 => h9) rfl dX12_isPut_52 ?_
              refine lv_iload_n hx hb dX12_isPut_55 rfl (lv_at hl 1 rfl) ?_
              refine lv_iconst (v := 1) hx hb dX12_isPut_56 (by decide) ?_
              refine lv_iload hx hb dX12_isPut_57 (lv_at hl 4 rfl) ?_
              refine lv_ishl hx hb dX12_isPut_59 ?_
              refine lv_iconst (v := (-1)) hx hb dX12_isPut_60 (by decide) ?_
              refine lv_ixor hx hb dX12_isPut_61 ?_
              refine lv_iand hx hb dX12_isPut_62 ?_
              obtain ⟨z_26, h⟩ := gb_ck_s h
              refine va_zald hx hb hK hP 21 2 (gb_at b rfl) rfl z_26 dX12_isPut_63 ?_
              refine lv_topi (fun x_27 ex_27 => ?_)
              replace h := gb_lt_s ex_27 h
              refine lv_if_eq (tgt := 88) hx hb dX12_isPut_64 (by decide) (fun c_28 => ?_) (fun c_28 => ?_)
              · rw [if_pos c_28] at h
                refine lv_iconst (v := 0) hx hb dX12_isPut_88 (by decide) ?_
                refine lv_istore_n (lv' := [(3, .int 0), (0, .ref (b + 0)), (1, .int v1), (2, .int v2), (4, .int v4)]) hx hb dX12_isPut_89 rfl hl (by decide) rfl (fun ls hl => ?_)
                obtain ⟨x_29, ex_29⟩ : ∃ q, q = (v4 + 1) := ⟨_, rfl⟩
                replace h := gb_lt_s ex_29 h
                refine lv_iinc (v := x_29) (lv' := [(4, .int x_29), (3, .int 0), (0, .ref (b + 0)), (1, .int v1), (2, .int v2)]) hx hb dX12_isPut_90 hl (k := 4) rfl (by rw [ex_29]; rfl) (by decide) rfl (fun ls hl => ?_)
                refine lv_goto (tgt := 20) hx hb dX12_isPut_93 (by decide) ?_
                exact ih _ _ _ _ _ _ _ _ _ h hP hS (lv_sub hl [2, 3, 4, 1, 0] rfl)
              · rw [if_neg c_28] at h
                refine lv_aload_n hx hb dX12_isPut_67 rfl (lv_at hl 0 rfl) ?_
                refine lv_iload_n hx hb dX12_isPut_68 rfl (lv_at hl 2 rfl) ?_
                refine lv_iconst (v := 1) hx hb dX12_isPut_69 (by decide) ?_
                obtain ⟨f_30, wl_31, r_32, z_33, h⟩ := gb_bd_s h
                refine gb_calli (va_runV (C := RX12) (As := [.int v2, .int 1]) (rest := []) ⟨hx, hb, hml, hown, hq⟩ (mc_ofPath l D cT tt b1 b hb1 n f_19 wl_20 v2 1 f_30 wl_31 r_32 z_33) (cwV 2 hq (gb_gV w_1388 w_1390 s_4_5 w_14 w_1391) rfl rfl rfl (by decide +kernel) ⟨Nat.le_of_ble_eq_true rfl, Nat.le_of_ble_eq_true rfl⟩) (gb_preV (r := (RX12, TX12, 44)) (ci := 10) (q0 := 0) hSt hP rfl (gb_at b rfl) hS (fun q h => Nat.le_trans hb1 h.1) hP) rfl rfl hl.1 rfl (lv_room (Nat.le_of_ble_eq_true rfl)) dX12_isPut_70 ⟨Nat.le_of_ble_eq_true rfl, Nat.le_of_ble_eq_true rfl⟩) hS (fun _ h => h) (fun _ h => h) (fun q_34 H locs hY hk hS => ?_)
                obtain ⟨hq_34, hP⟩ := hY
                replace hq_34 := hq_34.symm
                subst hq_34
                refine lv_aload_n hx hb dX12_isPut_73 rfl (lv_at hl 0 rfl) ?_
                refine lv_iload hx hb dX12_isPut_74 (lv_at hl 4 rfl) ?_
                refine lv_iload_n hx hb dX12_isPut_76 rfl (lv_at hl 2 rfl) ?_
                obtain ⟨f_35, wl_36, r_37, z_38, h⟩ := gb_bd_s h
                refine gb_calli (va_runV (C := RX12) (As := [.int v4, .int v2]) (rest := [.int r_32]) ⟨hx, hb, hml, hown, hq⟩ (mc_firstMarks l D cT tt b1 b hb1 n f_30 wl_31 v4 v2 f_35 wl_36 r_37 z_38) (cwV 2 hq (gb_gV w_1532 w_1534 s_6_0 w_14 w_1535) rfl rfl rfl (by decide +kernel) ⟨Nat.le_of_ble_eq_true rfl, Nat.le_of_ble_eq_true rfl⟩) (gb_preV (r := (RX12, TX12, 44)) (ci := 10) (q0 := 0) hSt hP rfl (gb_at b rfl) hS (fun q h => Nat.le_trans hb1 h.1) hP) rfl rfl hl.1 rfl (lv_room (Nat.le_of_ble_eq_true rfl)) dX12_isPut_77 ⟨Nat.le_of_ble_eq_true rfl, Nat.le_of_ble_eq_true rfl⟩) hS (fun _ h => h) (fun _ h => h) (fun q_39 H locs hY hk hS => ?_)
                obtain ⟨hq_39, hP⟩ := hY
                replace hq_39 := hq_39.symm
                subst hq_39
                refine lv_imul hx hb dX12_isPut_80 ?_
                refine lv_if_le (tgt := 88) hx hb dX12_isPut_81 (by decide) (fun c_40 => ?_) (fun c_40 => ?_)
                · rw [if_pos c_40] at h
                  refine lv_iconst (v := 0) hx hb dX12_isPut_88 (by decide) ?_
                  refine lv_istore_n (lv' := [(3, .int 0), (0, .ref (b + 0)), (1, .int v1), (2, .int v2), (4, .int v4)]) hx hb dX12_isPut_89 rfl hl (by decide) rfl (fun ls hl => ?_)
                  obtain ⟨x_41, ex_41⟩ : ∃ q, q = (v4 + 1) := ⟨_, rfl⟩
                  replace h := gb_lt_s ex_41 h
                  refine lv_iinc (v := x_41) (lv' := [(4, .int x_41), (3, .int 0), (0, .ref (b + 0)), (1, .int v1), (2, .int v2)]) hx hb dX12_isPut_90 hl (k := 4) rfl (by rw [ex_41]; rfl) (by decide) rfl (fun ls hl => ?_)
                  refine lv_goto (tgt := 20) hx hb dX12_isPut_93 (by decide) ?_
                  exact ih _ _ _ _ _ _ _ _ _ h hP hS (lv_sub hl [2, 3, 4, 1, 0] rfl)
                · rw [if_neg c_40] at h
                  refine lv_iconst (v := 1) hx hb dX12_isPut_84 (by decide) ?_
                  refine lv_goto (tgt := 89) hx hb dX12_isPut_85 (by decide) ?_
                  refine lv_istore_n (lv' := [(3, .int 1), (0, .ref (b + 0)), (1, .int v1), (2, .int v2), (4, .int v4)]) hx hb dX12_isPut_89 rfl hl (by decide) rfl (fun ls hl => ?_)
                  obtain ⟨x_42, ex_42⟩ : ∃ q, q = (v4 + 1) := ⟨_, rfl⟩
                  replace h := gb_lt_s ex_42 h
                  refine lv_iinc (v := x_42) (lv' := [(4, .int x_42), (3, .int 1), (0, .ref (b + 0)), (1, .int v1), (2, .int v2)]) hx hb dX12_isPut_90 hl (k := 4) rfl (by rw [ex_42]; rfl) (by decide) rfl (fun ls hl => ?_)
                  refine lv_goto (tgt := 20) hx hb dX12_isPut_93 (by decide) ?_
                  exact ih _ _ _ _ _ _ _ _ _ h hP hS (lv_sub hl [2, 3, 4, 1, 0] rfl)
  unfold ms_isPut at h
  refine lv_iload_n hx hb dX12_isPut_0 rfl (lv_at hl 1 rfl) ?_
  obtain ⟨f_1, wl_2, r_3, z_4, h⟩ := gb_bd_s h
  refine gb_calli (va_runS (As := [.int p1]) (rest := []) ⟨hx, hb, hml, hown, hq⟩ (mc_bits l D cT tt b1 b hb1 n f w p1 f_1 wl_2 r_3 z_4) (va_cwS 1 hq (gb_gS w_1682 w_1683 w_14 w_1684) rfl rfl rfl (by decide +kernel) ⟨Nat.le_of_ble_eq_true rfl, Nat.le_of_ble_eq_true rfl⟩) (gb_preS hSt hS (fun q h => Nat.le_trans hb1 h.1) hP) rfl rfl hl.1 rfl (lv_room (Nat.le_of_ble_eq_true rfl)) dX12_isPut_1 ⟨Nat.le_of_ble_eq_true rfl, Nat.le_of_ble_eq_true rfl⟩) hS (fun _ h => h) (fun _ h => h) (fun q_5 H locs hY hk hS => ?_)
  obtain ⟨hq_5, hP⟩ := hY
  replace hq_5 := hq_5.symm
  subst hq_5
  refine lv_iconst (v := 1) hx hb dX12_isPut_4 (by decide) ?_
  refine lv_isub hx hb dX12_isPut_5 ?_
  refine lv_topi (fun x_6 ex_6 => ?_)
  replace h := gb_lt_s ex_6 h
  refine lv_istore_n (lv' := [(2, .int x_6), (0, .ref (b + 0)), (1, .int p1)]) hx hb dX12_isPut_6 rfl hl (by decide) rfl (fun ls hl => ?_)
  refine lv_iload_n hx hb dX12_isPut_7 rfl (lv_at hl 0 rfl) ?_
  refine lv_if_ge (tgt := 15) hx hb dX12_isPut_8 (by decide) (fun c_7 => ?_) (fun c_7 => ?_)
  · rw [if_pos c_7] at h
    refine lv_iconst (v := 0) hx hb dX12_isPut_15 (by decide) ?_
    refine lv_istore_n (lv' := [(3, .int 0), (2, .int x_6), (0, .ref (b + 0)), (1, .int p1)]) hx hb dX12_isPut_16 rfl hl (by decide) rfl (fun ls hl => ?_)
    refine lv_iconst (v := 0) hx hb dX12_isPut_17 (by decide) ?_
    refine lv_istore (lv' := [(4, .int 0), (3, .int 0), (2, .int x_6), (0, .ref (b + 0)), (1, .int p1)]) hx hb dX12_isPut_18 hl (by decide) rfl (fun ls hl => ?_)
    exact L20 n _ _ _ _ _ _ _ _ _ h hP hS (lv_sub hl [3, 4, 2, 1, 0] rfl)
  · rw [if_neg c_7] at h
    refine lv_iconst (v := 1) hx hb dX12_isPut_11 (by decide) ?_
    refine lv_goto (tgt := 16) hx hb dX12_isPut_12 (by decide) ?_
    refine lv_istore_n (lv' := [(3, .int 1), (2, .int x_6), (0, .ref (b + 0)), (1, .int p1)]) hx hb dX12_isPut_16 rfl hl (by decide) rfl (fun ls hl => ?_)
    refine lv_iconst (v := 0) hx hb dX12_isPut_17 (by decide) ?_
    refine lv_istore (lv' := [(4, .int 0), (3, .int 1), (2, .int x_6), (0, .ref (b + 0)), (1, .int p1)]) hx hb dX12_isPut_18 hl (by decide) rfl (fun ls hl => ?_)
    exact L20 n _ _ _ _ _ _ _ _ _ h hP hS (lv_sub hl [3, 4, 2, 1, 0] rfl)
theorem dX12_thrift_0 : decode cX12_thrift 0 = .ok (.aload_n 0, 1) := dc_42 (show ((cX12_thrift.data.toList.drop 0).take 1).map UInt8.toNat = [42] by decide +kernel)
theorem dX12_thrift_1 : decode cX12_thrift 1 = .ok (.iload_n 1, 1) := dc_27 (show ((cX12_thrift.data.toList.drop 1).take 1).map UInt8.toNat = [27] by decide +kernel)
theorem dX12_thrift_2 : decode cX12_thrift 2 = .ok (.invokevirtual 205, 3) := dc_182 (show ((cX12_thrift.data.toList.drop 2).take 3).map UInt8.toNat = [182, 0, 205] by decide +kernel) rfl
theorem dX12_thrift_5 : decode cX12_thrift 5 = .ok (.ifCond .ne 5, 3) := dc_154 (show ((cX12_thrift.data.toList.drop 5).take 3).map UInt8.toNat = [154, 0, 5] by decide +kernel) rfl
theorem dX12_thrift_10 : decode cX12_thrift 10 = .ok (.iconst 0, 1) := dc_3 (show ((cX12_thrift.data.toList.drop 10).take 1).map UInt8.toNat = [3] by decide +kernel)
theorem dX12_thrift_11 : decode cX12_thrift 11 = .ok (.istore_n 2, 1) := dc_61 (show ((cX12_thrift.data.toList.drop 11).take 1).map UInt8.toNat = [61] by decide +kernel)
theorem dX12_thrift_12 : decode cX12_thrift 12 = .ok (.iload_n 2, 1) := dc_28 (show ((cX12_thrift.data.toList.drop 12).take 1).map UInt8.toNat = [28] by decide +kernel)
theorem dX12_thrift_13 : decode cX12_thrift 13 = .ok (.iconst 1, 1) := dc_4 (show ((cX12_thrift.data.toList.drop 13).take 1).map UInt8.toNat = [4] by decide +kernel)
theorem dX12_thrift_14 : decode cX12_thrift 14 = .ok (.aload_n 0, 1) := dc_42 (show ((cX12_thrift.data.toList.drop 14).take 1).map UInt8.toNat = [42] by decide +kernel)
theorem dX12_thrift_15 : decode cX12_thrift 15 = .ok (.invokevirtual 202, 3) := dc_182 (show ((cX12_thrift.data.toList.drop 15).take 3).map UInt8.toNat = [182, 0, 202] by decide +kernel) rfl
theorem dX12_thrift_18 : decode cX12_thrift 18 = .ok (.ishl, 1) := dc_120 (show ((cX12_thrift.data.toList.drop 18).take 1).map UInt8.toNat = [120] by decide +kernel)
theorem dX12_thrift_19 : decode cX12_thrift 19 = .ok (.if_icmp .ge 42, 3) := dc_162 (show ((cX12_thrift.data.toList.drop 19).take 3).map UInt8.toNat = [162, 0, 42] by decide +kernel) rfl
theorem dX12_thrift_61 : decode cX12_thrift 61 = .ok (.iconst (-1), 1) := dc_2 (show ((cX12_thrift.data.toList.drop 61).take 1).map UInt8.toNat = [2] by decide +kernel)
theorem dX12_thrift_62 : decode cX12_thrift 62 = .ok (.ireturn, 1) := dc_172 (show ((cX12_thrift.data.toList.drop 62).take 1).map UInt8.toNat = [172] by decide +kernel)
theorem dX12_thrift_22 : decode cX12_thrift 22 = .ok (.aload_n 0, 1) := dc_42 (show ((cX12_thrift.data.toList.drop 22).take 1).map UInt8.toNat = [42] by decide +kernel)
theorem dX12_thrift_23 : decode cX12_thrift 23 = .ok (.getfield 71, 3) := dc_180 (show ((cX12_thrift.data.toList.drop 23).take 3).map UInt8.toNat = [180, 0, 71] by decide +kernel) rfl
theorem dX12_thrift_26 : decode cX12_thrift 26 = .ok (.iload_n 2, 1) := dc_28 (show ((cX12_thrift.data.toList.drop 26).take 1).map UInt8.toNat = [28] by decide +kernel)
theorem dX12_thrift_27 : decode cX12_thrift 27 = .ok (.aload_n 0, 1) := dc_42 (show ((cX12_thrift.data.toList.drop 27).take 1).map UInt8.toNat = [42] by decide +kernel)
theorem dX12_thrift_28 : decode cX12_thrift 28 = .ok (.iload_n 2, 1) := dc_28 (show ((cX12_thrift.data.toList.drop 28).take 1).map UInt8.toNat = [28] by decide +kernel)
theorem dX12_thrift_29 : decode cX12_thrift 29 = .ok (.invokevirtual 409, 3) := dc_182 (show ((cX12_thrift.data.toList.drop 29).take 3).map UInt8.toNat = [182, 1, 153] by decide +kernel) rfl
theorem w_1712 : (Cond.code ({ cls := "GooseBorderModel", name := "isPut", desc := "(I)Z" } : MethodName) prog_14_method_115_code (5 : Nat) (Option.some FieldType.boolean)) ∈ gb_wA := gb_t8 32 rfl rfl
theorem w_1709 : (Cond.methodLink "GooseBorderModel" (409 : Nat) ({ cls := "GooseBorderModel", name := "isPut", desc := "(I)Z" } : MethodName)) ∈ gb_wA := gb_t8 29 rfl rfl
theorem w_1711 : (Cond.instanceMethod ({ cls := "GooseBorderModel", name := "isPut", desc := "(I)Z" } : MethodName)) ∈ gb_wA := gb_t8 31 rfl rfl
theorem s_7_6 : Cond.selects "GooseBorderModel" (⟨"GooseBorderModel", "isPut", "(I)Z"⟩ : MethodName) (⟨"GooseBorderModel", "isPut", "(I)Z"⟩ : MethodName) ∈ gb_wA := gb_s7 6 rfl rfl
theorem dX12_thrift_32 : decode cX12_thrift 32 = .ok (.bastore, 1) := dc_84 (show ((cX12_thrift.data.toList.drop 32).take 1).map UInt8.toNat = [84] by decide +kernel)
theorem dX12_thrift_33 : decode cX12_thrift 33 = .ok (.aload_n 0, 1) := dc_42 (show ((cX12_thrift.data.toList.drop 33).take 1).map UInt8.toNat = [42] by decide +kernel)
theorem dX12_thrift_34 : decode cX12_thrift 34 = .ok (.getfield 71, 3) := dc_180 (show ((cX12_thrift.data.toList.drop 34).take 3).map UInt8.toNat = [180, 0, 71] by decide +kernel) rfl
theorem dX12_thrift_37 : decode cX12_thrift 37 = .ok (.iload_n 2, 1) := dc_28 (show ((cX12_thrift.data.toList.drop 37).take 1).map UInt8.toNat = [28] by decide +kernel)
theorem dX12_thrift_38 : decode cX12_thrift 38 = .ok (.baload, 1) := dc_51 (show ((cX12_thrift.data.toList.drop 38).take 1).map UInt8.toNat = [51] by decide +kernel)
theorem dX12_thrift_39 : decode cX12_thrift 39 = .ok (.ifCond .eq 16, 3) := dc_153 (show ((cX12_thrift.data.toList.drop 39).take 3).map UInt8.toNat = [153, 0, 16] by decide +kernel) rfl
theorem dX12_thrift_55 : decode cX12_thrift 55 = .ok (.iinc 2 1, 3) := dc_132 (show ((cX12_thrift.data.toList.drop 55).take 3).map UInt8.toNat = [132, 2, 1] by decide +kernel) rfl
theorem dX12_thrift_58 : decode cX12_thrift 58 = .ok (.goto (-46), 3) := dc_167 (show ((cX12_thrift.data.toList.drop 58).take 3).map UInt8.toNat = [167, 255, 210] by decide +kernel) rfl
theorem dX12_thrift_42 : decode cX12_thrift 42 = .ok (.iload_n 2, 1) := dc_28 (show ((cX12_thrift.data.toList.drop 42).take 1).map UInt8.toNat = [28] by decide +kernel)
theorem dX12_thrift_43 : decode cX12_thrift 43 = .ok (.invokestatic 400, 3) := dc_184 (show ((cX12_thrift.data.toList.drop 43).take 3).map UInt8.toNat = [184, 1, 144] by decide +kernel) rfl
theorem dX12_thrift_46 : decode cX12_thrift 46 = .ok (.aload_n 0, 1) := dc_42 (show ((cX12_thrift.data.toList.drop 46).take 1).map UInt8.toNat = [42] by decide +kernel)
theorem dX12_thrift_47 : decode cX12_thrift 47 = .ok (.invokevirtual 199, 3) := dc_182 (show ((cX12_thrift.data.toList.drop 47).take 3).map UInt8.toNat = [182, 0, 199] by decide +kernel) rfl
theorem dX12_thrift_50 : decode cX12_thrift 50 = .ok (.if_icmp .ne 5, 3) := dc_160 (show ((cX12_thrift.data.toList.drop 50).take 3).map UInt8.toNat = [160, 0, 5] by decide +kernel) rfl
theorem dX12_thrift_53 : decode cX12_thrift 53 = .ok (.iload_n 2, 1) := dc_28 (show ((cX12_thrift.data.toList.drop 53).take 1).map UInt8.toNat = [28] by decide +kernel)
theorem dX12_thrift_54 : decode cX12_thrift 54 = .ok (.ireturn, 1) := dc_172 (show ((cX12_thrift.data.toList.drop 54).take 1).map UInt8.toNat = [172] by decide +kernel)
theorem dX12_thrift_8 : decode cX12_thrift 8 = .ok (.iconst (-1), 1) := dc_2 (show ((cX12_thrift.data.toList.drop 8).take 1).map UInt8.toNat = [2] by decide +kernel)
theorem dX12_thrift_9 : decode cX12_thrift 9 = .ok (.ireturn, 1) := dc_172 (show ((cX12_thrift.data.toList.drop 9).take 1).map UInt8.toNat = [172] by decide +kernel)
def ms_thrift_12 (n : Nat) : Nat → gb_F → Int64 → Int32 → gb_MR Int32
  | 0, _, _, _ => none
  | mm + 1, f, w, v2 => gb_bd (ms_geese n f w) (fun f_7 wl_8 r_9 => (if (1 <<< (r_9 &&& 31)) ≤ v2 then some (f_7, wl_8, (-1)) else gb_bd (ms_isPut n f_7 wl_8 v2) (fun f_13 wl_14 r_15 => gb_ck v2 256 (gb_lt (gb_u f_13 21 (upd (f_13 21) (Int32.toNatClampNeg v2) (vp_nar .boolean r_15))) (fun f_19 => gb_ck v2 256 (gb_lt (f_19 21 (Int32.toNatClampNeg v2)) (fun x_21 => (if x_21 = 0 then gb_lt (v2 + 1) (fun x_23 => ms_thrift_12 n mm f_19 wl_14 x_23) else gb_bd (ms_bits n f_19 wl_14 v2) (fun f_24 wl_25 r_26 => gb_bd (ms_paths n f_24 wl_25) (fun f_29 wl_30 r_31 => (if r_26 = r_31 then some (f_29, wl_30, v2) else gb_lt (v2 + 1) (fun x_35 => ms_thrift_12 n mm f_29 wl_30 x_35))))))))))))
def ms_thrift (n : Nat) (f : gb_F) (w : Int64) (p1 : Int32) : gb_MR Int32 := gb_bd (ms_isBorder n f w p1) (fun f_1 wl_2 r_3 => (if r_3 = 0 then some (f_1, wl_2, (-1)) else ms_thrift_12 n n f_1 wl_2 0))
set_option maxHeartbeats 8000000 in
set_option maxRecDepth 100000 in
theorem mc_thrift (l : Launch) (D : va_G) (cT : Nat → ClassId) (tt : Nat → Nat) (b1 b : Nat) (hb1 : b1 ≤ b) (n : Nat) (f : gb_F) (w : Int64) (p1 : Int32) (fE : gb_F) (wE : Int64) (rE : Int32) (h : ms_thrift n f w p1 = some (fE, wE, rE)) : Met l yX12_thrift (.code yX12_thrift cX12_thrift 3 (some FieldType.int) :: gb_wA) ({ frames := 5, cells := 0, slots := 0, locals := 116 }) (gb_Pc D cT tt b1 [.ref (b + 0), .int p1] (fun h => va_P D vwCl (gb_wl b (gb_MW cT b f w)) h)) (gb_Qi (fun r h => r = rE ∧ va_P D vwCl (gb_wl b (gb_MW cT b fE wE)) h) (gb_fr b 22)) 0 0 (gb_fr b 22) := by
  refine Met.ofW (cc := cX12_thrift) (maxL := 3) (ret := (some FieldType.int)) (by decide) rfl ?_
  intro p e s m args below meth c s₁ B hml hv
  obtain ⟨rfl, hSt, hP⟩ := hv
  have hx := B.exec
  have hb := B.bytes
  have hr := B.returns
  have hts := atoms_spec (ws := .code yX12_thrift cX12_thrift 3 (some FieldType.int) :: gb_wA) B.pre
  have hq : ∀ w ∈ gb_wA, w.before _ s = true := fun w h => hts w (List.mem_cons_of_mem _ h)
  have hown : s.vm.findClass RX12 = some m.cls := findClass_of_methodNamed B.named
  have hlocks := B.notSynchronized
  clear B hts
  have hK := hSt.1
  have hS : va_S (gb_fr b 22) s.heap s.heap [] := va_S.rf
  have hl := lv_entry ([.ref (b + 0), .int p1]) (n := 3) (Nat.le_of_ble_eq_true rfl)
  rw [lg_entry_eq]
  generalize (lg_sl ([.ref (b + 0), .int p1]) ++ List.replicate (3 - (lg_sl ([.ref (b + 0), .int p1])).length) Slot.unset).toArray = ls at hl ⊢
  replace hl : lv_has ls 3 [(0, .ref (b + 0)), (1, .int p1)] := hl
  have L12 : ∀ (mm : Nat) (f : gb_F) (w : Int64) (v2 : Int32) (H : Heap) (locs : List Loc) (ls : Array Slot), ms_thrift_12 n mm f w v2 = some (fE, wE, rE) → va_P D vwCl (gb_wl b (gb_MW cT b f w)) H → va_S (gb_fr b 22) s.heap H locs → lv_has ls 3 [(0, .ref (b + 0)), (2, .int v2)] → W p l e (headSpec (.code yX12_thrift cX12_thrift 3 (some FieldType.int) :: gb_wA) ({ frames := 5, cells := 0, slots := 0, locals := 116 })).room s m ([.ref (b + 0), .int p1]).toArray below meth c H locs 0 0 (MQ below (gb_Qi (fun r h => r = rE ∧ va_P D vwCl (gb_wl b (gb_MW cT b fE wE)) h) (gb_fr b 22)) ([.ref (b + 0), .int p1]).toArray s 0 0 (gb_fr b 22)) (F0 m 12 ls []) := by
    clear h hP hS hl ls f w
    intro mm
    induction mm with
    | zero =>
      intro f w v2 H locs ls h
      cases h
    | succ mm ih =>
      intro f w v2 H locs ls h hP hS hl
      rw [ms_thrift_12] at h
      refine lv_iload_n hx hb dX12_thrift_12 rfl (lv_at hl 1 rfl) ?_
      refine lv_iconst (v := 1) hx hb dX12_thrift_13 (by decide) ?_
      refine lv_aload_n hx hb dX12_thrift_14 rfl (lv_at hl 0 rfl) ?_
      obtain ⟨f_7, wl_8, r_9, z_10, h⟩ := gb_bd_s h
      refine gb_calli (va_runV (C := RX12) (As := []) (rest := [.int 1, .int v2]) ⟨hx, hb, hml, hown, hq⟩ (mc_geese l D cT tt b1 b hb1 n f w f_7 wl_8 r_9 z_10) (cwV 0 hq (gb_gV w_1396 w_1398 s_4_7 w_14 w_1399) rfl rfl rfl (by decide +kernel) ⟨Nat.le_of_ble_eq_true rfl, Nat.le_of_ble_eq_true rfl⟩) (gb_preV (r := (RX12, TX12, 44)) (ci := 10) (q0 := 0) hSt hP rfl (gb_at b rfl) hS (fun q h => Nat.le_trans hb1 h.1) hP) rfl rfl hl.1 rfl (lv_room (Nat.le_of_ble_eq_true rfl)) dX12_thrift_15 ⟨Nat.le_of_ble_eq_true rfl, Nat.le_of_ble_eq_true rfl⟩) hS (fun _ h => h) (fun _ h => h) (fun q_11 H locs hY hk hS => ?_)
      obtain ⟨hq_11, hP⟩ := hY
      replace hq_11 := hq_11.symm
      subst hq_11
      refine lv_ishl hx hb dX12_thrift_18 ?_
      refine lv_icmp_ge (tgt := 61) hx hb dX12_thrift_19 (by decide) (fun c_12 => ?_) (fun c_12 => ?_)
      · rw [if_pos c_12] at h
        refine lv_iconst (v := (-1)) hx hb dX12_thrift_61 (by decide) ?_
        obtain ⟨e1, e2, e3⟩ := gb_eq3 h
        exact W.iret (v := (-1)) hx hb hr (fun t ht hW => gb_ri ht ⟨e3, by rw [← e1, ← e2]; exact hP⟩ hS) hS.2.2 dX12_thrift_62
      · rw [if_neg c_12] at h
        refine lv_aload_n hx hb dX12_thrift_22 rfl (lv_at hl 0 rfl) ?_
        refine va_get (ci := 10) (v := (.ref (b + 21))) (C := RX12) (T := TX12) (N := 44) hx hb hq i_X12 hown hK hP 0 (gb_at b rfl) rfl 43 (by decide) (hq _ w_1167) (fun _ h9 => h9) rfl dX12_thrift_23 ?_
        refine lv_iload_n hx hb dX12_thrift_26 rfl (lv_at hl 1 rfl) ?_
        refine lv_aload_n hx hb dX12_thrift_27 rfl (lv_at hl 0 rfl) ?_
        refine lv_iload_n hx hb dX12_thrift_28 rfl (lv_at hl 1 rfl) ?_
        obtain ⟨f_13, wl_14, r_15, z_16, h⟩ := gb_bd_s h
        refine gb_calli (va_runV (C := RX12) (As := [.int v2]) (rest := [.int v2, .ref (b + 21)]) ⟨hx, hb, hml, hown, hq⟩ (mc_isPut l D cT tt b1 b hb1 n f_7 wl_8 v2 f_13 wl_14 r_15 z_16) (cwV 1 hq (gb_gV w_1709 w_1711 s_7_6 w_14 w_1712) rfl rfl rfl (by decide +kernel) ⟨Nat.le_of_ble_eq_true rfl, Nat.le_of_ble_eq_true rfl⟩) (gb_preV (r := (RX12, TX12, 44)) (ci := 10) (q0 := 0) hSt hP rfl (gb_at b rfl) hS (fun q h => Nat.le_trans hb1 h.1) hP) rfl rfl hl.1 rfl (lv_room (Nat.le_of_ble_eq_true rfl)) dX12_thrift_29 ⟨Nat.le_of_ble_eq_true rfl, Nat.le_of_ble_eq_true rfl⟩) hS (fun _ h => h) (fun _ h => h) (fun q_17 H locs hY hk hS => ?_)
        obtain ⟨hq_17, hP⟩ := hY
        replace hq_17 := hq_17.symm
        subst hq_17
        obtain ⟨z_18, h⟩ := gb_ck_s h
        refine va_zast (x := r_15) hx hb hK hP (gb_D (fun k h => ⟨Nat.le_add_right b k, Nat.add_lt_add_left h b⟩)) hS 21 2 (gb_at b rfl) rfl z_18 dX12_thrift_32 (fun H locs hP hD hS => ?_)
        rw [gb_set] at hP
        obtain ⟨f_19, ef_19⟩ : ∃ q, q = (gb_u f_13 21 (upd (f_13 21) (Int32.toNatClampNeg v2) (vp_nar .boolean r_15))) := ⟨_, rfl⟩
        replace hP : va_P D vwCl (gb_wl b (gb_MW cT b f_19 wl_14)) H := by rw [ef_19]; exact hP
        replace h := gb_lt_s ef_19 h
        refine lv_aload_n hx hb dX12_thrift_33 rfl (lv_at hl 0 rfl) ?_
        refine va_get (ci := 10) (v := (.ref (b + 21))) (C := RX12) (T := TX12) (N := 44) hx hb hq i_X12 hown hK hP 0 (gb_at b rfl) rfl 43 (by decide) (hq _ w_1167) (fun _ h9 => h9) rfl dX12_thrift_34 ?_
        refine lv_iload_n hx hb dX12_thrift_37 rfl (lv_at hl 1 rfl) ?_
        obtain ⟨z_20, h⟩ := gb_ck_s h
        refine va_zald hx hb hK hP 21 2 (gb_at b rfl) rfl z_20 dX12_thrift_38 ?_
        refine lv_topi (fun x_21 ex_21 => ?_)
        replace h := gb_lt_s ex_21 h
        refine lv_if_eq (tgt := 55) hx hb dX12_thrift_39 (by decide) (fun c_22 => ?_) (fun c_22 => ?_)
        · rw [if_pos c_22] at h
          obtain ⟨x_23, ex_23⟩ : ∃ q, q = (v2 + 1) := ⟨_, rfl⟩
          replace h := gb_lt_s ex_23 h
          refine lv_iinc (v := x_23) (lv' := [(2, .int x_23), (0, .ref (b + 0))]) hx hb dX12_thrift_55 hl (k := 1) rfl (by rw [ex_23]; rfl) (by decide) rfl (fun ls hl => ?_)
          refine lv_goto (tgt := 12) hx hb dX12_thrift_58 (by decide) ?_
          exact ih _ _ _ _ _ _ h hP hS (lv_sub hl [1, 0] rfl)
        · rw [if_neg c_22] at h
          refine lv_iload_n hx hb dX12_thrift_42 rfl (lv_at hl 1 rfl) ?_
          obtain ⟨f_24, wl_25, r_26, z_27, h⟩ := gb_bd_s h
          refine gb_calli (va_runS (As := [.int v2]) (rest := []) ⟨hx, hb, hml, hown, hq⟩ (mc_bits l D cT tt b1 b hb1 n f_19 wl_14 v2 f_24 wl_25 r_26 z_27) (va_cwS 1 hq (gb_gS w_1682 w_1683 w_14 w_1684) rfl rfl rfl (by decide +kernel) ⟨Nat.le_of_ble_eq_true rfl, Nat.le_of_ble_eq_true rfl⟩) (gb_preS hSt hS (fun q h => Nat.le_trans hb1 h.1) hP) rfl rfl hl.1 rfl (lv_room (Nat.le_of_ble_eq_true rfl)) dX12_thrift_43 ⟨Nat.le_of_ble_eq_true rfl, Nat.le_of_ble_eq_true rfl⟩) hS (fun _ h => h) (fun _ h => h) (fun q_28 H locs hY hk hS => ?_)
          obtain ⟨hq_28, hP⟩ := hY
          replace hq_28 := hq_28.symm
          subst hq_28
          refine lv_aload_n hx hb dX12_thrift_46 rfl (lv_at hl 0 rfl) ?_
          obtain ⟨f_29, wl_30, r_31, z_32, h⟩ := gb_bd_s h
          refine gb_calli (va_runV (C := RX12) (As := []) (rest := [.int r_26]) ⟨hx, hb, hml, hown, hq⟩ (mc_paths l D cT tt b1 b hb1 n f_24 wl_25 f_29 wl_30 r_31 z_32) (cwV 0 hq (gb_gV w_1384 w_1386 s_4_4 w_14 w_1387) rfl rfl rfl (by decide +kernel) ⟨Nat.le_of_ble_eq_true rfl, Nat.le_of_ble_eq_true rfl⟩) (gb_preV (r := (RX12, TX12, 44)) (ci := 10) (q0 := 0) hSt hP rfl (gb_at b rfl) hS (fun q h => Nat.le_trans hb1 h.1) hP) rfl rfl hl.1 rfl (lv_room (Nat.le_of_ble_eq_true rfl)) dX12_thrift_47 ⟨Nat.le_of_ble_eq_true rfl, Nat.le_of_ble_eq_true rfl⟩) hS (fun _ h => h) (fun _ h => h) (fun q_33 H locs hY hk hS => ?_)
          obtain ⟨hq_33, hP⟩ := hY
          replace hq_33 := hq_33.symm
          subst hq_33
          refine lv_icmp_ne (tgt := 55) hx hb dX12_thrift_50 (by decide) (fun c_34 => ?_) (fun c_34 => ?_)
          · rw [if_neg c_34] at h
            obtain ⟨x_35, ex_35⟩ : ∃ q, q = (v2 + 1) := ⟨_, rfl⟩
            replace h := gb_lt_s ex_35 h
            refine lv_iinc (v := x_35) (lv' := [(2, .int x_35), (0, .ref (b + 0))]) hx hb dX12_thrift_55 hl (k := 1) rfl (by rw [ex_35]; rfl) (by decide) rfl (fun ls hl => ?_)
            refine lv_goto (tgt := 12) hx hb dX12_thrift_58 (by decide) ?_
            exact ih _ _ _ _ _ _ h hP hS (lv_sub hl [1, 0] rfl)
          · rw [if_pos c_34] at h
            refine lv_iload_n hx hb dX12_thrift_53 rfl (lv_at hl 1 rfl) ?_
            obtain ⟨e1, e2, e3⟩ := gb_eq3 h
            exact W.iret (v := v2) hx hb hr (fun t ht hW => gb_ri ht ⟨e3, by rw [← e1, ← e2]; exact hP⟩ hS) hS.2.2 dX12_thrift_54
  unfold ms_thrift at h
  refine lv_aload_n hx hb dX12_thrift_0 rfl (lv_at hl 0 rfl) ?_
  refine lv_iload_n hx hb dX12_thrift_1 rfl (lv_at hl 1 rfl) ?_
  obtain ⟨f_1, wl_2, r_3, z_4, h⟩ := gb_bd_s h
  refine gb_calli (va_runV (C := RX12) (As := [.int p1]) (rest := []) ⟨hx, hb, hml, hown, hq⟩ (mc_isBorder l D cT tt b1 b hb1 n f w p1 f_1 wl_2 r_3 z_4) (cwV 1 hq (gb_gV w_1372 w_1374 s_4_1 w_14 w_1375) rfl rfl rfl (by decide +kernel) ⟨Nat.le_of_ble_eq_true rfl, Nat.le_of_ble_eq_true rfl⟩) (gb_preV (r := (RX12, TX12, 44)) (ci := 10) (q0 := 0) hSt hP rfl (gb_at b rfl) hS (fun q h => Nat.le_trans hb1 h.1) hP) rfl rfl hl.1 rfl (lv_room (Nat.le_of_ble_eq_true rfl)) dX12_thrift_2 ⟨Nat.le_of_ble_eq_true rfl, Nat.le_of_ble_eq_true rfl⟩) hS (fun _ h => h) (fun _ h => h) (fun q_5 H locs hY hk hS => ?_)
  obtain ⟨hq_5, hP⟩ := hY
  replace hq_5 := hq_5.symm
  subst hq_5
  refine lv_if_ne (tgt := 10) hx hb dX12_thrift_5 (by decide) (fun c_6 => ?_) (fun c_6 => ?_)
  · rw [if_neg c_6] at h
    refine lv_iconst (v := 0) hx hb dX12_thrift_10 (by decide) ?_
    refine lv_istore_n (lv' := [(2, .int 0), (0, .ref (b + 0)), (1, .int p1)]) hx hb dX12_thrift_11 rfl hl (by decide) rfl (fun ls hl => ?_)
    exact L12 n _ _ _ _ _ _ h hP hS (lv_sub hl [1, 0] rfl)
  · rw [if_pos c_6] at h
    refine lv_iconst (v := (-1)) hx hb dX12_thrift_8 (by decide) ?_
    obtain ⟨e1, e2, e3⟩ := gb_eq3 h
    exact W.iret (v := (-1)) hx hb hr (fun t ht hW => gb_ri ht ⟨e3, by rw [← e1, ← e2]; exact hP⟩ hS) hS.2.2 dX12_thrift_9
theorem dX12_count_0 : decode cX12_count 0 = .ok (.iload_n 1, 1) := dc_27 (show ((cX12_count.data.toList.drop 0).take 1).map UInt8.toNat = [27] by decide +kernel)
theorem dX12_count_1 : decode cX12_count 1 = .ok (.iconst 0, 1) := dc_3 (show ((cX12_count.data.toList.drop 1).take 1).map UInt8.toNat = [3] by decide +kernel)
theorem dX12_count_2 : decode cX12_count 2 = .ok (.iconst 3, 1) := dc_6 (show ((cX12_count.data.toList.drop 2).take 1).map UInt8.toNat = [6] by decide +kernel)
theorem dX12_count_3 : decode cX12_count 3 = .ok (.invokestatic 129, 3) := dc_184 (show ((cX12_count.data.toList.drop 3).take 3).map UInt8.toNat = [184, 0, 129] by decide +kernel) rfl
theorem dX12_count_6 : decode cX12_count 6 = .ok (.ifCond .eq 12, 3) := dc_153 (show ((cX12_count.data.toList.drop 6).take 3).map UInt8.toNat = [153, 0, 12] by decide +kernel) rfl
theorem dX12_count_18 : decode cX12_count 18 = .ok (.bipush (-2), 2) := dc_16 (show ((cX12_count.data.toList.drop 18).take 2).map UInt8.toNat = [16, 254] by decide +kernel) rfl
theorem dX12_count_20 : decode cX12_count 20 = .ok (.ireturn, 1) := dc_172 (show ((cX12_count.data.toList.drop 20).take 1).map UInt8.toNat = [172] by decide +kernel)
theorem dX12_count_9 : decode cX12_count 9 = .ok (.aload_n 0, 1) := dc_42 (show ((cX12_count.data.toList.drop 9).take 1).map UInt8.toNat = [42] by decide +kernel)
theorem dX12_count_10 : decode cX12_count 10 = .ok (.getfield 7, 3) := dc_180 (show ((cX12_count.data.toList.drop 10).take 3).map UInt8.toNat = [180, 0, 7] by decide +kernel) rfl
theorem dX12_count_13 : decode cX12_count 13 = .ok (.iload_n 1, 1) := dc_27 (show ((cX12_count.data.toList.drop 13).take 1).map UInt8.toNat = [27] by decide +kernel)
theorem dX12_count_14 : decode cX12_count 14 = .ok (.iaload, 1) := dc_46 (show ((cX12_count.data.toList.drop 14).take 1).map UInt8.toNat = [46] by decide +kernel)
theorem dX12_count_15 : decode cX12_count 15 = .ok (.goto 5, 3) := dc_167 (show ((cX12_count.data.toList.drop 15).take 3).map UInt8.toNat = [167, 0, 5] by decide +kernel) rfl
def ms_count (n : Nat) (f : gb_F) (w : Int64) (p1 : Int32) : gb_MR Int32 := gb_bd (ms_isIn n f w p1 0 3) (fun f_1 wl_2 r_3 => (if r_3 = 0 then some (f_1, wl_2, (-2)) else gb_ck p1 3968 (gb_lt (f_1 1 (Int32.toNatClampNeg p1)) (fun x_8 => some (f_1, wl_2, x_8)))))
set_option maxHeartbeats 8000000 in
set_option maxRecDepth 100000 in
theorem mc_count (l : Launch) (D : va_G) (cT : Nat → ClassId) (tt : Nat → Nat) (b1 b : Nat) (hb1 : b1 ≤ b) (n : Nat) (f : gb_F) (w : Int64) (p1 : Int32) (fE : gb_F) (wE : Int64) (rE : Int32) (h : ms_count n f w p1 = some (fE, wE, rE)) : Met l yX12_count (.code yX12_count cX12_count 2 (some FieldType.int) :: gb_wA) ({ frames := 1, cells := 0, slots := 0, locals := 22 }) (gb_Pc D cT tt b1 [.ref (b + 0), .int p1] (fun h => va_P D vwCl (gb_wl b (gb_MW cT b f w)) h)) (gb_Qi (fun r h => r = rE ∧ va_P D vwCl (gb_wl b (gb_MW cT b fE wE)) h) (gb_fr b 22)) 0 0 (gb_fr b 22) := by
  refine Met.ofW (cc := cX12_count) (maxL := 2) (ret := (some FieldType.int)) (by decide) rfl ?_
  intro p e s m args below meth c s₁ B hml hv
  obtain ⟨rfl, hSt, hP⟩ := hv
  have hx := B.exec
  have hb := B.bytes
  have hr := B.returns
  have hts := atoms_spec (ws := .code yX12_count cX12_count 2 (some FieldType.int) :: gb_wA) B.pre
  have hq : ∀ w ∈ gb_wA, w.before _ s = true := fun w h => hts w (List.mem_cons_of_mem _ h)
  have hown : s.vm.findClass RX12 = some m.cls := findClass_of_methodNamed B.named
  have hlocks := B.notSynchronized
  clear B hts
  have hK := hSt.1
  have hS : va_S (gb_fr b 22) s.heap s.heap [] := va_S.rf
  have hl := lv_entry ([.ref (b + 0), .int p1]) (n := 2) (Nat.le_of_ble_eq_true rfl)
  rw [lg_entry_eq]
  generalize (lg_sl ([.ref (b + 0), .int p1]) ++ List.replicate (2 - (lg_sl ([.ref (b + 0), .int p1])).length) Slot.unset).toArray = ls at hl ⊢
  replace hl : lv_has ls 2 [(0, .ref (b + 0)), (1, .int p1)] := hl
  unfold ms_count at h
  refine lv_iload_n hx hb dX12_count_0 rfl (lv_at hl 1 rfl) ?_
  refine lv_iconst (v := 0) hx hb dX12_count_1 (by decide) ?_
  refine lv_iconst (v := 3) hx hb dX12_count_2 (by decide) ?_
  obtain ⟨f_1, wl_2, r_3, z_4, h⟩ := gb_bd_s h
  refine gb_calli (va_runS (As := [.int p1, .int 0, .int 3]) (rest := []) ⟨hx, hb, hml, hown, hq⟩ (mc_isIn l D cT tt b1 b hb1 n f w p1 0 3 f_1 wl_2 r_3 z_4) (va_cwS 3 hq (gb_gS w_1269 w_1270 w_14 w_1271) rfl rfl rfl (by decide +kernel) ⟨Nat.le_of_ble_eq_true rfl, Nat.le_of_ble_eq_true rfl⟩) (gb_preS hSt hS (fun q h => Nat.le_trans hb1 h.1) hP) rfl rfl hl.1 rfl (lv_room (Nat.le_of_ble_eq_true rfl)) dX12_count_3 ⟨Nat.le_of_ble_eq_true rfl, Nat.le_of_ble_eq_true rfl⟩) hS (fun _ h => h) (fun _ h => h) (fun q_5 H locs hY hk hS => ?_)
  obtain ⟨hq_5, hP⟩ := hY
  replace hq_5 := hq_5.symm
  subst hq_5
  refine lv_if_eq (tgt := 18) hx hb dX12_count_6 (by decide) (fun c_6 => ?_) (fun c_6 => ?_)
  · rw [if_pos c_6] at h
    refine lv_bipush (v := (-2)) hx hb dX12_count_18 (by decide) ?_
    obtain ⟨e1, e2, e3⟩ := gb_eq3 h
    exact W.iret (v := (-2)) hx hb hr (fun t ht hW => gb_ri ht ⟨e3, by rw [← e1, ← e2]; exact hP⟩ hS) hS.2.2 dX12_count_20
  · rw [if_neg c_6] at h
    refine lv_aload_n hx hb dX12_count_9 rfl (lv_at hl 0 rfl) ?_
    refine va_get (ci := 10) (v := (.ref (b + 1))) (C := RX12) (T := TX12) (N := 44) hx hb hq i_X12 hown hK hP 0 (gb_at b rfl) rfl 0 (by decide) (hq _ w_1124) (fun _ h9 => h9) rfl dX12_count_10 ?_
    refine lv_iload_n hx hb dX12_count_13 rfl (lv_at hl 1 rfl) ?_
    obtain ⟨z_7, h⟩ := gb_ck_s h
    refine va_iald hx hb hK hP 1 0 (gb_at b rfl) rfl z_7 dX12_count_14 ?_
    refine lv_topi (fun x_8 ex_8 => ?_)
    replace h := gb_lt_s ex_8 h
    refine lv_goto (tgt := 20) hx hb dX12_count_15 (by decide) ?_
    obtain ⟨e1, e2, e3⟩ := gb_eq3 h
    exact W.iret (v := x_8) hx hb hr (fun t ht hW => gb_ri ht ⟨e3, by rw [← e1, ← e2]; exact hP⟩ hS) hS.2.2 dX12_count_20
theorem dX12_image_0 : decode cX12_image 0 = .ok (.iload_n 1, 1) := dc_27 (show ((cX12_image.data.toList.drop 0).take 1).map UInt8.toNat = [27] by decide +kernel)
theorem dX12_image_1 : decode cX12_image 1 = .ok (.iconst 0, 1) := dc_3 (show ((cX12_image.data.toList.drop 1).take 1).map UInt8.toNat = [3] by decide +kernel)
theorem dX12_image_2 : decode cX12_image 2 = .ok (.iconst 2, 1) := dc_5 (show ((cX12_image.data.toList.drop 2).take 1).map UInt8.toNat = [5] by decide +kernel)
theorem dX12_image_3 : decode cX12_image 3 = .ok (.invokestatic 129, 3) := dc_184 (show ((cX12_image.data.toList.drop 3).take 3).map UInt8.toNat = [184, 0, 129] by decide +kernel) rfl
theorem dX12_image_6 : decode cX12_image 6 = .ok (.ifCond .ne 5, 3) := dc_154 (show ((cX12_image.data.toList.drop 6).take 3).map UInt8.toNat = [154, 0, 5] by decide +kernel) rfl
theorem dX12_image_11 : decode cX12_image 11 = .ok (.aload_n 0, 1) := dc_42 (show ((cX12_image.data.toList.drop 11).take 1).map UInt8.toNat = [42] by decide +kernel)
theorem dX12_image_12 : decode cX12_image 12 = .ok (.getfield 13, 3) := dc_180 (show ((cX12_image.data.toList.drop 12).take 3).map UInt8.toNat = [180, 0, 13] by decide +kernel) rfl
theorem dX12_image_15 : decode cX12_image 15 = .ok (.iload_n 1, 1) := dc_27 (show ((cX12_image.data.toList.drop 15).take 1).map UInt8.toNat = [27] by decide +kernel)
theorem dX12_image_16 : decode cX12_image 16 = .ok (.iconst 1, 1) := dc_4 (show ((cX12_image.data.toList.drop 16).take 1).map UInt8.toNat = [4] by decide +kernel)
theorem dX12_image_17 : decode cX12_image 17 = .ok (.bastore, 1) := dc_84 (show ((cX12_image.data.toList.drop 17).take 1).map UInt8.toNat = [84] by decide +kernel)
theorem dX12_image_18 : decode cX12_image 18 = .ok (.iconst 0, 1) := dc_3 (show ((cX12_image.data.toList.drop 18).take 1).map UInt8.toNat = [3] by decide +kernel)
theorem dX12_image_19 : decode cX12_image 19 = .ok (.istore_n 2, 1) := dc_61 (show ((cX12_image.data.toList.drop 19).take 1).map UInt8.toNat = [61] by decide +kernel)
theorem dX12_image_20 : decode cX12_image 20 = .ok (.iload_n 2, 1) := dc_28 (show ((cX12_image.data.toList.drop 20).take 1).map UInt8.toNat = [28] by decide +kernel)
theorem dX12_image_21 : decode cX12_image 21 = .ok (.sipush 992, 3) := dc_17 (show ((cX12_image.data.toList.drop 21).take 3).map UInt8.toNat = [17, 3, 224] by decide +kernel) rfl
theorem dX12_image_24 : decode cX12_image 24 = .ok (.if_icmp .ge 29, 3) := dc_162 (show ((cX12_image.data.toList.drop 24).take 3).map UInt8.toNat = [162, 0, 29] by decide +kernel) rfl
theorem dX12_image_53 : decode cX12_image 53 = .ok (.iconst 1, 1) := dc_4 (show ((cX12_image.data.toList.drop 53).take 1).map UInt8.toNat = [4] by decide +kernel)
theorem dX12_image_54 : decode cX12_image 54 = .ok (.ireturn, 1) := dc_172 (show ((cX12_image.data.toList.drop 54).take 1).map UInt8.toNat = [172] by decide +kernel)
theorem dX12_image_27 : decode cX12_image 27 = .ok (.aload_n 0, 1) := dc_42 (show ((cX12_image.data.toList.drop 27).take 1).map UInt8.toNat = [42] by decide +kernel)
theorem dX12_image_28 : decode cX12_image 28 = .ok (.getfield 7, 3) := dc_180 (show ((cX12_image.data.toList.drop 28).take 3).map UInt8.toNat = [180, 0, 7] by decide +kernel) rfl
theorem dX12_image_31 : decode cX12_image 31 = .ok (.sipush 992, 3) := dc_17 (show ((cX12_image.data.toList.drop 31).take 3).map UInt8.toNat = [17, 3, 224] by decide +kernel) rfl
theorem dX12_image_34 : decode cX12_image 34 = .ok (.iload_n 1, 1) := dc_27 (show ((cX12_image.data.toList.drop 34).take 1).map UInt8.toNat = [27] by decide +kernel)
theorem dX12_image_35 : decode cX12_image 35 = .ok (.iconst 1, 1) := dc_4 (show ((cX12_image.data.toList.drop 35).take 1).map UInt8.toNat = [4] by decide +kernel)
theorem dX12_image_36 : decode cX12_image 36 = .ok (.iadd, 1) := dc_96 (show ((cX12_image.data.toList.drop 36).take 1).map UInt8.toNat = [96] by decide +kernel)
theorem dX12_image_37 : decode cX12_image 37 = .ok (.imul, 1) := dc_104 (show ((cX12_image.data.toList.drop 37).take 1).map UInt8.toNat = [104] by decide +kernel)
theorem dX12_image_38 : decode cX12_image 38 = .ok (.iload_n 2, 1) := dc_28 (show ((cX12_image.data.toList.drop 38).take 1).map UInt8.toNat = [28] by decide +kernel)
theorem dX12_image_39 : decode cX12_image 39 = .ok (.iadd, 1) := dc_96 (show ((cX12_image.data.toList.drop 39).take 1).map UInt8.toNat = [96] by decide +kernel)
theorem dX12_image_40 : decode cX12_image 40 = .ok (.aload_n 0, 1) := dc_42 (show ((cX12_image.data.toList.drop 40).take 1).map UInt8.toNat = [42] by decide +kernel)
theorem dX12_image_41 : decode cX12_image 41 = .ok (.getfield 7, 3) := dc_180 (show ((cX12_image.data.toList.drop 41).take 3).map UInt8.toNat = [180, 0, 7] by decide +kernel) rfl
theorem dX12_image_44 : decode cX12_image 44 = .ok (.iload_n 2, 1) := dc_28 (show ((cX12_image.data.toList.drop 44).take 1).map UInt8.toNat = [28] by decide +kernel)
theorem dX12_image_45 : decode cX12_image 45 = .ok (.iaload, 1) := dc_46 (show ((cX12_image.data.toList.drop 45).take 1).map UInt8.toNat = [46] by decide +kernel)
theorem dX12_image_46 : decode cX12_image 46 = .ok (.iastore, 1) := dc_79 (show ((cX12_image.data.toList.drop 46).take 1).map UInt8.toNat = [79] by decide +kernel)
theorem dX12_image_47 : decode cX12_image 47 = .ok (.iinc 2 1, 3) := dc_132 (show ((cX12_image.data.toList.drop 47).take 3).map UInt8.toNat = [132, 2, 1] by decide +kernel) rfl
theorem dX12_image_50 : decode cX12_image 50 = .ok (.goto (-30), 3) := dc_167 (show ((cX12_image.data.toList.drop 50).take 3).map UInt8.toNat = [167, 255, 226] by decide +kernel) rfl
theorem dX12_image_9 : decode cX12_image 9 = .ok (.iconst 0, 1) := dc_3 (show ((cX12_image.data.toList.drop 9).take 1).map UInt8.toNat = [3] by decide +kernel)
theorem dX12_image_10 : decode cX12_image 10 = .ok (.ireturn, 1) := dc_172 (show ((cX12_image.data.toList.drop 10).take 1).map UInt8.toNat = [172] by decide +kernel)
def ms_image_20 (n : Nat) : Nat → gb_F → Int64 → Int32 → Int32 → gb_MR Int32
  | 0, _, _, _, _ => none
  | mm + 1, f, w, v1, v2 => (if (992 : Int32) ≤ v2 then some (f, w, 1) else gb_ck v2 3968 (gb_lt (f 1 (Int32.toNatClampNeg v2)) (fun x_11 => gb_ck ((992 * (v1 + 1)) + v2) 3968 (gb_lt (gb_u f 1 (upd (f 1) (Int32.toNatClampNeg ((992 * (v1 + 1)) + v2)) x_11)) (fun f_13 => gb_lt (v2 + 1) (fun x_14 => ms_image_20 n mm f_13 w v1 x_14))))))
def ms_image (n : Nat) (f : gb_F) (w : Int64) (p1 : Int32) : gb_MR Int32 := gb_bd (ms_isIn n f w p1 0 2) (fun f_1 wl_2 r_3 => (if r_3 = 0 then some (f_1, wl_2, 0) else gb_ck p1 3 (gb_lt (gb_u f_1 2 (upd (f_1 2) (Int32.toNatClampNeg p1) (vp_nar .boolean 1))) (fun f_8 => ms_image_20 n n f_8 wl_2 p1 0))))
set_option maxHeartbeats 8000000 in
set_option maxRecDepth 100000 in
theorem mc_image (l : Launch) (D : va_G) (cT : Nat → ClassId) (tt : Nat → Nat) (b1 b : Nat) (hb1 : b1 ≤ b) (n : Nat) (f : gb_F) (w : Int64) (p1 : Int32) (fE : gb_F) (wE : Int64) (rE : Int32) (h : ms_image n f w p1 = some (fE, wE, rE)) : Met l yX12_image (.code yX12_image cX12_image 3 (some FieldType.boolean) :: gb_wA) ({ frames := 1, cells := 0, slots := 0, locals := 22 }) (gb_Pc D cT tt b1 [.ref (b + 0), .int p1] (fun h => va_P D vwCl (gb_wl b (gb_MW cT b f w)) h)) (gb_Qi (fun r h => r = rE ∧ va_P D vwCl (gb_wl b (gb_MW cT b fE wE)) h) (gb_fr b 22)) 0 0 (gb_fr b 22) := by
  refine Met.ofW (cc := cX12_image) (maxL := 3) (ret := (some FieldType.boolean)) (by decide) rfl ?_
  intro p e s m args below meth c s₁ B hml hv
  obtain ⟨rfl, hSt, hP⟩ := hv
  have hx := B.exec
  have hb := B.bytes
  have hr := B.returns
  have hts := atoms_spec (ws := .code yX12_image cX12_image 3 (some FieldType.boolean) :: gb_wA) B.pre
  have hq : ∀ w ∈ gb_wA, w.before _ s = true := fun w h => hts w (List.mem_cons_of_mem _ h)
  have hown : s.vm.findClass RX12 = some m.cls := findClass_of_methodNamed B.named
  have hlocks := B.notSynchronized
  clear B hts
  have hK := hSt.1
  have hS : va_S (gb_fr b 22) s.heap s.heap [] := va_S.rf
  have hl := lv_entry ([.ref (b + 0), .int p1]) (n := 3) (Nat.le_of_ble_eq_true rfl)
  rw [lg_entry_eq]
  generalize (lg_sl ([.ref (b + 0), .int p1]) ++ List.replicate (3 - (lg_sl ([.ref (b + 0), .int p1])).length) Slot.unset).toArray = ls at hl ⊢
  replace hl : lv_has ls 3 [(0, .ref (b + 0)), (1, .int p1)] := hl
  have L20 : ∀ (mm : Nat) (f : gb_F) (w : Int64) (v1 : Int32) (v2 : Int32) (H : Heap) (locs : List Loc) (ls : Array Slot), ms_image_20 n mm f w v1 v2 = some (fE, wE, rE) → va_P D vwCl (gb_wl b (gb_MW cT b f w)) H → va_S (gb_fr b 22) s.heap H locs → lv_has ls 3 [(0, .ref (b + 0)), (1, .int v1), (2, .int v2)] → W p l e (headSpec (.code yX12_image cX12_image 3 (some FieldType.boolean) :: gb_wA) ({ frames := 1, cells := 0, slots := 0, locals := 22 })).room s m ([.ref (b + 0), .int p1]).toArray below meth c H locs 0 0 (MQ below (gb_Qi (fun r h => r = rE ∧ va_P D vwCl (gb_wl b (gb_MW cT b fE wE)) h) (gb_fr b 22)) ([.ref (b + 0), .int p1]).toArray s 0 0 (gb_fr b 22)) (F0 m 20 ls []) := by
    clear h hP hS hl ls f w
    intro mm
    induction mm with
    | zero =>
      intro f w v1 v2 H locs ls h
      cases h
    | succ mm ih =>
      intro f w v1 v2 H locs ls h hP hS hl
      rw [ms_image_20] at h
      refine lv_iload_n hx hb dX12_image_20 rfl (lv_at hl 2 rfl) ?_
      refine lv_sipush (v := 992) hx hb dX12_image_21 (by decide) ?_
      refine lv_icmp_ge (tgt := 53) hx hb dX12_image_24 (by decide) (fun c_9 => ?_) (fun c_9 => ?_)
      · rw [if_pos c_9] at h
        refine lv_iconst (v := 1) hx hb dX12_image_53 (by decide) ?_
        obtain ⟨e1, e2, e3⟩ := gb_eq3 h
        exact W.zret (v := 1) hx hb hr (by decide) (fun t ht hW => gb_ri ht ⟨e3, by rw [← e1, ← e2]; exact hP⟩ hS) hS.2.2 dX12_image_54
      · rw [if_neg c_9] at h
        refine lv_aload_n hx hb dX12_image_27 rfl (lv_at hl 0 rfl) ?_
        refine va_get (ci := 10) (v := (.ref (b + 1))) (C := RX12) (T := TX12) (N := 44) hx hb hq i_X12 hown hK hP 0 (gb_at b rfl) rfl 0 (by decide) (hq _ w_1124) (fun _ h9 => h9) rfl dX12_image_28 ?_
        refine lv_sipush (v := 992) hx hb dX12_image_31 (by decide) ?_
        refine lv_iload_n hx hb dX12_image_34 rfl (lv_at hl 1 rfl) ?_
        refine lv_iconst (v := 1) hx hb dX12_image_35 (by decide) ?_
        refine lv_iadd hx hb dX12_image_36 ?_
        refine lv_imul hx hb dX12_image_37 ?_
        refine lv_iload_n hx hb dX12_image_38 rfl (lv_at hl 2 rfl) ?_
        refine lv_iadd hx hb dX12_image_39 ?_
        refine lv_aload_n hx hb dX12_image_40 rfl (lv_at hl 0 rfl) ?_
        refine va_get (ci := 10) (v := (.ref (b + 1))) (C := RX12) (T := TX12) (N := 44) hx hb hq i_X12 hown hK hP 0 (gb_at b rfl) rfl 0 (by decide) (hq _ w_1124) (fun _ h9 => h9) rfl dX12_image_41 ?_
        refine lv_iload_n hx hb dX12_image_44 rfl (lv_at hl 2 rfl) ?_
        obtain ⟨z_10, h⟩ := gb_ck_s h
        refine va_iald hx hb hK hP 1 0 (gb_at b rfl) rfl z_10 dX12_image_45 ?_
        refine lv_topi (fun x_11 ex_11 => ?_)
        replace h := gb_lt_s ex_11 h
        obtain ⟨z_12, h⟩ := gb_ck_s h
        refine gb_iast (x := x_11) hx hb hK hP (fun k h => ⟨Nat.le_add_right b k, Nat.add_lt_add_left h b⟩) hS rfl 1 0 rfl rfl z_12 dX12_image_46 (fun H locs hP hz_ hS => ?_)
        obtain ⟨f_13, ef_13⟩ : ∃ q, q = (gb_u f 1 (upd (f 1) (Int32.toNatClampNeg ((992 * (v1 + 1)) + v2)) x_11)) := ⟨_, rfl⟩
        replace hP : va_P D vwCl (gb_wl b (gb_MW cT b f_13 w)) H := by rw [ef_13]; exact hP
        replace h := gb_lt_s ef_13 h
        obtain ⟨x_14, ex_14⟩ : ∃ q, q = (v2 + 1) := ⟨_, rfl⟩
        replace h := gb_lt_s ex_14 h
        refine lv_iinc (v := x_14) (lv' := [(2, .int x_14), (0, .ref (b + 0)), (1, .int v1)]) hx hb dX12_image_47 hl (k := 2) rfl (by rw [ex_14]; rfl) (by decide) rfl (fun ls hl => ?_)
        refine lv_goto (tgt := 20) hx hb dX12_image_50 (by decide) ?_
        exact ih _ _ _ _ _ _ _ h hP hS (lv_sub hl [1, 2, 0] rfl)
  unfold ms_image at h
  refine lv_iload_n hx hb dX12_image_0 rfl (lv_at hl 1 rfl) ?_
  refine lv_iconst (v := 0) hx hb dX12_image_1 (by decide) ?_
  refine lv_iconst (v := 2) hx hb dX12_image_2 (by decide) ?_
  obtain ⟨f_1, wl_2, r_3, z_4, h⟩ := gb_bd_s h
  refine gb_calli (va_runS (As := [.int p1, .int 0, .int 2]) (rest := []) ⟨hx, hb, hml, hown, hq⟩ (mc_isIn l D cT tt b1 b hb1 n f w p1 0 2 f_1 wl_2 r_3 z_4) (va_cwS 3 hq (gb_gS w_1269 w_1270 w_14 w_1271) rfl rfl rfl (by decide +kernel) ⟨Nat.le_of_ble_eq_true rfl, Nat.le_of_ble_eq_true rfl⟩) (gb_preS hSt hS (fun q h => Nat.le_trans hb1 h.1) hP) rfl rfl hl.1 rfl (lv_room (Nat.le_of_ble_eq_true rfl)) dX12_image_3 ⟨Nat.le_of_ble_eq_true rfl, Nat.le_of_ble_eq_true rfl⟩) hS (fun _ h => h) (fun _ h => h) (fun q_5 H locs hY hk hS => ?_)
  obtain ⟨hq_5, hP⟩ := hY
  replace hq_5 := hq_5.symm
  subst hq_5
  refine lv_if_ne (tgt := 11) hx hb dX12_image_6 (by decide) (fun c_6 => ?_) (fun c_6 => ?_)
  · rw [if_neg c_6] at h
    refine lv_aload_n hx hb dX12_image_11 rfl (lv_at hl 0 rfl) ?_
    refine va_get (ci := 10) (v := (.ref (b + 2))) (C := RX12) (T := TX12) (N := 44) hx hb hq i_X12 hown hK hP 0 (gb_at b rfl) rfl 1 (by decide) (hq _ w_1125) (fun _ h9 => h9) rfl dX12_image_12 ?_
    refine lv_iload_n hx hb dX12_image_15 rfl (lv_at hl 1 rfl) ?_
    refine lv_iconst (v := 1) hx hb dX12_image_16 (by decide) ?_
    obtain ⟨z_7, h⟩ := gb_ck_s h
    refine va_zast (x := 1) hx hb hK hP (gb_D (fun k h => ⟨Nat.le_add_right b k, Nat.add_lt_add_left h b⟩)) hS 2 2 (gb_at b rfl) rfl z_7 dX12_image_17 (fun H locs hP hD hS => ?_)
    rw [gb_set] at hP
    obtain ⟨f_8, ef_8⟩ : ∃ q, q = (gb_u f_1 2 (upd (f_1 2) (Int32.toNatClampNeg p1) (vp_nar .boolean 1))) := ⟨_, rfl⟩
    replace hP : va_P D vwCl (gb_wl b (gb_MW cT b f_8 wl_2)) H := by rw [ef_8]; exact hP
    replace h := gb_lt_s ef_8 h
    refine lv_iconst (v := 0) hx hb dX12_image_18 (by decide) ?_
    refine lv_istore_n (lv' := [(2, .int 0), (0, .ref (b + 0)), (1, .int p1)]) hx hb dX12_image_19 rfl hl (by decide) rfl (fun ls hl => ?_)
    exact L20 n _ _ _ _ _ _ _ h hP hS (lv_sub hl [1, 2, 0] rfl)
  · rw [if_pos c_6] at h
    refine lv_iconst (v := 0) hx hb dX12_image_9 (by decide) ?_
    obtain ⟨e1, e2, e3⟩ := gb_eq3 h
    exact W.zret (v := 0) hx hb hr (by decide) (fun t ht hW => gb_ri ht ⟨e3, by rw [← e1, ← e2]; exact hP⟩ hS) hS.2.2 dX12_image_10
theorem dX12_again_0 : decode cX12_again 0 = .ok (.iload_n 1, 1) := dc_27 (show ((cX12_again.data.toList.drop 0).take 1).map UInt8.toNat = [27] by decide +kernel)
theorem dX12_again_1 : decode cX12_again 1 = .ok (.iconst 0, 1) := dc_3 (show ((cX12_again.data.toList.drop 1).take 1).map UInt8.toNat = [3] by decide +kernel)
theorem dX12_again_2 : decode cX12_again 2 = .ok (.iconst 2, 1) := dc_5 (show ((cX12_again.data.toList.drop 2).take 1).map UInt8.toNat = [5] by decide +kernel)
theorem dX12_again_3 : decode cX12_again 3 = .ok (.invokestatic 129, 3) := dc_184 (show ((cX12_again.data.toList.drop 3).take 3).map UInt8.toNat = [184, 0, 129] by decide +kernel) rfl
theorem dX12_again_6 : decode cX12_again 6 = .ok (.ifCond .eq 12, 3) := dc_153 (show ((cX12_again.data.toList.drop 6).take 3).map UInt8.toNat = [153, 0, 12] by decide +kernel) rfl
theorem dX12_again_18 : decode cX12_again 18 = .ok (.iconst 0, 1) := dc_3 (show ((cX12_again.data.toList.drop 18).take 1).map UInt8.toNat = [3] by decide +kernel)
theorem dX12_again_19 : decode cX12_again 19 = .ok (.ireturn, 1) := dc_172 (show ((cX12_again.data.toList.drop 19).take 1).map UInt8.toNat = [172] by decide +kernel)
theorem dX12_again_9 : decode cX12_again 9 = .ok (.aload_n 0, 1) := dc_42 (show ((cX12_again.data.toList.drop 9).take 1).map UInt8.toNat = [42] by decide +kernel)
theorem dX12_again_10 : decode cX12_again 10 = .ok (.getfield 13, 3) := dc_180 (show ((cX12_again.data.toList.drop 10).take 3).map UInt8.toNat = [180, 0, 13] by decide +kernel) rfl
theorem dX12_again_13 : decode cX12_again 13 = .ok (.iload_n 1, 1) := dc_27 (show ((cX12_again.data.toList.drop 13).take 1).map UInt8.toNat = [27] by decide +kernel)
theorem dX12_again_14 : decode cX12_again 14 = .ok (.baload, 1) := dc_51 (show ((cX12_again.data.toList.drop 14).take 1).map UInt8.toNat = [51] by decide +kernel)
theorem dX12_again_15 : decode cX12_again 15 = .ok (.ifCond .ne 5, 3) := dc_154 (show ((cX12_again.data.toList.drop 15).take 3).map UInt8.toNat = [154, 0, 5] by decide +kernel) rfl
theorem dX12_again_20 : decode cX12_again 20 = .ok (.iconst 0, 1) := dc_3 (show ((cX12_again.data.toList.drop 20).take 1).map UInt8.toNat = [3] by decide +kernel)
theorem dX12_again_21 : decode cX12_again 21 = .ok (.istore_n 2, 1) := dc_61 (show ((cX12_again.data.toList.drop 21).take 1).map UInt8.toNat = [61] by decide +kernel)
theorem dX12_again_22 : decode cX12_again 22 = .ok (.iload_n 2, 1) := dc_28 (show ((cX12_again.data.toList.drop 22).take 1).map UInt8.toNat = [28] by decide +kernel)
theorem dX12_again_23 : decode cX12_again 23 = .ok (.sipush 992, 3) := dc_17 (show ((cX12_again.data.toList.drop 23).take 3).map UInt8.toNat = [17, 3, 224] by decide +kernel) rfl
theorem dX12_again_26 : decode cX12_again 26 = .ok (.if_icmp .ge 29, 3) := dc_162 (show ((cX12_again.data.toList.drop 26).take 3).map UInt8.toNat = [162, 0, 29] by decide +kernel) rfl
theorem dX12_again_55 : decode cX12_again 55 = .ok (.iconst 1, 1) := dc_4 (show ((cX12_again.data.toList.drop 55).take 1).map UInt8.toNat = [4] by decide +kernel)
theorem dX12_again_56 : decode cX12_again 56 = .ok (.ireturn, 1) := dc_172 (show ((cX12_again.data.toList.drop 56).take 1).map UInt8.toNat = [172] by decide +kernel)
theorem dX12_again_29 : decode cX12_again 29 = .ok (.aload_n 0, 1) := dc_42 (show ((cX12_again.data.toList.drop 29).take 1).map UInt8.toNat = [42] by decide +kernel)
theorem dX12_again_30 : decode cX12_again 30 = .ok (.getfield 7, 3) := dc_180 (show ((cX12_again.data.toList.drop 30).take 3).map UInt8.toNat = [180, 0, 7] by decide +kernel) rfl
theorem dX12_again_33 : decode cX12_again 33 = .ok (.iload_n 2, 1) := dc_28 (show ((cX12_again.data.toList.drop 33).take 1).map UInt8.toNat = [28] by decide +kernel)
theorem dX12_again_34 : decode cX12_again 34 = .ok (.aload_n 0, 1) := dc_42 (show ((cX12_again.data.toList.drop 34).take 1).map UInt8.toNat = [42] by decide +kernel)
theorem dX12_again_35 : decode cX12_again 35 = .ok (.getfield 7, 3) := dc_180 (show ((cX12_again.data.toList.drop 35).take 3).map UInt8.toNat = [180, 0, 7] by decide +kernel) rfl
theorem dX12_again_38 : decode cX12_again 38 = .ok (.sipush 992, 3) := dc_17 (show ((cX12_again.data.toList.drop 38).take 3).map UInt8.toNat = [17, 3, 224] by decide +kernel) rfl
theorem dX12_again_41 : decode cX12_again 41 = .ok (.iload_n 1, 1) := dc_27 (show ((cX12_again.data.toList.drop 41).take 1).map UInt8.toNat = [27] by decide +kernel)
theorem dX12_again_42 : decode cX12_again 42 = .ok (.iconst 1, 1) := dc_4 (show ((cX12_again.data.toList.drop 42).take 1).map UInt8.toNat = [4] by decide +kernel)
theorem dX12_again_43 : decode cX12_again 43 = .ok (.iadd, 1) := dc_96 (show ((cX12_again.data.toList.drop 43).take 1).map UInt8.toNat = [96] by decide +kernel)
theorem dX12_again_44 : decode cX12_again 44 = .ok (.imul, 1) := dc_104 (show ((cX12_again.data.toList.drop 44).take 1).map UInt8.toNat = [104] by decide +kernel)
theorem dX12_again_45 : decode cX12_again 45 = .ok (.iload_n 2, 1) := dc_28 (show ((cX12_again.data.toList.drop 45).take 1).map UInt8.toNat = [28] by decide +kernel)
theorem dX12_again_46 : decode cX12_again 46 = .ok (.iadd, 1) := dc_96 (show ((cX12_again.data.toList.drop 46).take 1).map UInt8.toNat = [96] by decide +kernel)
theorem dX12_again_47 : decode cX12_again 47 = .ok (.iaload, 1) := dc_46 (show ((cX12_again.data.toList.drop 47).take 1).map UInt8.toNat = [46] by decide +kernel)
theorem dX12_again_48 : decode cX12_again 48 = .ok (.iastore, 1) := dc_79 (show ((cX12_again.data.toList.drop 48).take 1).map UInt8.toNat = [79] by decide +kernel)
theorem dX12_again_49 : decode cX12_again 49 = .ok (.iinc 2 1, 3) := dc_132 (show ((cX12_again.data.toList.drop 49).take 3).map UInt8.toNat = [132, 2, 1] by decide +kernel) rfl
theorem dX12_again_52 : decode cX12_again 52 = .ok (.goto (-30), 3) := dc_167 (show ((cX12_again.data.toList.drop 52).take 3).map UInt8.toNat = [167, 255, 226] by decide +kernel) rfl
def ms_again_22 (n : Nat) : Nat → gb_F → Int64 → Int32 → Int32 → gb_MR Int32
  | 0, _, _, _, _ => none
  | mm + 1, f, w, v1, v2 => (if (992 : Int32) ≤ v2 then some (f, w, 1) else gb_ck ((992 * (v1 + 1)) + v2) 3968 (gb_lt (f 1 (Int32.toNatClampNeg ((992 * (v1 + 1)) + v2))) (fun x_12 => gb_ck v2 3968 (gb_lt (gb_u f 1 (upd (f 1) (Int32.toNatClampNeg v2) x_12)) (fun f_14 => gb_lt (v2 + 1) (fun x_15 => ms_again_22 n mm f_14 w v1 x_15))))))
def ms_again (n : Nat) (f : gb_F) (w : Int64) (p1 : Int32) : gb_MR Int32 := gb_bd (ms_isIn n f w p1 0 2) (fun f_1 wl_2 r_3 => (if r_3 = 0 then some (f_1, wl_2, 0) else gb_ck p1 3 (gb_lt (f_1 2 (Int32.toNatClampNeg p1)) (fun x_8 => (if x_8 = 0 then some (f_1, wl_2, 0) else ms_again_22 n n f_1 wl_2 p1 0)))))
set_option maxHeartbeats 8000000 in
set_option maxRecDepth 100000 in
theorem mc_again (l : Launch) (D : va_G) (cT : Nat → ClassId) (tt : Nat → Nat) (b1 b : Nat) (hb1 : b1 ≤ b) (n : Nat) (f : gb_F) (w : Int64) (p1 : Int32) (fE : gb_F) (wE : Int64) (rE : Int32) (h : ms_again n f w p1 = some (fE, wE, rE)) : Met l yX12_again (.code yX12_again cX12_again 3 (some FieldType.boolean) :: gb_wA) ({ frames := 1, cells := 0, slots := 0, locals := 22 }) (gb_Pc D cT tt b1 [.ref (b + 0), .int p1] (fun h => va_P D vwCl (gb_wl b (gb_MW cT b f w)) h)) (gb_Qi (fun r h => r = rE ∧ va_P D vwCl (gb_wl b (gb_MW cT b fE wE)) h) (gb_fr b 22)) 0 0 (gb_fr b 22) := by
  refine Met.ofW (cc := cX12_again) (maxL := 3) (ret := (some FieldType.boolean)) (by decide) rfl ?_
  intro p e s m args below meth c s₁ B hml hv
  obtain ⟨rfl, hSt, hP⟩ := hv
  have hx := B.exec
  have hb := B.bytes
  have hr := B.returns
  have hts := atoms_spec (ws := .code yX12_again cX12_again 3 (some FieldType.boolean) :: gb_wA) B.pre
  have hq : ∀ w ∈ gb_wA, w.before _ s = true := fun w h => hts w (List.mem_cons_of_mem _ h)
  have hown : s.vm.findClass RX12 = some m.cls := findClass_of_methodNamed B.named
  have hlocks := B.notSynchronized
  clear B hts
  have hK := hSt.1
  have hS : va_S (gb_fr b 22) s.heap s.heap [] := va_S.rf
  have hl := lv_entry ([.ref (b + 0), .int p1]) (n := 3) (Nat.le_of_ble_eq_true rfl)
  rw [lg_entry_eq]
  generalize (lg_sl ([.ref (b + 0), .int p1]) ++ List.replicate (3 - (lg_sl ([.ref (b + 0), .int p1])).length) Slot.unset).toArray = ls at hl ⊢
  replace hl : lv_has ls 3 [(0, .ref (b + 0)), (1, .int p1)] := hl
  have L22 : ∀ (mm : Nat) (f : gb_F) (w : Int64) (v1 : Int32) (v2 : Int32) (H : Heap) (locs : List Loc) (ls : Array Slot), ms_again_22 n mm f w v1 v2 = some (fE, wE, rE) → va_P D vwCl (gb_wl b (gb_MW cT b f w)) H → va_S (gb_fr b 22) s.heap H locs → lv_has ls 3 [(0, .ref (b + 0)), (1, .int v1), (2, .int v2)] → W p l e (headSpec (.code yX12_again cX12_again 3 (some FieldType.boolean) :: gb_wA) ({ frames := 1, cells := 0, slots := 0, locals := 22 })).room s m ([.ref (b + 0), .int p1]).toArray below meth c H locs 0 0 (MQ below (gb_Qi (fun r h => r = rE ∧ va_P D vwCl (gb_wl b (gb_MW cT b fE wE)) h) (gb_fr b 22)) ([.ref (b + 0), .int p1]).toArray s 0 0 (gb_fr b 22)) (F0 m 22 ls []) := by
    clear h hP hS hl ls f w
    intro mm
    induction mm with
    | zero =>
      intro f w v1 v2 H locs ls h
      cases h
    | succ mm ih =>
      intro f w v1 v2 H locs ls h hP hS hl
      rw [ms_again_22] at h
      refine lv_iload_n hx hb dX12_again_22 rfl (lv_at hl 2 rfl) ?_
      refine lv_sipush (v := 992) hx hb dX12_again_23 (by decide) ?_
      refine lv_icmp_ge (tgt := 55) hx hb dX12_again_26 (by decide) (fun c_10 => ?_) (fun c_10 => ?_)
      · rw [if_pos c_10] at h
        refine lv_iconst (v := 1) hx hb dX12_again_55 (by decide) ?_
        obtain ⟨e1, e2, e3⟩ := gb_eq3 h
        exact W.zret (v := 1) hx hb hr (by decide) (fun t ht hW => gb_ri ht ⟨e3, by rw [← e1, ← e2]; exact hP⟩ hS) hS.2.2 dX12_again_56
      · rw [if_neg c_10] at h
        refine lv_aload_n hx hb dX12_again_29 rfl (lv_at hl 0 rfl) ?_
        refine va_get (ci := 10) (v := (.ref (b + 1))) (C := RX12) (T := TX12) (N := 44) hx hb hq i_X12 hown hK hP 0 (gb_at b rfl) rfl 0 (by decide) (hq _ w_1124) (fun _ h9 => h9) rfl dX12_again_30 ?_
        refine lv_iload_n hx hb dX12_again_33 rfl (lv_at hl 2 rfl) ?_
        refine lv_aload_n hx hb dX12_again_34 rfl (lv_at hl 0 rfl) ?_
        refine va_get (ci := 10) (v := (.ref (b + 1))) (C := RX12) (T := TX12) (N := 44) hx hb hq i_X12 hown hK hP 0 (gb_at b rfl) rfl 0 (by decide) (hq _ w_1124) (fun _ h9 => h9) rfl dX12_again_35 ?_
        refine lv_sipush (v := 992) hx hb dX12_again_38 (by decide) ?_
        refine lv_iload_n hx hb dX12_again_41 rfl (lv_at hl 1 rfl) ?_
        refine lv_iconst (v := 1) hx hb dX12_again_42 (by decide) ?_
        refine lv_iadd hx hb dX12_again_43 ?_
        refine lv_imul hx hb dX12_again_44 ?_
        refine lv_iload_n hx hb dX12_again_45 rfl (lv_at hl 2 rfl) ?_
        refine lv_iadd hx hb dX12_again_46 ?_
        obtain ⟨z_11, h⟩ := gb_ck_s h
        refine va_iald hx hb hK hP 1 0 (gb_at b rfl) rfl z_11 dX12_again_47 ?_
        refine lv_topi (fun x_12 ex_12 => ?_)
        replace h := gb_lt_s ex_12 h
        obtain ⟨z_13, h⟩ := gb_ck_s h
        refine gb_iast (x := x_12) hx hb hK hP (fun k h => ⟨Nat.le_add_right b k, Nat.add_lt_add_left h b⟩) hS rfl 1 0 rfl rfl z_13 dX12_again_48 (fun H locs hP hz_ hS => ?_)
        obtain ⟨f_14, ef_14⟩ : ∃ q, q = (gb_u f 1 (upd (f 1) (Int32.toNatClampNeg v2) x_12)) := ⟨_, rfl⟩
        replace hP : va_P D vwCl (gb_wl b (gb_MW cT b f_14 w)) H := by rw [ef_14]; exact hP
        replace h := gb_lt_s ef_14 h
        obtain ⟨x_15, ex_15⟩ : ∃ q, q = (v2 + 1) := ⟨_, rfl⟩
        replace h := gb_lt_s ex_15 h
        refine lv_iinc (v := x_15) (lv' := [(2, .int x_15), (0, .ref (b + 0)), (1, .int v1)]) hx hb dX12_again_49 hl (k := 2) rfl (by rw [ex_15]; rfl) (by decide) rfl (fun ls hl => ?_)
        refine lv_goto (tgt := 22) hx hb dX12_again_52 (by decide) ?_
        exact ih _ _ _ _ _ _ _ h hP hS (lv_sub hl [1, 2, 0] rfl)
  unfold ms_again at h
  refine lv_iload_n hx hb dX12_again_0 rfl (lv_at hl 1 rfl) ?_
  refine lv_iconst (v := 0) hx hb dX12_again_1 (by decide) ?_
  refine lv_iconst (v := 2) hx hb dX12_again_2 (by decide) ?_
  obtain ⟨f_1, wl_2, r_3, z_4, h⟩ := gb_bd_s h
  refine gb_calli (va_runS (As := [.int p1, .int 0, .int 2]) (rest := []) ⟨hx, hb, hml, hown, hq⟩ (mc_isIn l D cT tt b1 b hb1 n f w p1 0 2 f_1 wl_2 r_3 z_4) (va_cwS 3 hq (gb_gS w_1269 w_1270 w_14 w_1271) rfl rfl rfl (by decide +kernel) ⟨Nat.le_of_ble_eq_true rfl, Nat.le_of_ble_eq_true rfl⟩) (gb_preS hSt hS (fun q h => Nat.le_trans hb1 h.1) hP) rfl rfl hl.1 rfl (lv_room (Nat.le_of_ble_eq_true rfl)) dX12_again_3 ⟨Nat.le_of_ble_eq_true rfl, Nat.le_of_ble_eq_true rfl⟩) hS (fun _ h => h) (fun _ h => h) (fun q_5 H locs hY hk hS => ?_)
  obtain ⟨hq_5, hP⟩ := hY
  replace hq_5 := hq_5.symm
  subst hq_5
  refine lv_if_eq (tgt := 18) hx hb dX12_again_6 (by decide) (fun c_6 => ?_) (fun c_6 => ?_)
  · rw [if_pos c_6] at h
    refine lv_iconst (v := 0) hx hb dX12_again_18 (by decide) ?_
    obtain ⟨e1, e2, e3⟩ := gb_eq3 h
    exact W.zret (v := 0) hx hb hr (by decide) (fun t ht hW => gb_ri ht ⟨e3, by rw [← e1, ← e2]; exact hP⟩ hS) hS.2.2 dX12_again_19
  · rw [if_neg c_6] at h
    refine lv_aload_n hx hb dX12_again_9 rfl (lv_at hl 0 rfl) ?_
    refine va_get (ci := 10) (v := (.ref (b + 2))) (C := RX12) (T := TX12) (N := 44) hx hb hq i_X12 hown hK hP 0 (gb_at b rfl) rfl 1 (by decide) (hq _ w_1125) (fun _ h9 => h9) rfl dX12_again_10 ?_
    refine lv_iload_n hx hb dX12_again_13 rfl (lv_at hl 1 rfl) ?_
    obtain ⟨z_7, h⟩ := gb_ck_s h
    refine va_zald hx hb hK hP 2 2 (gb_at b rfl) rfl z_7 dX12_again_14 ?_
    refine lv_topi (fun x_8 ex_8 => ?_)
    replace h := gb_lt_s ex_8 h
    refine lv_if_ne (tgt := 20) hx hb dX12_again_15 (by decide) (fun c_9 => ?_) (fun c_9 => ?_)
    · rw [if_neg c_9] at h
      refine lv_iconst (v := 0) hx hb dX12_again_20 (by decide) ?_
      refine lv_istore_n (lv' := [(2, .int 0), (0, .ref (b + 0)), (1, .int p1)]) hx hb dX12_again_21 rfl hl (by decide) rfl (fun ls hl => ?_)
      exact L22 n _ _ _ _ _ _ _ h hP hS (lv_sub hl [1, 2, 0] rfl)
    · rw [if_pos c_9] at h
      refine lv_iconst (v := 0) hx hb dX12_again_18 (by decide) ?_
      obtain ⟨e1, e2, e3⟩ := gb_eq3 h
      exact W.zret (v := 0) hx hb hr (by decide) (fun t ht hW => gb_ri ht ⟨e3, by rw [← e1, ← e2]; exact hP⟩ hS) hS.2.2 dX12_again_19
