theorem dX11_goose_0 : decode cX11_goose 0 = .ok (.aload_n 0, 1) := dc_42 (show ((cX11_goose.data.toList.drop 0).take 1).map UInt8.toNat = [42] by decide +kernel)
theorem dX11_goose_1 : decode cX11_goose 1 = .ok (.iload_n 1, 1) := dc_27 (show ((cX11_goose.data.toList.drop 1).take 1).map UInt8.toNat = [27] by decide +kernel)
theorem dX11_goose_2 : decode cX11_goose 2 = .ok (.invokevirtual 113, 3) := dc_182 (show ((cX11_goose.data.toList.drop 2).take 3).map UInt8.toNat = [182, 0, 113] by decide +kernel) rfl
theorem dX11_goose_5 : decode cX11_goose 5 = .ok (.astore 6, 2) := dc_58 (show ((cX11_goose.data.toList.drop 5).take 2).map UInt8.toNat = [58, 6] by decide +kernel) rfl
theorem dX11_goose_7 : decode cX11_goose 7 = .ok (.aload 6, 2) := dc_25 (show ((cX11_goose.data.toList.drop 7).take 2).map UInt8.toNat = [25, 6] by decide +kernel) rfl
theorem dX11_goose_9 : decode cX11_goose 9 = .ok (.ifnull 28, 3) := dc_198 (show ((cX11_goose.data.toList.drop 9).take 3).map UInt8.toNat = [198, 0, 28] by decide +kernel) rfl
theorem dX11_goose_37 : decode cX11_goose 37 = .ok (.bipush (-2), 2) := dc_16 (show ((cX11_goose.data.toList.drop 37).take 2).map UInt8.toNat = [16, 254] by decide +kernel) rfl
theorem dX11_goose_39 : decode cX11_goose 39 = .ok (.ireturn, 1) := dc_172 (show ((cX11_goose.data.toList.drop 39).take 1).map UInt8.toNat = [172] by decide +kernel)
theorem dX11_goose_12 : decode cX11_goose 12 = .ok (.aload 6, 2) := dc_25 (show ((cX11_goose.data.toList.drop 12).take 2).map UInt8.toNat = [25, 6] by decide +kernel) rfl
theorem dX11_goose_14 : decode cX11_goose 14 = .ok (.iload 4, 2) := dc_21 (show ((cX11_goose.data.toList.drop 14).take 2).map UInt8.toNat = [21, 4] by decide +kernel) rfl
theorem dX11_goose_16 : decode cX11_goose 16 = .ok (.invokevirtual 131, 3) := dc_182 (show ((cX11_goose.data.toList.drop 16).take 3).map UInt8.toNat = [182, 0, 131] by decide +kernel) rfl
theorem dX11_goose_19 : decode cX11_goose 19 = .ok (.ifCond .eq 18, 3) := dc_153 (show ((cX11_goose.data.toList.drop 19).take 3).map UInt8.toNat = [153, 0, 18] by decide +kernel) rfl
theorem dX11_goose_22 : decode cX11_goose 22 = .ok (.aload_n 0, 1) := dc_42 (show ((cX11_goose.data.toList.drop 22).take 1).map UInt8.toNat = [42] by decide +kernel)
theorem dX11_goose_23 : decode cX11_goose 23 = .ok (.aload 6, 2) := dc_25 (show ((cX11_goose.data.toList.drop 23).take 2).map UInt8.toNat = [25, 6] by decide +kernel) rfl
theorem dX11_goose_25 : decode cX11_goose 25 = .ok (.aload_n 0, 1) := dc_42 (show ((cX11_goose.data.toList.drop 25).take 1).map UInt8.toNat = [42] by decide +kernel)
theorem dX11_goose_26 : decode cX11_goose 26 = .ok (.iload_n 2, 1) := dc_28 (show ((cX11_goose.data.toList.drop 26).take 1).map UInt8.toNat = [28] by decide +kernel)
theorem dX11_goose_27 : decode cX11_goose 27 = .ok (.invokevirtual 148, 3) := dc_182 (show ((cX11_goose.data.toList.drop 27).take 3).map UInt8.toNat = [182, 0, 148] by decide +kernel) rfl
theorem dX11_goose_30 : decode cX11_goose 30 = .ok (.iload_n 3, 1) := dc_29 (show ((cX11_goose.data.toList.drop 30).take 1).map UInt8.toNat = [29] by decide +kernel)
theorem dX11_goose_31 : decode cX11_goose 31 = .ok (.invokevirtual 202, 3) := dc_182 (show ((cX11_goose.data.toList.drop 31).take 3).map UInt8.toNat = [182, 0, 202] by decide +kernel) rfl
theorem dX11_playedTo_0 : decode cX11_playedTo 0 = .ok (.aload_n 1, 1) := dc_43 (show ((cX11_playedTo.data.toList.drop 0).take 1).map UInt8.toNat = [43] by decide +kernel)
theorem dX11_playedTo_1 : decode cX11_playedTo 1 = .ok (.ifnull 19, 3) := dc_198 (show ((cX11_playedTo.data.toList.drop 1).take 3).map UInt8.toNat = [198, 0, 19] by decide +kernel) rfl
theorem dX11_playedTo_4 : decode cX11_playedTo 4 = .ok (.aload_n 2, 1) := dc_44 (show ((cX11_playedTo.data.toList.drop 4).take 1).map UInt8.toNat = [44] by decide +kernel)
theorem dX11_playedTo_5 : decode cX11_playedTo 5 = .ok (.ifnull 15, 3) := dc_198 (show ((cX11_playedTo.data.toList.drop 5).take 3).map UInt8.toNat = [198, 0, 15] by decide +kernel) rfl
theorem dX11_playedTo_20 : decode cX11_playedTo 20 = .ok (.iconst 0, 1) := dc_3 (show ((cX11_playedTo.data.toList.drop 20).take 1).map UInt8.toNat = [3] by decide +kernel)
theorem dX11_playedTo_21 : decode cX11_playedTo 21 = .ok (.ireturn, 1) := dc_172 (show ((cX11_playedTo.data.toList.drop 21).take 1).map UInt8.toNat = [172] by decide +kernel)
def cs_Face_playedTo_B_n (n : Nat) (σ : gb_S) (p1 : Nat) (p3 : Int32) : gb_CR Int32 := gb_kk (gb_kB p1) (some (σ, 0))
set_option maxHeartbeats 8000000 in
set_option maxRecDepth 100000 in
theorem cc_Face_playedTo_B_n (l : Launch) (D : va_G) (cT : Nat → ClassId) (tt : Nat → Nat) (b1 b : Nat) (hb1 : b1 ≤ b) (n : Nat) (σ : gb_S) (p1 : Nat) (p3 : Int32) (σE : gb_S) (rE : Int32) (h : cs_Face_playedTo_B_n n σ p1 p3 = some (σE, rE)) : Met l yX11_playedTo (.code yX11_playedTo cX11_playedTo 4 (some FieldType.boolean) :: gb_wA) ({ frames := 0, cells := 0, slots := 0, locals := 0 }) (gb_Pc D cT tt b1 [.ref (b + 0), .ref (b + p1), .null, .int p3] (fun h => va_P D vwCl (gb_wl b (gb_CW cT b σ)) h)) (gb_Qi (fun r h => r = rE ∧ va_P D vwCl (gb_wl b (gb_CW cT b σE)) h) (gb_fr b 135)) 0 0 (gb_fr b 135) := by
  refine Met.ofW (cc := cX11_playedTo) (maxL := 4) (ret := (some FieldType.boolean)) (by decide) rfl ?_
  intro p e s m args below meth c s₁ B hml hv
  obtain ⟨rfl, hSt, hP⟩ := hv
  have hx := B.exec
  have hb := B.bytes
  have hr := B.returns
  have hts := atoms_spec (ws := .code yX11_playedTo cX11_playedTo 4 (some FieldType.boolean) :: gb_wA) B.pre
  have hq : ∀ w ∈ gb_wA, w.before _ s = true := fun w h => hts w (List.mem_cons_of_mem _ h)
  have hown : s.vm.findClass RX11 = some m.cls := findClass_of_methodNamed B.named
  have hlocks := B.notSynchronized
  clear B hts
  have hK := hSt.1
  have hS : va_S (gb_fr b 135) s.heap s.heap [] := va_S.rf
  have hl := lv_entry ([.ref (b + 0), .ref (b + p1), .null, .int p3]) (n := 4) (Nat.le_of_ble_eq_true rfl)
  rw [lg_entry_eq]
  generalize (lg_sl ([.ref (b + 0), .ref (b + p1), .null, .int p3]) ++ List.replicate (4 - (lg_sl ([.ref (b + 0), .ref (b + p1), .null, .int p3])).length) Slot.unset).toArray = ls at hl ⊢
  replace hl : lv_has ls 4 [(0, .ref (b + 0)), (1, .ref (b + p1)), (2, .null), (3, .int p3)] := hl
  unfold cs_Face_playedTo_B_n at h
  obtain ⟨z_1, h⟩ := gb_kk_s h
  refine lv_aload_n hx hb dX11_playedTo_0 rfl (lv_at hl 1 rfl) ?_
  refine lv_ifnull hx hb dX11_playedTo_1 ?_
  refine lv_aload_nN hx hb dX11_playedTo_4 rfl (lv_at hl 2 rfl) ?_
  refine lv_ifnullN (tgt := 20) hx hb dX11_playedTo_5 (by decide) ?_
  refine lv_iconst (v := 0) hx hb dX11_playedTo_20 (by decide) ?_
  obtain ⟨e1, e2⟩ := gb_eq2 h
  exact W.zret (v := 0) hx hb hr (by decide) (fun t ht hW => gb_ri ht ⟨e2, by rw [← e1]; exact hP⟩ hS) hS.2.2 dX11_playedTo_21
theorem w_766 : (Cond.code ({ cls := "GooseBorder", name := "playedTo", desc := "(LGooseBorder$Border;LGooseBorder$Night;I)Z" } : MethodName) prog_1_method_25_code (4 : Nat) (Option.some FieldType.boolean)) ∈ gb_wA := gb_t4 46 rfl rfl
theorem w_763 : (Cond.methodLink "GooseBorder" (202 : Nat) ({ cls := "GooseBorder", name := "playedTo", desc := "(LGooseBorder$Border;LGooseBorder$Night;I)Z" } : MethodName)) ∈ gb_wA := gb_t4 43 rfl rfl
theorem w_765 : (Cond.instanceMethod ({ cls := "GooseBorder", name := "playedTo", desc := "(LGooseBorder$Border;LGooseBorder$Night;I)Z" } : MethodName)) ∈ gb_wA := gb_t4 45 rfl rfl
theorem s_2_1 : Cond.selects "GooseBorder" (⟨"GooseBorder", "playedTo", "(LGooseBorder$Border;LGooseBorder$Night;I)Z"⟩ : MethodName) (⟨"GooseBorder", "playedTo", "(LGooseBorder$Border;LGooseBorder$Night;I)Z"⟩ : MethodName) ∈ gb_wA := gb_s2 1 rfl rfl
theorem dX11_goose_34 : decode cX11_goose 34 = .ok (.ifCond .ne 6, 3) := dc_154 (show ((cX11_goose.data.toList.drop 34).take 3).map UInt8.toNat = [154, 0, 6] by decide +kernel) rfl
theorem dX11_goose_40 : decode cX11_goose 40 = .ok (.iload 5, 2) := dc_21 (show ((cX11_goose.data.toList.drop 40).take 2).map UInt8.toNat = [21, 5] by decide +kernel) rfl
theorem dX11_goose_42 : decode cX11_goose 42 = .ok (.tableswitch 74 0 3 #[30, 41, 52, 63], 30) := by decide +kernel
theorem dX11_goose_72 : decode cX11_goose 72 = .ok (.aload_n 0, 1) := dc_42 (show ((cX11_goose.data.toList.drop 72).take 1).map UInt8.toNat = [42] by decide +kernel)
theorem dX11_goose_73 : decode cX11_goose 73 = .ok (.getfield 56, 3) := dc_180 (show ((cX11_goose.data.toList.drop 73).take 3).map UInt8.toNat = [180, 0, 56] by decide +kernel) rfl
theorem dX11_goose_76 : decode cX11_goose 76 = .ok (.getfield 206, 3) := dc_180 (show ((cX11_goose.data.toList.drop 76).take 3).map UInt8.toNat = [180, 0, 206] by decide +kernel) rfl
theorem w_199 : (Cond.fieldLink "GooseBorder" (206 : Nat) "GooseBorder$Play" "where" "[I") ∈ gb_wA := gb_t1 199 rfl rfl
theorem dX11_goose_79 : decode cX11_goose 79 = .ok (.iload 4, 2) := dc_21 (show ((cX11_goose.data.toList.drop 79).take 2).map UInt8.toNat = [21, 4] by decide +kernel) rfl
theorem dX11_goose_81 : decode cX11_goose 81 = .ok (.iaload, 1) := dc_46 (show ((cX11_goose.data.toList.drop 81).take 1).map UInt8.toNat = [46] by decide +kernel)
theorem dX11_goose_82 : decode cX11_goose 82 = .ok (.ireturn, 1) := dc_172 (show ((cX11_goose.data.toList.drop 82).take 1).map UInt8.toNat = [172] by decide +kernel)
theorem dX11_goose_83 : decode cX11_goose 83 = .ok (.aload_n 0, 1) := dc_42 (show ((cX11_goose.data.toList.drop 83).take 1).map UInt8.toNat = [42] by decide +kernel)
theorem dX11_goose_84 : decode cX11_goose 84 = .ok (.getfield 56, 3) := dc_180 (show ((cX11_goose.data.toList.drop 84).take 3).map UInt8.toNat = [180, 0, 56] by decide +kernel) rfl
theorem dX11_goose_87 : decode cX11_goose 87 = .ok (.getfield 209, 3) := dc_180 (show ((cX11_goose.data.toList.drop 87).take 3).map UInt8.toNat = [180, 0, 209] by decide +kernel) rfl
theorem w_201 : (Cond.fieldLink "GooseBorder" (209 : Nat) "GooseBorder$Play" "boots" "[I") ∈ gb_wA := gb_t1 201 rfl rfl
theorem dX11_goose_90 : decode cX11_goose 90 = .ok (.iload 4, 2) := dc_21 (show ((cX11_goose.data.toList.drop 90).take 2).map UInt8.toNat = [21, 4] by decide +kernel) rfl
theorem dX11_goose_92 : decode cX11_goose 92 = .ok (.iaload, 1) := dc_46 (show ((cX11_goose.data.toList.drop 92).take 1).map UInt8.toNat = [46] by decide +kernel)
theorem dX11_goose_93 : decode cX11_goose 93 = .ok (.ireturn, 1) := dc_172 (show ((cX11_goose.data.toList.drop 93).take 1).map UInt8.toNat = [172] by decide +kernel)
theorem dX11_goose_94 : decode cX11_goose 94 = .ok (.aload_n 0, 1) := dc_42 (show ((cX11_goose.data.toList.drop 94).take 1).map UInt8.toNat = [42] by decide +kernel)
theorem dX11_goose_95 : decode cX11_goose 95 = .ok (.getfield 56, 3) := dc_180 (show ((cX11_goose.data.toList.drop 95).take 3).map UInt8.toNat = [180, 0, 56] by decide +kernel) rfl
theorem dX11_goose_98 : decode cX11_goose 98 = .ok (.getfield 211, 3) := dc_180 (show ((cX11_goose.data.toList.drop 98).take 3).map UInt8.toNat = [180, 0, 211] by decide +kernel) rfl
theorem w_203 : (Cond.fieldLink "GooseBorder" (211 : Nat) "GooseBorder$Play" "trail" "[I") ∈ gb_wA := gb_t1 203 rfl rfl
theorem dX11_goose_101 : decode cX11_goose 101 = .ok (.iload 4, 2) := dc_21 (show ((cX11_goose.data.toList.drop 101).take 2).map UInt8.toNat = [21, 4] by decide +kernel) rfl
theorem dX11_goose_103 : decode cX11_goose 103 = .ok (.iaload, 1) := dc_46 (show ((cX11_goose.data.toList.drop 103).take 1).map UInt8.toNat = [46] by decide +kernel)
theorem dX11_goose_104 : decode cX11_goose 104 = .ok (.ireturn, 1) := dc_172 (show ((cX11_goose.data.toList.drop 104).take 1).map UInt8.toNat = [172] by decide +kernel)
theorem dX11_goose_105 : decode cX11_goose 105 = .ok (.aload_n 0, 1) := dc_42 (show ((cX11_goose.data.toList.drop 105).take 1).map UInt8.toNat = [42] by decide +kernel)
theorem dX11_goose_106 : decode cX11_goose 106 = .ok (.getfield 56, 3) := dc_180 (show ((cX11_goose.data.toList.drop 106).take 3).map UInt8.toNat = [180, 0, 56] by decide +kernel) rfl
theorem dX11_goose_109 : decode cX11_goose 109 = .ok (.getfield 214, 3) := dc_180 (show ((cX11_goose.data.toList.drop 109).take 3).map UInt8.toNat = [180, 0, 214] by decide +kernel) rfl
theorem w_205 : (Cond.fieldLink "GooseBorder" (214 : Nat) "GooseBorder$Play" "latest" "[I") ∈ gb_wA := gb_t1 205 rfl rfl
theorem dX11_goose_112 : decode cX11_goose 112 = .ok (.iload 4, 2) := dc_21 (show ((cX11_goose.data.toList.drop 112).take 2).map UInt8.toNat = [21, 4] by decide +kernel) rfl
theorem dX11_goose_114 : decode cX11_goose 114 = .ok (.iaload, 1) := dc_46 (show ((cX11_goose.data.toList.drop 114).take 1).map UInt8.toNat = [46] by decide +kernel)
theorem dX11_goose_115 : decode cX11_goose 115 = .ok (.ireturn, 1) := dc_172 (show ((cX11_goose.data.toList.drop 115).take 1).map UInt8.toNat = [172] by decide +kernel)
theorem dX11_goose_116 : decode cX11_goose 116 = .ok (.bipush (-2), 2) := dc_16 (show ((cX11_goose.data.toList.drop 116).take 2).map UInt8.toNat = [16, 254] by decide +kernel) rfl
theorem dX11_goose_118 : decode cX11_goose 118 = .ok (.ireturn, 1) := dc_172 (show ((cX11_goose.data.toList.drop 118).take 1).map UInt8.toNat = [172] by decide +kernel)
theorem dX11_playedTo_8 : decode cX11_playedTo 8 = .ok (.iload_n 3, 1) := dc_29 (show ((cX11_playedTo.data.toList.drop 8).take 1).map UInt8.toNat = [29] by decide +kernel)
theorem dX11_playedTo_9 : decode cX11_playedTo 9 = .ok (.ifCond .lt 11, 3) := dc_155 (show ((cX11_playedTo.data.toList.drop 9).take 3).map UInt8.toNat = [155, 0, 11] by decide +kernel) rfl
theorem dX11_playedTo_12 : decode cX11_playedTo 12 = .ok (.iload_n 3, 1) := dc_29 (show ((cX11_playedTo.data.toList.drop 12).take 1).map UInt8.toNat = [29] by decide +kernel)
theorem dX11_playedTo_13 : decode cX11_playedTo 13 = .ok (.aload_n 2, 1) := dc_44 (show ((cX11_playedTo.data.toList.drop 13).take 1).map UInt8.toNat = [44] by decide +kernel)
theorem dX11_playedTo_14 : decode cX11_playedTo 14 = .ok (.invokevirtual 251, 3) := dc_182 (show ((cX11_playedTo.data.toList.drop 14).take 3).map UInt8.toNat = [182, 0, 251] by decide +kernel) rfl
theorem dX11_playedTo_17 : decode cX11_playedTo 17 = .ok (.if_icmp .le 5, 3) := dc_164 (show ((cX11_playedTo.data.toList.drop 17).take 3).map UInt8.toNat = [164, 0, 5] by decide +kernel) rfl
theorem dX11_playedTo_22 : decode cX11_playedTo 22 = .ok (.aload_n 0, 1) := dc_42 (show ((cX11_playedTo.data.toList.drop 22).take 1).map UInt8.toNat = [42] by decide +kernel)
theorem dX11_playedTo_23 : decode cX11_playedTo 23 = .ok (.getfield 56, 3) := dc_180 (show ((cX11_playedTo.data.toList.drop 23).take 3).map UInt8.toNat = [180, 0, 56] by decide +kernel) rfl
theorem dX11_playedTo_26 : decode cX11_playedTo 26 = .ok (.aload_n 1, 1) := dc_43 (show ((cX11_playedTo.data.toList.drop 26).take 1).map UInt8.toNat = [43] by decide +kernel)
theorem dX11_playedTo_27 : decode cX11_playedTo 27 = .ok (.aload_n 2, 1) := dc_44 (show ((cX11_playedTo.data.toList.drop 27).take 1).map UInt8.toNat = [44] by decide +kernel)
theorem dX11_playedTo_28 : decode cX11_playedTo 28 = .ok (.iload_n 3, 1) := dc_29 (show ((cX11_playedTo.data.toList.drop 28).take 1).map UInt8.toNat = [29] by decide +kernel)
theorem dX11_playedTo_29 : decode cX11_playedTo 29 = .ok (.iconst (-1), 1) := dc_2 (show ((cX11_playedTo.data.toList.drop 29).take 1).map UInt8.toNat = [2] by decide +kernel)
theorem dX11_playedTo_30 : decode cX11_playedTo 30 = .ok (.invokevirtual 252, 3) := dc_182 (show ((cX11_playedTo.data.toList.drop 30).take 3).map UInt8.toNat = [182, 0, 252] by decide +kernel) rfl
theorem dX11_playedTo_33 : decode cX11_playedTo 33 = .ok (.aload_n 0, 1) := dc_42 (show ((cX11_playedTo.data.toList.drop 33).take 1).map UInt8.toNat = [42] by decide +kernel)
theorem dX11_playedTo_34 : decode cX11_playedTo 34 = .ok (.getfield 56, 3) := dc_180 (show ((cX11_playedTo.data.toList.drop 34).take 3).map UInt8.toNat = [180, 0, 56] by decide +kernel) rfl
theorem dX11_playedTo_37 : decode cX11_playedTo 37 = .ok (.getfield 199, 3) := dc_180 (show ((cX11_playedTo.data.toList.drop 37).take 3).map UInt8.toNat = [180, 0, 199] by decide +kernel) rfl
theorem dX11_playedTo_40 : decode cX11_playedTo 40 = .ok (.iload_n 3, 1) := dc_29 (show ((cX11_playedTo.data.toList.drop 40).take 1).map UInt8.toNat = [29] by decide +kernel)
theorem dX11_playedTo_41 : decode cX11_playedTo 41 = .ok (.if_icmp .ne 7, 3) := dc_160 (show ((cX11_playedTo.data.toList.drop 41).take 3).map UInt8.toNat = [160, 0, 7] by decide +kernel) rfl
theorem dX11_playedTo_48 : decode cX11_playedTo 48 = .ok (.iconst 0, 1) := dc_3 (show ((cX11_playedTo.data.toList.drop 48).take 1).map UInt8.toNat = [3] by decide +kernel)
theorem dX11_playedTo_49 : decode cX11_playedTo 49 = .ok (.ireturn, 1) := dc_172 (show ((cX11_playedTo.data.toList.drop 49).take 1).map UInt8.toNat = [172] by decide +kernel)
theorem dX11_playedTo_44 : decode cX11_playedTo 44 = .ok (.iconst 1, 1) := dc_4 (show ((cX11_playedTo.data.toList.drop 44).take 1).map UInt8.toNat = [4] by decide +kernel)
theorem dX11_playedTo_45 : decode cX11_playedTo 45 = .ok (.goto 4, 3) := dc_167 (show ((cX11_playedTo.data.toList.drop 45).take 3).map UInt8.toNat = [167, 0, 4] by decide +kernel) rfl
def cs_Face_playedTo_B_N (n : Nat) (σ : gb_S) (p1 : Nat) (p2 : Nat) (p3 : Int32) : gb_CR Int32 := gb_kk (gb_kB p1) (gb_kk (gb_kN p2) ((if p3 < 0 then some (σ, 0) else gb_cd (cs_Lines_size_N n σ p2) (fun s_4 r_5 => (if p3 ≤ r_5 then gb_cd (cs_Play_run_B_N n s_4 p1 p2 p3 (-1)) (fun s_9 _ => (if (s_9.1 109 11) = p3 then some (s_9, 1) else some (s_9, 0))) else some (s_4, 0))))))
set_option maxHeartbeats 8000000 in
set_option maxRecDepth 100000 in
theorem cc_Face_playedTo_B_N (l : Launch) (D : va_G) (cT : Nat → ClassId) (tt : Nat → Nat) (b1 b : Nat) (hb1 : b1 ≤ b) (n : Nat) (σ : gb_S) (p1 : Nat) (p2 : Nat) (p3 : Int32) (σE : gb_S) (rE : Int32) (h : cs_Face_playedTo_B_N n σ p1 p2 p3 = some (σE, rE)) : Met l yX11_playedTo (.code yX11_playedTo cX11_playedTo 4 (some FieldType.boolean) :: gb_wA) ({ frames := 5, cells := 0, slots := 0, locals := 125 }) (gb_Pc D cT tt b1 [.ref (b + 0), .ref (b + p1), .ref (b + p2), .int p3] (fun h => va_P D vwCl (gb_wl b (gb_CW cT b σ)) h)) (gb_Qi (fun r h => r = rE ∧ va_P D vwCl (gb_wl b (gb_CW cT b σE)) h) (gb_fr b 135)) 0 0 (gb_fr b 135) := by
  refine Met.ofW (cc := cX11_playedTo) (maxL := 4) (ret := (some FieldType.boolean)) (by decide) rfl ?_
  intro p e s m args below meth c s₁ B hml hv
  obtain ⟨rfl, hSt, hP⟩ := hv
  have hx := B.exec
  have hb := B.bytes
  have hr := B.returns
  have hts := atoms_spec (ws := .code yX11_playedTo cX11_playedTo 4 (some FieldType.boolean) :: gb_wA) B.pre
  have hq : ∀ w ∈ gb_wA, w.before _ s = true := fun w h => hts w (List.mem_cons_of_mem _ h)
  have hown : s.vm.findClass RX11 = some m.cls := findClass_of_methodNamed B.named
  have hlocks := B.notSynchronized
  clear B hts
  have hK := hSt.1
  have hS : va_S (gb_fr b 135) s.heap s.heap [] := va_S.rf
  have hl := lv_entry ([.ref (b + 0), .ref (b + p1), .ref (b + p2), .int p3]) (n := 4) (Nat.le_of_ble_eq_true rfl)
  rw [lg_entry_eq]
  generalize (lg_sl ([.ref (b + 0), .ref (b + p1), .ref (b + p2), .int p3]) ++ List.replicate (4 - (lg_sl ([.ref (b + 0), .ref (b + p1), .ref (b + p2), .int p3])).length) Slot.unset).toArray = ls at hl ⊢
  replace hl : lv_has ls 4 [(0, .ref (b + 0)), (1, .ref (b + p1)), (2, .ref (b + p2)), (3, .int p3)] := hl
  unfold cs_Face_playedTo_B_N at h
  obtain ⟨z_1, h⟩ := gb_kk_s h
  obtain ⟨z_2, h⟩ := gb_kk_s h
  refine lv_aload_n hx hb dX11_playedTo_0 rfl (lv_at hl 1 rfl) ?_
  refine lv_ifnull hx hb dX11_playedTo_1 ?_
  refine lv_aload_n hx hb dX11_playedTo_4 rfl (lv_at hl 2 rfl) ?_
  refine lv_ifnull hx hb dX11_playedTo_5 ?_
  refine lv_iload_n hx hb dX11_playedTo_8 rfl (lv_at hl 3 rfl) ?_
  refine lv_if_lt (tgt := 20) hx hb dX11_playedTo_9 (by decide) (fun c_3 => ?_) (fun c_3 => ?_)
  · rw [if_pos c_3] at h
    refine lv_iconst (v := 0) hx hb dX11_playedTo_20 (by decide) ?_
    obtain ⟨e1, e2⟩ := gb_eq2 h
    exact W.zret (v := 0) hx hb hr (by decide) (fun t ht hW => gb_ri ht ⟨e2, by rw [← e1]; exact hP⟩ hS) hS.2.2 dX11_playedTo_21
  · rw [if_neg c_3] at h
    refine lv_iload_n hx hb dX11_playedTo_12 rfl (lv_at hl 3 rfl) ?_
    refine lv_aload_n hx hb dX11_playedTo_13 rfl (lv_at hl 2 rfl) ?_
    obtain ⟨s_4, r_5, z_6, h⟩ := gb_cd_s h
    refine gb_calli (va_runU (x := ⟨"GooseBorder$Night", "size", "()I"⟩) (C := RX5) (owner := "GooseBorder$Lines") (As := []) (rest := [.int p3]) ⟨hx, hb, hml, hown, hq⟩ (cc_Lines_size_N l D cT tt b1 b hb1 n σ p2 s_4 r_5 z_6) (va_cwU (owner := "GooseBorder$Lines") (C := RX5) 0 hq (gb_gU w_701 w_702 w_703 w_484 w_6 w_489) rfl rfl rfl rfl (by decide +kernel) ⟨Nat.le_of_ble_eq_true rfl, Nat.le_of_ble_eq_true rfl⟩) (gb_preV (r := (RX5, TX5, 4)) (ci := 4) (q0 := p2) hSt hP rfl (gb_at b (gb_cN z_2).1) hS (fun q h => Nat.le_trans hb1 h.1) hP) rfl rfl hl.1 rfl (lv_room (Nat.le_of_ble_eq_true rfl)) dX11_playedTo_14 ⟨Nat.le_of_ble_eq_true rfl, Nat.le_of_ble_eq_true rfl⟩) hS (fun _ h => h) (fun _ h => h) (fun q_7 H locs hY hk hS => ?_)
    obtain ⟨hq_7, hP⟩ := hY
    replace hq_7 := hq_7.symm
    subst hq_7
    refine lv_icmp_le (tgt := 22) hx hb dX11_playedTo_17 (by decide) (fun c_8 => ?_) (fun c_8 => ?_)
    · rw [if_pos c_8] at h
      refine lv_aload_n hx hb dX11_playedTo_22 rfl (lv_at hl 0 rfl) ?_
      refine va_get (ci := 9) (v := (.ref (b + 109))) (C := RX11) (T := TX11) (N := 10) hx hb hq i_X11 hown hK hP 0 (gb_at b rfl) rfl 6 (by decide) (hq _ w_321) (fun _ h9 => h9) rfl dX11_playedTo_23 ?_
      refine lv_aload_n hx hb dX11_playedTo_26 rfl (lv_at hl 1 rfl) ?_
      refine lv_aload_n hx hb dX11_playedTo_27 rfl (lv_at hl 2 rfl) ?_
      refine lv_iload_n hx hb dX11_playedTo_28 rfl (lv_at hl 3 rfl) ?_
      refine lv_iconst (v := (-1)) hx hb dX11_playedTo_29 (by decide) ?_
      obtain ⟨s_9, r_10, z_11, h⟩ := gb_cd_s h
      refine gb_callv (va_runV (C := RX6) (As := [.ref (b + p1), .ref (b + p2), .int p3, .int (-1)]) (rest := []) ⟨hx, hb, hml, hown, hq⟩ (cc_Play_run_B_N l D cT tt b1 b hb1 n s_4 p1 p2 p3 (-1) s_9 r_10 z_11) (cwV 4 hq (gb_gV w_704 w_705 w_706 w_11 w_707) rfl rfl rfl (by decide +kernel) ⟨Nat.le_of_ble_eq_true rfl, Nat.le_of_ble_eq_true rfl⟩) (gb_preV (r := (RX6, TX6, 12)) (ci := 5) (q0 := 109) hSt hP rfl (gb_at b rfl) hS (fun q h => Nat.le_trans hb1 h.1) hP) rfl rfl hl.1 rfl (lv_room (Nat.le_of_ble_eq_true rfl)) dX11_playedTo_30 ⟨Nat.le_of_ble_eq_true rfl, Nat.le_of_ble_eq_true rfl⟩) hS (fun _ h => h) (fun _ h => h) (fun H locs hY hk hS => ?_)
      have hP := hY
      refine lv_aload_n hx hb dX11_playedTo_33 rfl (lv_at hl 0 rfl) ?_
      refine va_get (ci := 9) (v := (.ref (b + 109))) (C := RX11) (T := TX11) (N := 10) hx hb hq i_X11 hown hK hP 0 (gb_at b rfl) rfl 6 (by decide) (hq _ w_321) (fun _ h9 => h9) rfl dX11_playedTo_34 ?_
      refine va_get (ci := 5) (v := (.int (s_9.1 109 11))) (C := RX6) (T := TX6) (N := 12) hx hb hq i_X6 hown hK hP 109 (gb_at b rfl) rfl 11 (by decide) (hq _ w_217) (fun _ h9 => h9) rfl dX11_playedTo_37 ?_
      refine lv_iload_n hx hb dX11_playedTo_40 rfl (lv_at hl 3 rfl) ?_
      refine lv_icmp_ne (tgt := 48) hx hb dX11_playedTo_41 (by decide) (fun c_13 => ?_) (fun c_13 => ?_)
      · rw [if_neg c_13] at h
        refine lv_iconst (v := 0) hx hb dX11_playedTo_48 (by decide) ?_
        obtain ⟨e1, e2⟩ := gb_eq2 h
        exact W.zret (v := 0) hx hb hr (by decide) (fun t ht hW => gb_ri ht ⟨e2, by rw [← e1]; exact hP⟩ hS) hS.2.2 dX11_playedTo_49
      · rw [if_pos c_13] at h
        refine lv_iconst (v := 1) hx hb dX11_playedTo_44 (by decide) ?_
        refine lv_goto (tgt := 49) hx hb dX11_playedTo_45 (by decide) ?_
        obtain ⟨e1, e2⟩ := gb_eq2 h
        exact W.zret (v := 1) hx hb hr (by decide) (fun t ht hW => gb_ri ht ⟨e2, by rw [← e1]; exact hP⟩ hS) hS.2.2 dX11_playedTo_49
    · rw [if_neg c_8] at h
      refine lv_iconst (v := 0) hx hb dX11_playedTo_20 (by decide) ?_
      obtain ⟨e1, e2⟩ := gb_eq2 h
      exact W.zret (v := 0) hx hb hr (by decide) (fun t ht hW => gb_ri ht ⟨e2, by rw [← e1]; exact hP⟩ hS) hS.2.2 dX11_playedTo_21
def cs_Face_goose (n : Nat) (σ : gb_S) (p1 : Int32) (p2 : Int32) (p3 : Int32) (p4 : Int32) (p5 : Int32) : gb_CR Int32 := gb_cd (cs_Face_borderAt n σ p1) (fun s_1 r_2 => (if r_2 = 0 then some (s_1, (-2)) else gb_kk (gb_kB r_2) (gb_cd (cs_Border_hasGoose_B n s_1 r_2 p4) (fun s_7 r_8 => (if r_8 = 0 then some (s_7, (-2)) else gb_cd (cs_Face_nightAt n s_7 p2) (fun s_12 r_13 => (if r_13 = 0 then gb_cd (cs_Face_playedTo_B_n n s_12 r_2 p3) (fun s_17 r_18 => (if r_18 = 0 then some (s_17, (-2)) else (if p5 = (0 : Int32) then gb_ck p4 8 (gb_lt ((s_17.1 112) (Int32.toNatClampNeg p4)) (fun x_24 => some (s_17, x_24))) else (if p5 = (1 : Int32) then gb_ck p4 8 (gb_lt ((s_17.1 113) (Int32.toNatClampNeg p4)) (fun x_27 => some (s_17, x_27))) else (if p5 = (2 : Int32) then gb_ck p4 8 (gb_lt ((s_17.1 114) (Int32.toNatClampNeg p4)) (fun x_30 => some (s_17, x_30))) else (if p5 = (3 : Int32) then gb_ck p4 8 (gb_lt ((s_17.1 115) (Int32.toNatClampNeg p4)) (fun x_33 => some (s_17, x_33))) else some (s_17, (-2)))))))) else gb_kk (gb_kN r_13) (gb_cd (cs_Face_playedTo_B_N n s_12 r_2 r_13 p3) (fun s_35 r_36 => (if r_36 = 0 then some (s_35, (-2)) else (if p5 = (0 : Int32) then gb_ck p4 8 (gb_lt ((s_35.1 112) (Int32.toNatClampNeg p4)) (fun x_42 => some (s_35, x_42))) else (if p5 = (1 : Int32) then gb_ck p4 8 (gb_lt ((s_35.1 113) (Int32.toNatClampNeg p4)) (fun x_45 => some (s_35, x_45))) else (if p5 = (2 : Int32) then gb_ck p4 8 (gb_lt ((s_35.1 114) (Int32.toNatClampNeg p4)) (fun x_48 => some (s_35, x_48))) else (if p5 = (3 : Int32) then gb_ck p4 8 (gb_lt ((s_35.1 115) (Int32.toNatClampNeg p4)) (fun x_51 => some (s_35, x_51))) else some (s_35, (-2))))))))))))))))
set_option maxHeartbeats 8000000 in
set_option maxRecDepth 100000 in
theorem cc_Face_goose (l : Launch) (D : va_G) (cT : Nat → ClassId) (tt : Nat → Nat) (b1 b : Nat) (hb1 : b1 ≤ b) (n : Nat) (σ : gb_S) (p1 : Int32) (p2 : Int32) (p3 : Int32) (p4 : Int32) (p5 : Int32) (σE : gb_S) (rE : Int32) (h : cs_Face_goose n σ p1 p2 p3 p4 p5 = some (σE, rE)) : Met l yX11_goose (.code yX11_goose cX11_goose 7 (some FieldType.int) :: gb_wA) ({ frames := 6, cells := 0, slots := 0, locals := 148 }) (gb_Pc D cT tt b1 [.ref (b + 0), .int p1, .int p2, .int p3, .int p4, .int p5] (fun h => va_P D vwCl (gb_wl b (gb_CW cT b σ)) h)) (gb_Qi (fun r h => r = rE ∧ va_P D vwCl (gb_wl b (gb_CW cT b σE)) h) (gb_fr b 135)) 0 0 (gb_fr b 135) := by
  refine Met.ofW (cc := cX11_goose) (maxL := 7) (ret := (some FieldType.int)) (by decide) rfl ?_
  intro p e s m args below meth c s₁ B hml hv
  obtain ⟨rfl, hSt, hP⟩ := hv
  have hx := B.exec
  have hb := B.bytes
  have hr := B.returns
  have hts := atoms_spec (ws := .code yX11_goose cX11_goose 7 (some FieldType.int) :: gb_wA) B.pre
  have hq : ∀ w ∈ gb_wA, w.before _ s = true := fun w h => hts w (List.mem_cons_of_mem _ h)
  have hown : s.vm.findClass RX11 = some m.cls := findClass_of_methodNamed B.named
  have hlocks := B.notSynchronized
  clear B hts
  have hK := hSt.1
  have hS : va_S (gb_fr b 135) s.heap s.heap [] := va_S.rf
  have hl := lv_entry ([.ref (b + 0), .int p1, .int p2, .int p3, .int p4, .int p5]) (n := 7) (Nat.le_of_ble_eq_true rfl)
  rw [lg_entry_eq]
  generalize (lg_sl ([.ref (b + 0), .int p1, .int p2, .int p3, .int p4, .int p5]) ++ List.replicate (7 - (lg_sl ([.ref (b + 0), .int p1, .int p2, .int p3, .int p4, .int p5])).length) Slot.unset).toArray = ls at hl ⊢
  replace hl : lv_has ls 7 [(0, .ref (b + 0)), (1, .int p1), (2, .int p2), (3, .int p3), (4, .int p4), (5, .int p5)] := hl
  unfold cs_Face_goose at h
  refine lv_aload_n hx hb dX11_goose_0 rfl (lv_at hl 0 rfl) ?_
  refine lv_iload_n hx hb dX11_goose_1 rfl (lv_at hl 1 rfl) ?_
  obtain ⟨s_1, r_2, z_3, h⟩ := gb_cd_s h
  refine gb_callq (va_runV (C := RX11) (As := [.int p1]) (rest := []) ⟨hx, hb, hml, hown, hq⟩ (cc_Face_borderAt l D cT tt b1 b hb1 n σ p1 s_1 r_2 z_3) (cwV 1 hq (gb_gV w_593 w_595 s_1_7 w_1 w_596) rfl rfl rfl (by decide +kernel) ⟨Nat.le_of_ble_eq_true rfl, Nat.le_of_ble_eq_true rfl⟩) (gb_preV (r := (RX11, TX11, 10)) (ci := 9) (q0 := 0) hSt hP rfl (gb_at b rfl) hS (fun q h => Nat.le_trans hb1 h.1) hP) rfl rfl hl.1 rfl (lv_room (Nat.le_of_ble_eq_true rfl)) dX11_goose_2 ⟨Nat.le_of_ble_eq_true rfl, Nat.le_of_ble_eq_true rfl⟩) hS (fun _ h => h) (fun _ h => h) (fun q_4 H locs hY hk hS => ?_)
  obtain ⟨hq_4, hP⟩ := hY
  subst hq_4
  rw [gb_onv]
  by_cases c_5 : r_2 = 0
  · rw [if_pos c_5] at h
    rw [gb_nv0 c_5]
    refine lv_astoreN (lv' := [(6, .null), (0, .ref (b + 0)), (1, .int p1), (2, .int p2), (3, .int p3), (4, .int p4), (5, .int p5)]) hx hb dX11_goose_5 hl (by decide) rfl (fun ls hl => ?_)
    refine lv_aloadN hx hb dX11_goose_7 (lv_at hl 0 rfl) ?_
    refine lv_ifnullN (tgt := 37) hx hb dX11_goose_9 (by decide) ?_
    refine lv_bipush (v := (-2)) hx hb dX11_goose_37 (by decide) ?_
    obtain ⟨e1, e2⟩ := gb_eq2 h
    exact W.iret (v := (-2)) hx hb hr (fun t ht hW => gb_ri ht ⟨e2, by rw [← e1]; exact hP⟩ hS) hS.2.2 dX11_goose_39
  rw [if_neg c_5] at h
  rw [gb_nv1 c_5]
  obtain ⟨z_6, h⟩ := gb_kk_s h
  refine lv_astore (lv' := [(6, .ref (b + r_2)), (0, .ref (b + 0)), (1, .int p1), (2, .int p2), (3, .int p3), (4, .int p4), (5, .int p5)]) hx hb dX11_goose_5 hl (by decide) rfl (fun ls hl => ?_)
  refine lv_aload hx hb dX11_goose_7 (lv_at hl 0 rfl) ?_
  refine lv_ifnull hx hb dX11_goose_9 ?_
  refine lv_aload hx hb dX11_goose_12 (lv_at hl 0 rfl) ?_
  refine lv_iload hx hb dX11_goose_14 (lv_at hl 5 rfl) ?_
  obtain ⟨s_7, r_8, z_9, h⟩ := gb_cd_s h
  refine gb_calli (va_runV (C := RX0) (As := [.int p4]) (rest := []) ⟨hx, hb, hml, hown, hq⟩ (cc_Border_hasGoose_B l D cT tt b1 b hb1 n s_1 r_2 p4 s_7 r_8 z_9) (cwV 1 hq (gb_gV w_619 w_612 w_613 w_4 w_614) rfl rfl rfl (by decide +kernel) ⟨Nat.le_of_ble_eq_true rfl, Nat.le_of_ble_eq_true rfl⟩) (gb_preV (r := (RX0, TX0, 1)) (ci := 0) (q0 := r_2) hSt hP rfl (gb_at b (gb_cB z_6).1) hS (fun q h => Nat.le_trans hb1 h.1) hP) rfl rfl hl.1 rfl (lv_room (Nat.le_of_ble_eq_true rfl)) dX11_goose_16 ⟨Nat.le_of_ble_eq_true rfl, Nat.le_of_ble_eq_true rfl⟩) hS (fun _ h => h) (fun _ h => h) (fun q_10 H locs hY hk hS => ?_)
  obtain ⟨hq_10, hP⟩ := hY
  replace hq_10 := hq_10.symm
  subst hq_10
  refine lv_if_eq (tgt := 37) hx hb dX11_goose_19 (by decide) (fun c_11 => ?_) (fun c_11 => ?_)
  · rw [if_pos c_11] at h
    refine lv_bipush (v := (-2)) hx hb dX11_goose_37 (by decide) ?_
    obtain ⟨e1, e2⟩ := gb_eq2 h
    exact W.iret (v := (-2)) hx hb hr (fun t ht hW => gb_ri ht ⟨e2, by rw [← e1]; exact hP⟩ hS) hS.2.2 dX11_goose_39
  · rw [if_neg c_11] at h
    refine lv_aload_n hx hb dX11_goose_22 rfl (lv_at hl 1 rfl) ?_
    refine lv_aload hx hb dX11_goose_23 (lv_at hl 0 rfl) ?_
    refine lv_aload_n hx hb dX11_goose_25 rfl (lv_at hl 1 rfl) ?_
    refine lv_iload_n hx hb dX11_goose_26 rfl (lv_at hl 3 rfl) ?_
    obtain ⟨s_12, r_13, z_14, h⟩ := gb_cd_s h
    refine gb_callq (va_runV (C := RX11) (As := [.int p2]) (rest := [.ref (b + r_2), .ref (b + 0)]) ⟨hx, hb, hml, hown, hq⟩ (cc_Face_nightAt l D cT tt b1 b hb1 n s_7 p2 s_12 r_13 z_14) (cwV 1 hq (gb_gV w_646 w_648 s_1_8 w_1 w_649) rfl rfl rfl (by decide +kernel) ⟨Nat.le_of_ble_eq_true rfl, Nat.le_of_ble_eq_true rfl⟩) (gb_preV (r := (RX11, TX11, 10)) (ci := 9) (q0 := 0) hSt hP rfl (gb_at b rfl) hS (fun q h => Nat.le_trans hb1 h.1) hP) rfl rfl hl.1 rfl (lv_room (Nat.le_of_ble_eq_true rfl)) dX11_goose_27 ⟨Nat.le_of_ble_eq_true rfl, Nat.le_of_ble_eq_true rfl⟩) hS (fun _ h => h) (fun _ h => h) (fun q_15 H locs hY hk hS => ?_)
    obtain ⟨hq_15, hP⟩ := hY
    subst hq_15
    rw [gb_onv]
    by_cases c_16 : r_13 = 0
    · rw [if_pos c_16] at h
      rw [gb_nv0 c_16]
      refine lv_iload_n hx hb dX11_goose_30 rfl (lv_at hl 4 rfl) ?_
      obtain ⟨s_17, r_18, z_19, h⟩ := gb_cd_s h
      refine gb_calli (va_runV (C := RX11) (As := [.ref (b + r_2), .null, .int p3]) (rest := []) ⟨hx, hb, hml, hown, hq⟩ (cc_Face_playedTo_B_n l D cT tt b1 b hb1 n s_12 r_2 p3 s_17 r_18 z_19) (cwV 3 hq (gb_gV w_763 w_765 s_2_1 w_1 w_766) rfl rfl rfl (by decide +kernel) ⟨Nat.le_of_ble_eq_true rfl, Nat.le_of_ble_eq_true rfl⟩) (gb_preV (r := (RX11, TX11, 10)) (ci := 9) (q0 := 0) hSt hP rfl (gb_at b rfl) hS (fun q h => Nat.le_trans hb1 h.1) hP) rfl rfl hl.1 rfl (lv_room (Nat.le_of_ble_eq_true rfl)) dX11_goose_31 ⟨Nat.le_of_ble_eq_true rfl, Nat.le_of_ble_eq_true rfl⟩) hS (fun _ h => h) (fun _ h => h) (fun q_20 H locs hY hk hS => ?_)
      obtain ⟨hq_20, hP⟩ := hY
      replace hq_20 := hq_20.symm
      subst hq_20
      refine lv_if_ne (tgt := 40) hx hb dX11_goose_34 (by decide) (fun c_21 => ?_) (fun c_21 => ?_)
      · rw [if_neg c_21] at h
        refine lv_iload hx hb dX11_goose_40 (lv_at hl 6 rfl) ?_
        by_cases c_22 : p5 = (0 : Int32)
        · rw [if_pos c_22] at h
          refine lv_tableIn (off := 30) (tgt := 72) hx hb dX11_goose_42 (by rw [c_22]; decide) (by rw [c_22]; decide) (by rw [c_22]; decide) (by decide) ?_
          refine lv_aload_n hx hb dX11_goose_72 rfl (lv_at hl 1 rfl) ?_
          refine va_get (ci := 9) (v := (.ref (b + 109))) (C := RX11) (T := TX11) (N := 10) hx hb hq i_X11 hown hK hP 0 (gb_at b rfl) rfl 6 (by decide) (hq _ w_321) (fun _ h9 => h9) rfl dX11_goose_73 ?_
          refine va_get (ci := 5) (v := (.ref (b + 112))) (C := RX6) (T := TX6) (N := 12) hx hb hq i_X6 hown hK hP 109 (gb_at b rfl) rfl 1 (by decide) (hq _ w_199) (fun _ h9 => h9) rfl dX11_goose_76 ?_
          refine lv_iload hx hb dX11_goose_79 (lv_at hl 5 rfl) ?_
          obtain ⟨z_23, h⟩ := gb_ck_s h
          refine va_iald hx hb hK hP 112 0 (gb_at b rfl) rfl z_23 dX11_goose_81 ?_
          refine lv_topi (fun x_24 ex_24 => ?_)
          replace h := gb_lt_s ex_24 h
          obtain ⟨e1, e2⟩ := gb_eq2 h
          exact W.iret (v := x_24) hx hb hr (fun t ht hW => gb_ri ht ⟨e2, by rw [← e1]; exact hP⟩ hS) hS.2.2 dX11_goose_82
        rw [if_neg c_22] at h
        by_cases c_25 : p5 = (1 : Int32)
        · rw [if_pos c_25] at h
          refine lv_tableIn (off := 41) (tgt := 83) hx hb dX11_goose_42 (by rw [c_25]; decide) (by rw [c_25]; decide) (by rw [c_25]; decide) (by decide) ?_
          refine lv_aload_n hx hb dX11_goose_83 rfl (lv_at hl 1 rfl) ?_
          refine va_get (ci := 9) (v := (.ref (b + 109))) (C := RX11) (T := TX11) (N := 10) hx hb hq i_X11 hown hK hP 0 (gb_at b rfl) rfl 6 (by decide) (hq _ w_321) (fun _ h9 => h9) rfl dX11_goose_84 ?_
          refine va_get (ci := 5) (v := (.ref (b + 113))) (C := RX6) (T := TX6) (N := 12) hx hb hq i_X6 hown hK hP 109 (gb_at b rfl) rfl 2 (by decide) (hq _ w_201) (fun _ h9 => h9) rfl dX11_goose_87 ?_
          refine lv_iload hx hb dX11_goose_90 (lv_at hl 5 rfl) ?_
          obtain ⟨z_26, h⟩ := gb_ck_s h
          refine va_iald hx hb hK hP 113 0 (gb_at b rfl) rfl z_26 dX11_goose_92 ?_
          refine lv_topi (fun x_27 ex_27 => ?_)
          replace h := gb_lt_s ex_27 h
          obtain ⟨e1, e2⟩ := gb_eq2 h
          exact W.iret (v := x_27) hx hb hr (fun t ht hW => gb_ri ht ⟨e2, by rw [← e1]; exact hP⟩ hS) hS.2.2 dX11_goose_93
        rw [if_neg c_25] at h
        by_cases c_28 : p5 = (2 : Int32)
        · rw [if_pos c_28] at h
          refine lv_tableIn (off := 52) (tgt := 94) hx hb dX11_goose_42 (by rw [c_28]; decide) (by rw [c_28]; decide) (by rw [c_28]; decide) (by decide) ?_
          refine lv_aload_n hx hb dX11_goose_94 rfl (lv_at hl 1 rfl) ?_
          refine va_get (ci := 9) (v := (.ref (b + 109))) (C := RX11) (T := TX11) (N := 10) hx hb hq i_X11 hown hK hP 0 (gb_at b rfl) rfl 6 (by decide) (hq _ w_321) (fun _ h9 => h9) rfl dX11_goose_95 ?_
          refine va_get (ci := 5) (v := (.ref (b + 114))) (C := RX6) (T := TX6) (N := 12) hx hb hq i_X6 hown hK hP 109 (gb_at b rfl) rfl 3 (by decide) (hq _ w_203) (fun _ h9 => h9) rfl dX11_goose_98 ?_
          refine lv_iload hx hb dX11_goose_101 (lv_at hl 5 rfl) ?_
          obtain ⟨z_29, h⟩ := gb_ck_s h
          refine va_iald hx hb hK hP 114 0 (gb_at b rfl) rfl z_29 dX11_goose_103 ?_
          refine lv_topi (fun x_30 ex_30 => ?_)
          replace h := gb_lt_s ex_30 h
          obtain ⟨e1, e2⟩ := gb_eq2 h
          exact W.iret (v := x_30) hx hb hr (fun t ht hW => gb_ri ht ⟨e2, by rw [← e1]; exact hP⟩ hS) hS.2.2 dX11_goose_104
        rw [if_neg c_28] at h
        by_cases c_31 : p5 = (3 : Int32)
        · rw [if_pos c_31] at h
          refine lv_tableIn (off := 63) (tgt := 105) hx hb dX11_goose_42 (by rw [c_31]; decide) (by rw [c_31]; decide) (by rw [c_31]; decide) (by decide) ?_
          refine lv_aload_n hx hb dX11_goose_105 rfl (lv_at hl 1 rfl) ?_
          refine va_get (ci := 9) (v := (.ref (b + 109))) (C := RX11) (T := TX11) (N := 10) hx hb hq i_X11 hown hK hP 0 (gb_at b rfl) rfl 6 (by decide) (hq _ w_321) (fun _ h9 => h9) rfl dX11_goose_106 ?_
          refine va_get (ci := 5) (v := (.ref (b + 115))) (C := RX6) (T := TX6) (N := 12) hx hb hq i_X6 hown hK hP 109 (gb_at b rfl) rfl 4 (by decide) (hq _ w_205) (fun _ h9 => h9) rfl dX11_goose_109 ?_
          refine lv_iload hx hb dX11_goose_112 (lv_at hl 5 rfl) ?_
          obtain ⟨z_32, h⟩ := gb_ck_s h
          refine va_iald hx hb hK hP 115 0 (gb_at b rfl) rfl z_32 dX11_goose_114 ?_
          refine lv_topi (fun x_33 ex_33 => ?_)
          replace h := gb_lt_s ex_33 h
          obtain ⟨e1, e2⟩ := gb_eq2 h
          exact W.iret (v := x_33) hx hb hr (fun t ht hW => gb_ri ht ⟨e2, by rw [← e1]; exact hP⟩ hS) hS.2.2 dX11_goose_115
        rw [if_neg c_31] at h
        refine lv_tableOut (tgt := 116) hx hb dX11_goose_42 (by have := lv_neT c_22 (a := 0) rfl; have := lv_neT c_25 (a := 1) rfl; have := lv_neT c_28 (a := 2) rfl; have := lv_neT c_31 (a := 3) rfl; omega) (by decide) ?_
        refine lv_bipush (v := (-2)) hx hb dX11_goose_116 (by decide) ?_
        obtain ⟨e1, e2⟩ := gb_eq2 h
        exact W.iret (v := (-2)) hx hb hr (fun t ht hW => gb_ri ht ⟨e2, by rw [← e1]; exact hP⟩ hS) hS.2.2 dX11_goose_118
      · rw [if_pos c_21] at h
        refine lv_bipush (v := (-2)) hx hb dX11_goose_37 (by decide) ?_
        obtain ⟨e1, e2⟩ := gb_eq2 h
        exact W.iret (v := (-2)) hx hb hr (fun t ht hW => gb_ri ht ⟨e2, by rw [← e1]; exact hP⟩ hS) hS.2.2 dX11_goose_39
    rw [if_neg c_16] at h
    rw [gb_nv1 c_16]
    obtain ⟨z_34, h⟩ := gb_kk_s h
    refine lv_iload_n hx hb dX11_goose_30 rfl (lv_at hl 4 rfl) ?_
    obtain ⟨s_35, r_36, z_37, h⟩ := gb_cd_s h
    refine gb_calli (va_runV (C := RX11) (As := [.ref (b + r_2), .ref (b + r_13), .int p3]) (rest := []) ⟨hx, hb, hml, hown, hq⟩ (cc_Face_playedTo_B_N l D cT tt b1 b hb1 n s_12 r_2 r_13 p3 s_35 r_36 z_37) (cwV 3 hq (gb_gV w_763 w_765 s_2_1 w_1 w_766) rfl rfl rfl (by decide +kernel) ⟨Nat.le_of_ble_eq_true rfl, Nat.le_of_ble_eq_true rfl⟩) (gb_preV (r := (RX11, TX11, 10)) (ci := 9) (q0 := 0) hSt hP rfl (gb_at b rfl) hS (fun q h => Nat.le_trans hb1 h.1) hP) rfl rfl hl.1 rfl (lv_room (Nat.le_of_ble_eq_true rfl)) dX11_goose_31 ⟨Nat.le_of_ble_eq_true rfl, Nat.le_of_ble_eq_true rfl⟩) hS (fun _ h => h) (fun _ h => h) (fun q_38 H locs hY hk hS => ?_)
    obtain ⟨hq_38, hP⟩ := hY
    replace hq_38 := hq_38.symm
    subst hq_38
    refine lv_if_ne (tgt := 40) hx hb dX11_goose_34 (by decide) (fun c_39 => ?_) (fun c_39 => ?_)
    · rw [if_neg c_39] at h
      refine lv_iload hx hb dX11_goose_40 (lv_at hl 6 rfl) ?_
      by_cases c_40 : p5 = (0 : Int32)
      · rw [if_pos c_40] at h
        refine lv_tableIn (off := 30) (tgt := 72) hx hb dX11_goose_42 (by rw [c_40]; decide) (by rw [c_40]; decide) (by rw [c_40]; decide) (by decide) ?_
        refine lv_aload_n hx hb dX11_goose_72 rfl (lv_at hl 1 rfl) ?_
        refine va_get (ci := 9) (v := (.ref (b + 109))) (C := RX11) (T := TX11) (N := 10) hx hb hq i_X11 hown hK hP 0 (gb_at b rfl) rfl 6 (by decide) (hq _ w_321) (fun _ h9 => h9) rfl dX11_goose_73 ?_
        refine va_get (ci := 5) (v := (.ref (b + 112))) (C := RX6) (T := TX6) (N := 12) hx hb hq i_X6 hown hK hP 109 (gb_at b rfl) rfl 1 (by decide) (hq _ w_199) (fun _ h9 => h9) rfl dX11_goose_76 ?_
        refine lv_iload hx hb dX11_goose_79 (lv_at hl 5 rfl) ?_
        obtain ⟨z_41, h⟩ := gb_ck_s h
        refine va_iald hx hb hK hP 112 0 (gb_at b rfl) rfl z_41 dX11_goose_81 ?_
        refine lv_topi (fun x_42 ex_42 => ?_)
        replace h := gb_lt_s ex_42 h
        obtain ⟨e1, e2⟩ := gb_eq2 h
        exact W.iret (v := x_42) hx hb hr (fun t ht hW => gb_ri ht ⟨e2, by rw [← e1]; exact hP⟩ hS) hS.2.2 dX11_goose_82
      rw [if_neg c_40] at h
      by_cases c_43 : p5 = (1 : Int32)
      · rw [if_pos c_43] at h
        refine lv_tableIn (off := 41) (tgt := 83) hx hb dX11_goose_42 (by rw [c_43]; decide) (by rw [c_43]; decide) (by rw [c_43]; decide) (by decide) ?_
        refine lv_aload_n hx hb dX11_goose_83 rfl (lv_at hl 1 rfl) ?_
        refine va_get (ci := 9) (v := (.ref (b + 109))) (C := RX11) (T := TX11) (N := 10) hx hb hq i_X11 hown hK hP 0 (gb_at b rfl) rfl 6 (by decide) (hq _ w_321) (fun _ h9 => h9) rfl dX11_goose_84 ?_
        refine va_get (ci := 5) (v := (.ref (b + 113))) (C := RX6) (T := TX6) (N := 12) hx hb hq i_X6 hown hK hP 109 (gb_at b rfl) rfl 2 (by decide) (hq _ w_201) (fun _ h9 => h9) rfl dX11_goose_87 ?_
        refine lv_iload hx hb dX11_goose_90 (lv_at hl 5 rfl) ?_
        obtain ⟨z_44, h⟩ := gb_ck_s h
        refine va_iald hx hb hK hP 113 0 (gb_at b rfl) rfl z_44 dX11_goose_92 ?_
        refine lv_topi (fun x_45 ex_45 => ?_)
        replace h := gb_lt_s ex_45 h
        obtain ⟨e1, e2⟩ := gb_eq2 h
        exact W.iret (v := x_45) hx hb hr (fun t ht hW => gb_ri ht ⟨e2, by rw [← e1]; exact hP⟩ hS) hS.2.2 dX11_goose_93
      rw [if_neg c_43] at h
      by_cases c_46 : p5 = (2 : Int32)
      · rw [if_pos c_46] at h
        refine lv_tableIn (off := 52) (tgt := 94) hx hb dX11_goose_42 (by rw [c_46]; decide) (by rw [c_46]; decide) (by rw [c_46]; decide) (by decide) ?_
        refine lv_aload_n hx hb dX11_goose_94 rfl (lv_at hl 1 rfl) ?_
        refine va_get (ci := 9) (v := (.ref (b + 109))) (C := RX11) (T := TX11) (N := 10) hx hb hq i_X11 hown hK hP 0 (gb_at b rfl) rfl 6 (by decide) (hq _ w_321) (fun _ h9 => h9) rfl dX11_goose_95 ?_
        refine va_get (ci := 5) (v := (.ref (b + 114))) (C := RX6) (T := TX6) (N := 12) hx hb hq i_X6 hown hK hP 109 (gb_at b rfl) rfl 3 (by decide) (hq _ w_203) (fun _ h9 => h9) rfl dX11_goose_98 ?_
        refine lv_iload hx hb dX11_goose_101 (lv_at hl 5 rfl) ?_
        obtain ⟨z_47, h⟩ := gb_ck_s h
        refine va_iald hx hb hK hP 114 0 (gb_at b rfl) rfl z_47 dX11_goose_103 ?_
        refine lv_topi (fun x_48 ex_48 => ?_)
        replace h := gb_lt_s ex_48 h
        obtain ⟨e1, e2⟩ := gb_eq2 h
        exact W.iret (v := x_48) hx hb hr (fun t ht hW => gb_ri ht ⟨e2, by rw [← e1]; exact hP⟩ hS) hS.2.2 dX11_goose_104
      rw [if_neg c_46] at h
      by_cases c_49 : p5 = (3 : Int32)
      · rw [if_pos c_49] at h
        refine lv_tableIn (off := 63) (tgt := 105) hx hb dX11_goose_42 (by rw [c_49]; decide) (by rw [c_49]; decide) (by rw [c_49]; decide) (by decide) ?_
        refine lv_aload_n hx hb dX11_goose_105 rfl (lv_at hl 1 rfl) ?_
        refine va_get (ci := 9) (v := (.ref (b + 109))) (C := RX11) (T := TX11) (N := 10) hx hb hq i_X11 hown hK hP 0 (gb_at b rfl) rfl 6 (by decide) (hq _ w_321) (fun _ h9 => h9) rfl dX11_goose_106 ?_
        refine va_get (ci := 5) (v := (.ref (b + 115))) (C := RX6) (T := TX6) (N := 12) hx hb hq i_X6 hown hK hP 109 (gb_at b rfl) rfl 4 (by decide) (hq _ w_205) (fun _ h9 => h9) rfl dX11_goose_109 ?_
        refine lv_iload hx hb dX11_goose_112 (lv_at hl 5 rfl) ?_
        obtain ⟨z_50, h⟩ := gb_ck_s h
        refine va_iald hx hb hK hP 115 0 (gb_at b rfl) rfl z_50 dX11_goose_114 ?_
        refine lv_topi (fun x_51 ex_51 => ?_)
        replace h := gb_lt_s ex_51 h
        obtain ⟨e1, e2⟩ := gb_eq2 h
        exact W.iret (v := x_51) hx hb hr (fun t ht hW => gb_ri ht ⟨e2, by rw [← e1]; exact hP⟩ hS) hS.2.2 dX11_goose_115
      rw [if_neg c_49] at h
      refine lv_tableOut (tgt := 116) hx hb dX11_goose_42 (by have := lv_neT c_40 (a := 0) rfl; have := lv_neT c_43 (a := 1) rfl; have := lv_neT c_46 (a := 2) rfl; have := lv_neT c_49 (a := 3) rfl; omega) (by decide) ?_
      refine lv_bipush (v := (-2)) hx hb dX11_goose_116 (by decide) ?_
      obtain ⟨e1, e2⟩ := gb_eq2 h
      exact W.iret (v := (-2)) hx hb hr (fun t ht hW => gb_ri ht ⟨e2, by rw [← e1]; exact hP⟩ hS) hS.2.2 dX11_goose_118
    · rw [if_pos c_39] at h
      refine lv_bipush (v := (-2)) hx hb dX11_goose_37 (by decide) ?_
      obtain ⟨e1, e2⟩ := gb_eq2 h
      exact W.iret (v := (-2)) hx hb hr (fun t ht hW => gb_ri ht ⟨e2, by rw [← e1]; exact hP⟩ hS) hS.2.2 dX11_goose_39
theorem dX11_path_0 : decode cX11_path 0 = .ok (.aload_n 0, 1) := dc_42 (show ((cX11_path.data.toList.drop 0).take 1).map UInt8.toNat = [42] by decide +kernel)
theorem dX11_path_1 : decode cX11_path 1 = .ok (.iload_n 1, 1) := dc_27 (show ((cX11_path.data.toList.drop 1).take 1).map UInt8.toNat = [27] by decide +kernel)
theorem dX11_path_2 : decode cX11_path 2 = .ok (.invokevirtual 113, 3) := dc_182 (show ((cX11_path.data.toList.drop 2).take 3).map UInt8.toNat = [182, 0, 113] by decide +kernel) rfl
theorem dX11_path_5 : decode cX11_path 5 = .ok (.astore 6, 2) := dc_58 (show ((cX11_path.data.toList.drop 5).take 2).map UInt8.toNat = [58, 6] by decide +kernel) rfl
theorem dX11_path_7 : decode cX11_path 7 = .ok (.aload 6, 2) := dc_25 (show ((cX11_path.data.toList.drop 7).take 2).map UInt8.toNat = [25, 6] by decide +kernel) rfl
theorem dX11_path_9 : decode cX11_path 9 = .ok (.ifnull 28, 3) := dc_198 (show ((cX11_path.data.toList.drop 9).take 3).map UInt8.toNat = [198, 0, 28] by decide +kernel) rfl
theorem dX11_path_37 : decode cX11_path 37 = .ok (.bipush (-2), 2) := dc_16 (show ((cX11_path.data.toList.drop 37).take 2).map UInt8.toNat = [16, 254] by decide +kernel) rfl
theorem dX11_path_39 : decode cX11_path 39 = .ok (.ireturn, 1) := dc_172 (show ((cX11_path.data.toList.drop 39).take 1).map UInt8.toNat = [172] by decide +kernel)
theorem dX11_path_12 : decode cX11_path 12 = .ok (.aload 6, 2) := dc_25 (show ((cX11_path.data.toList.drop 12).take 2).map UInt8.toNat = [25, 6] by decide +kernel) rfl
theorem dX11_path_14 : decode cX11_path 14 = .ok (.iload 4, 2) := dc_21 (show ((cX11_path.data.toList.drop 14).take 2).map UInt8.toNat = [21, 4] by decide +kernel) rfl
theorem dX11_path_16 : decode cX11_path 16 = .ok (.invokevirtual 135, 3) := dc_182 (show ((cX11_path.data.toList.drop 16).take 3).map UInt8.toNat = [182, 0, 135] by decide +kernel) rfl
theorem dX11_path_19 : decode cX11_path 19 = .ok (.ifCond .eq 18, 3) := dc_153 (show ((cX11_path.data.toList.drop 19).take 3).map UInt8.toNat = [153, 0, 18] by decide +kernel) rfl
theorem dX11_path_22 : decode cX11_path 22 = .ok (.aload_n 0, 1) := dc_42 (show ((cX11_path.data.toList.drop 22).take 1).map UInt8.toNat = [42] by decide +kernel)
theorem dX11_path_23 : decode cX11_path 23 = .ok (.aload 6, 2) := dc_25 (show ((cX11_path.data.toList.drop 23).take 2).map UInt8.toNat = [25, 6] by decide +kernel) rfl
theorem dX11_path_25 : decode cX11_path 25 = .ok (.aload_n 0, 1) := dc_42 (show ((cX11_path.data.toList.drop 25).take 1).map UInt8.toNat = [42] by decide +kernel)
theorem dX11_path_26 : decode cX11_path 26 = .ok (.iload_n 2, 1) := dc_28 (show ((cX11_path.data.toList.drop 26).take 1).map UInt8.toNat = [28] by decide +kernel)
theorem dX11_path_27 : decode cX11_path 27 = .ok (.invokevirtual 148, 3) := dc_182 (show ((cX11_path.data.toList.drop 27).take 3).map UInt8.toNat = [182, 0, 148] by decide +kernel) rfl
theorem dX11_path_30 : decode cX11_path 30 = .ok (.iload_n 3, 1) := dc_29 (show ((cX11_path.data.toList.drop 30).take 1).map UInt8.toNat = [29] by decide +kernel)
theorem dX11_path_31 : decode cX11_path 31 = .ok (.invokevirtual 202, 3) := dc_182 (show ((cX11_path.data.toList.drop 31).take 3).map UInt8.toNat = [182, 0, 202] by decide +kernel) rfl
theorem dX11_path_34 : decode cX11_path 34 = .ok (.ifCond .ne 6, 3) := dc_154 (show ((cX11_path.data.toList.drop 34).take 3).map UInt8.toNat = [154, 0, 6] by decide +kernel) rfl
theorem dX11_path_40 : decode cX11_path 40 = .ok (.iload 5, 2) := dc_21 (show ((cX11_path.data.toList.drop 40).take 2).map UInt8.toNat = [21, 5] by decide +kernel) rfl
theorem dX11_path_42 : decode cX11_path 42 = .ok (.tableswitch 115 0 5 #[38, 49, 60, 70, 87, 104], 38) := by decide +kernel
theorem dX11_path_80 : decode cX11_path 80 = .ok (.aload_n 0, 1) := dc_42 (show ((cX11_path.data.toList.drop 80).take 1).map UInt8.toNat = [42] by decide +kernel)
theorem dX11_path_81 : decode cX11_path 81 = .ok (.getfield 56, 3) := dc_180 (show ((cX11_path.data.toList.drop 81).take 3).map UInt8.toNat = [180, 0, 56] by decide +kernel) rfl
theorem dX11_path_84 : decode cX11_path 84 = .ok (.getfield 217, 3) := dc_180 (show ((cX11_path.data.toList.drop 84).take 3).map UInt8.toNat = [180, 0, 217] by decide +kernel) rfl
theorem w_207 : (Cond.fieldLink "GooseBorder" (217 : Nat) "GooseBorder$Play" "marks" "[I") ∈ gb_wA := gb_t1 207 rfl rfl
theorem dX11_path_87 : decode cX11_path 87 = .ok (.iload 4, 2) := dc_21 (show ((cX11_path.data.toList.drop 87).take 2).map UInt8.toNat = [21, 4] by decide +kernel) rfl
theorem dX11_path_89 : decode cX11_path 89 = .ok (.iaload, 1) := dc_46 (show ((cX11_path.data.toList.drop 89).take 1).map UInt8.toNat = [46] by decide +kernel)
theorem dX11_path_90 : decode cX11_path 90 = .ok (.ireturn, 1) := dc_172 (show ((cX11_path.data.toList.drop 90).take 1).map UInt8.toNat = [172] by decide +kernel)
theorem dX11_path_91 : decode cX11_path 91 = .ok (.aload_n 0, 1) := dc_42 (show ((cX11_path.data.toList.drop 91).take 1).map UInt8.toNat = [42] by decide +kernel)
theorem dX11_path_92 : decode cX11_path 92 = .ok (.getfield 56, 3) := dc_180 (show ((cX11_path.data.toList.drop 92).take 3).map UInt8.toNat = [180, 0, 56] by decide +kernel) rfl
theorem dX11_path_95 : decode cX11_path 95 = .ok (.getfield 220, 3) := dc_180 (show ((cX11_path.data.toList.drop 95).take 3).map UInt8.toNat = [180, 0, 220] by decide +kernel) rfl
theorem w_209 : (Cond.fieldLink "GooseBorder" (220 : Nat) "GooseBorder$Play" "exports" "[I") ∈ gb_wA := gb_t1 209 rfl rfl
theorem dX11_path_98 : decode cX11_path 98 = .ok (.iload 4, 2) := dc_21 (show ((cX11_path.data.toList.drop 98).take 2).map UInt8.toNat = [21, 4] by decide +kernel) rfl
theorem dX11_path_100 : decode cX11_path 100 = .ok (.iaload, 1) := dc_46 (show ((cX11_path.data.toList.drop 100).take 1).map UInt8.toNat = [46] by decide +kernel)
theorem dX11_path_101 : decode cX11_path 101 = .ok (.ireturn, 1) := dc_172 (show ((cX11_path.data.toList.drop 101).take 1).map UInt8.toNat = [172] by decide +kernel)
theorem dX11_path_102 : decode cX11_path 102 = .ok (.aload_n 0, 1) := dc_42 (show ((cX11_path.data.toList.drop 102).take 1).map UInt8.toNat = [42] by decide +kernel)
theorem dX11_path_103 : decode cX11_path 103 = .ok (.getfield 56, 3) := dc_180 (show ((cX11_path.data.toList.drop 103).take 3).map UInt8.toNat = [180, 0, 56] by decide +kernel) rfl
theorem dX11_path_106 : decode cX11_path 106 = .ok (.iload 4, 2) := dc_21 (show ((cX11_path.data.toList.drop 106).take 2).map UInt8.toNat = [21, 4] by decide +kernel) rfl
theorem dX11_path_108 : decode cX11_path 108 = .ok (.invokevirtual 223, 3) := dc_182 (show ((cX11_path.data.toList.drop 108).take 3).map UInt8.toNat = [182, 0, 223] by decide +kernel) rfl
theorem dX6_tally_0 : decode cX6_tally 0 = .ok (.iconst 0, 1) := dc_3 (show ((cX6_tally.data.toList.drop 0).take 1).map UInt8.toNat = [3] by decide +kernel)
theorem dX6_tally_1 : decode cX6_tally 1 = .ok (.aload_n 0, 1) := dc_42 (show ((cX6_tally.data.toList.drop 1).take 1).map UInt8.toNat = [42] by decide +kernel)
theorem dX6_tally_2 : decode cX6_tally 2 = .ok (.getfield 31, 3) := dc_180 (show ((cX6_tally.data.toList.drop 2).take 3).map UInt8.toNat = [180, 0, 31] by decide +kernel) rfl
theorem dX6_tally_5 : decode cX6_tally 5 = .ok (.iload_n 1, 1) := dc_27 (show ((cX6_tally.data.toList.drop 5).take 1).map UInt8.toNat = [27] by decide +kernel)
theorem dX6_tally_6 : decode cX6_tally 6 = .ok (.iaload, 1) := dc_46 (show ((cX6_tally.data.toList.drop 6).take 1).map UInt8.toNat = [46] by decide +kernel)
theorem dX6_tally_7 : decode cX6_tally 7 = .ok (.aload_n 0, 1) := dc_42 (show ((cX6_tally.data.toList.drop 7).take 1).map UInt8.toNat = [42] by decide +kernel)
theorem dX6_tally_8 : decode cX6_tally 8 = .ok (.getfield 34, 3) := dc_180 (show ((cX6_tally.data.toList.drop 8).take 3).map UInt8.toNat = [180, 0, 34] by decide +kernel) rfl
theorem dX6_tally_11 : decode cX6_tally 11 = .ok (.iload_n 1, 1) := dc_27 (show ((cX6_tally.data.toList.drop 11).take 1).map UInt8.toNat = [27] by decide +kernel)
theorem dX6_tally_12 : decode cX6_tally 12 = .ok (.iaload, 1) := dc_46 (show ((cX6_tally.data.toList.drop 12).take 1).map UInt8.toNat = [46] by decide +kernel)
theorem dX6_tally_13 : decode cX6_tally 13 = .ok (.isub, 1) := dc_100 (show ((cX6_tally.data.toList.drop 13).take 1).map UInt8.toNat = [100] by decide +kernel)
theorem dX6_tally_14 : decode cX6_tally 14 = .ok (.invokestatic 125, 3) := dc_184 (show ((cX6_tally.data.toList.drop 14).take 3).map UInt8.toNat = [184, 0, 125] by decide +kernel) rfl
theorem dX6_tally_17 : decode cX6_tally 17 = .ok (.ireturn, 1) := dc_172 (show ((cX6_tally.data.toList.drop 17).take 1).map UInt8.toNat = [172] by decide +kernel)
def cs_Play_tally (n : Nat) (σ : gb_S) (p1 : Int32) : gb_CR Int32 := gb_ck p1 5 (gb_lt ((σ.1 116) (Int32.toNatClampNeg p1)) (fun x_2 => gb_ck p1 5 (gb_lt ((σ.1 117) (Int32.toNatClampNeg p1)) (fun x_4 => gb_lt (if (0 : Int32) < (x_2 - x_4) then (x_2 - x_4) else (0 : Int32)) (fun x_5 => some (σ, x_5))))))
set_option maxHeartbeats 8000000 in
set_option maxRecDepth 100000 in
theorem cc_Play_tally (l : Launch) (D : va_G) (cT : Nat → ClassId) (tt : Nat → Nat) (b1 b : Nat) (hb1 : b1 ≤ b) (n : Nat) (σ : gb_S) (p1 : Int32) (σE : gb_S) (rE : Int32) (h : cs_Play_tally n σ p1 = some (σE, rE)) : Met l yX6_tally (.code yX6_tally cX6_tally 2 (some FieldType.int) :: gb_wA) ({ frames := 1, cells := 0, slots := 0, locals := 13 }) (gb_Pc D cT tt b1 [.ref (b + 109), .int p1] (fun h => va_P D vwCl (gb_wl b (gb_CW cT b σ)) h)) (gb_Qi (fun r h => r = rE ∧ va_P D vwCl (gb_wl b (gb_CW cT b σE)) h) (gb_fr b 135)) 0 0 (gb_fr b 135) := by
  refine Met.ofW (cc := cX6_tally) (maxL := 2) (ret := (some FieldType.int)) (by decide) rfl ?_
  intro p e s m args below meth c s₁ B hml hv
  obtain ⟨rfl, hSt, hP⟩ := hv
  have hx := B.exec
  have hb := B.bytes
  have hr := B.returns
  have hts := atoms_spec (ws := .code yX6_tally cX6_tally 2 (some FieldType.int) :: gb_wA) B.pre
  have hq : ∀ w ∈ gb_wA, w.before _ s = true := fun w h => hts w (List.mem_cons_of_mem _ h)
  have hown : s.vm.findClass RX6 = some m.cls := findClass_of_methodNamed B.named
  have hlocks := B.notSynchronized
  clear B hts
  have hK := hSt.1
  have hS : va_S (gb_fr b 135) s.heap s.heap [] := va_S.rf
  have hl := lv_entry ([.ref (b + 109), .int p1]) (n := 2) (Nat.le_of_ble_eq_true rfl)
  rw [lg_entry_eq]
  generalize (lg_sl ([.ref (b + 109), .int p1]) ++ List.replicate (2 - (lg_sl ([.ref (b + 109), .int p1])).length) Slot.unset).toArray = ls at hl ⊢
  replace hl : lv_has ls 2 [(0, .ref (b + 109)), (1, .int p1)] := hl
  unfold cs_Play_tally at h
  refine lv_iconst (v := 0) hx hb dX6_tally_0 (by decide) ?_
  refine lv_aload_n hx hb dX6_tally_1 rfl (lv_at hl 0 rfl) ?_
  refine va_get (ci := 5) (v := (.ref (b + 116))) (C := RX6) (T := TX6) (N := 12) hx hb hq i_X6 hown hK hP 109 (gb_at b rfl) rfl 5 (by decide) (hq _ w_206) (fun _ h9 => h9) rfl dX6_tally_2 ?_
  refine lv_iload_n hx hb dX6_tally_5 rfl (lv_at hl 1 rfl) ?_
  obtain ⟨z_1, h⟩ := gb_ck_s h
  refine va_iald hx hb hK hP 116 0 (gb_at b rfl) rfl z_1 dX6_tally_6 ?_
  refine lv_topi (fun x_2 ex_2 => ?_)
  replace h := gb_lt_s ex_2 h
  refine lv_aload_n hx hb dX6_tally_7 rfl (lv_at hl 0 rfl) ?_
  refine va_get (ci := 5) (v := (.ref (b + 117))) (C := RX6) (T := TX6) (N := 12) hx hb hq i_X6 hown hK hP 109 (gb_at b rfl) rfl 6 (by decide) (hq _ w_208) (fun _ h9 => h9) rfl dX6_tally_8 ?_
  refine lv_iload_n hx hb dX6_tally_11 rfl (lv_at hl 1 rfl) ?_
  obtain ⟨z_3, h⟩ := gb_ck_s h
  refine va_iald hx hb hK hP 117 0 (gb_at b rfl) rfl z_3 dX6_tally_12 ?_
  refine lv_topi (fun x_4 ex_4 => ?_)
  replace h := gb_lt_s ex_4 h
  refine lv_isub hx hb dX6_tally_13 ?_
  refine va_mmax hx hb (hml.trans hl.1.symm) hown (hq _ w_749) (hq _ w_47) (hq _ w_5) (hq _ w_48) (Nat.le_of_ble_eq_true rfl) (Nat.le_of_ble_eq_true rfl) (Nat.le_of_ble_eq_true rfl) (Nat.le_of_ble_eq_true rfl) dX6_tally_14 ?_
  refine lv_topi (fun x_5 ex_5 => ?_)
  replace h := gb_lt_s ex_5 h
  obtain ⟨e1, e2⟩ := gb_eq2 h
  exact W.iret (v := x_5) hx hb hr (fun t ht hW => gb_ri ht ⟨e2, by rw [← e1]; exact hP⟩ hS) hS.2.2 dX6_tally_17
theorem w_774 : (Cond.code ({ cls := "GooseBorder$Play", name := "tally", desc := "(I)I" } : MethodName) prog_8_method_11_code (2 : Nat) (Option.some FieldType.int)) ∈ gb_wA := gb_t4 54 rfl rfl
theorem w_771 : (Cond.methodLink "GooseBorder" (223 : Nat) ({ cls := "GooseBorder$Play", name := "tally", desc := "(I)I" } : MethodName)) ∈ gb_wA := gb_t4 51 rfl rfl
theorem w_772 : (Cond.instanceMethod ({ cls := "GooseBorder$Play", name := "tally", desc := "(I)I" } : MethodName)) ∈ gb_wA := gb_t4 52 rfl rfl
theorem w_773 : (Cond.selects "GooseBorder$Play" ({ cls := "GooseBorder$Play", name := "tally", desc := "(I)I" } : MethodName) ({ cls := "GooseBorder$Play", name := "tally", desc := "(I)I" } : MethodName)) ∈ gb_wA := gb_t4 53 rfl rfl
theorem dX11_path_111 : decode cX11_path 111 = .ok (.ireturn, 1) := dc_172 (show ((cX11_path.data.toList.drop 111).take 1).map UInt8.toNat = [172] by decide +kernel)
theorem dX11_path_112 : decode cX11_path 112 = .ok (.aload 6, 2) := dc_25 (show ((cX11_path.data.toList.drop 112).take 2).map UInt8.toNat = [25, 6] by decide +kernel) rfl
theorem dX11_path_114 : decode cX11_path 114 = .ok (.iload 4, 2) := dc_21 (show ((cX11_path.data.toList.drop 114).take 2).map UInt8.toNat = [21, 4] by decide +kernel) rfl
theorem dX11_path_116 : decode cX11_path 116 = .ok (.aload_n 0, 1) := dc_42 (show ((cX11_path.data.toList.drop 116).take 1).map UInt8.toNat = [42] by decide +kernel)
theorem dX11_path_117 : decode cX11_path 117 = .ok (.getfield 56, 3) := dc_180 (show ((cX11_path.data.toList.drop 117).take 3).map UInt8.toNat = [180, 0, 56] by decide +kernel) rfl
theorem dX11_path_120 : decode cX11_path 120 = .ok (.iload 4, 2) := dc_21 (show ((cX11_path.data.toList.drop 120).take 2).map UInt8.toNat = [21, 4] by decide +kernel) rfl
theorem dX11_path_122 : decode cX11_path 122 = .ok (.invokevirtual 223, 3) := dc_182 (show ((cX11_path.data.toList.drop 122).take 3).map UInt8.toNat = [182, 0, 223] by decide +kernel) rfl
theorem dX11_path_125 : decode cX11_path 125 = .ok (.invokevirtual 226, 3) := dc_182 (show ((cX11_path.data.toList.drop 125).take 3).map UInt8.toNat = [182, 0, 226] by decide +kernel) rfl
theorem w_775 : (Cond.methodLink "GooseBorder" (226 : Nat) ({ cls := "GooseBorder$Border", name := "padded", desc := "(II)I" } : MethodName)) ∈ gb_wA := gb_t4 55 rfl rfl
theorem dX11_path_128 : decode cX11_path 128 = .ok (.ireturn, 1) := dc_172 (show ((cX11_path.data.toList.drop 128).take 1).map UInt8.toNat = [172] by decide +kernel)
theorem dX11_path_129 : decode cX11_path 129 = .ok (.aload 6, 2) := dc_25 (show ((cX11_path.data.toList.drop 129).take 2).map UInt8.toNat = [25, 6] by decide +kernel) rfl
theorem dX11_path_131 : decode cX11_path 131 = .ok (.iload 4, 2) := dc_21 (show ((cX11_path.data.toList.drop 131).take 2).map UInt8.toNat = [21, 4] by decide +kernel) rfl
theorem dX11_path_133 : decode cX11_path 133 = .ok (.aload_n 0, 1) := dc_42 (show ((cX11_path.data.toList.drop 133).take 1).map UInt8.toNat = [42] by decide +kernel)
theorem dX11_path_134 : decode cX11_path 134 = .ok (.getfield 56, 3) := dc_180 (show ((cX11_path.data.toList.drop 134).take 3).map UInt8.toNat = [180, 0, 56] by decide +kernel) rfl
theorem dX11_path_137 : decode cX11_path 137 = .ok (.iload 4, 2) := dc_21 (show ((cX11_path.data.toList.drop 137).take 2).map UInt8.toNat = [21, 4] by decide +kernel) rfl
theorem dX11_path_139 : decode cX11_path 139 = .ok (.invokevirtual 223, 3) := dc_182 (show ((cX11_path.data.toList.drop 139).take 3).map UInt8.toNat = [182, 0, 223] by decide +kernel) rfl
theorem dX11_path_142 : decode cX11_path 142 = .ok (.invokevirtual 229, 3) := dc_182 (show ((cX11_path.data.toList.drop 142).take 3).map UInt8.toNat = [182, 0, 229] by decide +kernel) rfl
theorem w_786 : (Cond.code ({ cls := "GooseBorder$Border", name := "payOf", desc := "(II)I" } : MethodName) prog_2_method_23_code (3 : Nat) (Option.some FieldType.int)) ∈ gb_wA := gb_t4 66 rfl rfl
theorem w_783 : (Cond.methodLink "GooseBorder" (229 : Nat) ({ cls := "GooseBorder$Border", name := "payOf", desc := "(II)I" } : MethodName)) ∈ gb_wA := gb_t4 63 rfl rfl
theorem w_784 : (Cond.instanceMethod ({ cls := "GooseBorder$Border", name := "payOf", desc := "(II)I" } : MethodName)) ∈ gb_wA := gb_t4 64 rfl rfl
theorem w_785 : (Cond.selects "GooseBorder$Border" ({ cls := "GooseBorder$Border", name := "payOf", desc := "(II)I" } : MethodName) ({ cls := "GooseBorder$Border", name := "payOf", desc := "(II)I" } : MethodName)) ∈ gb_wA := gb_t4 65 rfl rfl
theorem dX11_path_145 : decode cX11_path 145 = .ok (.ireturn, 1) := dc_172 (show ((cX11_path.data.toList.drop 145).take 1).map UInt8.toNat = [172] by decide +kernel)
theorem dX11_path_146 : decode cX11_path 146 = .ok (.aload_n 0, 1) := dc_42 (show ((cX11_path.data.toList.drop 146).take 1).map UInt8.toNat = [42] by decide +kernel)
theorem dX11_path_147 : decode cX11_path 147 = .ok (.getfield 56, 3) := dc_180 (show ((cX11_path.data.toList.drop 147).take 3).map UInt8.toNat = [180, 0, 56] by decide +kernel) rfl
theorem dX11_path_150 : decode cX11_path 150 = .ok (.getfield 232, 3) := dc_180 (show ((cX11_path.data.toList.drop 150).take 3).map UInt8.toNat = [180, 0, 232] by decide +kernel) rfl
theorem w_211 : (Cond.fieldLink "GooseBorder" (232 : Nat) "GooseBorder$Play" "washed" "[I") ∈ gb_wA := gb_t1 211 rfl rfl
theorem dX11_path_153 : decode cX11_path 153 = .ok (.iload 4, 2) := dc_21 (show ((cX11_path.data.toList.drop 153).take 2).map UInt8.toNat = [21, 4] by decide +kernel) rfl
theorem dX11_path_155 : decode cX11_path 155 = .ok (.iaload, 1) := dc_46 (show ((cX11_path.data.toList.drop 155).take 1).map UInt8.toNat = [46] by decide +kernel)
theorem dX11_path_156 : decode cX11_path 156 = .ok (.ireturn, 1) := dc_172 (show ((cX11_path.data.toList.drop 156).take 1).map UInt8.toNat = [172] by decide +kernel)
theorem dX11_path_157 : decode cX11_path 157 = .ok (.bipush (-2), 2) := dc_16 (show ((cX11_path.data.toList.drop 157).take 2).map UInt8.toNat = [16, 254] by decide +kernel) rfl
theorem dX11_path_159 : decode cX11_path 159 = .ok (.ireturn, 1) := dc_172 (show ((cX11_path.data.toList.drop 159).take 1).map UInt8.toNat = [172] by decide +kernel)
def cs_Face_path (n : Nat) (σ : gb_S) (p1 : Int32) (p2 : Int32) (p3 : Int32) (p4 : Int32) (p5 : Int32) : gb_CR Int32 := gb_cd (cs_Face_borderAt n σ p1) (fun s_1 r_2 => (if r_2 = 0 then some (s_1, (-2)) else gb_kk (gb_kB r_2) (gb_cd (cs_Border_hasPath_B n s_1 r_2 p4) (fun s_7 r_8 => (if r_8 = 0 then some (s_7, (-2)) else gb_cd (cs_Face_nightAt n s_7 p2) (fun s_12 r_13 => (if r_13 = 0 then gb_cd (cs_Face_playedTo_B_n n s_12 r_2 p3) (fun s_17 r_18 => (if r_18 = 0 then some (s_17, (-2)) else (if p5 = (0 : Int32) then gb_ck p4 5 (gb_lt ((s_17.1 116) (Int32.toNatClampNeg p4)) (fun x_24 => some (s_17, x_24))) else (if p5 = (1 : Int32) then gb_ck p4 5 (gb_lt ((s_17.1 117) (Int32.toNatClampNeg p4)) (fun x_27 => some (s_17, x_27))) else (if p5 = (2 : Int32) then gb_cd (cs_Play_tally n s_17 p4) (fun s_29 r_30 => some (s_29, r_30)) else (if p5 = (3 : Int32) then gb_cd (cs_Play_tally n s_17 p4) (fun s_34 r_35 => gb_cd (cs_Border_padded_B n s_34 r_2 p4 r_35) (fun s_38 r_39 => some (s_38, r_39))) else (if p5 = (4 : Int32) then gb_cd (cs_Play_tally n s_17 p4) (fun s_43 r_44 => gb_cd (cs_Border_payOf_B n s_43 r_2 p4 r_44) (fun s_47 r_48 => some (s_47, r_48))) else (if p5 = (5 : Int32) then gb_ck p4 5 (gb_lt ((s_17.1 118) (Int32.toNatClampNeg p4)) (fun x_53 => some (s_17, x_53))) else some (s_17, (-2)))))))))) else gb_kk (gb_kN r_13) (gb_cd (cs_Face_playedTo_B_N n s_12 r_2 r_13 p3) (fun s_55 r_56 => (if r_56 = 0 then some (s_55, (-2)) else (if p5 = (0 : Int32) then gb_ck p4 5 (gb_lt ((s_55.1 116) (Int32.toNatClampNeg p4)) (fun x_62 => some (s_55, x_62))) else (if p5 = (1 : Int32) then gb_ck p4 5 (gb_lt ((s_55.1 117) (Int32.toNatClampNeg p4)) (fun x_65 => some (s_55, x_65))) else (if p5 = (2 : Int32) then gb_cd (cs_Play_tally n s_55 p4) (fun s_67 r_68 => some (s_67, r_68)) else (if p5 = (3 : Int32) then gb_cd (cs_Play_tally n s_55 p4) (fun s_72 r_73 => gb_cd (cs_Border_padded_B n s_72 r_2 p4 r_73) (fun s_76 r_77 => some (s_76, r_77))) else (if p5 = (4 : Int32) then gb_cd (cs_Play_tally n s_55 p4) (fun s_81 r_82 => gb_cd (cs_Border_payOf_B n s_81 r_2 p4 r_82) (fun s_85 r_86 => some (s_85, r_86))) else (if p5 = (5 : Int32) then gb_ck p4 5 (gb_lt ((s_55.1 118) (Int32.toNatClampNeg p4)) (fun x_91 => some (s_55, x_91))) else some (s_55, (-2))))))))))))))))))
set_option maxHeartbeats 8000000 in
set_option maxRecDepth 100000 in
theorem cc_Face_path (l : Launch) (D : va_G) (cT : Nat → ClassId) (tt : Nat → Nat) (b1 b : Nat) (hb1 : b1 ≤ b) (n : Nat) (σ : gb_S) (p1 : Int32) (p2 : Int32) (p3 : Int32) (p4 : Int32) (p5 : Int32) (σE : gb_S) (rE : Int32) (h : cs_Face_path n σ p1 p2 p3 p4 p5 = some (σE, rE)) : Met l yX11_path (.code yX11_path cX11_path 7 (some FieldType.int) :: gb_wA) ({ frames := 6, cells := 0, slots := 0, locals := 148 }) (gb_Pc D cT tt b1 [.ref (b + 0), .int p1, .int p2, .int p3, .int p4, .int p5] (fun h => va_P D vwCl (gb_wl b (gb_CW cT b σ)) h)) (gb_Qi (fun r h => r = rE ∧ va_P D vwCl (gb_wl b (gb_CW cT b σE)) h) (gb_fr b 135)) 0 0 (gb_fr b 135) := by
  refine Met.ofW (cc := cX11_path) (maxL := 7) (ret := (some FieldType.int)) (by decide) rfl ?_
  intro p e s m args below meth c s₁ B hml hv
  obtain ⟨rfl, hSt, hP⟩ := hv
  have hx := B.exec
  have hb := B.bytes
  have hr := B.returns
  have hts := atoms_spec (ws := .code yX11_path cX11_path 7 (some FieldType.int) :: gb_wA) B.pre
  have hq : ∀ w ∈ gb_wA, w.before _ s = true := fun w h => hts w (List.mem_cons_of_mem _ h)
  have hown : s.vm.findClass RX11 = some m.cls := findClass_of_methodNamed B.named
  have hlocks := B.notSynchronized
  clear B hts
  have hK := hSt.1
  have hS : va_S (gb_fr b 135) s.heap s.heap [] := va_S.rf
  have hl := lv_entry ([.ref (b + 0), .int p1, .int p2, .int p3, .int p4, .int p5]) (n := 7) (Nat.le_of_ble_eq_true rfl)
  rw [lg_entry_eq]
  generalize (lg_sl ([.ref (b + 0), .int p1, .int p2, .int p3, .int p4, .int p5]) ++ List.replicate (7 - (lg_sl ([.ref (b + 0), .int p1, .int p2, .int p3, .int p4, .int p5])).length) Slot.unset).toArray = ls at hl ⊢
  replace hl : lv_has ls 7 [(0, .ref (b + 0)), (1, .int p1), (2, .int p2), (3, .int p3), (4, .int p4), (5, .int p5)] := hl
  unfold cs_Face_path at h
  refine lv_aload_n hx hb dX11_path_0 rfl (lv_at hl 0 rfl) ?_
  refine lv_iload_n hx hb dX11_path_1 rfl (lv_at hl 1 rfl) ?_
  obtain ⟨s_1, r_2, z_3, h⟩ := gb_cd_s h
  refine gb_callq (va_runV (C := RX11) (As := [.int p1]) (rest := []) ⟨hx, hb, hml, hown, hq⟩ (cc_Face_borderAt l D cT tt b1 b hb1 n σ p1 s_1 r_2 z_3) (cwV 1 hq (gb_gV w_593 w_595 s_1_7 w_1 w_596) rfl rfl rfl (by decide +kernel) ⟨Nat.le_of_ble_eq_true rfl, Nat.le_of_ble_eq_true rfl⟩) (gb_preV (r := (RX11, TX11, 10)) (ci := 9) (q0 := 0) hSt hP rfl (gb_at b rfl) hS (fun q h => Nat.le_trans hb1 h.1) hP) rfl rfl hl.1 rfl (lv_room (Nat.le_of_ble_eq_true rfl)) dX11_path_2 ⟨Nat.le_of_ble_eq_true rfl, Nat.le_of_ble_eq_true rfl⟩) hS (fun _ h => h) (fun _ h => h) (fun q_4 H locs hY hk hS => ?_)
  obtain ⟨hq_4, hP⟩ := hY
  subst hq_4
  rw [gb_onv]
  by_cases c_5 : r_2 = 0
  · rw [if_pos c_5] at h
    rw [gb_nv0 c_5]
    refine lv_astoreN (lv' := [(6, .null), (0, .ref (b + 0)), (1, .int p1), (2, .int p2), (3, .int p3), (4, .int p4), (5, .int p5)]) hx hb dX11_path_5 hl (by decide) rfl (fun ls hl => ?_)
    refine lv_aloadN hx hb dX11_path_7 (lv_at hl 0 rfl) ?_
    refine lv_ifnullN (tgt := 37) hx hb dX11_path_9 (by decide) ?_
    refine lv_bipush (v := (-2)) hx hb dX11_path_37 (by decide) ?_
    obtain ⟨e1, e2⟩ := gb_eq2 h
    exact W.iret (v := (-2)) hx hb hr (fun t ht hW => gb_ri ht ⟨e2, by rw [← e1]; exact hP⟩ hS) hS.2.2 dX11_path_39
  rw [if_neg c_5] at h
  rw [gb_nv1 c_5]
  obtain ⟨z_6, h⟩ := gb_kk_s h
  refine lv_astore (lv' := [(6, .ref (b + r_2)), (0, .ref (b + 0)), (1, .int p1), (2, .int p2), (3, .int p3), (4, .int p4), (5, .int p5)]) hx hb dX11_path_5 hl (by decide) rfl (fun ls hl => ?_)
  refine lv_aload hx hb dX11_path_7 (lv_at hl 0 rfl) ?_
  refine lv_ifnull hx hb dX11_path_9 ?_
  refine lv_aload hx hb dX11_path_12 (lv_at hl 0 rfl) ?_
  refine lv_iload hx hb dX11_path_14 (lv_at hl 5 rfl) ?_
  obtain ⟨s_7, r_8, z_9, h⟩ := gb_cd_s h
  refine gb_calli (va_runV (C := RX0) (As := [.int p4]) (rest := []) ⟨hx, hb, hml, hown, hq⟩ (cc_Border_hasPath_B l D cT tt b1 b hb1 n s_1 r_2 p4 s_7 r_8 z_9) (cwV 1 hq (gb_gV w_620 w_608 w_609 w_4 w_610) rfl rfl rfl (by decide +kernel) ⟨Nat.le_of_ble_eq_true rfl, Nat.le_of_ble_eq_true rfl⟩) (gb_preV (r := (RX0, TX0, 1)) (ci := 0) (q0 := r_2) hSt hP rfl (gb_at b (gb_cB z_6).1) hS (fun q h => Nat.le_trans hb1 h.1) hP) rfl rfl hl.1 rfl (lv_room (Nat.le_of_ble_eq_true rfl)) dX11_path_16 ⟨Nat.le_of_ble_eq_true rfl, Nat.le_of_ble_eq_true rfl⟩) hS (fun _ h => h) (fun _ h => h) (fun q_10 H locs hY hk hS => ?_)
  obtain ⟨hq_10, hP⟩ := hY
  replace hq_10 := hq_10.symm
  subst hq_10
  refine lv_if_eq (tgt := 37) hx hb dX11_path_19 (by decide) (fun c_11 => ?_) (fun c_11 => ?_)
  · rw [if_pos c_11] at h
    refine lv_bipush (v := (-2)) hx hb dX11_path_37 (by decide) ?_
    obtain ⟨e1, e2⟩ := gb_eq2 h
    exact W.iret (v := (-2)) hx hb hr (fun t ht hW => gb_ri ht ⟨e2, by rw [← e1]; exact hP⟩ hS) hS.2.2 dX11_path_39
  · rw [if_neg c_11] at h
    refine lv_aload_n hx hb dX11_path_22 rfl (lv_at hl 1 rfl) ?_
    refine lv_aload hx hb dX11_path_23 (lv_at hl 0 rfl) ?_
    refine lv_aload_n hx hb dX11_path_25 rfl (lv_at hl 1 rfl) ?_
    refine lv_iload_n hx hb dX11_path_26 rfl (lv_at hl 3 rfl) ?_
    obtain ⟨s_12, r_13, z_14, h⟩ := gb_cd_s h
    refine gb_callq (va_runV (C := RX11) (As := [.int p2]) (rest := [.ref (b + r_2), .ref (b + 0)]) ⟨hx, hb, hml, hown, hq⟩ (cc_Face_nightAt l D cT tt b1 b hb1 n s_7 p2 s_12 r_13 z_14) (cwV 1 hq (gb_gV w_646 w_648 s_1_8 w_1 w_649) rfl rfl rfl (by decide +kernel) ⟨Nat.le_of_ble_eq_true rfl, Nat.le_of_ble_eq_true rfl⟩) (gb_preV (r := (RX11, TX11, 10)) (ci := 9) (q0 := 0) hSt hP rfl (gb_at b rfl) hS (fun q h => Nat.le_trans hb1 h.1) hP) rfl rfl hl.1 rfl (lv_room (Nat.le_of_ble_eq_true rfl)) dX11_path_27 ⟨Nat.le_of_ble_eq_true rfl, Nat.le_of_ble_eq_true rfl⟩) hS (fun _ h => h) (fun _ h => h) (fun q_15 H locs hY hk hS => ?_)
    obtain ⟨hq_15, hP⟩ := hY
    subst hq_15
    rw [gb_onv]
    by_cases c_16 : r_13 = 0
    · rw [if_pos c_16] at h
      rw [gb_nv0 c_16]
      refine lv_iload_n hx hb dX11_path_30 rfl (lv_at hl 4 rfl) ?_
      obtain ⟨s_17, r_18, z_19, h⟩ := gb_cd_s h
      refine gb_calli (va_runV (C := RX11) (As := [.ref (b + r_2), .null, .int p3]) (rest := []) ⟨hx, hb, hml, hown, hq⟩ (cc_Face_playedTo_B_n l D cT tt b1 b hb1 n s_12 r_2 p3 s_17 r_18 z_19) (cwV 3 hq (gb_gV w_763 w_765 s_2_1 w_1 w_766) rfl rfl rfl (by decide +kernel) ⟨Nat.le_of_ble_eq_true rfl, Nat.le_of_ble_eq_true rfl⟩) (gb_preV (r := (RX11, TX11, 10)) (ci := 9) (q0 := 0) hSt hP rfl (gb_at b rfl) hS (fun q h => Nat.le_trans hb1 h.1) hP) rfl rfl hl.1 rfl (lv_room (Nat.le_of_ble_eq_true rfl)) dX11_path_31 ⟨Nat.le_of_ble_eq_true rfl, Nat.le_of_ble_eq_true rfl⟩) hS (fun _ h => h) (fun _ h => h) (fun q_20 H locs hY hk hS => ?_)
      obtain ⟨hq_20, hP⟩ := hY
      replace hq_20 := hq_20.symm
      subst hq_20
      refine lv_if_ne (tgt := 40) hx hb dX11_path_34 (by decide) (fun c_21 => ?_) (fun c_21 => ?_)
      · rw [if_neg c_21] at h
        refine lv_iload hx hb dX11_path_40 (lv_at hl 6 rfl) ?_
        by_cases c_22 : p5 = (0 : Int32)
        · rw [if_pos c_22] at h
          refine lv_tableIn (off := 38) (tgt := 80) hx hb dX11_path_42 (by rw [c_22]; decide) (by rw [c_22]; decide) (by rw [c_22]; decide) (by decide) ?_
          refine lv_aload_n hx hb dX11_path_80 rfl (lv_at hl 1 rfl) ?_
          refine va_get (ci := 9) (v := (.ref (b + 109))) (C := RX11) (T := TX11) (N := 10) hx hb hq i_X11 hown hK hP 0 (gb_at b rfl) rfl 6 (by decide) (hq _ w_321) (fun _ h9 => h9) rfl dX11_path_81 ?_
          refine va_get (ci := 5) (v := (.ref (b + 116))) (C := RX6) (T := TX6) (N := 12) hx hb hq i_X6 hown hK hP 109 (gb_at b rfl) rfl 5 (by decide) (hq _ w_207) (fun _ h9 => h9) rfl dX11_path_84 ?_
          refine lv_iload hx hb dX11_path_87 (lv_at hl 5 rfl) ?_
          obtain ⟨z_23, h⟩ := gb_ck_s h
          refine va_iald hx hb hK hP 116 0 (gb_at b rfl) rfl z_23 dX11_path_89 ?_
          refine lv_topi (fun x_24 ex_24 => ?_)
          replace h := gb_lt_s ex_24 h
          obtain ⟨e1, e2⟩ := gb_eq2 h
          exact W.iret (v := x_24) hx hb hr (fun t ht hW => gb_ri ht ⟨e2, by rw [← e1]; exact hP⟩ hS) hS.2.2 dX11_path_90
        rw [if_neg c_22] at h
        by_cases c_25 : p5 = (1 : Int32)
        · rw [if_pos c_25] at h
          refine lv_tableIn (off := 49) (tgt := 91) hx hb dX11_path_42 (by rw [c_25]; decide) (by rw [c_25]; decide) (by rw [c_25]; decide) (by decide) ?_
          refine lv_aload_n hx hb dX11_path_91 rfl (lv_at hl 1 rfl) ?_
          refine va_get (ci := 9) (v := (.ref (b + 109))) (C := RX11) (T := TX11) (N := 10) hx hb hq i_X11 hown hK hP 0 (gb_at b rfl) rfl 6 (by decide) (hq _ w_321) (fun _ h9 => h9) rfl dX11_path_92 ?_
          refine va_get (ci := 5) (v := (.ref (b + 117))) (C := RX6) (T := TX6) (N := 12) hx hb hq i_X6 hown hK hP 109 (gb_at b rfl) rfl 6 (by decide) (hq _ w_209) (fun _ h9 => h9) rfl dX11_path_95 ?_
          refine lv_iload hx hb dX11_path_98 (lv_at hl 5 rfl) ?_
          obtain ⟨z_26, h⟩ := gb_ck_s h
          refine va_iald hx hb hK hP 117 0 (gb_at b rfl) rfl z_26 dX11_path_100 ?_
          refine lv_topi (fun x_27 ex_27 => ?_)
          replace h := gb_lt_s ex_27 h
          obtain ⟨e1, e2⟩ := gb_eq2 h
          exact W.iret (v := x_27) hx hb hr (fun t ht hW => gb_ri ht ⟨e2, by rw [← e1]; exact hP⟩ hS) hS.2.2 dX11_path_101
        rw [if_neg c_25] at h
        by_cases c_28 : p5 = (2 : Int32)
        · rw [if_pos c_28] at h
          refine lv_tableIn (off := 60) (tgt := 102) hx hb dX11_path_42 (by rw [c_28]; decide) (by rw [c_28]; decide) (by rw [c_28]; decide) (by decide) ?_
          refine lv_aload_n hx hb dX11_path_102 rfl (lv_at hl 1 rfl) ?_
          refine va_get (ci := 9) (v := (.ref (b + 109))) (C := RX11) (T := TX11) (N := 10) hx hb hq i_X11 hown hK hP 0 (gb_at b rfl) rfl 6 (by decide) (hq _ w_321) (fun _ h9 => h9) rfl dX11_path_103 ?_
          refine lv_iload hx hb dX11_path_106 (lv_at hl 5 rfl) ?_
          obtain ⟨s_29, r_30, z_31, h⟩ := gb_cd_s h
          refine gb_calli (va_runV (C := RX6) (As := [.int p4]) (rest := []) ⟨hx, hb, hml, hown, hq⟩ (cc_Play_tally l D cT tt b1 b hb1 n s_17 p4 s_29 r_30 z_31) (cwV 1 hq (gb_gV w_771 w_772 w_773 w_11 w_774) rfl rfl rfl (by decide +kernel) ⟨Nat.le_of_ble_eq_true rfl, Nat.le_of_ble_eq_true rfl⟩) (gb_preV (r := (RX6, TX6, 12)) (ci := 5) (q0 := 109) hSt hP rfl (gb_at b rfl) hS (fun q h => Nat.le_trans hb1 h.1) hP) rfl rfl hl.1 rfl (lv_room (Nat.le_of_ble_eq_true rfl)) dX11_path_108 ⟨Nat.le_of_ble_eq_true rfl, Nat.le_of_ble_eq_true rfl⟩) hS (fun _ h => h) (fun _ h => h) (fun q_32 H locs hY hk hS => ?_)
          obtain ⟨hq_32, hP⟩ := hY
          replace hq_32 := hq_32.symm
          subst hq_32
          obtain ⟨e1, e2⟩ := gb_eq2 h
          exact W.iret (v := r_30) hx hb hr (fun t ht hW => gb_ri ht ⟨e2, by rw [← e1]; exact hP⟩ hS) hS.2.2 dX11_path_111
        rw [if_neg c_28] at h
        by_cases c_33 : p5 = (3 : Int32)
        · rw [if_pos c_33] at h
          refine lv_tableIn (off := 70) (tgt := 112) hx hb dX11_path_42 (by rw [c_33]; decide) (by rw [c_33]; decide) (by rw [c_33]; decide) (by decide) ?_
          refine lv_aload hx hb dX11_path_112 (lv_at hl 0 rfl) ?_
          refine lv_iload hx hb dX11_path_114 (lv_at hl 5 rfl) ?_
          refine lv_aload_n hx hb dX11_path_116 rfl (lv_at hl 1 rfl) ?_
          refine va_get (ci := 9) (v := (.ref (b + 109))) (C := RX11) (T := TX11) (N := 10) hx hb hq i_X11 hown hK hP 0 (gb_at b rfl) rfl 6 (by decide) (hq _ w_321) (fun _ h9 => h9) rfl dX11_path_117 ?_
          refine lv_iload hx hb dX11_path_120 (lv_at hl 5 rfl) ?_
          obtain ⟨s_34, r_35, z_36, h⟩ := gb_cd_s h
          refine gb_calli (va_runV (C := RX6) (As := [.int p4]) (rest := [.int p4, .ref (b + r_2)]) ⟨hx, hb, hml, hown, hq⟩ (cc_Play_tally l D cT tt b1 b hb1 n s_17 p4 s_34 r_35 z_36) (cwV 1 hq (gb_gV w_771 w_772 w_773 w_11 w_774) rfl rfl rfl (by decide +kernel) ⟨Nat.le_of_ble_eq_true rfl, Nat.le_of_ble_eq_true rfl⟩) (gb_preV (r := (RX6, TX6, 12)) (ci := 5) (q0 := 109) hSt hP rfl (gb_at b rfl) hS (fun q h => Nat.le_trans hb1 h.1) hP) rfl rfl hl.1 rfl (lv_room (Nat.le_of_ble_eq_true rfl)) dX11_path_122 ⟨Nat.le_of_ble_eq_true rfl, Nat.le_of_ble_eq_true rfl⟩) hS (fun _ h => h) (fun _ h => h) (fun q_37 H locs hY hk hS => ?_)
          obtain ⟨hq_37, hP⟩ := hY
          replace hq_37 := hq_37.symm
          subst hq_37
          obtain ⟨s_38, r_39, z_40, h⟩ := gb_cd_s h
          refine gb_calli (va_runV (C := RX0) (As := [.int p4, .int r_35]) (rest := []) ⟨hx, hb, hml, hown, hq⟩ (cc_Border_padded_B l D cT tt b1 b hb1 n s_34 r_2 p4 r_35 s_38 r_39 z_40) (cwV 2 hq (gb_gV w_775 w_776 w_777 w_4 w_778) rfl rfl rfl (by decide +kernel) ⟨Nat.le_of_ble_eq_true rfl, Nat.le_of_ble_eq_true rfl⟩) (gb_preV (r := (RX0, TX0, 1)) (ci := 0) (q0 := r_2) hSt hP rfl (gb_at b (gb_cB z_6).1) hS (fun q h => Nat.le_trans hb1 h.1) hP) rfl rfl hl.1 rfl (lv_room (Nat.le_of_ble_eq_true rfl)) dX11_path_125 ⟨Nat.le_of_ble_eq_true rfl, Nat.le_of_ble_eq_true rfl⟩) hS (fun _ h => h) (fun _ h => h) (fun q_41 H locs hY hk hS => ?_)
          obtain ⟨hq_41, hP⟩ := hY
          replace hq_41 := hq_41.symm
          subst hq_41
          obtain ⟨e1, e2⟩ := gb_eq2 h
          exact W.iret (v := r_39) hx hb hr (fun t ht hW => gb_ri ht ⟨e2, by rw [← e1]; exact hP⟩ hS) hS.2.2 dX11_path_128
        rw [if_neg c_33] at h
        by_cases c_42 : p5 = (4 : Int32)
        · rw [if_pos c_42] at h
          refine lv_tableIn (off := 87) (tgt := 129) hx hb dX11_path_42 (by rw [c_42]; decide) (by rw [c_42]; decide) (by rw [c_42]; decide) (by decide) ?_
          refine lv_aload hx hb dX11_path_129 (lv_at hl 0 rfl) ?_
          refine lv_iload hx hb dX11_path_131 (lv_at hl 5 rfl) ?_
          refine lv_aload_n hx hb dX11_path_133 rfl (lv_at hl 1 rfl) ?_
          refine va_get (ci := 9) (v := (.ref (b + 109))) (C := RX11) (T := TX11) (N := 10) hx hb hq i_X11 hown hK hP 0 (gb_at b rfl) rfl 6 (by decide) (hq _ w_321) (fun _ h9 => h9) rfl dX11_path_134 ?_
          refine lv_iload hx hb dX11_path_137 (lv_at hl 5 rfl) ?_
          obtain ⟨s_43, r_44, z_45, h⟩ := gb_cd_s h
          refine gb_calli (va_runV (C := RX6) (As := [.int p4]) (rest := [.int p4, .ref (b + r_2)]) ⟨hx, hb, hml, hown, hq⟩ (cc_Play_tally l D cT tt b1 b hb1 n s_17 p4 s_43 r_44 z_45) (cwV 1 hq (gb_gV w_771 w_772 w_773 w_11 w_774) rfl rfl rfl (by decide +kernel) ⟨Nat.le_of_ble_eq_true rfl, Nat.le_of_ble_eq_true rfl⟩) (gb_preV (r := (RX6, TX6, 12)) (ci := 5) (q0 := 109) hSt hP rfl (gb_at b rfl) hS (fun q h => Nat.le_trans hb1 h.1) hP) rfl rfl hl.1 rfl (lv_room (Nat.le_of_ble_eq_true rfl)) dX11_path_139 ⟨Nat.le_of_ble_eq_true rfl, Nat.le_of_ble_eq_true rfl⟩) hS (fun _ h => h) (fun _ h => h) (fun q_46 H locs hY hk hS => ?_)
          obtain ⟨hq_46, hP⟩ := hY
          replace hq_46 := hq_46.symm
          subst hq_46
          obtain ⟨s_47, r_48, z_49, h⟩ := gb_cd_s h
          refine gb_calli (va_runV (C := RX0) (As := [.int p4, .int r_44]) (rest := []) ⟨hx, hb, hml, hown, hq⟩ (cc_Border_payOf_B l D cT tt b1 b hb1 n s_43 r_2 p4 r_44 s_47 r_48 z_49) (cwV 2 hq (gb_gV w_783 w_784 w_785 w_4 w_786) rfl rfl rfl (by decide +kernel) ⟨Nat.le_of_ble_eq_true rfl, Nat.le_of_ble_eq_true rfl⟩) (gb_preV (r := (RX0, TX0, 1)) (ci := 0) (q0 := r_2) hSt hP rfl (gb_at b (gb_cB z_6).1) hS (fun q h => Nat.le_trans hb1 h.1) hP) rfl rfl hl.1 rfl (lv_room (Nat.le_of_ble_eq_true rfl)) dX11_path_142 ⟨Nat.le_of_ble_eq_true rfl, Nat.le_of_ble_eq_true rfl⟩) hS (fun _ h => h) (fun _ h => h) (fun q_50 H locs hY hk hS => ?_)
          obtain ⟨hq_50, hP⟩ := hY
          replace hq_50 := hq_50.symm
          subst hq_50
          obtain ⟨e1, e2⟩ := gb_eq2 h
          exact W.iret (v := r_48) hx hb hr (fun t ht hW => gb_ri ht ⟨e2, by rw [← e1]; exact hP⟩ hS) hS.2.2 dX11_path_145
        rw [if_neg c_42] at h
        by_cases c_51 : p5 = (5 : Int32)
        · rw [if_pos c_51] at h
          refine lv_tableIn (off := 104) (tgt := 146) hx hb dX11_path_42 (by rw [c_51]; decide) (by rw [c_51]; decide) (by rw [c_51]; decide) (by decide) ?_
          refine lv_aload_n hx hb dX11_path_146 rfl (lv_at hl 1 rfl) ?_
          refine va_get (ci := 9) (v := (.ref (b + 109))) (C := RX11) (T := TX11) (N := 10) hx hb hq i_X11 hown hK hP 0 (gb_at b rfl) rfl 6 (by decide) (hq _ w_321) (fun _ h9 => h9) rfl dX11_path_147 ?_
          refine va_get (ci := 5) (v := (.ref (b + 118))) (C := RX6) (T := TX6) (N := 12) hx hb hq i_X6 hown hK hP 109 (gb_at b rfl) rfl 7 (by decide) (hq _ w_211) (fun _ h9 => h9) rfl dX11_path_150 ?_
          refine lv_iload hx hb dX11_path_153 (lv_at hl 5 rfl) ?_
          obtain ⟨z_52, h⟩ := gb_ck_s h
          refine va_iald hx hb hK hP 118 0 (gb_at b rfl) rfl z_52 dX11_path_155 ?_
          refine lv_topi (fun x_53 ex_53 => ?_)
          replace h := gb_lt_s ex_53 h
          obtain ⟨e1, e2⟩ := gb_eq2 h
          exact W.iret (v := x_53) hx hb hr (fun t ht hW => gb_ri ht ⟨e2, by rw [← e1]; exact hP⟩ hS) hS.2.2 dX11_path_156
        rw [if_neg c_51] at h
        refine lv_tableOut (tgt := 157) hx hb dX11_path_42 (by have := lv_neT c_22 (a := 0) rfl; have := lv_neT c_25 (a := 1) rfl; have := lv_neT c_28 (a := 2) rfl; have := lv_neT c_33 (a := 3) rfl; have := lv_neT c_42 (a := 4) rfl; have := lv_neT c_51 (a := 5) rfl; omega) (by decide) ?_
        refine lv_bipush (v := (-2)) hx hb dX11_path_157 (by decide) ?_
        obtain ⟨e1, e2⟩ := gb_eq2 h
        exact W.iret (v := (-2)) hx hb hr (fun t ht hW => gb_ri ht ⟨e2, by rw [← e1]; exact hP⟩ hS) hS.2.2 dX11_path_159
      · rw [if_pos c_21] at h
        refine lv_bipush (v := (-2)) hx hb dX11_path_37 (by decide) ?_
        obtain ⟨e1, e2⟩ := gb_eq2 h
        exact W.iret (v := (-2)) hx hb hr (fun t ht hW => gb_ri ht ⟨e2, by rw [← e1]; exact hP⟩ hS) hS.2.2 dX11_path_39
    rw [if_neg c_16] at h
    rw [gb_nv1 c_16]
    obtain ⟨z_54, h⟩ := gb_kk_s h
    refine lv_iload_n hx hb dX11_path_30 rfl (lv_at hl 4 rfl) ?_
    obtain ⟨s_55, r_56, z_57, h⟩ := gb_cd_s h
    refine gb_calli (va_runV (C := RX11) (As := [.ref (b + r_2), .ref (b + r_13), .int p3]) (rest := []) ⟨hx, hb, hml, hown, hq⟩ (cc_Face_playedTo_B_N l D cT tt b1 b hb1 n s_12 r_2 r_13 p3 s_55 r_56 z_57) (cwV 3 hq (gb_gV w_763 w_765 s_2_1 w_1 w_766) rfl rfl rfl (by decide +kernel) ⟨Nat.le_of_ble_eq_true rfl, Nat.le_of_ble_eq_true rfl⟩) (gb_preV (r := (RX11, TX11, 10)) (ci := 9) (q0 := 0) hSt hP rfl (gb_at b rfl) hS (fun q h => Nat.le_trans hb1 h.1) hP) rfl rfl hl.1 rfl (lv_room (Nat.le_of_ble_eq_true rfl)) dX11_path_31 ⟨Nat.le_of_ble_eq_true rfl, Nat.le_of_ble_eq_true rfl⟩) hS (fun _ h => h) (fun _ h => h) (fun q_58 H locs hY hk hS => ?_)
    obtain ⟨hq_58, hP⟩ := hY
    replace hq_58 := hq_58.symm
    subst hq_58
    refine lv_if_ne (tgt := 40) hx hb dX11_path_34 (by decide) (fun c_59 => ?_) (fun c_59 => ?_)
    · rw [if_neg c_59] at h
      refine lv_iload hx hb dX11_path_40 (lv_at hl 6 rfl) ?_
      by_cases c_60 : p5 = (0 : Int32)
      · rw [if_pos c_60] at h
        refine lv_tableIn (off := 38) (tgt := 80) hx hb dX11_path_42 (by rw [c_60]; decide) (by rw [c_60]; decide) (by rw [c_60]; decide) (by decide) ?_
        refine lv_aload_n hx hb dX11_path_80 rfl (lv_at hl 1 rfl) ?_
        refine va_get (ci := 9) (v := (.ref (b + 109))) (C := RX11) (T := TX11) (N := 10) hx hb hq i_X11 hown hK hP 0 (gb_at b rfl) rfl 6 (by decide) (hq _ w_321) (fun _ h9 => h9) rfl dX11_path_81 ?_
        refine va_get (ci := 5) (v := (.ref (b + 116))) (C := RX6) (T := TX6) (N := 12) hx hb hq i_X6 hown hK hP 109 (gb_at b rfl) rfl 5 (by decide) (hq _ w_207) (fun _ h9 => h9) rfl dX11_path_84 ?_
        refine lv_iload hx hb dX11_path_87 (lv_at hl 5 rfl) ?_
        obtain ⟨z_61, h⟩ := gb_ck_s h
        refine va_iald hx hb hK hP 116 0 (gb_at b rfl) rfl z_61 dX11_path_89 ?_
        refine lv_topi (fun x_62 ex_62 => ?_)
        replace h := gb_lt_s ex_62 h
        obtain ⟨e1, e2⟩ := gb_eq2 h
        exact W.iret (v := x_62) hx hb hr (fun t ht hW => gb_ri ht ⟨e2, by rw [← e1]; exact hP⟩ hS) hS.2.2 dX11_path_90
      rw [if_neg c_60] at h
      by_cases c_63 : p5 = (1 : Int32)
      · rw [if_pos c_63] at h
        refine lv_tableIn (off := 49) (tgt := 91) hx hb dX11_path_42 (by rw [c_63]; decide) (by rw [c_63]; decide) (by rw [c_63]; decide) (by decide) ?_
        refine lv_aload_n hx hb dX11_path_91 rfl (lv_at hl 1 rfl) ?_
        refine va_get (ci := 9) (v := (.ref (b + 109))) (C := RX11) (T := TX11) (N := 10) hx hb hq i_X11 hown hK hP 0 (gb_at b rfl) rfl 6 (by decide) (hq _ w_321) (fun _ h9 => h9) rfl dX11_path_92 ?_
        refine va_get (ci := 5) (v := (.ref (b + 117))) (C := RX6) (T := TX6) (N := 12) hx hb hq i_X6 hown hK hP 109 (gb_at b rfl) rfl 6 (by decide) (hq _ w_209) (fun _ h9 => h9) rfl dX11_path_95 ?_
        refine lv_iload hx hb dX11_path_98 (lv_at hl 5 rfl) ?_
        obtain ⟨z_64, h⟩ := gb_ck_s h
        refine va_iald hx hb hK hP 117 0 (gb_at b rfl) rfl z_64 dX11_path_100 ?_
        refine lv_topi (fun x_65 ex_65 => ?_)
        replace h := gb_lt_s ex_65 h
        obtain ⟨e1, e2⟩ := gb_eq2 h
        exact W.iret (v := x_65) hx hb hr (fun t ht hW => gb_ri ht ⟨e2, by rw [← e1]; exact hP⟩ hS) hS.2.2 dX11_path_101
      rw [if_neg c_63] at h
      by_cases c_66 : p5 = (2 : Int32)
      · rw [if_pos c_66] at h
        refine lv_tableIn (off := 60) (tgt := 102) hx hb dX11_path_42 (by rw [c_66]; decide) (by rw [c_66]; decide) (by rw [c_66]; decide) (by decide) ?_
        refine lv_aload_n hx hb dX11_path_102 rfl (lv_at hl 1 rfl) ?_
        refine va_get (ci := 9) (v := (.ref (b + 109))) (C := RX11) (T := TX11) (N := 10) hx hb hq i_X11 hown hK hP 0 (gb_at b rfl) rfl 6 (by decide) (hq _ w_321) (fun _ h9 => h9) rfl dX11_path_103 ?_
        refine lv_iload hx hb dX11_path_106 (lv_at hl 5 rfl) ?_
        obtain ⟨s_67, r_68, z_69, h⟩ := gb_cd_s h
        refine gb_calli (va_runV (C := RX6) (As := [.int p4]) (rest := []) ⟨hx, hb, hml, hown, hq⟩ (cc_Play_tally l D cT tt b1 b hb1 n s_55 p4 s_67 r_68 z_69) (cwV 1 hq (gb_gV w_771 w_772 w_773 w_11 w_774) rfl rfl rfl (by decide +kernel) ⟨Nat.le_of_ble_eq_true rfl, Nat.le_of_ble_eq_true rfl⟩) (gb_preV (r := (RX6, TX6, 12)) (ci := 5) (q0 := 109) hSt hP rfl (gb_at b rfl) hS (fun q h => Nat.le_trans hb1 h.1) hP) rfl rfl hl.1 rfl (lv_room (Nat.le_of_ble_eq_true rfl)) dX11_path_108 ⟨Nat.le_of_ble_eq_true rfl, Nat.le_of_ble_eq_true rfl⟩) hS (fun _ h => h) (fun _ h => h) (fun q_70 H locs hY hk hS => ?_)
        obtain ⟨hq_70, hP⟩ := hY
        replace hq_70 := hq_70.symm
        subst hq_70
        obtain ⟨e1, e2⟩ := gb_eq2 h
        exact W.iret (v := r_68) hx hb hr (fun t ht hW => gb_ri ht ⟨e2, by rw [← e1]; exact hP⟩ hS) hS.2.2 dX11_path_111
      rw [if_neg c_66] at h
      by_cases c_71 : p5 = (3 : Int32)
      · rw [if_pos c_71] at h
        refine lv_tableIn (off := 70) (tgt := 112) hx hb dX11_path_42 (by rw [c_71]; decide) (by rw [c_71]; decide) (by rw [c_71]; decide) (by decide) ?_
        refine lv_aload hx hb dX11_path_112 (lv_at hl 0 rfl) ?_
        refine lv_iload hx hb dX11_path_114 (lv_at hl 5 rfl) ?_
        refine lv_aload_n hx hb dX11_path_116 rfl (lv_at hl 1 rfl) ?_
        refine va_get (ci := 9) (v := (.ref (b + 109))) (C := RX11) (T := TX11) (N := 10) hx hb hq i_X11 hown hK hP 0 (gb_at b rfl) rfl 6 (by decide) (hq _ w_321) (fun _ h9 => h9) rfl dX11_path_117 ?_
        refine lv_iload hx hb dX11_path_120 (lv_at hl 5 rfl) ?_
        obtain ⟨s_72, r_73, z_74, h⟩ := gb_cd_s h
        refine gb_calli (va_runV (C := RX6) (As := [.int p4]) (rest := [.int p4, .ref (b + r_2)]) ⟨hx, hb, hml, hown, hq⟩ (cc_Play_tally l D cT tt b1 b hb1 n s_55 p4 s_72 r_73 z_74) (cwV 1 hq (gb_gV w_771 w_772 w_773 w_11 w_774) rfl rfl rfl (by decide +kernel) ⟨Nat.le_of_ble_eq_true rfl, Nat.le_of_ble_eq_true rfl⟩) (gb_preV (r := (RX6, TX6, 12)) (ci := 5) (q0 := 109) hSt hP rfl (gb_at b rfl) hS (fun q h => Nat.le_trans hb1 h.1) hP) rfl rfl hl.1 rfl (lv_room (Nat.le_of_ble_eq_true rfl)) dX11_path_122 ⟨Nat.le_of_ble_eq_true rfl, Nat.le_of_ble_eq_true rfl⟩) hS (fun _ h => h) (fun _ h => h) (fun q_75 H locs hY hk hS => ?_)
        obtain ⟨hq_75, hP⟩ := hY
        replace hq_75 := hq_75.symm
        subst hq_75
        obtain ⟨s_76, r_77, z_78, h⟩ := gb_cd_s h
        refine gb_calli (va_runV (C := RX0) (As := [.int p4, .int r_73]) (rest := []) ⟨hx, hb, hml, hown, hq⟩ (cc_Border_padded_B l D cT tt b1 b hb1 n s_72 r_2 p4 r_73 s_76 r_77 z_78) (cwV 2 hq (gb_gV w_775 w_776 w_777 w_4 w_778) rfl rfl rfl (by decide +kernel) ⟨Nat.le_of_ble_eq_true rfl, Nat.le_of_ble_eq_true rfl⟩) (gb_preV (r := (RX0, TX0, 1)) (ci := 0) (q0 := r_2) hSt hP rfl (gb_at b (gb_cB z_6).1) hS (fun q h => Nat.le_trans hb1 h.1) hP) rfl rfl hl.1 rfl (lv_room (Nat.le_of_ble_eq_true rfl)) dX11_path_125 ⟨Nat.le_of_ble_eq_true rfl, Nat.le_of_ble_eq_true rfl⟩) hS (fun _ h => h) (fun _ h => h) (fun q_79 H locs hY hk hS => ?_)
        obtain ⟨hq_79, hP⟩ := hY
        replace hq_79 := hq_79.symm
        subst hq_79
        obtain ⟨e1, e2⟩ := gb_eq2 h
        exact W.iret (v := r_77) hx hb hr (fun t ht hW => gb_ri ht ⟨e2, by rw [← e1]; exact hP⟩ hS) hS.2.2 dX11_path_128
      rw [if_neg c_71] at h
      by_cases c_80 : p5 = (4 : Int32)
      · rw [if_pos c_80] at h
        refine lv_tableIn (off := 87) (tgt := 129) hx hb dX11_path_42 (by rw [c_80]; decide) (by rw [c_80]; decide) (by rw [c_80]; decide) (by decide) ?_
        refine lv_aload hx hb dX11_path_129 (lv_at hl 0 rfl) ?_
        refine lv_iload hx hb dX11_path_131 (lv_at hl 5 rfl) ?_
        refine lv_aload_n hx hb dX11_path_133 rfl (lv_at hl 1 rfl) ?_
        refine va_get (ci := 9) (v := (.ref (b + 109))) (C := RX11) (T := TX11) (N := 10) hx hb hq i_X11 hown hK hP 0 (gb_at b rfl) rfl 6 (by decide) (hq _ w_321) (fun _ h9 => h9) rfl dX11_path_134 ?_
        refine lv_iload hx hb dX11_path_137 (lv_at hl 5 rfl) ?_
        obtain ⟨s_81, r_82, z_83, h⟩ := gb_cd_s h
        refine gb_calli (va_runV (C := RX6) (As := [.int p4]) (rest := [.int p4, .ref (b + r_2)]) ⟨hx, hb, hml, hown, hq⟩ (cc_Play_tally l D cT tt b1 b hb1 n s_55 p4 s_81 r_82 z_83) (cwV 1 hq (gb_gV w_771 w_772 w_773 w_11 w_774) rfl rfl rfl (by decide +kernel) ⟨Nat.le_of_ble_eq_true rfl, Nat.le_of_ble_eq_true rfl⟩) (gb_preV (r := (RX6, TX6, 12)) (ci := 5) (q0 := 109) hSt hP rfl (gb_at b rfl) hS (fun q h => Nat.le_trans hb1 h.1) hP) rfl rfl hl.1 rfl (lv_room (Nat.le_of_ble_eq_true rfl)) dX11_path_139 ⟨Nat.le_of_ble_eq_true rfl, Nat.le_of_ble_eq_true rfl⟩) hS (fun _ h => h) (fun _ h => h) (fun q_84 H locs hY hk hS => ?_)
        obtain ⟨hq_84, hP⟩ := hY
        replace hq_84 := hq_84.symm
        subst hq_84
        obtain ⟨s_85, r_86, z_87, h⟩ := gb_cd_s h
        refine gb_calli (va_runV (C := RX0) (As := [.int p4, .int r_82]) (rest := []) ⟨hx, hb, hml, hown, hq⟩ (cc_Border_payOf_B l D cT tt b1 b hb1 n s_81 r_2 p4 r_82 s_85 r_86 z_87) (cwV 2 hq (gb_gV w_783 w_784 w_785 w_4 w_786) rfl rfl rfl (by decide +kernel) ⟨Nat.le_of_ble_eq_true rfl, Nat.le_of_ble_eq_true rfl⟩) (gb_preV (r := (RX0, TX0, 1)) (ci := 0) (q0 := r_2) hSt hP rfl (gb_at b (gb_cB z_6).1) hS (fun q h => Nat.le_trans hb1 h.1) hP) rfl rfl hl.1 rfl (lv_room (Nat.le_of_ble_eq_true rfl)) dX11_path_142 ⟨Nat.le_of_ble_eq_true rfl, Nat.le_of_ble_eq_true rfl⟩) hS (fun _ h => h) (fun _ h => h) (fun q_88 H locs hY hk hS => ?_)
        obtain ⟨hq_88, hP⟩ := hY
        replace hq_88 := hq_88.symm
        subst hq_88
        obtain ⟨e1, e2⟩ := gb_eq2 h
        exact W.iret (v := r_86) hx hb hr (fun t ht hW => gb_ri ht ⟨e2, by rw [← e1]; exact hP⟩ hS) hS.2.2 dX11_path_145
      rw [if_neg c_80] at h
      by_cases c_89 : p5 = (5 : Int32)
      · rw [if_pos c_89] at h
        refine lv_tableIn (off := 104) (tgt := 146) hx hb dX11_path_42 (by rw [c_89]; decide) (by rw [c_89]; decide) (by rw [c_89]; decide) (by decide) ?_
        refine lv_aload_n hx hb dX11_path_146 rfl (lv_at hl 1 rfl) ?_
        refine va_get (ci := 9) (v := (.ref (b + 109))) (C := RX11) (T := TX11) (N := 10) hx hb hq i_X11 hown hK hP 0 (gb_at b rfl) rfl 6 (by decide) (hq _ w_321) (fun _ h9 => h9) rfl dX11_path_147 ?_
        refine va_get (ci := 5) (v := (.ref (b + 118))) (C := RX6) (T := TX6) (N := 12) hx hb hq i_X6 hown hK hP 109 (gb_at b rfl) rfl 7 (by decide) (hq _ w_211) (fun _ h9 => h9) rfl dX11_path_150 ?_
        refine lv_iload hx hb dX11_path_153 (lv_at hl 5 rfl) ?_
        obtain ⟨z_90, h⟩ := gb_ck_s h
        refine va_iald hx hb hK hP 118 0 (gb_at b rfl) rfl z_90 dX11_path_155 ?_
        refine lv_topi (fun x_91 ex_91 => ?_)
        replace h := gb_lt_s ex_91 h
        obtain ⟨e1, e2⟩ := gb_eq2 h
        exact W.iret (v := x_91) hx hb hr (fun t ht hW => gb_ri ht ⟨e2, by rw [← e1]; exact hP⟩ hS) hS.2.2 dX11_path_156
      rw [if_neg c_89] at h
      refine lv_tableOut (tgt := 157) hx hb dX11_path_42 (by have := lv_neT c_60 (a := 0) rfl; have := lv_neT c_63 (a := 1) rfl; have := lv_neT c_66 (a := 2) rfl; have := lv_neT c_71 (a := 3) rfl; have := lv_neT c_80 (a := 4) rfl; have := lv_neT c_89 (a := 5) rfl; omega) (by decide) ?_
      refine lv_bipush (v := (-2)) hx hb dX11_path_157 (by decide) ?_
      obtain ⟨e1, e2⟩ := gb_eq2 h
      exact W.iret (v := (-2)) hx hb hr (fun t ht hW => gb_ri ht ⟨e2, by rw [← e1]; exact hP⟩ hS) hS.2.2 dX11_path_159
    · rw [if_pos c_59] at h
      refine lv_bipush (v := (-2)) hx hb dX11_path_37 (by decide) ?_
      obtain ⟨e1, e2⟩ := gb_eq2 h
      exact W.iret (v := (-2)) hx hb hr (fun t ht hW => gb_ri ht ⟨e2, by rw [← e1]; exact hP⟩ hS) hS.2.2 dX11_path_39
theorem dX11_state_0 : decode cX11_state 0 = .ok (.aload_n 0, 1) := dc_42 (show ((cX11_state.data.toList.drop 0).take 1).map UInt8.toNat = [42] by decide +kernel)
theorem dX11_state_1 : decode cX11_state 1 = .ok (.iload_n 1, 1) := dc_27 (show ((cX11_state.data.toList.drop 1).take 1).map UInt8.toNat = [27] by decide +kernel)
theorem dX11_state_2 : decode cX11_state 2 = .ok (.invokevirtual 113, 3) := dc_182 (show ((cX11_state.data.toList.drop 2).take 3).map UInt8.toNat = [182, 0, 113] by decide +kernel) rfl
theorem dX11_state_5 : decode cX11_state 5 = .ok (.astore 5, 2) := dc_58 (show ((cX11_state.data.toList.drop 5).take 2).map UInt8.toNat = [58, 5] by decide +kernel) rfl
theorem dX11_state_7 : decode cX11_state 7 = .ok (.aload 5, 2) := dc_25 (show ((cX11_state.data.toList.drop 7).take 2).map UInt8.toNat = [25, 5] by decide +kernel) rfl
theorem dX11_state_9 : decode cX11_state 9 = .ok (.ifnull 18, 3) := dc_198 (show ((cX11_state.data.toList.drop 9).take 3).map UInt8.toNat = [198, 0, 18] by decide +kernel) rfl
theorem dX11_state_27 : decode cX11_state 27 = .ok (.bipush (-2), 2) := dc_16 (show ((cX11_state.data.toList.drop 27).take 2).map UInt8.toNat = [16, 254] by decide +kernel) rfl
theorem dX11_state_29 : decode cX11_state 29 = .ok (.ireturn, 1) := dc_172 (show ((cX11_state.data.toList.drop 29).take 1).map UInt8.toNat = [172] by decide +kernel)
theorem dX11_state_12 : decode cX11_state 12 = .ok (.aload_n 0, 1) := dc_42 (show ((cX11_state.data.toList.drop 12).take 1).map UInt8.toNat = [42] by decide +kernel)
theorem dX11_state_13 : decode cX11_state 13 = .ok (.aload 5, 2) := dc_25 (show ((cX11_state.data.toList.drop 13).take 2).map UInt8.toNat = [25, 5] by decide +kernel) rfl
theorem dX11_state_15 : decode cX11_state 15 = .ok (.aload_n 0, 1) := dc_42 (show ((cX11_state.data.toList.drop 15).take 1).map UInt8.toNat = [42] by decide +kernel)
theorem dX11_state_16 : decode cX11_state 16 = .ok (.iload_n 2, 1) := dc_28 (show ((cX11_state.data.toList.drop 16).take 1).map UInt8.toNat = [28] by decide +kernel)
theorem dX11_state_17 : decode cX11_state 17 = .ok (.invokevirtual 148, 3) := dc_182 (show ((cX11_state.data.toList.drop 17).take 3).map UInt8.toNat = [182, 0, 148] by decide +kernel) rfl
theorem dX11_state_20 : decode cX11_state 20 = .ok (.iload_n 3, 1) := dc_29 (show ((cX11_state.data.toList.drop 20).take 1).map UInt8.toNat = [29] by decide +kernel)
theorem dX11_state_21 : decode cX11_state 21 = .ok (.invokevirtual 202, 3) := dc_182 (show ((cX11_state.data.toList.drop 21).take 3).map UInt8.toNat = [182, 0, 202] by decide +kernel) rfl
theorem dX11_state_24 : decode cX11_state 24 = .ok (.ifCond .ne 6, 3) := dc_154 (show ((cX11_state.data.toList.drop 24).take 3).map UInt8.toNat = [154, 0, 6] by decide +kernel) rfl
theorem dX11_state_30 : decode cX11_state 30 = .ok (.iload 4, 2) := dc_21 (show ((cX11_state.data.toList.drop 30).take 2).map UInt8.toNat = [21, 4] by decide +kernel) rfl
theorem dX11_state_32 : decode cX11_state 32 = .ok (.tableswitch 111 0 8 #[52, 52, 52, 62, 62, 62, 79, 87, 95], 52) := by decide +kernel
theorem dX11_state_84 : decode cX11_state 84 = .ok (.aload_n 0, 1) := dc_42 (show ((cX11_state.data.toList.drop 84).take 1).map UInt8.toNat = [42] by decide +kernel)
theorem dX11_state_85 : decode cX11_state 85 = .ok (.getfield 56, 3) := dc_180 (show ((cX11_state.data.toList.drop 85).take 3).map UInt8.toNat = [180, 0, 56] by decide +kernel) rfl
theorem dX11_state_88 : decode cX11_state 88 = .ok (.iload 4, 2) := dc_21 (show ((cX11_state.data.toList.drop 88).take 2).map UInt8.toNat = [21, 4] by decide +kernel) rfl
theorem dX11_state_90 : decode cX11_state 90 = .ok (.invokevirtual 235, 3) := dc_182 (show ((cX11_state.data.toList.drop 90).take 3).map UInt8.toNat = [182, 0, 235] by decide +kernel) rfl
theorem dX6_whoIs_0 : decode cX6_whoIs 0 = .ok (.iconst 0, 1) := dc_3 (show ((cX6_whoIs.data.toList.drop 0).take 1).map UInt8.toNat = [3] by decide +kernel)
theorem dX6_whoIs_1 : decode cX6_whoIs 1 = .ok (.istore_n 2, 1) := dc_61 (show ((cX6_whoIs.data.toList.drop 1).take 1).map UInt8.toNat = [61] by decide +kernel)
theorem dX6_whoIs_2 : decode cX6_whoIs 2 = .ok (.iconst 0, 1) := dc_3 (show ((cX6_whoIs.data.toList.drop 2).take 1).map UInt8.toNat = [3] by decide +kernel)
theorem dX6_whoIs_3 : decode cX6_whoIs 3 = .ok (.istore_n 3, 1) := dc_62 (show ((cX6_whoIs.data.toList.drop 3).take 1).map UInt8.toNat = [62] by decide +kernel)
theorem dX6_whoIs_4 : decode cX6_whoIs 4 = .ok (.iload_n 3, 1) := dc_29 (show ((cX6_whoIs.data.toList.drop 4).take 1).map UInt8.toNat = [29] by decide +kernel)
theorem dX6_whoIs_5 : decode cX6_whoIs 5 = .ok (.aload_n 0, 1) := dc_42 (show ((cX6_whoIs.data.toList.drop 5).take 1).map UInt8.toNat = [42] by decide +kernel)
theorem dX6_whoIs_6 : decode cX6_whoIs 6 = .ok (.getfield 12, 3) := dc_180 (show ((cX6_whoIs.data.toList.drop 6).take 3).map UInt8.toNat = [180, 0, 12] by decide +kernel) rfl
theorem dX6_whoIs_9 : decode cX6_whoIs 9 = .ok (.invokevirtual 131, 3) := dc_182 (show ((cX6_whoIs.data.toList.drop 9).take 3).map UInt8.toNat = [182, 0, 131] by decide +kernel) rfl
theorem dX6_whoIs_12 : decode cX6_whoIs 12 = .ok (.if_icmp .ge 25, 3) := dc_162 (show ((cX6_whoIs.data.toList.drop 12).take 3).map UInt8.toNat = [162, 0, 25] by decide +kernel) rfl
theorem dX6_whoIs_37 : decode cX6_whoIs 37 = .ok (.iload_n 2, 1) := dc_28 (show ((cX6_whoIs.data.toList.drop 37).take 1).map UInt8.toNat = [28] by decide +kernel)
theorem dX6_whoIs_38 : decode cX6_whoIs 38 = .ok (.ireturn, 1) := dc_172 (show ((cX6_whoIs.data.toList.drop 38).take 1).map UInt8.toNat = [172] by decide +kernel)
theorem dX6_whoIs_15 : decode cX6_whoIs 15 = .ok (.aload_n 0, 1) := dc_42 (show ((cX6_whoIs.data.toList.drop 15).take 1).map UInt8.toNat = [42] by decide +kernel)
theorem dX6_whoIs_16 : decode cX6_whoIs 16 = .ok (.getfield 18, 3) := dc_180 (show ((cX6_whoIs.data.toList.drop 16).take 3).map UInt8.toNat = [180, 0, 18] by decide +kernel) rfl
theorem dX6_whoIs_19 : decode cX6_whoIs 19 = .ok (.iload_n 3, 1) := dc_29 (show ((cX6_whoIs.data.toList.drop 19).take 1).map UInt8.toNat = [29] by decide +kernel)
theorem dX6_whoIs_20 : decode cX6_whoIs 20 = .ok (.iaload, 1) := dc_46 (show ((cX6_whoIs.data.toList.drop 20).take 1).map UInt8.toNat = [46] by decide +kernel)
theorem dX6_whoIs_21 : decode cX6_whoIs 21 = .ok (.iload_n 1, 1) := dc_27 (show ((cX6_whoIs.data.toList.drop 21).take 1).map UInt8.toNat = [27] by decide +kernel)
theorem dX6_whoIs_22 : decode cX6_whoIs 22 = .ok (.if_icmp .ne 9, 3) := dc_160 (show ((cX6_whoIs.data.toList.drop 22).take 3).map UInt8.toNat = [160, 0, 9] by decide +kernel) rfl
theorem dX6_whoIs_31 : decode cX6_whoIs 31 = .ok (.iinc 3 1, 3) := dc_132 (show ((cX6_whoIs.data.toList.drop 31).take 3).map UInt8.toNat = [132, 3, 1] by decide +kernel) rfl
theorem dX6_whoIs_34 : decode cX6_whoIs 34 = .ok (.goto (-30), 3) := dc_167 (show ((cX6_whoIs.data.toList.drop 34).take 3).map UInt8.toNat = [167, 255, 226] by decide +kernel) rfl
theorem dX6_whoIs_25 : decode cX6_whoIs 25 = .ok (.iload_n 2, 1) := dc_28 (show ((cX6_whoIs.data.toList.drop 25).take 1).map UInt8.toNat = [28] by decide +kernel)
theorem dX6_whoIs_26 : decode cX6_whoIs 26 = .ok (.iconst 1, 1) := dc_4 (show ((cX6_whoIs.data.toList.drop 26).take 1).map UInt8.toNat = [4] by decide +kernel)
theorem dX6_whoIs_27 : decode cX6_whoIs 27 = .ok (.iload_n 3, 1) := dc_29 (show ((cX6_whoIs.data.toList.drop 27).take 1).map UInt8.toNat = [29] by decide +kernel)
theorem dX6_whoIs_28 : decode cX6_whoIs 28 = .ok (.ishl, 1) := dc_120 (show ((cX6_whoIs.data.toList.drop 28).take 1).map UInt8.toNat = [120] by decide +kernel)
theorem dX6_whoIs_29 : decode cX6_whoIs 29 = .ok (.ior, 1) := dc_128 (show ((cX6_whoIs.data.toList.drop 29).take 1).map UInt8.toNat = [128] by decide +kernel)
theorem dX6_whoIs_30 : decode cX6_whoIs 30 = .ok (.istore_n 2, 1) := dc_61 (show ((cX6_whoIs.data.toList.drop 30).take 1).map UInt8.toNat = [61] by decide +kernel)
def cs_Play_whoIs_4 (n : Nat) : Nat → gb_S → Int32 → Int32 → Int32 → gb_CR Int32
  | 0, _, _, _, _ => none
  | mm + 1, σ, v1, v2, v3 => gb_kk (gb_kB (σ.2.1 1)) (gb_cd (cs_Border_geese_B n σ (σ.2.1 1)) (fun s_2 r_3 => (if r_3 ≤ v3 then some (s_2, v2) else gb_ck v3 8 (gb_lt ((s_2.1 112) (Int32.toNatClampNeg v3)) (fun x_8 => (if x_8 = v1 then gb_lt (v2 ||| ((1 : Int32) <<< (v3 &&& 31))) (fun x_11 => gb_lt (v3 + 1) (fun x_12 => cs_Play_whoIs_4 n mm s_2 v1 x_11 x_12)) else gb_lt (v3 + 1) (fun x_10 => cs_Play_whoIs_4 n mm s_2 v1 v2 x_10)))))))
def cs_Play_whoIs (n : Nat) (σ : gb_S) (p1 : Int32) : gb_CR Int32 := cs_Play_whoIs_4 n n σ p1 0 0
set_option maxHeartbeats 8000000 in
set_option maxRecDepth 100000 in
theorem cc_Play_whoIs (l : Launch) (D : va_G) (cT : Nat → ClassId) (tt : Nat → Nat) (b1 b : Nat) (hb1 : b1 ≤ b) (n : Nat) (σ : gb_S) (p1 : Int32) (σE : gb_S) (rE : Int32) (h : cs_Play_whoIs n σ p1 = some (σE, rE)) : Met l yX6_whoIs (.code yX6_whoIs cX6_whoIs 4 (some FieldType.int) :: gb_wA) ({ frames := 1, cells := 0, slots := 0, locals := 20 }) (gb_Pc D cT tt b1 [.ref (b + 109), .int p1] (fun h => va_P D vwCl (gb_wl b (gb_CW cT b σ)) h)) (gb_Qi (fun r h => r = rE ∧ va_P D vwCl (gb_wl b (gb_CW cT b σE)) h) (gb_fr b 135)) 0 0 (gb_fr b 135) := by
  refine Met.ofW (cc := cX6_whoIs) (maxL := 4) (ret := (some FieldType.int)) (by decide) rfl ?_
  intro p e s m args below meth c s₁ B hml hv
  obtain ⟨rfl, hSt, hP⟩ := hv
  have hx := B.exec
  have hb := B.bytes
  have hr := B.returns
  have hts := atoms_spec (ws := .code yX6_whoIs cX6_whoIs 4 (some FieldType.int) :: gb_wA) B.pre
  have hq : ∀ w ∈ gb_wA, w.before _ s = true := fun w h => hts w (List.mem_cons_of_mem _ h)
  have hown : s.vm.findClass RX6 = some m.cls := findClass_of_methodNamed B.named
  have hlocks := B.notSynchronized
  clear B hts
  have hK := hSt.1
  have hS : va_S (gb_fr b 135) s.heap s.heap [] := va_S.rf
  have hl := lv_entry ([.ref (b + 109), .int p1]) (n := 4) (Nat.le_of_ble_eq_true rfl)
  rw [lg_entry_eq]
  generalize (lg_sl ([.ref (b + 109), .int p1]) ++ List.replicate (4 - (lg_sl ([.ref (b + 109), .int p1])).length) Slot.unset).toArray = ls at hl ⊢
  replace hl : lv_has ls 4 [(0, .ref (b + 109)), (1, .int p1)] := hl
  have L4_1 : ∀ (mm : Nat) (σ : gb_S) (v1 : Int32) (v2 : Int32) (v3 : Int32) (H : Heap) (locs : List Loc) (ls : Array Slot), cs_Play_whoIs_4 n mm σ v1 v2 v3 = some (σE, rE) → va_P D vwCl (gb_wl b (gb_CW cT b σ)) H → va_S (gb_fr b 135) s.heap H locs → lv_has ls 4 [(0, .ref (b + 109)), (1, .int v1), (2, .int v2), (3, .int v3)] → W p l e (headSpec (.code yX6_whoIs cX6_whoIs 4 (some FieldType.int) :: gb_wA) ({ frames := 1, cells := 0, slots := 0, locals := 20 })).room s m ([.ref (b + 109), .int p1]).toArray below meth c H locs 0 0 (MQ below (gb_Qi (fun r h => r = rE ∧ va_P D vwCl (gb_wl b (gb_CW cT b σE)) h) (gb_fr b 135)) ([.ref (b + 109), .int p1]).toArray s 0 0 (gb_fr b 135)) (F0 m 4 ls []) := by
    clear h hP hS hl ls
    intro mm
    induction mm with
    | zero =>
      intro σ v1 v2 v3 H locs ls h
      cases h
    | succ mm ih =>
      intro σ v1 v2 v3 H locs ls h hP hS hl
      rw [cs_Play_whoIs_4] at h
      refine lv_iload_n hx hb dX6_whoIs_4 rfl (lv_at hl 3 rfl) ?_
      refine lv_aload_n hx hb dX6_whoIs_5 rfl (lv_at hl 0 rfl) ?_
      obtain ⟨z_1, h⟩ := gb_kk_s h
      refine va_get (ci := 5) (v := (.ref (b + (σ.2.1 1)))) (C := RX6) (T := TX6) (N := 12) hx hb hq i_X6 hown hK hP 109 (gb_at b rfl) rfl 0 (by decide) (hq _ w_197) (fun _ h9 => h9) rfl dX6_whoIs_6 ?_
      obtain ⟨s_2, r_3, z_4, h⟩ := gb_cd_s h
      refine gb_calli (va_runV (C := RX0) (As := []) (rest := [.int v3]) ⟨hx, hb, hml, hown, hq⟩ (cc_Border_geese_B l D cT tt b1 b hb1 n σ (σ.2.1 1) s_2 r_3 z_4) (cwV 0 hq (gb_gV w_738 w_477 w_478 w_4 w_479) rfl rfl rfl (by decide +kernel) ⟨Nat.le_of_ble_eq_true rfl, Nat.le_of_ble_eq_true rfl⟩) (gb_preV (r := (RX0, TX0, 1)) (ci := 0) (q0 := (σ.2.1 1)) hSt hP rfl (gb_at b (gb_cB z_1).1) hS (fun q h => Nat.le_trans hb1 h.1) hP) rfl rfl hl.1 rfl (lv_room (Nat.le_of_ble_eq_true rfl)) dX6_whoIs_9 ⟨Nat.le_of_ble_eq_true rfl, Nat.le_of_ble_eq_true rfl⟩) hS (fun _ h => h) (fun _ h => h) (fun q_5 H locs hY hk hS => ?_)
      obtain ⟨hq_5, hP⟩ := hY
      replace hq_5 := hq_5.symm
      subst hq_5
      refine lv_icmp_ge (tgt := 37) hx hb dX6_whoIs_12 (by decide) (fun c_6 => ?_) (fun c_6 => ?_)
      · rw [if_pos c_6] at h
        refine lv_iload_n hx hb dX6_whoIs_37 rfl (lv_at hl 2 rfl) ?_
        obtain ⟨e1, e2⟩ := gb_eq2 h
        exact W.iret (v := v2) hx hb hr (fun t ht hW => gb_ri ht ⟨e2, by rw [← e1]; exact hP⟩ hS) hS.2.2 dX6_whoIs_38
      · rw [if_neg c_6] at h
        refine lv_aload_n hx hb dX6_whoIs_15 rfl (lv_at hl 0 rfl) ?_
        refine va_get (ci := 5) (v := (.ref (b + 112))) (C := RX6) (T := TX6) (N := 12) hx hb hq i_X6 hown hK hP 109 (gb_at b rfl) rfl 1 (by decide) (hq _ w_198) (fun _ h9 => h9) rfl dX6_whoIs_16 ?_
        refine lv_iload_n hx hb dX6_whoIs_19 rfl (lv_at hl 3 rfl) ?_
        obtain ⟨z_7, h⟩ := gb_ck_s h
        refine va_iald hx hb hK hP 112 0 (gb_at b rfl) rfl z_7 dX6_whoIs_20 ?_
        refine lv_topi (fun x_8 ex_8 => ?_)
        replace h := gb_lt_s ex_8 h
        refine lv_iload_n hx hb dX6_whoIs_21 rfl (lv_at hl 1 rfl) ?_
        refine lv_icmp_ne (tgt := 31) hx hb dX6_whoIs_22 (by decide) (fun c_9 => ?_) (fun c_9 => ?_)
        · rw [if_neg c_9] at h
          obtain ⟨x_10, ex_10⟩ : ∃ q, q = (v3 + 1) := ⟨_, rfl⟩
          replace h := gb_lt_s ex_10 h
          refine lv_iinc (v := x_10) (lv' := [(3, .int x_10), (0, .ref (b + 109)), (1, .int v1), (2, .int v2)]) hx hb dX6_whoIs_31 hl (k := 3) rfl (by rw [ex_10]; rfl) (by decide) rfl (fun ls hl => ?_)
          refine lv_goto (tgt := 4) hx hb dX6_whoIs_34 (by decide) ?_
          exact ih _ _ _ _ _ _ _ h hP hS (lv_sub hl [1, 2, 3, 0] rfl)
        · rw [if_pos c_9] at h
          refine lv_iload_n hx hb dX6_whoIs_25 rfl (lv_at hl 2 rfl) ?_
          refine lv_iconst (v := 1) hx hb dX6_whoIs_26 (by decide) ?_
          refine lv_iload_n hx hb dX6_whoIs_27 rfl (lv_at hl 3 rfl) ?_
          refine lv_ishl hx hb dX6_whoIs_28 ?_
          refine lv_ior hx hb dX6_whoIs_29 ?_
          refine lv_topi (fun x_11 ex_11 => ?_)
          replace h := gb_lt_s ex_11 h
          refine lv_istore_n (lv' := [(2, .int x_11), (0, .ref (b + 109)), (1, .int v1), (3, .int v3)]) hx hb dX6_whoIs_30 rfl hl (by decide) rfl (fun ls hl => ?_)
          obtain ⟨x_12, ex_12⟩ : ∃ q, q = (v3 + 1) := ⟨_, rfl⟩
          replace h := gb_lt_s ex_12 h
          refine lv_iinc (v := x_12) (lv' := [(3, .int x_12), (2, .int x_11), (0, .ref (b + 109)), (1, .int v1)]) hx hb dX6_whoIs_31 hl (k := 3) rfl (by rw [ex_12]; rfl) (by decide) rfl (fun ls hl => ?_)
          refine lv_goto (tgt := 4) hx hb dX6_whoIs_34 (by decide) ?_
          exact ih _ _ _ _ _ _ _ h hP hS (lv_sub hl [2, 3, 1, 0] rfl)
  unfold cs_Play_whoIs at h
  refine lv_iconst (v := 0) hx hb dX6_whoIs_0 (by decide) ?_
  refine lv_istore_n (lv' := [(2, .int 0), (0, .ref (b + 109)), (1, .int p1)]) hx hb dX6_whoIs_1 rfl hl (by decide) rfl (fun ls hl => ?_)
  refine lv_iconst (v := 0) hx hb dX6_whoIs_2 (by decide) ?_
  refine lv_istore_n (lv' := [(3, .int 0), (2, .int 0), (0, .ref (b + 109)), (1, .int p1)]) hx hb dX6_whoIs_3 rfl hl (by decide) rfl (fun ls hl => ?_)
  exact L4_1 n _ _ _ _ _ _ _ h hP hS (lv_sub hl [2, 3, 1, 0] rfl)
theorem w_799 : (Cond.code ({ cls := "GooseBorder$Play", name := "whoIs", desc := "(I)I" } : MethodName) prog_8_method_14_code (4 : Nat) (Option.some FieldType.int)) ∈ gb_wA := gb_t4 79 rfl rfl
theorem w_796 : (Cond.methodLink "GooseBorder" (235 : Nat) ({ cls := "GooseBorder$Play", name := "whoIs", desc := "(I)I" } : MethodName)) ∈ gb_wA := gb_t4 76 rfl rfl
theorem w_797 : (Cond.instanceMethod ({ cls := "GooseBorder$Play", name := "whoIs", desc := "(I)I" } : MethodName)) ∈ gb_wA := gb_t4 77 rfl rfl
theorem w_798 : (Cond.selects "GooseBorder$Play" ({ cls := "GooseBorder$Play", name := "whoIs", desc := "(I)I" } : MethodName) ({ cls := "GooseBorder$Play", name := "whoIs", desc := "(I)I" } : MethodName)) ∈ gb_wA := gb_t4 78 rfl rfl
theorem dX11_state_93 : decode cX11_state 93 = .ok (.ireturn, 1) := dc_172 (show ((cX11_state.data.toList.drop 93).take 1).map UInt8.toNat = [172] by decide +kernel)
theorem dX11_state_94 : decode cX11_state 94 = .ok (.aload 5, 2) := dc_25 (show ((cX11_state.data.toList.drop 94).take 2).map UInt8.toNat = [25, 5] by decide +kernel) rfl
theorem dX11_state_96 : decode cX11_state 96 = .ok (.aload_n 0, 1) := dc_42 (show ((cX11_state.data.toList.drop 96).take 1).map UInt8.toNat = [42] by decide +kernel)
theorem dX11_state_97 : decode cX11_state 97 = .ok (.getfield 56, 3) := dc_180 (show ((cX11_state.data.toList.drop 97).take 3).map UInt8.toNat = [180, 0, 56] by decide +kernel) rfl
theorem dX11_state_100 : decode cX11_state 100 = .ok (.iload 4, 2) := dc_21 (show ((cX11_state.data.toList.drop 100).take 2).map UInt8.toNat = [21, 4] by decide +kernel) rfl
theorem dX11_state_102 : decode cX11_state 102 = .ok (.iconst 3, 1) := dc_6 (show ((cX11_state.data.toList.drop 102).take 1).map UInt8.toNat = [6] by decide +kernel)
theorem dX11_state_103 : decode cX11_state 103 = .ok (.isub, 1) := dc_100 (show ((cX11_state.data.toList.drop 103).take 1).map UInt8.toNat = [100] by decide +kernel)
theorem dX11_state_104 : decode cX11_state 104 = .ok (.invokevirtual 235, 3) := dc_182 (show ((cX11_state.data.toList.drop 104).take 3).map UInt8.toNat = [182, 0, 235] by decide +kernel) rfl
theorem dX11_state_107 : decode cX11_state 107 = .ok (.invokevirtual 238, 3) := dc_182 (show ((cX11_state.data.toList.drop 107).take 3).map UInt8.toNat = [182, 0, 238] by decide +kernel) rfl
theorem w_803 : (Cond.code ({ cls := "GooseBorder$Border", name := "worthOf", desc := "(I)I" } : MethodName) prog_2_method_19_code (4 : Nat) (Option.some FieldType.int)) ∈ gb_wA := gb_t4 83 rfl rfl
theorem w_800 : (Cond.methodLink "GooseBorder" (238 : Nat) ({ cls := "GooseBorder$Border", name := "worthOf", desc := "(I)I" } : MethodName)) ∈ gb_wA := gb_t4 80 rfl rfl
theorem w_801 : (Cond.instanceMethod ({ cls := "GooseBorder$Border", name := "worthOf", desc := "(I)I" } : MethodName)) ∈ gb_wA := gb_t4 81 rfl rfl
theorem w_802 : (Cond.selects "GooseBorder$Border" ({ cls := "GooseBorder$Border", name := "worthOf", desc := "(I)I" } : MethodName) ({ cls := "GooseBorder$Border", name := "worthOf", desc := "(I)I" } : MethodName)) ∈ gb_wA := gb_t4 82 rfl rfl
theorem dX11_state_110 : decode cX11_state 110 = .ok (.ireturn, 1) := dc_172 (show ((cX11_state.data.toList.drop 110).take 1).map UInt8.toNat = [172] by decide +kernel)
theorem dX11_state_111 : decode cX11_state 111 = .ok (.aload_n 0, 1) := dc_42 (show ((cX11_state.data.toList.drop 111).take 1).map UInt8.toNat = [42] by decide +kernel)
theorem dX11_state_112 : decode cX11_state 112 = .ok (.getfield 56, 3) := dc_180 (show ((cX11_state.data.toList.drop 112).take 3).map UInt8.toNat = [180, 0, 56] by decide +kernel) rfl
theorem dX11_state_115 : decode cX11_state 115 = .ok (.invokevirtual 241, 3) := dc_182 (show ((cX11_state.data.toList.drop 115).take 3).map UInt8.toNat = [182, 0, 241] by decide +kernel) rfl
theorem dX6_worn_0 : decode cX6_worn 0 = .ok (.iconst 0, 1) := dc_3 (show ((cX6_worn.data.toList.drop 0).take 1).map UInt8.toNat = [3] by decide +kernel)
theorem dX6_worn_1 : decode cX6_worn 1 = .ok (.istore_n 1, 1) := dc_60 (show ((cX6_worn.data.toList.drop 1).take 1).map UInt8.toNat = [60] by decide +kernel)
theorem dX6_worn_2 : decode cX6_worn 2 = .ok (.iconst 0, 1) := dc_3 (show ((cX6_worn.data.toList.drop 2).take 1).map UInt8.toNat = [3] by decide +kernel)
theorem dX6_worn_3 : decode cX6_worn 3 = .ok (.istore_n 2, 1) := dc_61 (show ((cX6_worn.data.toList.drop 3).take 1).map UInt8.toNat = [61] by decide +kernel)
theorem dX6_worn_4 : decode cX6_worn 4 = .ok (.iload_n 2, 1) := dc_28 (show ((cX6_worn.data.toList.drop 4).take 1).map UInt8.toNat = [28] by decide +kernel)
theorem dX6_worn_5 : decode cX6_worn 5 = .ok (.aload_n 0, 1) := dc_42 (show ((cX6_worn.data.toList.drop 5).take 1).map UInt8.toNat = [42] by decide +kernel)
theorem dX6_worn_6 : decode cX6_worn 6 = .ok (.getfield 12, 3) := dc_180 (show ((cX6_worn.data.toList.drop 6).take 3).map UInt8.toNat = [180, 0, 12] by decide +kernel) rfl
theorem dX6_worn_9 : decode cX6_worn 9 = .ok (.invokevirtual 131, 3) := dc_182 (show ((cX6_worn.data.toList.drop 9).take 3).map UInt8.toNat = [182, 0, 131] by decide +kernel) rfl
theorem dX6_worn_12 : decode cX6_worn 12 = .ok (.if_icmp .ge 57, 3) := dc_162 (show ((cX6_worn.data.toList.drop 12).take 3).map UInt8.toNat = [162, 0, 57] by decide +kernel) rfl
theorem dX6_worn_69 : decode cX6_worn 69 = .ok (.iload_n 1, 1) := dc_27 (show ((cX6_worn.data.toList.drop 69).take 1).map UInt8.toNat = [27] by decide +kernel)
theorem dX6_worn_70 : decode cX6_worn 70 = .ok (.ireturn, 1) := dc_172 (show ((cX6_worn.data.toList.drop 70).take 1).map UInt8.toNat = [172] by decide +kernel)
theorem dX6_worn_15 : decode cX6_worn 15 = .ok (.aload_n 0, 1) := dc_42 (show ((cX6_worn.data.toList.drop 15).take 1).map UInt8.toNat = [42] by decide +kernel)
theorem dX6_worn_16 : decode cX6_worn 16 = .ok (.getfield 12, 3) := dc_180 (show ((cX6_worn.data.toList.drop 16).take 3).map UInt8.toNat = [180, 0, 12] by decide +kernel) rfl
theorem dX6_worn_19 : decode cX6_worn 19 = .ok (.iload_n 2, 1) := dc_28 (show ((cX6_worn.data.toList.drop 19).take 1).map UInt8.toNat = [28] by decide +kernel)
theorem dX6_worn_20 : decode cX6_worn 20 = .ok (.invokevirtual 47, 3) := dc_182 (show ((cX6_worn.data.toList.drop 20).take 3).map UInt8.toNat = [182, 0, 47] by decide +kernel) rfl
theorem dX6_worn_23 : decode cX6_worn 23 = .ok (.ifCond .gt 15, 3) := dc_157 (show ((cX6_worn.data.toList.drop 23).take 3).map UInt8.toNat = [157, 0, 15] by decide +kernel) rfl
theorem dX6_worn_38 : decode cX6_worn 38 = .ok (.iconst 1, 1) := dc_4 (show ((cX6_worn.data.toList.drop 38).take 1).map UInt8.toNat = [4] by decide +kernel)
theorem dX6_worn_39 : decode cX6_worn 39 = .ok (.goto 4, 3) := dc_167 (show ((cX6_worn.data.toList.drop 39).take 3).map UInt8.toNat = [167, 0, 4] by decide +kernel) rfl
theorem dX6_worn_43 : decode cX6_worn 43 = .ok (.istore_n 3, 1) := dc_62 (show ((cX6_worn.data.toList.drop 43).take 1).map UInt8.toNat = [62] by decide +kernel)
theorem dX6_worn_44 : decode cX6_worn 44 = .ok (.iload_n 3, 1) := dc_29 (show ((cX6_worn.data.toList.drop 44).take 1).map UInt8.toNat = [29] by decide +kernel)
theorem dX6_worn_45 : decode cX6_worn 45 = .ok (.ifCond .eq 18, 3) := dc_153 (show ((cX6_worn.data.toList.drop 45).take 3).map UInt8.toNat = [153, 0, 18] by decide +kernel) rfl
theorem dX6_worn_63 : decode cX6_worn 63 = .ok (.iinc 2 1, 3) := dc_132 (show ((cX6_worn.data.toList.drop 63).take 3).map UInt8.toNat = [132, 2, 1] by decide +kernel) rfl
theorem dX6_worn_66 : decode cX6_worn 66 = .ok (.goto (-62), 3) := dc_167 (show ((cX6_worn.data.toList.drop 66).take 3).map UInt8.toNat = [167, 255, 194] by decide +kernel) rfl
theorem dX6_worn_48 : decode cX6_worn 48 = .ok (.aload_n 0, 1) := dc_42 (show ((cX6_worn.data.toList.drop 48).take 1).map UInt8.toNat = [42] by decide +kernel)
theorem dX6_worn_49 : decode cX6_worn 49 = .ok (.getfield 22, 3) := dc_180 (show ((cX6_worn.data.toList.drop 49).take 3).map UInt8.toNat = [180, 0, 22] by decide +kernel) rfl
theorem dX6_worn_52 : decode cX6_worn 52 = .ok (.iload_n 2, 1) := dc_28 (show ((cX6_worn.data.toList.drop 52).take 1).map UInt8.toNat = [28] by decide +kernel)
theorem dX6_worn_53 : decode cX6_worn 53 = .ok (.iaload, 1) := dc_46 (show ((cX6_worn.data.toList.drop 53).take 1).map UInt8.toNat = [46] by decide +kernel)
theorem dX6_worn_54 : decode cX6_worn 54 = .ok (.ifCond .ne 9, 3) := dc_154 (show ((cX6_worn.data.toList.drop 54).take 3).map UInt8.toNat = [154, 0, 9] by decide +kernel) rfl
theorem dX6_worn_57 : decode cX6_worn 57 = .ok (.iload_n 1, 1) := dc_27 (show ((cX6_worn.data.toList.drop 57).take 1).map UInt8.toNat = [27] by decide +kernel)
theorem dX6_worn_58 : decode cX6_worn 58 = .ok (.iconst 1, 1) := dc_4 (show ((cX6_worn.data.toList.drop 58).take 1).map UInt8.toNat = [4] by decide +kernel)
theorem dX6_worn_59 : decode cX6_worn 59 = .ok (.iload_n 2, 1) := dc_28 (show ((cX6_worn.data.toList.drop 59).take 1).map UInt8.toNat = [28] by decide +kernel)
theorem dX6_worn_60 : decode cX6_worn 60 = .ok (.ishl, 1) := dc_120 (show ((cX6_worn.data.toList.drop 60).take 1).map UInt8.toNat = [120] by decide +kernel)
theorem dX6_worn_61 : decode cX6_worn 61 = .ok (.ior, 1) := dc_128 (show ((cX6_worn.data.toList.drop 61).take 1).map UInt8.toNat = [128] by decide +kernel)
theorem dX6_worn_62 : decode cX6_worn 62 = .ok (.istore_n 1, 1) := dc_60 (show ((cX6_worn.data.toList.drop 62).take 1).map UInt8.toNat = [60] by decide +kernel)
theorem dX6_worn_26 : decode cX6_worn 26 = .ok (.aload_n 0, 1) := dc_42 (show ((cX6_worn.data.toList.drop 26).take 1).map UInt8.toNat = [42] by decide +kernel)
theorem dX6_worn_27 : decode cX6_worn 27 = .ok (.getfield 56, 3) := dc_180 (show ((cX6_worn.data.toList.drop 27).take 3).map UInt8.toNat = [180, 0, 56] by decide +kernel) rfl
theorem dX6_worn_30 : decode cX6_worn 30 = .ok (.iload_n 2, 1) := dc_28 (show ((cX6_worn.data.toList.drop 30).take 1).map UInt8.toNat = [28] by decide +kernel)
theorem dX6_worn_31 : decode cX6_worn 31 = .ok (.ishr, 1) := dc_122 (show ((cX6_worn.data.toList.drop 31).take 1).map UInt8.toNat = [122] by decide +kernel)
theorem dX6_worn_32 : decode cX6_worn 32 = .ok (.iconst 1, 1) := dc_4 (show ((cX6_worn.data.toList.drop 32).take 1).map UInt8.toNat = [4] by decide +kernel)
theorem dX6_worn_33 : decode cX6_worn 33 = .ok (.iand, 1) := dc_126 (show ((cX6_worn.data.toList.drop 33).take 1).map UInt8.toNat = [126] by decide +kernel)
theorem dX6_worn_34 : decode cX6_worn 34 = .ok (.iconst 1, 1) := dc_4 (show ((cX6_worn.data.toList.drop 34).take 1).map UInt8.toNat = [4] by decide +kernel)
theorem dX6_worn_35 : decode cX6_worn 35 = .ok (.if_icmp .ne 7, 3) := dc_160 (show ((cX6_worn.data.toList.drop 35).take 3).map UInt8.toNat = [160, 0, 7] by decide +kernel) rfl
theorem dX6_worn_42 : decode cX6_worn 42 = .ok (.iconst 0, 1) := dc_3 (show ((cX6_worn.data.toList.drop 42).take 1).map UInt8.toNat = [3] by decide +kernel)
def cs_Play_worn_43 (n : Nat) (k4 : gb_S → Int32 → Int32 → gb_CR Int32) (σ : gb_S) (v1 : Int32) (v2 : Int32) (t0 : Int32) : gb_CR Int32 := (if t0 = 0 then gb_lt (v2 + 1) (fun x_14 => k4 σ v1 x_14) else gb_ck v2 8 (gb_lt ((σ.1 113) (Int32.toNatClampNeg v2)) (fun x_16 => (if x_16 = 0 then gb_lt (v1 ||| ((1 : Int32) <<< (v2 &&& 31))) (fun x_19 => gb_lt (v2 + 1) (fun x_20 => k4 σ x_19 x_20)) else gb_lt (v2 + 1) (fun x_18 => k4 σ v1 x_18)))))
def cs_Play_worn_38 (n : Nat) (k4 : gb_S → Int32 → Int32 → gb_CR Int32) (σ : gb_S) (v1 : Int32) (v2 : Int32) : gb_CR Int32 := cs_Play_worn_43 n k4 σ v1 v2 1
def cs_Play_worn_4 (n : Nat) : Nat → gb_S → Int32 → Int32 → gb_CR Int32
  | 0, _, _, _ => none
  | mm + 1, σ, v1, v2 => gb_kk (gb_kB (σ.2.1 1)) (gb_cd (cs_Border_geese_B n σ (σ.2.1 1)) (fun s_2 r_3 => (if r_3 ≤ v2 then some (s_2, v1) else gb_kk (gb_kB (s_2.2.1 1)) (gb_cd (cs_Border_boots_B n s_2 (s_2.2.1 1) v2) (fun s_8 r_9 => (if (0 : Int32) < r_9 then cs_Play_worn_38 n (fun σ v1 v2 => cs_Play_worn_4 n mm σ v1 v2) s_8 v1 v2 else (if (((s_8.1 109 9) >>> (v2 &&& 31)) &&& 1) = 1 then cs_Play_worn_38 n (fun σ v1 v2 => cs_Play_worn_4 n mm σ v1 v2) s_8 v1 v2 else cs_Play_worn_43 n (fun σ v1 v2 => cs_Play_worn_4 n mm σ v1 v2) s_8 v1 v2 0)))))))
def cs_Play_worn (n : Nat) (σ : gb_S) : gb_CR Int32 := cs_Play_worn_4 n n σ 0 0
set_option maxHeartbeats 8000000 in
set_option maxRecDepth 100000 in
theorem cc_Play_worn (l : Launch) (D : va_G) (cT : Nat → ClassId) (tt : Nat → Nat) (b1 b : Nat) (hb1 : b1 ≤ b) (n : Nat) (σ : gb_S) (σE : gb_S) (rE : Int32) (h : cs_Play_worn n σ = some (σE, rE)) : Met l yX6_worn (.code yX6_worn cX6_worn 4 (some FieldType.int) :: gb_wA) ({ frames := 1, cells := 0, slots := 0, locals := 21 }) (gb_Pc D cT tt b1 [.ref (b + 109)] (fun h => va_P D vwCl (gb_wl b (gb_CW cT b σ)) h)) (gb_Qi (fun r h => r = rE ∧ va_P D vwCl (gb_wl b (gb_CW cT b σE)) h) (gb_fr b 135)) 0 0 (gb_fr b 135) := by
  refine Met.ofW (cc := cX6_worn) (maxL := 4) (ret := (some FieldType.int)) (by decide) rfl ?_
  intro p e s m args below meth c s₁ B hml hv
  obtain ⟨rfl, hSt, hP⟩ := hv
  have hx := B.exec
  have hb := B.bytes
  have hr := B.returns
  have hts := atoms_spec (ws := .code yX6_worn cX6_worn 4 (some FieldType.int) :: gb_wA) B.pre
  have hq : ∀ w ∈ gb_wA, w.before _ s = true := fun w h => hts w (List.mem_cons_of_mem _ h)
  have hown : s.vm.findClass RX6 = some m.cls := findClass_of_methodNamed B.named
  have hlocks := B.notSynchronized
  clear B hts
  have hK := hSt.1
  have hS : va_S (gb_fr b 135) s.heap s.heap [] := va_S.rf
  have hl := lv_entry ([.ref (b + 109)]) (n := 4) (Nat.le_of_ble_eq_true rfl)
  rw [lg_entry_eq]
  generalize (lg_sl ([.ref (b + 109)]) ++ List.replicate (4 - (lg_sl ([.ref (b + 109)])).length) Slot.unset).toArray = ls at hl ⊢
  replace hl : lv_has ls 4 [(0, .ref (b + 109))] := hl
  have L43_3 : ∀ (k4 : gb_S → Int32 → Int32 → gb_CR Int32) (hk4 : ∀ (σ : gb_S) (v1 : Int32) (v2 : Int32) (H : Heap) (locs : List Loc) (ls : Array Slot), k4 σ v1 v2 = some (σE, rE) → va_P D vwCl (gb_wl b (gb_CW cT b σ)) H → va_S (gb_fr b 135) s.heap H locs → lv_has ls 4 [(0, .ref (b + 109)), (1, .int v1), (2, .int v2)] → W p l e (headSpec (.code yX6_worn cX6_worn 4 (some FieldType.int) :: gb_wA) ({ frames := 1, cells := 0, slots := 0, locals := 21 })).room s m ([.ref (b + 109)]).toArray below meth c H locs 0 0 (MQ below (gb_Qi (fun r h => r = rE ∧ va_P D vwCl (gb_wl b (gb_CW cT b σE)) h) (gb_fr b 135)) ([.ref (b + 109)]).toArray s 0 0 (gb_fr b 135)) (F0 m 4 ls [])) (σ : gb_S) (v1 : Int32) (v2 : Int32) (t0 : Int32) (H : Heap) (locs : List Loc) (ls : Array Slot), cs_Play_worn_43 n k4 σ v1 v2 t0 = some (σE, rE) → va_P D vwCl (gb_wl b (gb_CW cT b σ)) H → va_S (gb_fr b 135) s.heap H locs → lv_has ls 4 [(0, .ref (b + 109)), (1, .int v1), (2, .int v2)] → W p l e (headSpec (.code yX6_worn cX6_worn 4 (some FieldType.int) :: gb_wA) ({ frames := 1, cells := 0, slots := 0, locals := 21 })).room s m ([.ref (b + 109)]).toArray below meth c H locs 0 0 (MQ below (gb_Qi (fun r h => r = rE ∧ va_P D vwCl (gb_wl b (gb_CW cT b σE)) h) (gb_fr b 135)) ([.ref (b + 109)]).toArray s 0 0 (gb_fr b 135)) (F0 m 43 ls [.int t0]) := by
    clear h hP hS hl ls
    intro k4 hk4 σ v1 v2 t0 H locs ls h hP hS hl
    unfold cs_Play_worn_43 at h
    refine lv_istore_n (lv' := [(3, .int t0), (0, .ref (b + 109)), (1, .int v1), (2, .int v2)]) hx hb dX6_worn_43 rfl hl (by decide) rfl (fun ls hl => ?_)
    refine lv_iload_n hx hb dX6_worn_44 rfl (lv_at hl 0 rfl) ?_
    refine lv_if_eq (tgt := 63) hx hb dX6_worn_45 (by decide) (fun c_13 => ?_) (fun c_13 => ?_)
    · rw [if_pos c_13] at h
      obtain ⟨x_14, ex_14⟩ : ∃ q, q = (v2 + 1) := ⟨_, rfl⟩
      replace h := gb_lt_s ex_14 h
      refine lv_iinc (v := x_14) (lv' := [(2, .int x_14), (3, .int t0), (0, .ref (b + 109)), (1, .int v1)]) hx hb dX6_worn_63 hl (k := 3) rfl (by rw [ex_14]; rfl) (by decide) rfl (fun ls hl => ?_)
      refine lv_goto (tgt := 4) hx hb dX6_worn_66 (by decide) ?_
      exact hk4 _ _ _ _ _ _ h hP hS (lv_sub hl [2, 3, 0] rfl)
    · rw [if_neg c_13] at h
      refine lv_aload_n hx hb dX6_worn_48 rfl (lv_at hl 1 rfl) ?_
      refine va_get (ci := 5) (v := (.ref (b + 113))) (C := RX6) (T := TX6) (N := 12) hx hb hq i_X6 hown hK hP 109 (gb_at b rfl) rfl 2 (by decide) (hq _ w_200) (fun _ h9 => h9) rfl dX6_worn_49 ?_
      refine lv_iload_n hx hb dX6_worn_52 rfl (lv_at hl 3 rfl) ?_
      obtain ⟨z_15, h⟩ := gb_ck_s h
      refine va_iald hx hb hK hP 113 0 (gb_at b rfl) rfl z_15 dX6_worn_53 ?_
      refine lv_topi (fun x_16 ex_16 => ?_)
      replace h := gb_lt_s ex_16 h
      refine lv_if_ne (tgt := 63) hx hb dX6_worn_54 (by decide) (fun c_17 => ?_) (fun c_17 => ?_)
      · rw [if_neg c_17] at h
        obtain ⟨x_18, ex_18⟩ : ∃ q, q = (v2 + 1) := ⟨_, rfl⟩
        replace h := gb_lt_s ex_18 h
        refine lv_iinc (v := x_18) (lv' := [(2, .int x_18), (3, .int t0), (0, .ref (b + 109)), (1, .int v1)]) hx hb dX6_worn_63 hl (k := 3) rfl (by rw [ex_18]; rfl) (by decide) rfl (fun ls hl => ?_)
        refine lv_goto (tgt := 4) hx hb dX6_worn_66 (by decide) ?_
        exact hk4 _ _ _ _ _ _ h hP hS (lv_sub hl [2, 3, 0] rfl)
      · rw [if_pos c_17] at h
        refine lv_iload_n hx hb dX6_worn_57 rfl (lv_at hl 2 rfl) ?_
        refine lv_iconst (v := 1) hx hb dX6_worn_58 (by decide) ?_
        refine lv_iload_n hx hb dX6_worn_59 rfl (lv_at hl 3 rfl) ?_
        refine lv_ishl hx hb dX6_worn_60 ?_
        refine lv_ior hx hb dX6_worn_61 ?_
        refine lv_topi (fun x_19 ex_19 => ?_)
        replace h := gb_lt_s ex_19 h
        refine lv_istore_n (lv' := [(1, .int x_19), (3, .int t0), (0, .ref (b + 109)), (2, .int v2)]) hx hb dX6_worn_62 rfl hl (by decide) rfl (fun ls hl => ?_)
        obtain ⟨x_20, ex_20⟩ : ∃ q, q = (v2 + 1) := ⟨_, rfl⟩
        replace h := gb_lt_s ex_20 h
        refine lv_iinc (v := x_20) (lv' := [(2, .int x_20), (1, .int x_19), (3, .int t0), (0, .ref (b + 109))]) hx hb dX6_worn_63 hl (k := 3) rfl (by rw [ex_20]; rfl) (by decide) rfl (fun ls hl => ?_)
        refine lv_goto (tgt := 4) hx hb dX6_worn_66 (by decide) ?_
        exact hk4 _ _ _ _ _ _ h hP hS (lv_sub hl [3, 1, 0] rfl)
  have L38_2 : ∀ (k4 : gb_S → Int32 → Int32 → gb_CR Int32) (hk4 : ∀ (σ : gb_S) (v1 : Int32) (v2 : Int32) (H : Heap) (locs : List Loc) (ls : Array Slot), k4 σ v1 v2 = some (σE, rE) → va_P D vwCl (gb_wl b (gb_CW cT b σ)) H → va_S (gb_fr b 135) s.heap H locs → lv_has ls 4 [(0, .ref (b + 109)), (1, .int v1), (2, .int v2)] → W p l e (headSpec (.code yX6_worn cX6_worn 4 (some FieldType.int) :: gb_wA) ({ frames := 1, cells := 0, slots := 0, locals := 21 })).room s m ([.ref (b + 109)]).toArray below meth c H locs 0 0 (MQ below (gb_Qi (fun r h => r = rE ∧ va_P D vwCl (gb_wl b (gb_CW cT b σE)) h) (gb_fr b 135)) ([.ref (b + 109)]).toArray s 0 0 (gb_fr b 135)) (F0 m 4 ls [])) (σ : gb_S) (v1 : Int32) (v2 : Int32) (H : Heap) (locs : List Loc) (ls : Array Slot), cs_Play_worn_38 n k4 σ v1 v2 = some (σE, rE) → va_P D vwCl (gb_wl b (gb_CW cT b σ)) H → va_S (gb_fr b 135) s.heap H locs → lv_has ls 4 [(0, .ref (b + 109)), (1, .int v1), (2, .int v2)] → W p l e (headSpec (.code yX6_worn cX6_worn 4 (some FieldType.int) :: gb_wA) ({ frames := 1, cells := 0, slots := 0, locals := 21 })).room s m ([.ref (b + 109)]).toArray below meth c H locs 0 0 (MQ below (gb_Qi (fun r h => r = rE ∧ va_P D vwCl (gb_wl b (gb_CW cT b σE)) h) (gb_fr b 135)) ([.ref (b + 109)]).toArray s 0 0 (gb_fr b 135)) (F0 m 38 ls []) := by
    clear h hP hS hl ls
    intro k4 hk4 σ v1 v2 H locs ls h hP hS hl
    unfold cs_Play_worn_38 at h
    refine lv_iconst (v := 1) hx hb dX6_worn_38 (by decide) ?_
    refine lv_goto (tgt := 43) hx hb dX6_worn_39 (by decide) ?_
    exact L43_3 k4 hk4 _ _ _ _ _ _ _ h hP hS (lv_sub hl [0, 1, 2] rfl)
  have L4_1 : ∀ (mm : Nat) (σ : gb_S) (v1 : Int32) (v2 : Int32) (H : Heap) (locs : List Loc) (ls : Array Slot), cs_Play_worn_4 n mm σ v1 v2 = some (σE, rE) → va_P D vwCl (gb_wl b (gb_CW cT b σ)) H → va_S (gb_fr b 135) s.heap H locs → lv_has ls 4 [(0, .ref (b + 109)), (1, .int v1), (2, .int v2)] → W p l e (headSpec (.code yX6_worn cX6_worn 4 (some FieldType.int) :: gb_wA) ({ frames := 1, cells := 0, slots := 0, locals := 21 })).room s m ([.ref (b + 109)]).toArray below meth c H locs 0 0 (MQ below (gb_Qi (fun r h => r = rE ∧ va_P D vwCl (gb_wl b (gb_CW cT b σE)) h) (gb_fr b 135)) ([.ref (b + 109)]).toArray s 0 0 (gb_fr b 135)) (F0 m 4 ls []) := by
    clear h hP hS hl ls
    intro mm
    induction mm with
    | zero =>
      intro σ v1 v2 H locs ls h
      cases h
    | succ mm ih =>
      intro σ v1 v2 H locs ls h hP hS hl
      rw [cs_Play_worn_4] at h
      refine lv_iload_n hx hb dX6_worn_4 rfl (lv_at hl 2 rfl) ?_
      refine lv_aload_n hx hb dX6_worn_5 rfl (lv_at hl 0 rfl) ?_
      obtain ⟨z_1, h⟩ := gb_kk_s h
      refine va_get (ci := 5) (v := (.ref (b + (σ.2.1 1)))) (C := RX6) (T := TX6) (N := 12) hx hb hq i_X6 hown hK hP 109 (gb_at b rfl) rfl 0 (by decide) (hq _ w_197) (fun _ h9 => h9) rfl dX6_worn_6 ?_
      obtain ⟨s_2, r_3, z_4, h⟩ := gb_cd_s h
      refine gb_calli (va_runV (C := RX0) (As := []) (rest := [.int v2]) ⟨hx, hb, hml, hown, hq⟩ (cc_Border_geese_B l D cT tt b1 b hb1 n σ (σ.2.1 1) s_2 r_3 z_4) (cwV 0 hq (gb_gV w_738 w_477 w_478 w_4 w_479) rfl rfl rfl (by decide +kernel) ⟨Nat.le_of_ble_eq_true rfl, Nat.le_of_ble_eq_true rfl⟩) (gb_preV (r := (RX0, TX0, 1)) (ci := 0) (q0 := (σ.2.1 1)) hSt hP rfl (gb_at b (gb_cB z_1).1) hS (fun q h => Nat.le_trans hb1 h.1) hP) rfl rfl hl.1 rfl (lv_room (Nat.le_of_ble_eq_true rfl)) dX6_worn_9 ⟨Nat.le_of_ble_eq_true rfl, Nat.le_of_ble_eq_true rfl⟩) hS (fun _ h => h) (fun _ h => h) (fun q_5 H locs hY hk hS => ?_)
      obtain ⟨hq_5, hP⟩ := hY
      replace hq_5 := hq_5.symm
      subst hq_5
      refine lv_icmp_ge (tgt := 69) hx hb dX6_worn_12 (by decide) (fun c_6 => ?_) (fun c_6 => ?_)
      · rw [if_pos c_6] at h
        refine lv_iload_n hx hb dX6_worn_69 rfl (lv_at hl 1 rfl) ?_
        obtain ⟨e1, e2⟩ := gb_eq2 h
        exact W.iret (v := v1) hx hb hr (fun t ht hW => gb_ri ht ⟨e2, by rw [← e1]; exact hP⟩ hS) hS.2.2 dX6_worn_70
      · rw [if_neg c_6] at h
        refine lv_aload_n hx hb dX6_worn_15 rfl (lv_at hl 0 rfl) ?_
        obtain ⟨z_7, h⟩ := gb_kk_s h
        refine va_get (ci := 5) (v := (.ref (b + (s_2.2.1 1)))) (C := RX6) (T := TX6) (N := 12) hx hb hq i_X6 hown hK hP 109 (gb_at b rfl) rfl 0 (by decide) (hq _ w_197) (fun _ h9 => h9) rfl dX6_worn_16 ?_
        refine lv_iload_n hx hb dX6_worn_19 rfl (lv_at hl 2 rfl) ?_
        obtain ⟨s_8, r_9, z_10, h⟩ := gb_cd_s h
        refine gb_calli (va_runV (C := RX0) (As := [.int v2]) (rest := []) ⟨hx, hb, hml, hown, hq⟩ (cc_Border_boots_B l D cT tt b1 b hb1 n s_2 (s_2.2.1 1) v2 s_8 r_9 z_10) (cwV 1 hq (gb_gV w_713 w_626 w_627 w_4 w_628) rfl rfl rfl (by decide +kernel) ⟨Nat.le_of_ble_eq_true rfl, Nat.le_of_ble_eq_true rfl⟩) (gb_preV (r := (RX0, TX0, 1)) (ci := 0) (q0 := (s_2.2.1 1)) hSt hP rfl (gb_at b (gb_cB z_7).1) hS (fun q h => Nat.le_trans hb1 h.1) hP) rfl rfl hl.1 rfl (lv_room (Nat.le_of_ble_eq_true rfl)) dX6_worn_20 ⟨Nat.le_of_ble_eq_true rfl, Nat.le_of_ble_eq_true rfl⟩) hS (fun _ h => h) (fun _ h => h) (fun q_11 H locs hY hk hS => ?_)
        obtain ⟨hq_11, hP⟩ := hY
        replace hq_11 := hq_11.symm
        subst hq_11
        refine lv_if_gt (tgt := 38) hx hb dX6_worn_23 (by decide) (fun c_12 => ?_) (fun c_12 => ?_)
        · rw [if_pos c_12] at h
          exact L38_2 _ ih _ _ _ _ _ _ h hP hS (lv_sub hl [0, 1, 2] rfl)
        · rw [if_neg c_12] at h
          refine lv_aload_n hx hb dX6_worn_26 rfl (lv_at hl 0 rfl) ?_
          refine va_get (ci := 5) (v := (.int (s_8.1 109 9))) (C := RX6) (T := TX6) (N := 12) hx hb hq i_X6 hown hK hP 109 (gb_at b rfl) rfl 9 (by decide) (hq _ w_213) (fun _ h9 => h9) rfl dX6_worn_27 ?_
          refine lv_iload_n hx hb dX6_worn_30 rfl (lv_at hl 2 rfl) ?_
          refine lv_ishr hx hb dX6_worn_31 ?_
          refine lv_iconst (v := 1) hx hb dX6_worn_32 (by decide) ?_
          refine lv_iand hx hb dX6_worn_33 ?_
          refine lv_iconst (v := 1) hx hb dX6_worn_34 (by decide) ?_
          refine lv_icmp_ne (tgt := 42) hx hb dX6_worn_35 (by decide) (fun c_21 => ?_) (fun c_21 => ?_)
          · rw [if_neg c_21] at h
            refine lv_iconst (v := 0) hx hb dX6_worn_42 (by decide) ?_
            exact L43_3 _ ih _ _ _ _ _ _ _ h hP hS (lv_sub hl [0, 1, 2] rfl)
          · rw [if_pos c_21] at h
            exact L38_2 _ ih _ _ _ _ _ _ h hP hS (lv_sub hl [0, 1, 2] rfl)
  unfold cs_Play_worn at h
  refine lv_iconst (v := 0) hx hb dX6_worn_0 (by decide) ?_
  refine lv_istore_n (lv' := [(1, .int 0), (0, .ref (b + 109))]) hx hb dX6_worn_1 rfl hl (by decide) rfl (fun ls hl => ?_)
  refine lv_iconst (v := 0) hx hb dX6_worn_2 (by decide) ?_
  refine lv_istore_n (lv' := [(2, .int 0), (1, .int 0), (0, .ref (b + 109))]) hx hb dX6_worn_3 rfl hl (by decide) rfl (fun ls hl => ?_)
  exact L4_1 n _ _ _ _ _ _ h hP hS (lv_sub hl [2, 1, 0] rfl)
theorem w_811 : (Cond.code ({ cls := "GooseBorder$Play", name := "worn", desc := "()I" } : MethodName) prog_8_method_15_code (4 : Nat) (Option.some FieldType.int)) ∈ gb_wA := gb_t4 91 rfl rfl
theorem w_808 : (Cond.methodLink "GooseBorder" (241 : Nat) ({ cls := "GooseBorder$Play", name := "worn", desc := "()I" } : MethodName)) ∈ gb_wA := gb_t4 88 rfl rfl
theorem w_809 : (Cond.instanceMethod ({ cls := "GooseBorder$Play", name := "worn", desc := "()I" } : MethodName)) ∈ gb_wA := gb_t4 89 rfl rfl
theorem w_810 : (Cond.selects "GooseBorder$Play" ({ cls := "GooseBorder$Play", name := "worn", desc := "()I" } : MethodName) ({ cls := "GooseBorder$Play", name := "worn", desc := "()I" } : MethodName)) ∈ gb_wA := gb_t4 90 rfl rfl
theorem dX11_state_118 : decode cX11_state 118 = .ok (.ireturn, 1) := dc_172 (show ((cX11_state.data.toList.drop 118).take 1).map UInt8.toNat = [172] by decide +kernel)
theorem dX11_state_119 : decode cX11_state 119 = .ok (.aload_n 0, 1) := dc_42 (show ((cX11_state.data.toList.drop 119).take 1).map UInt8.toNat = [42] by decide +kernel)
theorem dX11_state_120 : decode cX11_state 120 = .ok (.getfield 56, 3) := dc_180 (show ((cX11_state.data.toList.drop 120).take 3).map UInt8.toNat = [180, 0, 56] by decide +kernel) rfl
theorem dX11_state_123 : decode cX11_state 123 = .ok (.invokevirtual 244, 3) := dc_182 (show ((cX11_state.data.toList.drop 123).take 3).map UInt8.toNat = [182, 0, 244] by decide +kernel) rfl
theorem dX6_allPay_0 : decode cX6_allPay 0 = .ok (.aload_n 0, 1) := dc_42 (show ((cX6_allPay.data.toList.drop 0).take 1).map UInt8.toNat = [42] by decide +kernel)
theorem dX6_allPay_1 : decode cX6_allPay 1 = .ok (.iconst 1, 1) := dc_4 (show ((cX6_allPay.data.toList.drop 1).take 1).map UInt8.toNat = [4] by decide +kernel)
theorem dX6_allPay_2 : decode cX6_allPay 2 = .ok (.aload_n 0, 1) := dc_42 (show ((cX6_allPay.data.toList.drop 2).take 1).map UInt8.toNat = [42] by decide +kernel)
theorem dX6_allPay_3 : decode cX6_allPay 3 = .ok (.getfield 12, 3) := dc_180 (show ((cX6_allPay.data.toList.drop 3).take 3).map UInt8.toNat = [180, 0, 12] by decide +kernel) rfl
theorem dX6_allPay_6 : decode cX6_allPay 6 = .ok (.invokevirtual 128, 3) := dc_182 (show ((cX6_allPay.data.toList.drop 6).take 3).map UInt8.toNat = [182, 0, 128] by decide +kernel) rfl
theorem dX6_allPay_9 : decode cX6_allPay 9 = .ok (.ishl, 1) := dc_120 (show ((cX6_allPay.data.toList.drop 9).take 1).map UInt8.toNat = [120] by decide +kernel)
theorem dX6_allPay_10 : decode cX6_allPay 10 = .ok (.iconst 1, 1) := dc_4 (show ((cX6_allPay.data.toList.drop 10).take 1).map UInt8.toNat = [4] by decide +kernel)
theorem dX6_allPay_11 : decode cX6_allPay 11 = .ok (.isub, 1) := dc_100 (show ((cX6_allPay.data.toList.drop 11).take 1).map UInt8.toNat = [100] by decide +kernel)
theorem dX6_allPay_12 : decode cX6_allPay 12 = .ok (.invokevirtual 137, 3) := dc_182 (show ((cX6_allPay.data.toList.drop 12).take 3).map UInt8.toNat = [182, 0, 137] by decide +kernel) rfl
theorem dX6_payBy_0 : decode cX6_payBy 0 = .ok (.iconst 0, 1) := dc_3 (show ((cX6_payBy.data.toList.drop 0).take 1).map UInt8.toNat = [3] by decide +kernel)
theorem dX6_payBy_1 : decode cX6_payBy 1 = .ok (.istore_n 2, 1) := dc_61 (show ((cX6_payBy.data.toList.drop 1).take 1).map UInt8.toNat = [61] by decide +kernel)
theorem dX6_payBy_2 : decode cX6_payBy 2 = .ok (.iconst 0, 1) := dc_3 (show ((cX6_payBy.data.toList.drop 2).take 1).map UInt8.toNat = [3] by decide +kernel)
theorem dX6_payBy_3 : decode cX6_payBy 3 = .ok (.istore_n 3, 1) := dc_62 (show ((cX6_payBy.data.toList.drop 3).take 1).map UInt8.toNat = [62] by decide +kernel)
theorem dX6_payBy_4 : decode cX6_payBy 4 = .ok (.iload_n 3, 1) := dc_29 (show ((cX6_payBy.data.toList.drop 4).take 1).map UInt8.toNat = [29] by decide +kernel)
theorem dX6_payBy_5 : decode cX6_payBy 5 = .ok (.aload_n 0, 1) := dc_42 (show ((cX6_payBy.data.toList.drop 5).take 1).map UInt8.toNat = [42] by decide +kernel)
theorem dX6_payBy_6 : decode cX6_payBy 6 = .ok (.getfield 12, 3) := dc_180 (show ((cX6_payBy.data.toList.drop 6).take 3).map UInt8.toNat = [180, 0, 12] by decide +kernel) rfl
theorem dX6_payBy_9 : decode cX6_payBy 9 = .ok (.invokevirtual 128, 3) := dc_182 (show ((cX6_payBy.data.toList.drop 9).take 3).map UInt8.toNat = [182, 0, 128] by decide +kernel) rfl
theorem dX6_payBy_12 : decode cX6_payBy 12 = .ok (.if_icmp .ge 18, 3) := dc_162 (show ((cX6_payBy.data.toList.drop 12).take 3).map UInt8.toNat = [162, 0, 18] by decide +kernel) rfl
theorem dX6_payBy_30 : decode cX6_payBy 30 = .ok (.iload_n 2, 1) := dc_28 (show ((cX6_payBy.data.toList.drop 30).take 1).map UInt8.toNat = [28] by decide +kernel)
theorem dX6_payBy_31 : decode cX6_payBy 31 = .ok (.ireturn, 1) := dc_172 (show ((cX6_payBy.data.toList.drop 31).take 1).map UInt8.toNat = [172] by decide +kernel)
theorem dX6_payBy_15 : decode cX6_payBy 15 = .ok (.iload_n 2, 1) := dc_28 (show ((cX6_payBy.data.toList.drop 15).take 1).map UInt8.toNat = [28] by decide +kernel)
theorem dX6_payBy_16 : decode cX6_payBy 16 = .ok (.aload_n 0, 1) := dc_42 (show ((cX6_payBy.data.toList.drop 16).take 1).map UInt8.toNat = [42] by decide +kernel)
theorem dX6_payBy_17 : decode cX6_payBy 17 = .ok (.iload_n 1, 1) := dc_27 (show ((cX6_payBy.data.toList.drop 17).take 1).map UInt8.toNat = [27] by decide +kernel)
theorem dX6_payBy_18 : decode cX6_payBy 18 = .ok (.iload_n 3, 1) := dc_29 (show ((cX6_payBy.data.toList.drop 18).take 1).map UInt8.toNat = [29] by decide +kernel)
theorem dX6_payBy_19 : decode cX6_payBy 19 = .ok (.invokevirtual 140, 3) := dc_182 (show ((cX6_payBy.data.toList.drop 19).take 3).map UInt8.toNat = [182, 0, 140] by decide +kernel) rfl
theorem dX6_payTold_0 : decode cX6_payTold 0 = .ok (.iload_n 1, 1) := dc_27 (show ((cX6_payTold.data.toList.drop 0).take 1).map UInt8.toNat = [27] by decide +kernel)
theorem dX6_payTold_1 : decode cX6_payTold 1 = .ok (.iload_n 2, 1) := dc_28 (show ((cX6_payTold.data.toList.drop 1).take 1).map UInt8.toNat = [28] by decide +kernel)
theorem dX6_payTold_2 : decode cX6_payTold 2 = .ok (.ishr, 1) := dc_122 (show ((cX6_payTold.data.toList.drop 2).take 1).map UInt8.toNat = [122] by decide +kernel)
theorem dX6_payTold_3 : decode cX6_payTold 3 = .ok (.iconst 1, 1) := dc_4 (show ((cX6_payTold.data.toList.drop 3).take 1).map UInt8.toNat = [4] by decide +kernel)
theorem dX6_payTold_4 : decode cX6_payTold 4 = .ok (.iand, 1) := dc_126 (show ((cX6_payTold.data.toList.drop 4).take 1).map UInt8.toNat = [126] by decide +kernel)
theorem dX6_payTold_5 : decode cX6_payTold 5 = .ok (.iconst 1, 1) := dc_4 (show ((cX6_payTold.data.toList.drop 5).take 1).map UInt8.toNat = [4] by decide +kernel)
theorem dX6_payTold_6 : decode cX6_payTold 6 = .ok (.if_icmp .ne 7, 3) := dc_160 (show ((cX6_payTold.data.toList.drop 6).take 3).map UInt8.toNat = [160, 0, 7] by decide +kernel) rfl
theorem dX6_payTold_13 : decode cX6_payTold 13 = .ok (.iconst 0, 1) := dc_3 (show ((cX6_payTold.data.toList.drop 13).take 1).map UInt8.toNat = [3] by decide +kernel)
theorem dX6_payTold_14 : decode cX6_payTold 14 = .ok (.istore_n 3, 1) := dc_62 (show ((cX6_payTold.data.toList.drop 14).take 1).map UInt8.toNat = [62] by decide +kernel)
theorem dX6_payTold_15 : decode cX6_payTold 15 = .ok (.aload_n 0, 1) := dc_42 (show ((cX6_payTold.data.toList.drop 15).take 1).map UInt8.toNat = [42] by decide +kernel)
theorem dX6_payTold_16 : decode cX6_payTold 16 = .ok (.getfield 12, 3) := dc_180 (show ((cX6_payTold.data.toList.drop 16).take 3).map UInt8.toNat = [180, 0, 12] by decide +kernel) rfl
theorem dX6_payTold_19 : decode cX6_payTold 19 = .ok (.iload_n 2, 1) := dc_28 (show ((cX6_payTold.data.toList.drop 19).take 1).map UInt8.toNat = [28] by decide +kernel)
theorem dX6_payTold_20 : decode cX6_payTold 20 = .ok (.invokevirtual 143, 3) := dc_182 (show ((cX6_payTold.data.toList.drop 20).take 3).map UInt8.toNat = [182, 0, 143] by decide +kernel) rfl
theorem w_824 : (Cond.methodLink "GooseBorder$Play" (143 : Nat) ({ cls := "GooseBorder$Border", name := "rate", desc := "(I)I" } : MethodName)) ∈ gb_wA := gb_t4 104 rfl rfl
theorem dX6_payTold_23 : decode cX6_payTold 23 = .ok (.iload_n 3, 1) := dc_29 (show ((cX6_payTold.data.toList.drop 23).take 1).map UInt8.toNat = [29] by decide +kernel)
theorem dX6_payTold_24 : decode cX6_payTold 24 = .ok (.ifCond .eq 19, 3) := dc_153 (show ((cX6_payTold.data.toList.drop 24).take 3).map UInt8.toNat = [153, 0, 19] by decide +kernel) rfl
theorem dX6_payTold_43 : decode cX6_payTold 43 = .ok (.aload_n 0, 1) := dc_42 (show ((cX6_payTold.data.toList.drop 43).take 1).map UInt8.toNat = [42] by decide +kernel)
theorem dX6_payTold_44 : decode cX6_payTold 44 = .ok (.iload_n 2, 1) := dc_28 (show ((cX6_payTold.data.toList.drop 44).take 1).map UInt8.toNat = [28] by decide +kernel)
theorem dX6_payTold_45 : decode cX6_payTold 45 = .ok (.invokevirtual 134, 3) := dc_182 (show ((cX6_payTold.data.toList.drop 45).take 3).map UInt8.toNat = [182, 0, 134] by decide +kernel) rfl
theorem w_825 : (Cond.methodLink "GooseBorder$Play" (134 : Nat) ({ cls := "GooseBorder$Play", name := "tally", desc := "(I)I" } : MethodName)) ∈ gb_wA := gb_t4 105 rfl rfl
theorem dX6_payTold_48 : decode cX6_payTold 48 = .ok (.imul, 1) := dc_104 (show ((cX6_payTold.data.toList.drop 48).take 1).map UInt8.toNat = [104] by decide +kernel)
theorem dX6_payTold_49 : decode cX6_payTold 49 = .ok (.ireturn, 1) := dc_172 (show ((cX6_payTold.data.toList.drop 49).take 1).map UInt8.toNat = [172] by decide +kernel)
theorem dX6_payTold_27 : decode cX6_payTold 27 = .ok (.aload_n 0, 1) := dc_42 (show ((cX6_payTold.data.toList.drop 27).take 1).map UInt8.toNat = [42] by decide +kernel)
theorem dX6_payTold_28 : decode cX6_payTold 28 = .ok (.getfield 12, 3) := dc_180 (show ((cX6_payTold.data.toList.drop 28).take 3).map UInt8.toNat = [180, 0, 12] by decide +kernel) rfl
theorem dX6_payTold_31 : decode cX6_payTold 31 = .ok (.iload_n 2, 1) := dc_28 (show ((cX6_payTold.data.toList.drop 31).take 1).map UInt8.toNat = [28] by decide +kernel)
theorem dX6_payTold_32 : decode cX6_payTold 32 = .ok (.aload_n 0, 1) := dc_42 (show ((cX6_payTold.data.toList.drop 32).take 1).map UInt8.toNat = [42] by decide +kernel)
theorem dX6_payTold_33 : decode cX6_payTold 33 = .ok (.iload_n 2, 1) := dc_28 (show ((cX6_payTold.data.toList.drop 33).take 1).map UInt8.toNat = [28] by decide +kernel)
theorem dX6_payTold_34 : decode cX6_payTold 34 = .ok (.invokevirtual 134, 3) := dc_182 (show ((cX6_payTold.data.toList.drop 34).take 3).map UInt8.toNat = [182, 0, 134] by decide +kernel) rfl
theorem dX6_payTold_37 : decode cX6_payTold 37 = .ok (.invokevirtual 146, 3) := dc_182 (show ((cX6_payTold.data.toList.drop 37).take 3).map UInt8.toNat = [182, 0, 146] by decide +kernel) rfl
theorem w_826 : (Cond.methodLink "GooseBorder$Play" (146 : Nat) ({ cls := "GooseBorder$Border", name := "padded", desc := "(II)I" } : MethodName)) ∈ gb_wA := gb_t4 106 rfl rfl
theorem dX6_payTold_40 : decode cX6_payTold 40 = .ok (.goto 8, 3) := dc_167 (show ((cX6_payTold.data.toList.drop 40).take 3).map UInt8.toNat = [167, 0, 8] by decide +kernel) rfl
theorem dX6_payTold_9 : decode cX6_payTold 9 = .ok (.iconst 1, 1) := dc_4 (show ((cX6_payTold.data.toList.drop 9).take 1).map UInt8.toNat = [4] by decide +kernel)
theorem dX6_payTold_10 : decode cX6_payTold 10 = .ok (.goto 4, 3) := dc_167 (show ((cX6_payTold.data.toList.drop 10).take 3).map UInt8.toNat = [167, 0, 4] by decide +kernel) rfl
def cs_Play_payTold_14 (n : Nat) (σ : gb_S) (v2 : Int32) (t0 : Int32) : gb_CR Int32 := gb_kk (gb_kB (σ.2.1 1)) (gb_cd (cs_Border_rate_B n σ (σ.2.1 1) v2) (fun s_3 r_4 => (if t0 = 0 then gb_cd (cs_Play_tally n s_3 v2) (fun s_8 r_9 => some (s_8, (r_4 * r_9))) else gb_kk (gb_kB (s_3.2.1 1)) (gb_cd (cs_Play_tally n s_3 v2) (fun s_13 r_14 => gb_cd (cs_Border_padded_B n s_13 (s_3.2.1 1) v2 r_14) (fun s_17 r_18 => some (s_17, (r_4 * r_18))))))))
def cs_Play_payTold (n : Nat) (σ : gb_S) (p1 : Int32) (p2 : Int32) : gb_CR Int32 := (if ((p1 >>> (p2 &&& 31)) &&& 1) = 1 then cs_Play_payTold_14 n σ p2 1 else cs_Play_payTold_14 n σ p2 0)
set_option maxHeartbeats 8000000 in
set_option maxRecDepth 100000 in
theorem cc_Play_payTold (l : Launch) (D : va_G) (cT : Nat → ClassId) (tt : Nat → Nat) (b1 b : Nat) (hb1 : b1 ≤ b) (n : Nat) (σ : gb_S) (p1 : Int32) (p2 : Int32) (σE : gb_S) (rE : Int32) (h : cs_Play_payTold n σ p1 p2 = some (σE, rE)) : Met l yX6_payTold (.code yX6_payTold cX6_payTold 4 (some FieldType.int) :: gb_wA) ({ frames := 2, cells := 0, slots := 0, locals := 43 }) (gb_Pc D cT tt b1 [.ref (b + 109), .int p1, .int p2] (fun h => va_P D vwCl (gb_wl b (gb_CW cT b σ)) h)) (gb_Qi (fun r h => r = rE ∧ va_P D vwCl (gb_wl b (gb_CW cT b σE)) h) (gb_fr b 135)) 0 0 (gb_fr b 135) := by
  refine Met.ofW (cc := cX6_payTold) (maxL := 4) (ret := (some FieldType.int)) (by decide) rfl ?_
  intro p e s m args below meth c s₁ B hml hv
  obtain ⟨rfl, hSt, hP⟩ := hv
  have hx := B.exec
  have hb := B.bytes
  have hr := B.returns
  have hts := atoms_spec (ws := .code yX6_payTold cX6_payTold 4 (some FieldType.int) :: gb_wA) B.pre
  have hq : ∀ w ∈ gb_wA, w.before _ s = true := fun w h => hts w (List.mem_cons_of_mem _ h)
  have hown : s.vm.findClass RX6 = some m.cls := findClass_of_methodNamed B.named
  have hlocks := B.notSynchronized
  clear B hts
  have hK := hSt.1
  have hS : va_S (gb_fr b 135) s.heap s.heap [] := va_S.rf
  have hl := lv_entry ([.ref (b + 109), .int p1, .int p2]) (n := 4) (Nat.le_of_ble_eq_true rfl)
  rw [lg_entry_eq]
  generalize (lg_sl ([.ref (b + 109), .int p1, .int p2]) ++ List.replicate (4 - (lg_sl ([.ref (b + 109), .int p1, .int p2])).length) Slot.unset).toArray = ls at hl ⊢
  replace hl : lv_has ls 4 [(0, .ref (b + 109)), (1, .int p1), (2, .int p2)] := hl
  have L14_1 : ∀ (σ : gb_S) (v2 : Int32) (t0 : Int32) (H : Heap) (locs : List Loc) (ls : Array Slot), cs_Play_payTold_14 n σ v2 t0 = some (σE, rE) → va_P D vwCl (gb_wl b (gb_CW cT b σ)) H → va_S (gb_fr b 135) s.heap H locs → lv_has ls 4 [(0, .ref (b + 109)), (2, .int v2)] → W p l e (headSpec (.code yX6_payTold cX6_payTold 4 (some FieldType.int) :: gb_wA) ({ frames := 2, cells := 0, slots := 0, locals := 43 })).room s m ([.ref (b + 109), .int p1, .int p2]).toArray below meth c H locs 0 0 (MQ below (gb_Qi (fun r h => r = rE ∧ va_P D vwCl (gb_wl b (gb_CW cT b σE)) h) (gb_fr b 135)) ([.ref (b + 109), .int p1, .int p2]).toArray s 0 0 (gb_fr b 135)) (F0 m 14 ls [.int t0]) := by
    clear h hP hS hl ls
    intro σ v2 t0 H locs ls h hP hS hl
    unfold cs_Play_payTold_14 at h
    refine lv_istore_n (lv' := [(3, .int t0), (0, .ref (b + 109)), (2, .int v2)]) hx hb dX6_payTold_14 rfl hl (by decide) rfl (fun ls hl => ?_)
    refine lv_aload_n hx hb dX6_payTold_15 rfl (lv_at hl 1 rfl) ?_
    obtain ⟨z_2, h⟩ := gb_kk_s h
    refine va_get (ci := 5) (v := (.ref (b + (σ.2.1 1)))) (C := RX6) (T := TX6) (N := 12) hx hb hq i_X6 hown hK hP 109 (gb_at b rfl) rfl 0 (by decide) (hq _ w_197) (fun _ h9 => h9) rfl dX6_payTold_16 ?_
    refine lv_iload_n hx hb dX6_payTold_19 rfl (lv_at hl 2 rfl) ?_
    obtain ⟨s_3, r_4, z_5, h⟩ := gb_cd_s h
    refine gb_calli (va_runV (C := RX0) (As := [.int v2]) (rest := []) ⟨hx, hb, hml, hown, hq⟩ (cc_Border_rate_B l D cT tt b1 b hb1 n σ (σ.2.1 1) v2 s_3 r_4 z_5) (cwV 1 hq (gb_gV w_824 w_788 w_789 w_4 w_790) rfl rfl rfl (by decide +kernel) ⟨Nat.le_of_ble_eq_true rfl, Nat.le_of_ble_eq_true rfl⟩) (gb_preV (r := (RX0, TX0, 1)) (ci := 0) (q0 := (σ.2.1 1)) hSt hP rfl (gb_at b (gb_cB z_2).1) hS (fun q h => Nat.le_trans hb1 h.1) hP) rfl rfl hl.1 rfl (lv_room (Nat.le_of_ble_eq_true rfl)) dX6_payTold_20 ⟨Nat.le_of_ble_eq_true rfl, Nat.le_of_ble_eq_true rfl⟩) hS (fun _ h => h) (fun _ h => h) (fun q_6 H locs hY hk hS => ?_)
    obtain ⟨hq_6, hP⟩ := hY
    replace hq_6 := hq_6.symm
    subst hq_6
    refine lv_iload_n hx hb dX6_payTold_23 rfl (lv_at hl 0 rfl) ?_
    refine lv_if_eq (tgt := 43) hx hb dX6_payTold_24 (by decide) (fun c_7 => ?_) (fun c_7 => ?_)
    · rw [if_pos c_7] at h
      refine lv_aload_n hx hb dX6_payTold_43 rfl (lv_at hl 1 rfl) ?_
      refine lv_iload_n hx hb dX6_payTold_44 rfl (lv_at hl 2 rfl) ?_
      obtain ⟨s_8, r_9, z_10, h⟩ := gb_cd_s h
      refine gb_calli (va_runV (C := RX6) (As := [.int v2]) (rest := [.int r_4]) ⟨hx, hb, hml, hown, hq⟩ (cc_Play_tally l D cT tt b1 b hb1 n s_3 v2 s_8 r_9 z_10) (cwV 1 hq (gb_gV w_825 w_772 w_773 w_11 w_774) rfl rfl rfl (by decide +kernel) ⟨Nat.le_of_ble_eq_true rfl, Nat.le_of_ble_eq_true rfl⟩) (gb_preV (r := (RX6, TX6, 12)) (ci := 5) (q0 := 109) hSt hP rfl (gb_at b rfl) hS (fun q h => Nat.le_trans hb1 h.1) hP) rfl rfl hl.1 rfl (lv_room (Nat.le_of_ble_eq_true rfl)) dX6_payTold_45 ⟨Nat.le_of_ble_eq_true rfl, Nat.le_of_ble_eq_true rfl⟩) hS (fun _ h => h) (fun _ h => h) (fun q_11 H locs hY hk hS => ?_)
      obtain ⟨hq_11, hP⟩ := hY
      replace hq_11 := hq_11.symm
      subst hq_11
      refine lv_imul hx hb dX6_payTold_48 ?_
      obtain ⟨e1, e2⟩ := gb_eq2 h
      exact W.iret (v := (r_4 * r_9)) hx hb hr (fun t ht hW => gb_ri ht ⟨e2, by rw [← e1]; exact hP⟩ hS) hS.2.2 dX6_payTold_49
    · rw [if_neg c_7] at h
      refine lv_aload_n hx hb dX6_payTold_27 rfl (lv_at hl 1 rfl) ?_
      obtain ⟨z_12, h⟩ := gb_kk_s h
      refine va_get (ci := 5) (v := (.ref (b + (s_3.2.1 1)))) (C := RX6) (T := TX6) (N := 12) hx hb hq i_X6 hown hK hP 109 (gb_at b rfl) rfl 0 (by decide) (hq _ w_197) (fun _ h9 => h9) rfl dX6_payTold_28 ?_
      refine lv_iload_n hx hb dX6_payTold_31 rfl (lv_at hl 2 rfl) ?_
      refine lv_aload_n hx hb dX6_payTold_32 rfl (lv_at hl 1 rfl) ?_
      refine lv_iload_n hx hb dX6_payTold_33 rfl (lv_at hl 2 rfl) ?_
      obtain ⟨s_13, r_14, z_15, h⟩ := gb_cd_s h
      refine gb_calli (va_runV (C := RX6) (As := [.int v2]) (rest := [.int v2, .ref (b + (s_3.2.1 1)), .int r_4]) ⟨hx, hb, hml, hown, hq⟩ (cc_Play_tally l D cT tt b1 b hb1 n s_3 v2 s_13 r_14 z_15) (cwV 1 hq (gb_gV w_825 w_772 w_773 w_11 w_774) rfl rfl rfl (by decide +kernel) ⟨Nat.le_of_ble_eq_true rfl, Nat.le_of_ble_eq_true rfl⟩) (gb_preV (r := (RX6, TX6, 12)) (ci := 5) (q0 := 109) hSt hP rfl (gb_at b rfl) hS (fun q h => Nat.le_trans hb1 h.1) hP) rfl rfl hl.1 rfl (lv_room (Nat.le_of_ble_eq_true rfl)) dX6_payTold_34 ⟨Nat.le_of_ble_eq_true rfl, Nat.le_of_ble_eq_true rfl⟩) hS (fun _ h => h) (fun _ h => h) (fun q_16 H locs hY hk hS => ?_)
      obtain ⟨hq_16, hP⟩ := hY
      replace hq_16 := hq_16.symm
      subst hq_16
      obtain ⟨s_17, r_18, z_19, h⟩ := gb_cd_s h
      refine gb_calli (va_runV (C := RX0) (As := [.int v2, .int r_14]) (rest := [.int r_4]) ⟨hx, hb, hml, hown, hq⟩ (cc_Border_padded_B l D cT tt b1 b hb1 n s_13 (s_3.2.1 1) v2 r_14 s_17 r_18 z_19) (cwV 2 hq (gb_gV w_826 w_776 w_777 w_4 w_778) rfl rfl rfl (by decide +kernel) ⟨Nat.le_of_ble_eq_true rfl, Nat.le_of_ble_eq_true rfl⟩) (gb_preV (r := (RX0, TX0, 1)) (ci := 0) (q0 := (s_3.2.1 1)) hSt hP rfl (gb_at b (gb_cB z_12).1) hS (fun q h => Nat.le_trans hb1 h.1) hP) rfl rfl hl.1 rfl (lv_room (Nat.le_of_ble_eq_true rfl)) dX6_payTold_37 ⟨Nat.le_of_ble_eq_true rfl, Nat.le_of_ble_eq_true rfl⟩) hS (fun _ h => h) (fun _ h => h) (fun q_20 H locs hY hk hS => ?_)
      obtain ⟨hq_20, hP⟩ := hY
      replace hq_20 := hq_20.symm
      subst hq_20
      refine lv_goto (tgt := 48) hx hb dX6_payTold_40 (by decide) ?_
      refine lv_imul hx hb dX6_payTold_48 ?_
      obtain ⟨e1, e2⟩ := gb_eq2 h
      exact W.iret (v := (r_4 * r_18)) hx hb hr (fun t ht hW => gb_ri ht ⟨e2, by rw [← e1]; exact hP⟩ hS) hS.2.2 dX6_payTold_49
  unfold cs_Play_payTold at h
  refine lv_iload_n hx hb dX6_payTold_0 rfl (lv_at hl 1 rfl) ?_
  refine lv_iload_n hx hb dX6_payTold_1 rfl (lv_at hl 2 rfl) ?_
  refine lv_ishr hx hb dX6_payTold_2 ?_
  refine lv_iconst (v := 1) hx hb dX6_payTold_3 (by decide) ?_
  refine lv_iand hx hb dX6_payTold_4 ?_
  refine lv_iconst (v := 1) hx hb dX6_payTold_5 (by decide) ?_
  refine lv_icmp_ne (tgt := 13) hx hb dX6_payTold_6 (by decide) (fun c_1 => ?_) (fun c_1 => ?_)
  · rw [if_neg c_1] at h
    refine lv_iconst (v := 0) hx hb dX6_payTold_13 (by decide) ?_
    exact L14_1 _ _ _ _ _ _ h hP hS (lv_sub hl [0, 2] rfl)
  · rw [if_pos c_1] at h
    refine lv_iconst (v := 1) hx hb dX6_payTold_9 (by decide) ?_
    refine lv_goto (tgt := 14) hx hb dX6_payTold_10 (by decide) ?_
    exact L14_1 _ _ _ _ _ _ h hP hS (lv_sub hl [0, 2] rfl)
theorem w_823 : (Cond.code ({ cls := "GooseBorder$Play", name := "payTold", desc := "(II)I" } : MethodName) prog_8_method_17_code (4 : Nat) (Option.some FieldType.int)) ∈ gb_wA := gb_t4 103 rfl rfl
theorem w_820 : (Cond.methodLink "GooseBorder$Play" (140 : Nat) ({ cls := "GooseBorder$Play", name := "payTold", desc := "(II)I" } : MethodName)) ∈ gb_wA := gb_t4 100 rfl rfl
theorem w_822 : (Cond.instanceMethod ({ cls := "GooseBorder$Play", name := "payTold", desc := "(II)I" } : MethodName)) ∈ gb_wA := gb_t4 102 rfl rfl
theorem s_2_3 : Cond.selects "GooseBorder$Play" (⟨"GooseBorder$Play", "payTold", "(II)I"⟩ : MethodName) (⟨"GooseBorder$Play", "payTold", "(II)I"⟩ : MethodName) ∈ gb_wA := gb_s2 3 rfl rfl
theorem dX6_payBy_22 : decode cX6_payBy 22 = .ok (.iadd, 1) := dc_96 (show ((cX6_payBy.data.toList.drop 22).take 1).map UInt8.toNat = [96] by decide +kernel)
theorem dX6_payBy_23 : decode cX6_payBy 23 = .ok (.istore_n 2, 1) := dc_61 (show ((cX6_payBy.data.toList.drop 23).take 1).map UInt8.toNat = [61] by decide +kernel)
theorem dX6_payBy_24 : decode cX6_payBy 24 = .ok (.iinc 3 1, 3) := dc_132 (show ((cX6_payBy.data.toList.drop 24).take 3).map UInt8.toNat = [132, 3, 1] by decide +kernel) rfl
theorem dX6_payBy_27 : decode cX6_payBy 27 = .ok (.goto (-23), 3) := dc_167 (show ((cX6_payBy.data.toList.drop 27).take 3).map UInt8.toNat = [167, 255, 233] by decide +kernel) rfl
def cs_Play_payBy_4 (n : Nat) : Nat → gb_S → Int32 → Int32 → Int32 → gb_CR Int32
  | 0, _, _, _, _ => none
  | mm + 1, σ, v1, v2, v3 => gb_kk (gb_kB (σ.2.1 1)) (gb_cd (cs_Border_paths_B n σ (σ.2.1 1)) (fun s_2 r_3 => (if r_3 ≤ v3 then some (s_2, v2) else gb_cd (cs_Play_payTold n s_2 v1 v3) (fun s_7 r_8 => gb_lt (v2 + r_8) (fun x_11 => gb_lt (v3 + 1) (fun x_12 => cs_Play_payBy_4 n mm s_7 v1 x_11 x_12))))))
def cs_Play_payBy (n : Nat) (σ : gb_S) (p1 : Int32) : gb_CR Int32 := cs_Play_payBy_4 n n σ p1 0 0
set_option maxHeartbeats 8000000 in
set_option maxRecDepth 100000 in
theorem cc_Play_payBy (l : Launch) (D : va_G) (cT : Nat → ClassId) (tt : Nat → Nat) (b1 b : Nat) (hb1 : b1 ≤ b) (n : Nat) (σ : gb_S) (p1 : Int32) (σE : gb_S) (rE : Int32) (h : cs_Play_payBy n σ p1 = some (σE, rE)) : Met l yX6_payBy (.code yX6_payBy cX6_payBy 4 (some FieldType.int) :: gb_wA) ({ frames := 3, cells := 0, slots := 0, locals := 66 }) (gb_Pc D cT tt b1 [.ref (b + 109), .int p1] (fun h => va_P D vwCl (gb_wl b (gb_CW cT b σ)) h)) (gb_Qi (fun r h => r = rE ∧ va_P D vwCl (gb_wl b (gb_CW cT b σE)) h) (gb_fr b 135)) 0 0 (gb_fr b 135) := by
  refine Met.ofW (cc := cX6_payBy) (maxL := 4) (ret := (some FieldType.int)) (by decide) rfl ?_
  intro p e s m args below meth c s₁ B hml hv
  obtain ⟨rfl, hSt, hP⟩ := hv
  have hx := B.exec
  have hb := B.bytes
  have hr := B.returns
  have hts := atoms_spec (ws := .code yX6_payBy cX6_payBy 4 (some FieldType.int) :: gb_wA) B.pre
  have hq : ∀ w ∈ gb_wA, w.before _ s = true := fun w h => hts w (List.mem_cons_of_mem _ h)
  have hown : s.vm.findClass RX6 = some m.cls := findClass_of_methodNamed B.named
  have hlocks := B.notSynchronized
  clear B hts
  have hK := hSt.1
  have hS : va_S (gb_fr b 135) s.heap s.heap [] := va_S.rf
  have hl := lv_entry ([.ref (b + 109), .int p1]) (n := 4) (Nat.le_of_ble_eq_true rfl)
  rw [lg_entry_eq]
  generalize (lg_sl ([.ref (b + 109), .int p1]) ++ List.replicate (4 - (lg_sl ([.ref (b + 109), .int p1])).length) Slot.unset).toArray = ls at hl ⊢
  replace hl : lv_has ls 4 [(0, .ref (b + 109)), (1, .int p1)] := hl
  have L4_1 : ∀ (mm : Nat) (σ : gb_S) (v1 : Int32) (v2 : Int32) (v3 : Int32) (H : Heap) (locs : List Loc) (ls : Array Slot), cs_Play_payBy_4 n mm σ v1 v2 v3 = some (σE, rE) → va_P D vwCl (gb_wl b (gb_CW cT b σ)) H → va_S (gb_fr b 135) s.heap H locs → lv_has ls 4 [(0, .ref (b + 109)), (1, .int v1), (2, .int v2), (3, .int v3)] → W p l e (headSpec (.code yX6_payBy cX6_payBy 4 (some FieldType.int) :: gb_wA) ({ frames := 3, cells := 0, slots := 0, locals := 66 })).room s m ([.ref (b + 109), .int p1]).toArray below meth c H locs 0 0 (MQ below (gb_Qi (fun r h => r = rE ∧ va_P D vwCl (gb_wl b (gb_CW cT b σE)) h) (gb_fr b 135)) ([.ref (b + 109), .int p1]).toArray s 0 0 (gb_fr b 135)) (F0 m 4 ls []) := by
    clear h hP hS hl ls
    intro mm
    induction mm with
    | zero =>
      intro σ v1 v2 v3 H locs ls h
      cases h
    | succ mm ih =>
      intro σ v1 v2 v3 H locs ls h hP hS hl
      rw [cs_Play_payBy_4] at h
      refine lv_iload_n hx hb dX6_payBy_4 rfl (lv_at hl 3 rfl) ?_
      refine lv_aload_n hx hb dX6_payBy_5 rfl (lv_at hl 0 rfl) ?_
      obtain ⟨z_1, h⟩ := gb_kk_s h
      refine va_get (ci := 5) (v := (.ref (b + (σ.2.1 1)))) (C := RX6) (T := TX6) (N := 12) hx hb hq i_X6 hown hK hP 109 (gb_at b rfl) rfl 0 (by decide) (hq _ w_197) (fun _ h9 => h9) rfl dX6_payBy_6 ?_
      obtain ⟨s_2, r_3, z_4, h⟩ := gb_cd_s h
      refine gb_calli (va_runV (C := RX0) (As := []) (rest := [.int v3]) ⟨hx, hb, hml, hown, hq⟩ (cc_Border_paths_B l D cT tt b1 b hb1 n σ (σ.2.1 1) s_2 r_3 z_4) (cwV 0 hq (gb_gV w_754 w_473 w_474 w_4 w_475) rfl rfl rfl (by decide +kernel) ⟨Nat.le_of_ble_eq_true rfl, Nat.le_of_ble_eq_true rfl⟩) (gb_preV (r := (RX0, TX0, 1)) (ci := 0) (q0 := (σ.2.1 1)) hSt hP rfl (gb_at b (gb_cB z_1).1) hS (fun q h => Nat.le_trans hb1 h.1) hP) rfl rfl hl.1 rfl (lv_room (Nat.le_of_ble_eq_true rfl)) dX6_payBy_9 ⟨Nat.le_of_ble_eq_true rfl, Nat.le_of_ble_eq_true rfl⟩) hS (fun _ h => h) (fun _ h => h) (fun q_5 H locs hY hk hS => ?_)
      obtain ⟨hq_5, hP⟩ := hY
      replace hq_5 := hq_5.symm
      subst hq_5
      refine lv_icmp_ge (tgt := 30) hx hb dX6_payBy_12 (by decide) (fun c_6 => ?_) (fun c_6 => ?_)
      · rw [if_pos c_6] at h
        refine lv_iload_n hx hb dX6_payBy_30 rfl (lv_at hl 2 rfl) ?_
        obtain ⟨e1, e2⟩ := gb_eq2 h
        exact W.iret (v := v2) hx hb hr (fun t ht hW => gb_ri ht ⟨e2, by rw [← e1]; exact hP⟩ hS) hS.2.2 dX6_payBy_31
      · rw [if_neg c_6] at h
        refine lv_iload_n hx hb dX6_payBy_15 rfl (lv_at hl 2 rfl) ?_
        refine lv_aload_n hx hb dX6_payBy_16 rfl (lv_at hl 0 rfl) ?_
        refine lv_iload_n hx hb dX6_payBy_17 rfl (lv_at hl 1 rfl) ?_
        refine lv_iload_n hx hb dX6_payBy_18 rfl (lv_at hl 3 rfl) ?_
        obtain ⟨s_7, r_8, z_9, h⟩ := gb_cd_s h
        refine gb_calli (va_runV (C := RX6) (As := [.int v1, .int v3]) (rest := [.int v2]) ⟨hx, hb, hml, hown, hq⟩ (cc_Play_payTold l D cT tt b1 b hb1 n s_2 v1 v3 s_7 r_8 z_9) (cwV 2 hq (gb_gV w_820 w_822 s_2_3 w_11 w_823) rfl rfl rfl (by decide +kernel) ⟨Nat.le_of_ble_eq_true rfl, Nat.le_of_ble_eq_true rfl⟩) (gb_preV (r := (RX6, TX6, 12)) (ci := 5) (q0 := 109) hSt hP rfl (gb_at b rfl) hS (fun q h => Nat.le_trans hb1 h.1) hP) rfl rfl hl.1 rfl (lv_room (Nat.le_of_ble_eq_true rfl)) dX6_payBy_19 ⟨Nat.le_of_ble_eq_true rfl, Nat.le_of_ble_eq_true rfl⟩) hS (fun _ h => h) (fun _ h => h) (fun q_10 H locs hY hk hS => ?_)
        obtain ⟨hq_10, hP⟩ := hY
        replace hq_10 := hq_10.symm
        subst hq_10
        refine lv_iadd hx hb dX6_payBy_22 ?_
        refine lv_topi (fun x_11 ex_11 => ?_)
        replace h := gb_lt_s ex_11 h
        refine lv_istore_n (lv' := [(2, .int x_11), (0, .ref (b + 109)), (1, .int v1), (3, .int v3)]) hx hb dX6_payBy_23 rfl hl (by decide) rfl (fun ls hl => ?_)
        obtain ⟨x_12, ex_12⟩ : ∃ q, q = (v3 + 1) := ⟨_, rfl⟩
        replace h := gb_lt_s ex_12 h
        refine lv_iinc (v := x_12) (lv' := [(3, .int x_12), (2, .int x_11), (0, .ref (b + 109)), (1, .int v1)]) hx hb dX6_payBy_24 hl (k := 3) rfl (by rw [ex_12]; rfl) (by decide) rfl (fun ls hl => ?_)
        refine lv_goto (tgt := 4) hx hb dX6_payBy_27 (by decide) ?_
        exact ih _ _ _ _ _ _ _ h hP hS (lv_sub hl [2, 3, 1, 0] rfl)
  unfold cs_Play_payBy at h
  refine lv_iconst (v := 0) hx hb dX6_payBy_0 (by decide) ?_
  refine lv_istore_n (lv' := [(2, .int 0), (0, .ref (b + 109)), (1, .int p1)]) hx hb dX6_payBy_1 rfl hl (by decide) rfl (fun ls hl => ?_)
  refine lv_iconst (v := 0) hx hb dX6_payBy_2 (by decide) ?_
  refine lv_istore_n (lv' := [(3, .int 0), (2, .int 0), (0, .ref (b + 109)), (1, .int p1)]) hx hb dX6_payBy_3 rfl hl (by decide) rfl (fun ls hl => ?_)
  exact L4_1 n _ _ _ _ _ _ _ h hP hS (lv_sub hl [2, 3, 1, 0] rfl)
theorem w_819 : (Cond.code ({ cls := "GooseBorder$Play", name := "payBy", desc := "(I)I" } : MethodName) prog_8_method_16_code (4 : Nat) (Option.some FieldType.int)) ∈ gb_wA := gb_t4 99 rfl rfl
theorem w_816 : (Cond.methodLink "GooseBorder$Play" (137 : Nat) ({ cls := "GooseBorder$Play", name := "payBy", desc := "(I)I" } : MethodName)) ∈ gb_wA := gb_t4 96 rfl rfl
theorem w_818 : (Cond.instanceMethod ({ cls := "GooseBorder$Play", name := "payBy", desc := "(I)I" } : MethodName)) ∈ gb_wA := gb_t4 98 rfl rfl
theorem s_2_2 : Cond.selects "GooseBorder$Play" (⟨"GooseBorder$Play", "payBy", "(I)I"⟩ : MethodName) (⟨"GooseBorder$Play", "payBy", "(I)I"⟩ : MethodName) ∈ gb_wA := gb_s2 2 rfl rfl
theorem dX6_allPay_15 : decode cX6_allPay 15 = .ok (.ireturn, 1) := dc_172 (show ((cX6_allPay.data.toList.drop 15).take 1).map UInt8.toNat = [172] by decide +kernel)
def cs_Play_allPay (n : Nat) (σ : gb_S) : gb_CR Int32 := gb_kk (gb_kB (σ.2.1 1)) (gb_cd (cs_Border_paths_B n σ (σ.2.1 1)) (fun s_2 r_3 => gb_cd (cs_Play_payBy n s_2 (((1 : Int32) <<< (r_3 &&& 31)) - 1)) (fun s_6 r_7 => some (s_6, r_7))))
set_option maxHeartbeats 8000000 in
set_option maxRecDepth 100000 in
theorem cc_Play_allPay (l : Launch) (D : va_G) (cT : Nat → ClassId) (tt : Nat → Nat) (b1 b : Nat) (hb1 : b1 ≤ b) (n : Nat) (σ : gb_S) (σE : gb_S) (rE : Int32) (h : cs_Play_allPay n σ = some (σE, rE)) : Met l yX6_allPay (.code yX6_allPay cX6_allPay 1 (some FieldType.int) :: gb_wA) ({ frames := 4, cells := 0, slots := 0, locals := 89 }) (gb_Pc D cT tt b1 [.ref (b + 109)] (fun h => va_P D vwCl (gb_wl b (gb_CW cT b σ)) h)) (gb_Qi (fun r h => r = rE ∧ va_P D vwCl (gb_wl b (gb_CW cT b σE)) h) (gb_fr b 135)) 0 0 (gb_fr b 135) := by
  refine Met.ofW (cc := cX6_allPay) (maxL := 1) (ret := (some FieldType.int)) (by decide) rfl ?_
  intro p e s m args below meth c s₁ B hml hv
  obtain ⟨rfl, hSt, hP⟩ := hv
  have hx := B.exec
  have hb := B.bytes
  have hr := B.returns
  have hts := atoms_spec (ws := .code yX6_allPay cX6_allPay 1 (some FieldType.int) :: gb_wA) B.pre
  have hq : ∀ w ∈ gb_wA, w.before _ s = true := fun w h => hts w (List.mem_cons_of_mem _ h)
  have hown : s.vm.findClass RX6 = some m.cls := findClass_of_methodNamed B.named
  have hlocks := B.notSynchronized
  clear B hts
  have hK := hSt.1
  have hS : va_S (gb_fr b 135) s.heap s.heap [] := va_S.rf
  have hl := lv_entry ([.ref (b + 109)]) (n := 1) (Nat.le_of_ble_eq_true rfl)
  rw [lg_entry_eq]
  generalize (lg_sl ([.ref (b + 109)]) ++ List.replicate (1 - (lg_sl ([.ref (b + 109)])).length) Slot.unset).toArray = ls at hl ⊢
  replace hl : lv_has ls 1 [(0, .ref (b + 109))] := hl
  unfold cs_Play_allPay at h
  refine lv_aload_n hx hb dX6_allPay_0 rfl (lv_at hl 0 rfl) ?_
  refine lv_iconst (v := 1) hx hb dX6_allPay_1 (by decide) ?_
  refine lv_aload_n hx hb dX6_allPay_2 rfl (lv_at hl 0 rfl) ?_
  obtain ⟨z_1, h⟩ := gb_kk_s h
  refine va_get (ci := 5) (v := (.ref (b + (σ.2.1 1)))) (C := RX6) (T := TX6) (N := 12) hx hb hq i_X6 hown hK hP 109 (gb_at b rfl) rfl 0 (by decide) (hq _ w_197) (fun _ h9 => h9) rfl dX6_allPay_3 ?_
  obtain ⟨s_2, r_3, z_4, h⟩ := gb_cd_s h
  refine gb_calli (va_runV (C := RX0) (As := []) (rest := [.int 1, .ref (b + 109)]) ⟨hx, hb, hml, hown, hq⟩ (cc_Border_paths_B l D cT tt b1 b hb1 n σ (σ.2.1 1) s_2 r_3 z_4) (cwV 0 hq (gb_gV w_754 w_473 w_474 w_4 w_475) rfl rfl rfl (by decide +kernel) ⟨Nat.le_of_ble_eq_true rfl, Nat.le_of_ble_eq_true rfl⟩) (gb_preV (r := (RX0, TX0, 1)) (ci := 0) (q0 := (σ.2.1 1)) hSt hP rfl (gb_at b (gb_cB z_1).1) hS (fun q h => Nat.le_trans hb1 h.1) hP) rfl rfl hl.1 rfl (lv_room (Nat.le_of_ble_eq_true rfl)) dX6_allPay_6 ⟨Nat.le_of_ble_eq_true rfl, Nat.le_of_ble_eq_true rfl⟩) hS (fun _ h => h) (fun _ h => h) (fun q_5 H locs hY hk hS => ?_)
  obtain ⟨hq_5, hP⟩ := hY
  replace hq_5 := hq_5.symm
  subst hq_5
  refine lv_ishl hx hb dX6_allPay_9 ?_
  refine lv_iconst (v := 1) hx hb dX6_allPay_10 (by decide) ?_
  refine lv_isub hx hb dX6_allPay_11 ?_
  obtain ⟨s_6, r_7, z_8, h⟩ := gb_cd_s h
  refine gb_calli (va_runV (C := RX6) (As := [.int (((1 : Int32) <<< (r_3 &&& 31)) - 1)]) (rest := []) ⟨hx, hb, hml, hown, hq⟩ (cc_Play_payBy l D cT tt b1 b hb1 n s_2 (((1 : Int32) <<< (r_3 &&& 31)) - 1) s_6 r_7 z_8) (cwV 1 hq (gb_gV w_816 w_818 s_2_2 w_11 w_819) rfl rfl rfl (by decide +kernel) ⟨Nat.le_of_ble_eq_true rfl, Nat.le_of_ble_eq_true rfl⟩) (gb_preV (r := (RX6, TX6, 12)) (ci := 5) (q0 := 109) hSt hP rfl (gb_at b rfl) hS (fun q h => Nat.le_trans hb1 h.1) hP) rfl rfl hl.1 rfl (lv_room (Nat.le_of_ble_eq_true rfl)) dX6_allPay_12 ⟨Nat.le_of_ble_eq_true rfl, Nat.le_of_ble_eq_true rfl⟩) hS (fun _ h => h) (fun _ h => h) (fun q_9 H locs hY hk hS => ?_)
  obtain ⟨hq_9, hP⟩ := hY
  replace hq_9 := hq_9.symm
  subst hq_9
  obtain ⟨e1, e2⟩ := gb_eq2 h
  exact W.iret (v := r_7) hx hb hr (fun t ht hW => gb_ri ht ⟨e2, by rw [← e1]; exact hP⟩ hS) hS.2.2 dX6_allPay_15
theorem w_815 : (Cond.code ({ cls := "GooseBorder$Play", name := "allPay", desc := "()I" } : MethodName) prog_8_method_13_code (1 : Nat) (Option.some FieldType.int)) ∈ gb_wA := gb_t4 95 rfl rfl
theorem w_812 : (Cond.methodLink "GooseBorder" (244 : Nat) ({ cls := "GooseBorder$Play", name := "allPay", desc := "()I" } : MethodName)) ∈ gb_wA := gb_t4 92 rfl rfl
theorem w_813 : (Cond.instanceMethod ({ cls := "GooseBorder$Play", name := "allPay", desc := "()I" } : MethodName)) ∈ gb_wA := gb_t4 93 rfl rfl
theorem w_814 : (Cond.selects "GooseBorder$Play" ({ cls := "GooseBorder$Play", name := "allPay", desc := "()I" } : MethodName) ({ cls := "GooseBorder$Play", name := "allPay", desc := "()I" } : MethodName)) ∈ gb_wA := gb_t4 94 rfl rfl
theorem dX11_state_126 : decode cX11_state 126 = .ok (.ireturn, 1) := dc_172 (show ((cX11_state.data.toList.drop 126).take 1).map UInt8.toNat = [172] by decide +kernel)
theorem dX11_state_127 : decode cX11_state 127 = .ok (.aload_n 0, 1) := dc_42 (show ((cX11_state.data.toList.drop 127).take 1).map UInt8.toNat = [42] by decide +kernel)
theorem dX11_state_128 : decode cX11_state 128 = .ok (.getfield 56, 3) := dc_180 (show ((cX11_state.data.toList.drop 128).take 3).map UInt8.toNat = [180, 0, 56] by decide +kernel) rfl
theorem dX11_state_131 : decode cX11_state 131 = .ok (.getfield 247, 3) := dc_180 (show ((cX11_state.data.toList.drop 131).take 3).map UInt8.toNat = [180, 0, 247] by decide +kernel) rfl
theorem w_215 : (Cond.fieldLink "GooseBorder" (247 : Nat) "GooseBorder$Play" "frost" "Z") ∈ gb_wA := gb_t1 215 rfl rfl
theorem dX11_state_134 : decode cX11_state 134 = .ok (.ifCond .eq 7, 3) := dc_153 (show ((cX11_state.data.toList.drop 134).take 3).map UInt8.toNat = [153, 0, 7] by decide +kernel) rfl
theorem dX11_state_141 : decode cX11_state 141 = .ok (.iconst 0, 1) := dc_3 (show ((cX11_state.data.toList.drop 141).take 1).map UInt8.toNat = [3] by decide +kernel)
theorem dX11_state_142 : decode cX11_state 142 = .ok (.ireturn, 1) := dc_172 (show ((cX11_state.data.toList.drop 142).take 1).map UInt8.toNat = [172] by decide +kernel)
theorem dX11_state_137 : decode cX11_state 137 = .ok (.iconst 1, 1) := dc_4 (show ((cX11_state.data.toList.drop 137).take 1).map UInt8.toNat = [4] by decide +kernel)
theorem dX11_state_138 : decode cX11_state 138 = .ok (.goto 4, 3) := dc_167 (show ((cX11_state.data.toList.drop 138).take 3).map UInt8.toNat = [167, 0, 4] by decide +kernel) rfl
theorem dX11_state_143 : decode cX11_state 143 = .ok (.bipush (-2), 2) := dc_16 (show ((cX11_state.data.toList.drop 143).take 2).map UInt8.toNat = [16, 254] by decide +kernel) rfl
theorem dX11_state_145 : decode cX11_state 145 = .ok (.ireturn, 1) := dc_172 (show ((cX11_state.data.toList.drop 145).take 1).map UInt8.toNat = [172] by decide +kernel)
def cs_Face_state (n : Nat) (σ : gb_S) (p1 : Int32) (p2 : Int32) (p3 : Int32) (p4 : Int32) : gb_CR Int32 := gb_cd (cs_Face_borderAt n σ p1) (fun s_1 r_2 => (if r_2 = 0 then some (s_1, (-2)) else gb_kk (gb_kB r_2) (gb_cd (cs_Face_nightAt n s_1 p2) (fun s_7 r_8 => (if r_8 = 0 then gb_cd (cs_Face_playedTo_B_n n s_7 r_2 p3) (fun s_12 r_13 => (if r_13 = 0 then some (s_12, (-2)) else (if p4 = (0 : Int32) then gb_cd (cs_Play_whoIs n s_12 p4) (fun s_18 r_19 => some (s_18, r_19)) else (if p4 = (1 : Int32) then gb_cd (cs_Play_whoIs n s_12 p4) (fun s_23 r_24 => some (s_23, r_24)) else (if p4 = (2 : Int32) then gb_cd (cs_Play_whoIs n s_12 p4) (fun s_28 r_29 => some (s_28, r_29)) else (if p4 = (3 : Int32) then gb_cd (cs_Play_whoIs n s_12 (p4 - 3)) (fun s_33 r_34 => gb_cd (cs_Border_worthOf_B n s_33 r_2 r_34) (fun s_37 r_38 => some (s_37, r_38))) else (if p4 = (4 : Int32) then gb_cd (cs_Play_whoIs n s_12 (p4 - 3)) (fun s_42 r_43 => gb_cd (cs_Border_worthOf_B n s_42 r_2 r_43) (fun s_46 r_47 => some (s_46, r_47))) else (if p4 = (5 : Int32) then gb_cd (cs_Play_whoIs n s_12 (p4 - 3)) (fun s_51 r_52 => gb_cd (cs_Border_worthOf_B n s_51 r_2 r_52) (fun s_55 r_56 => some (s_55, r_56))) else (if p4 = (6 : Int32) then gb_cd (cs_Play_worn n s_12) (fun s_60 r_61 => some (s_60, r_61)) else (if p4 = (7 : Int32) then gb_cd (cs_Play_allPay n s_12) (fun s_65 r_66 => some (s_65, r_66)) else (if p4 = (8 : Int32) then (if (s_12.1 109 10) = 0 then some (s_12, 0) else some (s_12, 1)) else some (s_12, (-2))))))))))))) else gb_kk (gb_kN r_8) (gb_cd (cs_Face_playedTo_B_N n s_7 r_2 r_8 p3) (fun s_72 r_73 => (if r_73 = 0 then some (s_72, (-2)) else (if p4 = (0 : Int32) then gb_cd (cs_Play_whoIs n s_72 p4) (fun s_78 r_79 => some (s_78, r_79)) else (if p4 = (1 : Int32) then gb_cd (cs_Play_whoIs n s_72 p4) (fun s_83 r_84 => some (s_83, r_84)) else (if p4 = (2 : Int32) then gb_cd (cs_Play_whoIs n s_72 p4) (fun s_88 r_89 => some (s_88, r_89)) else (if p4 = (3 : Int32) then gb_cd (cs_Play_whoIs n s_72 (p4 - 3)) (fun s_93 r_94 => gb_cd (cs_Border_worthOf_B n s_93 r_2 r_94) (fun s_97 r_98 => some (s_97, r_98))) else (if p4 = (4 : Int32) then gb_cd (cs_Play_whoIs n s_72 (p4 - 3)) (fun s_102 r_103 => gb_cd (cs_Border_worthOf_B n s_102 r_2 r_103) (fun s_106 r_107 => some (s_106, r_107))) else (if p4 = (5 : Int32) then gb_cd (cs_Play_whoIs n s_72 (p4 - 3)) (fun s_111 r_112 => gb_cd (cs_Border_worthOf_B n s_111 r_2 r_112) (fun s_115 r_116 => some (s_115, r_116))) else (if p4 = (6 : Int32) then gb_cd (cs_Play_worn n s_72) (fun s_120 r_121 => some (s_120, r_121)) else (if p4 = (7 : Int32) then gb_cd (cs_Play_allPay n s_72) (fun s_125 r_126 => some (s_125, r_126)) else (if p4 = (8 : Int32) then (if (s_72.1 109 10) = 0 then some (s_72, 0) else some (s_72, 1)) else some (s_72, (-2)))))))))))))))))))
set_option maxHeartbeats 8000000 in
set_option maxRecDepth 100000 in
theorem cc_Face_state (l : Launch) (D : va_G) (cT : Nat → ClassId) (tt : Nat → Nat) (b1 b : Nat) (hb1 : b1 ≤ b) (n : Nat) (σ : gb_S) (p1 : Int32) (p2 : Int32) (p3 : Int32) (p4 : Int32) (σE : gb_S) (rE : Int32) (h : cs_Face_state n σ p1 p2 p3 p4 = some (σE, rE)) : Met l yX11_state (.code yX11_state cX11_state 6 (some FieldType.int) :: gb_wA) ({ frames := 6, cells := 0, slots := 0, locals := 148 }) (gb_Pc D cT tt b1 [.ref (b + 0), .int p1, .int p2, .int p3, .int p4] (fun h => va_P D vwCl (gb_wl b (gb_CW cT b σ)) h)) (gb_Qi (fun r h => r = rE ∧ va_P D vwCl (gb_wl b (gb_CW cT b σE)) h) (gb_fr b 135)) 0 0 (gb_fr b 135) := by
  refine Met.ofW (cc := cX11_state) (maxL := 6) (ret := (some FieldType.int)) (by decide) rfl ?_
  intro p e s m args below meth c s₁ B hml hv
  obtain ⟨rfl, hSt, hP⟩ := hv
  have hx := B.exec
  have hb := B.bytes
  have hr := B.returns
  have hts := atoms_spec (ws := .code yX11_state cX11_state 6 (some FieldType.int) :: gb_wA) B.pre
  have hq : ∀ w ∈ gb_wA, w.before _ s = true := fun w h => hts w (List.mem_cons_of_mem _ h)
  have hown : s.vm.findClass RX11 = some m.cls := findClass_of_methodNamed B.named
  have hlocks := B.notSynchronized
  clear B hts
  have hK := hSt.1
  have hS : va_S (gb_fr b 135) s.heap s.heap [] := va_S.rf
  have hl := lv_entry ([.ref (b + 0), .int p1, .int p2, .int p3, .int p4]) (n := 6) (Nat.le_of_ble_eq_true rfl)
  rw [lg_entry_eq]
  generalize (lg_sl ([.ref (b + 0), .int p1, .int p2, .int p3, .int p4]) ++ List.replicate (6 - (lg_sl ([.ref (b + 0), .int p1, .int p2, .int p3, .int p4])).length) Slot.unset).toArray = ls at hl ⊢
  replace hl : lv_has ls 6 [(0, .ref (b + 0)), (1, .int p1), (2, .int p2), (3, .int p3), (4, .int p4)] := hl
  unfold cs_Face_state at h
  refine lv_aload_n hx hb dX11_state_0 rfl (lv_at hl 0 rfl) ?_
  refine lv_iload_n hx hb dX11_state_1 rfl (lv_at hl 1 rfl) ?_
  obtain ⟨s_1, r_2, z_3, h⟩ := gb_cd_s h
  refine gb_callq (va_runV (C := RX11) (As := [.int p1]) (rest := []) ⟨hx, hb, hml, hown, hq⟩ (cc_Face_borderAt l D cT tt b1 b hb1 n σ p1 s_1 r_2 z_3) (cwV 1 hq (gb_gV w_593 w_595 s_1_7 w_1 w_596) rfl rfl rfl (by decide +kernel) ⟨Nat.le_of_ble_eq_true rfl, Nat.le_of_ble_eq_true rfl⟩) (gb_preV (r := (RX11, TX11, 10)) (ci := 9) (q0 := 0) hSt hP rfl (gb_at b rfl) hS (fun q h => Nat.le_trans hb1 h.1) hP) rfl rfl hl.1 rfl (lv_room (Nat.le_of_ble_eq_true rfl)) dX11_state_2 ⟨Nat.le_of_ble_eq_true rfl, Nat.le_of_ble_eq_true rfl⟩) hS (fun _ h => h) (fun _ h => h) (fun q_4 H locs hY hk hS => ?_)
  obtain ⟨hq_4, hP⟩ := hY
  subst hq_4
  rw [gb_onv]
  by_cases c_5 : r_2 = 0
  · rw [if_pos c_5] at h
    rw [gb_nv0 c_5]
    refine lv_astoreN (lv' := [(5, .null), (0, .ref (b + 0)), (1, .int p1), (2, .int p2), (3, .int p3), (4, .int p4)]) hx hb dX11_state_5 hl (by decide) rfl (fun ls hl => ?_)
    refine lv_aloadN hx hb dX11_state_7 (lv_at hl 0 rfl) ?_
    refine lv_ifnullN (tgt := 27) hx hb dX11_state_9 (by decide) ?_
    refine lv_bipush (v := (-2)) hx hb dX11_state_27 (by decide) ?_
    obtain ⟨e1, e2⟩ := gb_eq2 h
    exact W.iret (v := (-2)) hx hb hr (fun t ht hW => gb_ri ht ⟨e2, by rw [← e1]; exact hP⟩ hS) hS.2.2 dX11_state_29
  rw [if_neg c_5] at h
  rw [gb_nv1 c_5]
  obtain ⟨z_6, h⟩ := gb_kk_s h
  refine lv_astore (lv' := [(5, .ref (b + r_2)), (0, .ref (b + 0)), (1, .int p1), (2, .int p2), (3, .int p3), (4, .int p4)]) hx hb dX11_state_5 hl (by decide) rfl (fun ls hl => ?_)
  refine lv_aload hx hb dX11_state_7 (lv_at hl 0 rfl) ?_
  refine lv_ifnull hx hb dX11_state_9 ?_
  refine lv_aload_n hx hb dX11_state_12 rfl (lv_at hl 1 rfl) ?_
  refine lv_aload hx hb dX11_state_13 (lv_at hl 0 rfl) ?_
  refine lv_aload_n hx hb dX11_state_15 rfl (lv_at hl 1 rfl) ?_
  refine lv_iload_n hx hb dX11_state_16 rfl (lv_at hl 3 rfl) ?_
  obtain ⟨s_7, r_8, z_9, h⟩ := gb_cd_s h
  refine gb_callq (va_runV (C := RX11) (As := [.int p2]) (rest := [.ref (b + r_2), .ref (b + 0)]) ⟨hx, hb, hml, hown, hq⟩ (cc_Face_nightAt l D cT tt b1 b hb1 n s_1 p2 s_7 r_8 z_9) (cwV 1 hq (gb_gV w_646 w_648 s_1_8 w_1 w_649) rfl rfl rfl (by decide +kernel) ⟨Nat.le_of_ble_eq_true rfl, Nat.le_of_ble_eq_true rfl⟩) (gb_preV (r := (RX11, TX11, 10)) (ci := 9) (q0 := 0) hSt hP rfl (gb_at b rfl) hS (fun q h => Nat.le_trans hb1 h.1) hP) rfl rfl hl.1 rfl (lv_room (Nat.le_of_ble_eq_true rfl)) dX11_state_17 ⟨Nat.le_of_ble_eq_true rfl, Nat.le_of_ble_eq_true rfl⟩) hS (fun _ h => h) (fun _ h => h) (fun q_10 H locs hY hk hS => ?_)
  obtain ⟨hq_10, hP⟩ := hY
  subst hq_10
  rw [gb_onv]
  by_cases c_11 : r_8 = 0
  · rw [if_pos c_11] at h
    rw [gb_nv0 c_11]
    refine lv_iload_n hx hb dX11_state_20 rfl (lv_at hl 4 rfl) ?_
    obtain ⟨s_12, r_13, z_14, h⟩ := gb_cd_s h
    refine gb_calli (va_runV (C := RX11) (As := [.ref (b + r_2), .null, .int p3]) (rest := []) ⟨hx, hb, hml, hown, hq⟩ (cc_Face_playedTo_B_n l D cT tt b1 b hb1 n s_7 r_2 p3 s_12 r_13 z_14) (cwV 3 hq (gb_gV w_763 w_765 s_2_1 w_1 w_766) rfl rfl rfl (by decide +kernel) ⟨Nat.le_of_ble_eq_true rfl, Nat.le_of_ble_eq_true rfl⟩) (gb_preV (r := (RX11, TX11, 10)) (ci := 9) (q0 := 0) hSt hP rfl (gb_at b rfl) hS (fun q h => Nat.le_trans hb1 h.1) hP) rfl rfl hl.1 rfl (lv_room (Nat.le_of_ble_eq_true rfl)) dX11_state_21 ⟨Nat.le_of_ble_eq_true rfl, Nat.le_of_ble_eq_true rfl⟩) hS (fun _ h => h) (fun _ h => h) (fun q_15 H locs hY hk hS => ?_)
    obtain ⟨hq_15, hP⟩ := hY
    replace hq_15 := hq_15.symm
    subst hq_15
    refine lv_if_ne (tgt := 30) hx hb dX11_state_24 (by decide) (fun c_16 => ?_) (fun c_16 => ?_)
    · rw [if_neg c_16] at h
      refine lv_iload hx hb dX11_state_30 (lv_at hl 5 rfl) ?_
      by_cases c_17 : p4 = (0 : Int32)
      · rw [if_pos c_17] at h
        refine lv_tableIn (off := 52) (tgt := 84) hx hb dX11_state_32 (by rw [c_17]; decide) (by rw [c_17]; decide) (by rw [c_17]; decide) (by decide) ?_
        refine lv_aload_n hx hb dX11_state_84 rfl (lv_at hl 1 rfl) ?_
        refine va_get (ci := 9) (v := (.ref (b + 109))) (C := RX11) (T := TX11) (N := 10) hx hb hq i_X11 hown hK hP 0 (gb_at b rfl) rfl 6 (by decide) (hq _ w_321) (fun _ h9 => h9) rfl dX11_state_85 ?_
        refine lv_iload hx hb dX11_state_88 (lv_at hl 5 rfl) ?_
        obtain ⟨s_18, r_19, z_20, h⟩ := gb_cd_s h
        refine gb_calli (va_runV (C := RX6) (As := [.int p4]) (rest := []) ⟨hx, hb, hml, hown, hq⟩ (cc_Play_whoIs l D cT tt b1 b hb1 n s_12 p4 s_18 r_19 z_20) (cwV 1 hq (gb_gV w_796 w_797 w_798 w_11 w_799) rfl rfl rfl (by decide +kernel) ⟨Nat.le_of_ble_eq_true rfl, Nat.le_of_ble_eq_true rfl⟩) (gb_preV (r := (RX6, TX6, 12)) (ci := 5) (q0 := 109) hSt hP rfl (gb_at b rfl) hS (fun q h => Nat.le_trans hb1 h.1) hP) rfl rfl hl.1 rfl (lv_room (Nat.le_of_ble_eq_true rfl)) dX11_state_90 ⟨Nat.le_of_ble_eq_true rfl, Nat.le_of_ble_eq_true rfl⟩) hS (fun _ h => h) (fun _ h => h) (fun q_21 H locs hY hk hS => ?_)
        obtain ⟨hq_21, hP⟩ := hY
        replace hq_21 := hq_21.symm
        subst hq_21
        obtain ⟨e1, e2⟩ := gb_eq2 h
        exact W.iret (v := r_19) hx hb hr (fun t ht hW => gb_ri ht ⟨e2, by rw [← e1]; exact hP⟩ hS) hS.2.2 dX11_state_93
      rw [if_neg c_17] at h
      by_cases c_22 : p4 = (1 : Int32)
      · rw [if_pos c_22] at h
        refine lv_tableIn (off := 52) (tgt := 84) hx hb dX11_state_32 (by rw [c_22]; decide) (by rw [c_22]; decide) (by rw [c_22]; decide) (by decide) ?_
        refine lv_aload_n hx hb dX11_state_84 rfl (lv_at hl 1 rfl) ?_
        refine va_get (ci := 9) (v := (.ref (b + 109))) (C := RX11) (T := TX11) (N := 10) hx hb hq i_X11 hown hK hP 0 (gb_at b rfl) rfl 6 (by decide) (hq _ w_321) (fun _ h9 => h9) rfl dX11_state_85 ?_
        refine lv_iload hx hb dX11_state_88 (lv_at hl 5 rfl) ?_
        obtain ⟨s_23, r_24, z_25, h⟩ := gb_cd_s h
        refine gb_calli (va_runV (C := RX6) (As := [.int p4]) (rest := []) ⟨hx, hb, hml, hown, hq⟩ (cc_Play_whoIs l D cT tt b1 b hb1 n s_12 p4 s_23 r_24 z_25) (cwV 1 hq (gb_gV w_796 w_797 w_798 w_11 w_799) rfl rfl rfl (by decide +kernel) ⟨Nat.le_of_ble_eq_true rfl, Nat.le_of_ble_eq_true rfl⟩) (gb_preV (r := (RX6, TX6, 12)) (ci := 5) (q0 := 109) hSt hP rfl (gb_at b rfl) hS (fun q h => Nat.le_trans hb1 h.1) hP) rfl rfl hl.1 rfl (lv_room (Nat.le_of_ble_eq_true rfl)) dX11_state_90 ⟨Nat.le_of_ble_eq_true rfl, Nat.le_of_ble_eq_true rfl⟩) hS (fun _ h => h) (fun _ h => h) (fun q_26 H locs hY hk hS => ?_)
        obtain ⟨hq_26, hP⟩ := hY
        replace hq_26 := hq_26.symm
        subst hq_26
        obtain ⟨e1, e2⟩ := gb_eq2 h
        exact W.iret (v := r_24) hx hb hr (fun t ht hW => gb_ri ht ⟨e2, by rw [← e1]; exact hP⟩ hS) hS.2.2 dX11_state_93
      rw [if_neg c_22] at h
      by_cases c_27 : p4 = (2 : Int32)
      · rw [if_pos c_27] at h
        refine lv_tableIn (off := 52) (tgt := 84) hx hb dX11_state_32 (by rw [c_27]; decide) (by rw [c_27]; decide) (by rw [c_27]; decide) (by decide) ?_
        refine lv_aload_n hx hb dX11_state_84 rfl (lv_at hl 1 rfl) ?_
        refine va_get (ci := 9) (v := (.ref (b + 109))) (C := RX11) (T := TX11) (N := 10) hx hb hq i_X11 hown hK hP 0 (gb_at b rfl) rfl 6 (by decide) (hq _ w_321) (fun _ h9 => h9) rfl dX11_state_85 ?_
        refine lv_iload hx hb dX11_state_88 (lv_at hl 5 rfl) ?_
        obtain ⟨s_28, r_29, z_30, h⟩ := gb_cd_s h
        refine gb_calli (va_runV (C := RX6) (As := [.int p4]) (rest := []) ⟨hx, hb, hml, hown, hq⟩ (cc_Play_whoIs l D cT tt b1 b hb1 n s_12 p4 s_28 r_29 z_30) (cwV 1 hq (gb_gV w_796 w_797 w_798 w_11 w_799) rfl rfl rfl (by decide +kernel) ⟨Nat.le_of_ble_eq_true rfl, Nat.le_of_ble_eq_true rfl⟩) (gb_preV (r := (RX6, TX6, 12)) (ci := 5) (q0 := 109) hSt hP rfl (gb_at b rfl) hS (fun q h => Nat.le_trans hb1 h.1) hP) rfl rfl hl.1 rfl (lv_room (Nat.le_of_ble_eq_true rfl)) dX11_state_90 ⟨Nat.le_of_ble_eq_true rfl, Nat.le_of_ble_eq_true rfl⟩) hS (fun _ h => h) (fun _ h => h) (fun q_31 H locs hY hk hS => ?_)
        obtain ⟨hq_31, hP⟩ := hY
        replace hq_31 := hq_31.symm
        subst hq_31
        obtain ⟨e1, e2⟩ := gb_eq2 h
        exact W.iret (v := r_29) hx hb hr (fun t ht hW => gb_ri ht ⟨e2, by rw [← e1]; exact hP⟩ hS) hS.2.2 dX11_state_93
      rw [if_neg c_27] at h
      by_cases c_32 : p4 = (3 : Int32)
      · rw [if_pos c_32] at h
        refine lv_tableIn (off := 62) (tgt := 94) hx hb dX11_state_32 (by rw [c_32]; decide) (by rw [c_32]; decide) (by rw [c_32]; decide) (by decide) ?_
        refine lv_aload hx hb dX11_state_94 (lv_at hl 0 rfl) ?_
        refine lv_aload_n hx hb dX11_state_96 rfl (lv_at hl 1 rfl) ?_
        refine va_get (ci := 9) (v := (.ref (b + 109))) (C := RX11) (T := TX11) (N := 10) hx hb hq i_X11 hown hK hP 0 (gb_at b rfl) rfl 6 (by decide) (hq _ w_321) (fun _ h9 => h9) rfl dX11_state_97 ?_
        refine lv_iload hx hb dX11_state_100 (lv_at hl 5 rfl) ?_
        refine lv_iconst (v := 3) hx hb dX11_state_102 (by decide) ?_
        refine lv_isub hx hb dX11_state_103 ?_
        obtain ⟨s_33, r_34, z_35, h⟩ := gb_cd_s h
        refine gb_calli (va_runV (C := RX6) (As := [.int (p4 - 3)]) (rest := [.ref (b + r_2)]) ⟨hx, hb, hml, hown, hq⟩ (cc_Play_whoIs l D cT tt b1 b hb1 n s_12 (p4 - 3) s_33 r_34 z_35) (cwV 1 hq (gb_gV w_796 w_797 w_798 w_11 w_799) rfl rfl rfl (by decide +kernel) ⟨Nat.le_of_ble_eq_true rfl, Nat.le_of_ble_eq_true rfl⟩) (gb_preV (r := (RX6, TX6, 12)) (ci := 5) (q0 := 109) hSt hP rfl (gb_at b rfl) hS (fun q h => Nat.le_trans hb1 h.1) hP) rfl rfl hl.1 rfl (lv_room (Nat.le_of_ble_eq_true rfl)) dX11_state_104 ⟨Nat.le_of_ble_eq_true rfl, Nat.le_of_ble_eq_true rfl⟩) hS (fun _ h => h) (fun _ h => h) (fun q_36 H locs hY hk hS => ?_)
        obtain ⟨hq_36, hP⟩ := hY
        replace hq_36 := hq_36.symm
        subst hq_36
        obtain ⟨s_37, r_38, z_39, h⟩ := gb_cd_s h
        refine gb_calli (va_runV (C := RX0) (As := [.int r_34]) (rest := []) ⟨hx, hb, hml, hown, hq⟩ (cc_Border_worthOf_B l D cT tt b1 b hb1 n s_33 r_2 r_34 s_37 r_38 z_39) (cwV 1 hq (gb_gV w_800 w_801 w_802 w_4 w_803) rfl rfl rfl (by decide +kernel) ⟨Nat.le_of_ble_eq_true rfl, Nat.le_of_ble_eq_true rfl⟩) (gb_preV (r := (RX0, TX0, 1)) (ci := 0) (q0 := r_2) hSt hP rfl (gb_at b (gb_cB z_6).1) hS (fun q h => Nat.le_trans hb1 h.1) hP) rfl rfl hl.1 rfl (lv_room (Nat.le_of_ble_eq_true rfl)) dX11_state_107 ⟨Nat.le_of_ble_eq_true rfl, Nat.le_of_ble_eq_true rfl⟩) hS (fun _ h => h) (fun _ h => h) (fun q_40 H locs hY hk hS => ?_)
        obtain ⟨hq_40, hP⟩ := hY
        replace hq_40 := hq_40.symm
        subst hq_40
        obtain ⟨e1, e2⟩ := gb_eq2 h
        exact W.iret (v := r_38) hx hb hr (fun t ht hW => gb_ri ht ⟨e2, by rw [← e1]; exact hP⟩ hS) hS.2.2 dX11_state_110
      rw [if_neg c_32] at h
      by_cases c_41 : p4 = (4 : Int32)
      · rw [if_pos c_41] at h
        refine lv_tableIn (off := 62) (tgt := 94) hx hb dX11_state_32 (by rw [c_41]; decide) (by rw [c_41]; decide) (by rw [c_41]; decide) (by decide) ?_
        refine lv_aload hx hb dX11_state_94 (lv_at hl 0 rfl) ?_
        refine lv_aload_n hx hb dX11_state_96 rfl (lv_at hl 1 rfl) ?_
        refine va_get (ci := 9) (v := (.ref (b + 109))) (C := RX11) (T := TX11) (N := 10) hx hb hq i_X11 hown hK hP 0 (gb_at b rfl) rfl 6 (by decide) (hq _ w_321) (fun _ h9 => h9) rfl dX11_state_97 ?_
        refine lv_iload hx hb dX11_state_100 (lv_at hl 5 rfl) ?_
        refine lv_iconst (v := 3) hx hb dX11_state_102 (by decide) ?_
        refine lv_isub hx hb dX11_state_103 ?_
        obtain ⟨s_42, r_43, z_44, h⟩ := gb_cd_s h
        refine gb_calli (va_runV (C := RX6) (As := [.int (p4 - 3)]) (rest := [.ref (b + r_2)]) ⟨hx, hb, hml, hown, hq⟩ (cc_Play_whoIs l D cT tt b1 b hb1 n s_12 (p4 - 3) s_42 r_43 z_44) (cwV 1 hq (gb_gV w_796 w_797 w_798 w_11 w_799) rfl rfl rfl (by decide +kernel) ⟨Nat.le_of_ble_eq_true rfl, Nat.le_of_ble_eq_true rfl⟩) (gb_preV (r := (RX6, TX6, 12)) (ci := 5) (q0 := 109) hSt hP rfl (gb_at b rfl) hS (fun q h => Nat.le_trans hb1 h.1) hP) rfl rfl hl.1 rfl (lv_room (Nat.le_of_ble_eq_true rfl)) dX11_state_104 ⟨Nat.le_of_ble_eq_true rfl, Nat.le_of_ble_eq_true rfl⟩) hS (fun _ h => h) (fun _ h => h) (fun q_45 H locs hY hk hS => ?_)
        obtain ⟨hq_45, hP⟩ := hY
        replace hq_45 := hq_45.symm
        subst hq_45
        obtain ⟨s_46, r_47, z_48, h⟩ := gb_cd_s h
        refine gb_calli (va_runV (C := RX0) (As := [.int r_43]) (rest := []) ⟨hx, hb, hml, hown, hq⟩ (cc_Border_worthOf_B l D cT tt b1 b hb1 n s_42 r_2 r_43 s_46 r_47 z_48) (cwV 1 hq (gb_gV w_800 w_801 w_802 w_4 w_803) rfl rfl rfl (by decide +kernel) ⟨Nat.le_of_ble_eq_true rfl, Nat.le_of_ble_eq_true rfl⟩) (gb_preV (r := (RX0, TX0, 1)) (ci := 0) (q0 := r_2) hSt hP rfl (gb_at b (gb_cB z_6).1) hS (fun q h => Nat.le_trans hb1 h.1) hP) rfl rfl hl.1 rfl (lv_room (Nat.le_of_ble_eq_true rfl)) dX11_state_107 ⟨Nat.le_of_ble_eq_true rfl, Nat.le_of_ble_eq_true rfl⟩) hS (fun _ h => h) (fun _ h => h) (fun q_49 H locs hY hk hS => ?_)
        obtain ⟨hq_49, hP⟩ := hY
        replace hq_49 := hq_49.symm
        subst hq_49
        obtain ⟨e1, e2⟩ := gb_eq2 h
        exact W.iret (v := r_47) hx hb hr (fun t ht hW => gb_ri ht ⟨e2, by rw [← e1]; exact hP⟩ hS) hS.2.2 dX11_state_110
      rw [if_neg c_41] at h
      by_cases c_50 : p4 = (5 : Int32)
      · rw [if_pos c_50] at h
        refine lv_tableIn (off := 62) (tgt := 94) hx hb dX11_state_32 (by rw [c_50]; decide) (by rw [c_50]; decide) (by rw [c_50]; decide) (by decide) ?_
        refine lv_aload hx hb dX11_state_94 (lv_at hl 0 rfl) ?_
        refine lv_aload_n hx hb dX11_state_96 rfl (lv_at hl 1 rfl) ?_
        refine va_get (ci := 9) (v := (.ref (b + 109))) (C := RX11) (T := TX11) (N := 10) hx hb hq i_X11 hown hK hP 0 (gb_at b rfl) rfl 6 (by decide) (hq _ w_321) (fun _ h9 => h9) rfl dX11_state_97 ?_
        refine lv_iload hx hb dX11_state_100 (lv_at hl 5 rfl) ?_
        refine lv_iconst (v := 3) hx hb dX11_state_102 (by decide) ?_
        refine lv_isub hx hb dX11_state_103 ?_
        obtain ⟨s_51, r_52, z_53, h⟩ := gb_cd_s h
        refine gb_calli (va_runV (C := RX6) (As := [.int (p4 - 3)]) (rest := [.ref (b + r_2)]) ⟨hx, hb, hml, hown, hq⟩ (cc_Play_whoIs l D cT tt b1 b hb1 n s_12 (p4 - 3) s_51 r_52 z_53) (cwV 1 hq (gb_gV w_796 w_797 w_798 w_11 w_799) rfl rfl rfl (by decide +kernel) ⟨Nat.le_of_ble_eq_true rfl, Nat.le_of_ble_eq_true rfl⟩) (gb_preV (r := (RX6, TX6, 12)) (ci := 5) (q0 := 109) hSt hP rfl (gb_at b rfl) hS (fun q h => Nat.le_trans hb1 h.1) hP) rfl rfl hl.1 rfl (lv_room (Nat.le_of_ble_eq_true rfl)) dX11_state_104 ⟨Nat.le_of_ble_eq_true rfl, Nat.le_of_ble_eq_true rfl⟩) hS (fun _ h => h) (fun _ h => h) (fun q_54 H locs hY hk hS => ?_)
        obtain ⟨hq_54, hP⟩ := hY
        replace hq_54 := hq_54.symm
        subst hq_54
        obtain ⟨s_55, r_56, z_57, h⟩ := gb_cd_s h
        refine gb_calli (va_runV (C := RX0) (As := [.int r_52]) (rest := []) ⟨hx, hb, hml, hown, hq⟩ (cc_Border_worthOf_B l D cT tt b1 b hb1 n s_51 r_2 r_52 s_55 r_56 z_57) (cwV 1 hq (gb_gV w_800 w_801 w_802 w_4 w_803) rfl rfl rfl (by decide +kernel) ⟨Nat.le_of_ble_eq_true rfl, Nat.le_of_ble_eq_true rfl⟩) (gb_preV (r := (RX0, TX0, 1)) (ci := 0) (q0 := r_2) hSt hP rfl (gb_at b (gb_cB z_6).1) hS (fun q h => Nat.le_trans hb1 h.1) hP) rfl rfl hl.1 rfl (lv_room (Nat.le_of_ble_eq_true rfl)) dX11_state_107 ⟨Nat.le_of_ble_eq_true rfl, Nat.le_of_ble_eq_true rfl⟩) hS (fun _ h => h) (fun _ h => h) (fun q_58 H locs hY hk hS => ?_)
        obtain ⟨hq_58, hP⟩ := hY
        replace hq_58 := hq_58.symm
        subst hq_58
        obtain ⟨e1, e2⟩ := gb_eq2 h
        exact W.iret (v := r_56) hx hb hr (fun t ht hW => gb_ri ht ⟨e2, by rw [← e1]; exact hP⟩ hS) hS.2.2 dX11_state_110
      rw [if_neg c_50] at h
      by_cases c_59 : p4 = (6 : Int32)
      · rw [if_pos c_59] at h
        refine lv_tableIn (off := 79) (tgt := 111) hx hb dX11_state_32 (by rw [c_59]; decide) (by rw [c_59]; decide) (by rw [c_59]; decide) (by decide) ?_
        refine lv_aload_n hx hb dX11_state_111 rfl (lv_at hl 1 rfl) ?_
        refine va_get (ci := 9) (v := (.ref (b + 109))) (C := RX11) (T := TX11) (N := 10) hx hb hq i_X11 hown hK hP 0 (gb_at b rfl) rfl 6 (by decide) (hq _ w_321) (fun _ h9 => h9) rfl dX11_state_112 ?_
        obtain ⟨s_60, r_61, z_62, h⟩ := gb_cd_s h
        refine gb_calli (va_runV (C := RX6) (As := []) (rest := []) ⟨hx, hb, hml, hown, hq⟩ (cc_Play_worn l D cT tt b1 b hb1 n s_12 s_60 r_61 z_62) (cwV 0 hq (gb_gV w_808 w_809 w_810 w_11 w_811) rfl rfl rfl (by decide +kernel) ⟨Nat.le_of_ble_eq_true rfl, Nat.le_of_ble_eq_true rfl⟩) (gb_preV (r := (RX6, TX6, 12)) (ci := 5) (q0 := 109) hSt hP rfl (gb_at b rfl) hS (fun q h => Nat.le_trans hb1 h.1) hP) rfl rfl hl.1 rfl (lv_room (Nat.le_of_ble_eq_true rfl)) dX11_state_115 ⟨Nat.le_of_ble_eq_true rfl, Nat.le_of_ble_eq_true rfl⟩) hS (fun _ h => h) (fun _ h => h) (fun q_63 H locs hY hk hS => ?_)
        obtain ⟨hq_63, hP⟩ := hY
        replace hq_63 := hq_63.symm
        subst hq_63
        obtain ⟨e1, e2⟩ := gb_eq2 h
        exact W.iret (v := r_61) hx hb hr (fun t ht hW => gb_ri ht ⟨e2, by rw [← e1]; exact hP⟩ hS) hS.2.2 dX11_state_118
      rw [if_neg c_59] at h
      by_cases c_64 : p4 = (7 : Int32)
      · rw [if_pos c_64] at h
        refine lv_tableIn (off := 87) (tgt := 119) hx hb dX11_state_32 (by rw [c_64]; decide) (by rw [c_64]; decide) (by rw [c_64]; decide) (by decide) ?_
        refine lv_aload_n hx hb dX11_state_119 rfl (lv_at hl 1 rfl) ?_
        refine va_get (ci := 9) (v := (.ref (b + 109))) (C := RX11) (T := TX11) (N := 10) hx hb hq i_X11 hown hK hP 0 (gb_at b rfl) rfl 6 (by decide) (hq _ w_321) (fun _ h9 => h9) rfl dX11_state_120 ?_
        obtain ⟨s_65, r_66, z_67, h⟩ := gb_cd_s h
        refine gb_calli (va_runV (C := RX6) (As := []) (rest := []) ⟨hx, hb, hml, hown, hq⟩ (cc_Play_allPay l D cT tt b1 b hb1 n s_12 s_65 r_66 z_67) (cwV 0 hq (gb_gV w_812 w_813 w_814 w_11 w_815) rfl rfl rfl (by decide +kernel) ⟨Nat.le_of_ble_eq_true rfl, Nat.le_of_ble_eq_true rfl⟩) (gb_preV (r := (RX6, TX6, 12)) (ci := 5) (q0 := 109) hSt hP rfl (gb_at b rfl) hS (fun q h => Nat.le_trans hb1 h.1) hP) rfl rfl hl.1 rfl (lv_room (Nat.le_of_ble_eq_true rfl)) dX11_state_123 ⟨Nat.le_of_ble_eq_true rfl, Nat.le_of_ble_eq_true rfl⟩) hS (fun _ h => h) (fun _ h => h) (fun q_68 H locs hY hk hS => ?_)
        obtain ⟨hq_68, hP⟩ := hY
        replace hq_68 := hq_68.symm
        subst hq_68
        obtain ⟨e1, e2⟩ := gb_eq2 h
        exact W.iret (v := r_66) hx hb hr (fun t ht hW => gb_ri ht ⟨e2, by rw [← e1]; exact hP⟩ hS) hS.2.2 dX11_state_126
      rw [if_neg c_64] at h
      by_cases c_69 : p4 = (8 : Int32)
      · rw [if_pos c_69] at h
        refine lv_tableIn (off := 95) (tgt := 127) hx hb dX11_state_32 (by rw [c_69]; decide) (by rw [c_69]; decide) (by rw [c_69]; decide) (by decide) ?_
        refine lv_aload_n hx hb dX11_state_127 rfl (lv_at hl 1 rfl) ?_
        refine va_get (ci := 9) (v := (.ref (b + 109))) (C := RX11) (T := TX11) (N := 10) hx hb hq i_X11 hown hK hP 0 (gb_at b rfl) rfl 6 (by decide) (hq _ w_321) (fun _ h9 => h9) rfl dX11_state_128 ?_
        refine va_get (ci := 5) (v := (.int (s_12.1 109 10))) (C := RX6) (T := TX6) (N := 12) hx hb hq i_X6 hown hK hP 109 (gb_at b rfl) rfl 10 (by decide) (hq _ w_215) (fun _ h9 => h9) rfl dX11_state_131 ?_
        refine lv_if_eq (tgt := 141) hx hb dX11_state_134 (by decide) (fun c_70 => ?_) (fun c_70 => ?_)
        · rw [if_pos c_70] at h
          refine lv_iconst (v := 0) hx hb dX11_state_141 (by decide) ?_
          obtain ⟨e1, e2⟩ := gb_eq2 h
          exact W.iret (v := 0) hx hb hr (fun t ht hW => gb_ri ht ⟨e2, by rw [← e1]; exact hP⟩ hS) hS.2.2 dX11_state_142
        · rw [if_neg c_70] at h
          refine lv_iconst (v := 1) hx hb dX11_state_137 (by decide) ?_
          refine lv_goto (tgt := 142) hx hb dX11_state_138 (by decide) ?_
          obtain ⟨e1, e2⟩ := gb_eq2 h
          exact W.iret (v := 1) hx hb hr (fun t ht hW => gb_ri ht ⟨e2, by rw [← e1]; exact hP⟩ hS) hS.2.2 dX11_state_142
      rw [if_neg c_69] at h
      refine lv_tableOut (tgt := 143) hx hb dX11_state_32 (by have := lv_neT c_17 (a := 0) rfl; have := lv_neT c_22 (a := 1) rfl; have := lv_neT c_27 (a := 2) rfl; have := lv_neT c_32 (a := 3) rfl; have := lv_neT c_41 (a := 4) rfl; have := lv_neT c_50 (a := 5) rfl; have := lv_neT c_59 (a := 6) rfl; have := lv_neT c_64 (a := 7) rfl; have := lv_neT c_69 (a := 8) rfl; omega) (by decide) ?_
      refine lv_bipush (v := (-2)) hx hb dX11_state_143 (by decide) ?_
      obtain ⟨e1, e2⟩ := gb_eq2 h
      exact W.iret (v := (-2)) hx hb hr (fun t ht hW => gb_ri ht ⟨e2, by rw [← e1]; exact hP⟩ hS) hS.2.2 dX11_state_145
    · rw [if_pos c_16] at h
      refine lv_bipush (v := (-2)) hx hb dX11_state_27 (by decide) ?_
      obtain ⟨e1, e2⟩ := gb_eq2 h
      exact W.iret (v := (-2)) hx hb hr (fun t ht hW => gb_ri ht ⟨e2, by rw [← e1]; exact hP⟩ hS) hS.2.2 dX11_state_29
  rw [if_neg c_11] at h
  rw [gb_nv1 c_11]
  obtain ⟨z_71, h⟩ := gb_kk_s h
  refine lv_iload_n hx hb dX11_state_20 rfl (lv_at hl 4 rfl) ?_
  obtain ⟨s_72, r_73, z_74, h⟩ := gb_cd_s h
  refine gb_calli (va_runV (C := RX11) (As := [.ref (b + r_2), .ref (b + r_8), .int p3]) (rest := []) ⟨hx, hb, hml, hown, hq⟩ (cc_Face_playedTo_B_N l D cT tt b1 b hb1 n s_7 r_2 r_8 p3 s_72 r_73 z_74) (cwV 3 hq (gb_gV w_763 w_765 s_2_1 w_1 w_766) rfl rfl rfl (by decide +kernel) ⟨Nat.le_of_ble_eq_true rfl, Nat.le_of_ble_eq_true rfl⟩) (gb_preV (r := (RX11, TX11, 10)) (ci := 9) (q0 := 0) hSt hP rfl (gb_at b rfl) hS (fun q h => Nat.le_trans hb1 h.1) hP) rfl rfl hl.1 rfl (lv_room (Nat.le_of_ble_eq_true rfl)) dX11_state_21 ⟨Nat.le_of_ble_eq_true rfl, Nat.le_of_ble_eq_true rfl⟩) hS (fun _ h => h) (fun _ h => h) (fun q_75 H locs hY hk hS => ?_)
  obtain ⟨hq_75, hP⟩ := hY
  replace hq_75 := hq_75.symm
  subst hq_75
  refine lv_if_ne (tgt := 30) hx hb dX11_state_24 (by decide) (fun c_76 => ?_) (fun c_76 => ?_)
  · rw [if_neg c_76] at h
    refine lv_iload hx hb dX11_state_30 (lv_at hl 5 rfl) ?_
    by_cases c_77 : p4 = (0 : Int32)
    · rw [if_pos c_77] at h
      refine lv_tableIn (off := 52) (tgt := 84) hx hb dX11_state_32 (by rw [c_77]; decide) (by rw [c_77]; decide) (by rw [c_77]; decide) (by decide) ?_
      refine lv_aload_n hx hb dX11_state_84 rfl (lv_at hl 1 rfl) ?_
      refine va_get (ci := 9) (v := (.ref (b + 109))) (C := RX11) (T := TX11) (N := 10) hx hb hq i_X11 hown hK hP 0 (gb_at b rfl) rfl 6 (by decide) (hq _ w_321) (fun _ h9 => h9) rfl dX11_state_85 ?_
      refine lv_iload hx hb dX11_state_88 (lv_at hl 5 rfl) ?_
      obtain ⟨s_78, r_79, z_80, h⟩ := gb_cd_s h
      refine gb_calli (va_runV (C := RX6) (As := [.int p4]) (rest := []) ⟨hx, hb, hml, hown, hq⟩ (cc_Play_whoIs l D cT tt b1 b hb1 n s_72 p4 s_78 r_79 z_80) (cwV 1 hq (gb_gV w_796 w_797 w_798 w_11 w_799) rfl rfl rfl (by decide +kernel) ⟨Nat.le_of_ble_eq_true rfl, Nat.le_of_ble_eq_true rfl⟩) (gb_preV (r := (RX6, TX6, 12)) (ci := 5) (q0 := 109) hSt hP rfl (gb_at b rfl) hS (fun q h => Nat.le_trans hb1 h.1) hP) rfl rfl hl.1 rfl (lv_room (Nat.le_of_ble_eq_true rfl)) dX11_state_90 ⟨Nat.le_of_ble_eq_true rfl, Nat.le_of_ble_eq_true rfl⟩) hS (fun _ h => h) (fun _ h => h) (fun q_81 H locs hY hk hS => ?_)
      obtain ⟨hq_81, hP⟩ := hY
      replace hq_81 := hq_81.symm
      subst hq_81
      obtain ⟨e1, e2⟩ := gb_eq2 h
      exact W.iret (v := r_79) hx hb hr (fun t ht hW => gb_ri ht ⟨e2, by rw [← e1]; exact hP⟩ hS) hS.2.2 dX11_state_93
    rw [if_neg c_77] at h
    by_cases c_82 : p4 = (1 : Int32)
    · rw [if_pos c_82] at h
      refine lv_tableIn (off := 52) (tgt := 84) hx hb dX11_state_32 (by rw [c_82]; decide) (by rw [c_82]; decide) (by rw [c_82]; decide) (by decide) ?_
      refine lv_aload_n hx hb dX11_state_84 rfl (lv_at hl 1 rfl) ?_
      refine va_get (ci := 9) (v := (.ref (b + 109))) (C := RX11) (T := TX11) (N := 10) hx hb hq i_X11 hown hK hP 0 (gb_at b rfl) rfl 6 (by decide) (hq _ w_321) (fun _ h9 => h9) rfl dX11_state_85 ?_
      refine lv_iload hx hb dX11_state_88 (lv_at hl 5 rfl) ?_
      obtain ⟨s_83, r_84, z_85, h⟩ := gb_cd_s h
      refine gb_calli (va_runV (C := RX6) (As := [.int p4]) (rest := []) ⟨hx, hb, hml, hown, hq⟩ (cc_Play_whoIs l D cT tt b1 b hb1 n s_72 p4 s_83 r_84 z_85) (cwV 1 hq (gb_gV w_796 w_797 w_798 w_11 w_799) rfl rfl rfl (by decide +kernel) ⟨Nat.le_of_ble_eq_true rfl, Nat.le_of_ble_eq_true rfl⟩) (gb_preV (r := (RX6, TX6, 12)) (ci := 5) (q0 := 109) hSt hP rfl (gb_at b rfl) hS (fun q h => Nat.le_trans hb1 h.1) hP) rfl rfl hl.1 rfl (lv_room (Nat.le_of_ble_eq_true rfl)) dX11_state_90 ⟨Nat.le_of_ble_eq_true rfl, Nat.le_of_ble_eq_true rfl⟩) hS (fun _ h => h) (fun _ h => h) (fun q_86 H locs hY hk hS => ?_)
      obtain ⟨hq_86, hP⟩ := hY
      replace hq_86 := hq_86.symm
      subst hq_86
      obtain ⟨e1, e2⟩ := gb_eq2 h
      exact W.iret (v := r_84) hx hb hr (fun t ht hW => gb_ri ht ⟨e2, by rw [← e1]; exact hP⟩ hS) hS.2.2 dX11_state_93
    rw [if_neg c_82] at h
    by_cases c_87 : p4 = (2 : Int32)
    · rw [if_pos c_87] at h
      refine lv_tableIn (off := 52) (tgt := 84) hx hb dX11_state_32 (by rw [c_87]; decide) (by rw [c_87]; decide) (by rw [c_87]; decide) (by decide) ?_
      refine lv_aload_n hx hb dX11_state_84 rfl (lv_at hl 1 rfl) ?_
      refine va_get (ci := 9) (v := (.ref (b + 109))) (C := RX11) (T := TX11) (N := 10) hx hb hq i_X11 hown hK hP 0 (gb_at b rfl) rfl 6 (by decide) (hq _ w_321) (fun _ h9 => h9) rfl dX11_state_85 ?_
      refine lv_iload hx hb dX11_state_88 (lv_at hl 5 rfl) ?_
      obtain ⟨s_88, r_89, z_90, h⟩ := gb_cd_s h
      refine gb_calli (va_runV (C := RX6) (As := [.int p4]) (rest := []) ⟨hx, hb, hml, hown, hq⟩ (cc_Play_whoIs l D cT tt b1 b hb1 n s_72 p4 s_88 r_89 z_90) (cwV 1 hq (gb_gV w_796 w_797 w_798 w_11 w_799) rfl rfl rfl (by decide +kernel) ⟨Nat.le_of_ble_eq_true rfl, Nat.le_of_ble_eq_true rfl⟩) (gb_preV (r := (RX6, TX6, 12)) (ci := 5) (q0 := 109) hSt hP rfl (gb_at b rfl) hS (fun q h => Nat.le_trans hb1 h.1) hP) rfl rfl hl.1 rfl (lv_room (Nat.le_of_ble_eq_true rfl)) dX11_state_90 ⟨Nat.le_of_ble_eq_true rfl, Nat.le_of_ble_eq_true rfl⟩) hS (fun _ h => h) (fun _ h => h) (fun q_91 H locs hY hk hS => ?_)
      obtain ⟨hq_91, hP⟩ := hY
      replace hq_91 := hq_91.symm
      subst hq_91
      obtain ⟨e1, e2⟩ := gb_eq2 h
      exact W.iret (v := r_89) hx hb hr (fun t ht hW => gb_ri ht ⟨e2, by rw [← e1]; exact hP⟩ hS) hS.2.2 dX11_state_93
    rw [if_neg c_87] at h
    by_cases c_92 : p4 = (3 : Int32)
    · rw [if_pos c_92] at h
      refine lv_tableIn (off := 62) (tgt := 94) hx hb dX11_state_32 (by rw [c_92]; decide) (by rw [c_92]; decide) (by rw [c_92]; decide) (by decide) ?_
      refine lv_aload hx hb dX11_state_94 (lv_at hl 0 rfl) ?_
      refine lv_aload_n hx hb dX11_state_96 rfl (lv_at hl 1 rfl) ?_
      refine va_get (ci := 9) (v := (.ref (b + 109))) (C := RX11) (T := TX11) (N := 10) hx hb hq i_X11 hown hK hP 0 (gb_at b rfl) rfl 6 (by decide) (hq _ w_321) (fun _ h9 => h9) rfl dX11_state_97 ?_
      refine lv_iload hx hb dX11_state_100 (lv_at hl 5 rfl) ?_
      refine lv_iconst (v := 3) hx hb dX11_state_102 (by decide) ?_
      refine lv_isub hx hb dX11_state_103 ?_
      obtain ⟨s_93, r_94, z_95, h⟩ := gb_cd_s h
      refine gb_calli (va_runV (C := RX6) (As := [.int (p4 - 3)]) (rest := [.ref (b + r_2)]) ⟨hx, hb, hml, hown, hq⟩ (cc_Play_whoIs l D cT tt b1 b hb1 n s_72 (p4 - 3) s_93 r_94 z_95) (cwV 1 hq (gb_gV w_796 w_797 w_798 w_11 w_799) rfl rfl rfl (by decide +kernel) ⟨Nat.le_of_ble_eq_true rfl, Nat.le_of_ble_eq_true rfl⟩) (gb_preV (r := (RX6, TX6, 12)) (ci := 5) (q0 := 109) hSt hP rfl (gb_at b rfl) hS (fun q h => Nat.le_trans hb1 h.1) hP) rfl rfl hl.1 rfl (lv_room (Nat.le_of_ble_eq_true rfl)) dX11_state_104 ⟨Nat.le_of_ble_eq_true rfl, Nat.le_of_ble_eq_true rfl⟩) hS (fun _ h => h) (fun _ h => h) (fun q_96 H locs hY hk hS => ?_)
      obtain ⟨hq_96, hP⟩ := hY
      replace hq_96 := hq_96.symm
      subst hq_96
      obtain ⟨s_97, r_98, z_99, h⟩ := gb_cd_s h
      refine gb_calli (va_runV (C := RX0) (As := [.int r_94]) (rest := []) ⟨hx, hb, hml, hown, hq⟩ (cc_Border_worthOf_B l D cT tt b1 b hb1 n s_93 r_2 r_94 s_97 r_98 z_99) (cwV 1 hq (gb_gV w_800 w_801 w_802 w_4 w_803) rfl rfl rfl (by decide +kernel) ⟨Nat.le_of_ble_eq_true rfl, Nat.le_of_ble_eq_true rfl⟩) (gb_preV (r := (RX0, TX0, 1)) (ci := 0) (q0 := r_2) hSt hP rfl (gb_at b (gb_cB z_6).1) hS (fun q h => Nat.le_trans hb1 h.1) hP) rfl rfl hl.1 rfl (lv_room (Nat.le_of_ble_eq_true rfl)) dX11_state_107 ⟨Nat.le_of_ble_eq_true rfl, Nat.le_of_ble_eq_true rfl⟩) hS (fun _ h => h) (fun _ h => h) (fun q_100 H locs hY hk hS => ?_)
      obtain ⟨hq_100, hP⟩ := hY
      replace hq_100 := hq_100.symm
      subst hq_100
      obtain ⟨e1, e2⟩ := gb_eq2 h
      exact W.iret (v := r_98) hx hb hr (fun t ht hW => gb_ri ht ⟨e2, by rw [← e1]; exact hP⟩ hS) hS.2.2 dX11_state_110
    rw [if_neg c_92] at h
    by_cases c_101 : p4 = (4 : Int32)
    · rw [if_pos c_101] at h
      refine lv_tableIn (off := 62) (tgt := 94) hx hb dX11_state_32 (by rw [c_101]; decide) (by rw [c_101]; decide) (by rw [c_101]; decide) (by decide) ?_
      refine lv_aload hx hb dX11_state_94 (lv_at hl 0 rfl) ?_
      refine lv_aload_n hx hb dX11_state_96 rfl (lv_at hl 1 rfl) ?_
      refine va_get (ci := 9) (v := (.ref (b + 109))) (C := RX11) (T := TX11) (N := 10) hx hb hq i_X11 hown hK hP 0 (gb_at b rfl) rfl 6 (by decide) (hq _ w_321) (fun _ h9 => h9) rfl dX11_state_97 ?_
      refine lv_iload hx hb dX11_state_100 (lv_at hl 5 rfl) ?_
      refine lv_iconst (v := 3) hx hb dX11_state_102 (by decide) ?_
      refine lv_isub hx hb dX11_state_103 ?_
      obtain ⟨s_102, r_103, z_104, h⟩ := gb_cd_s h
      refine gb_calli (va_runV (C := RX6) (As := [.int (p4 - 3)]) (rest := [.ref (b + r_2)]) ⟨hx, hb, hml, hown, hq⟩ (cc_Play_whoIs l D cT tt b1 b hb1 n s_72 (p4 - 3) s_102 r_103 z_104) (cwV 1 hq (gb_gV w_796 w_797 w_798 w_11 w_799) rfl rfl rfl (by decide +kernel) ⟨Nat.le_of_ble_eq_true rfl, Nat.le_of_ble_eq_true rfl⟩) (gb_preV (r := (RX6, TX6, 12)) (ci := 5) (q0 := 109) hSt hP rfl (gb_at b rfl) hS (fun q h => Nat.le_trans hb1 h.1) hP) rfl rfl hl.1 rfl (lv_room (Nat.le_of_ble_eq_true rfl)) dX11_state_104 ⟨Nat.le_of_ble_eq_true rfl, Nat.le_of_ble_eq_true rfl⟩) hS (fun _ h => h) (fun _ h => h) (fun q_105 H locs hY hk hS => ?_)
      obtain ⟨hq_105, hP⟩ := hY
      replace hq_105 := hq_105.symm
      subst hq_105
      obtain ⟨s_106, r_107, z_108, h⟩ := gb_cd_s h
      refine gb_calli (va_runV (C := RX0) (As := [.int r_103]) (rest := []) ⟨hx, hb, hml, hown, hq⟩ (cc_Border_worthOf_B l D cT tt b1 b hb1 n s_102 r_2 r_103 s_106 r_107 z_108) (cwV 1 hq (gb_gV w_800 w_801 w_802 w_4 w_803) rfl rfl rfl (by decide +kernel) ⟨Nat.le_of_ble_eq_true rfl, Nat.le_of_ble_eq_true rfl⟩) (gb_preV (r := (RX0, TX0, 1)) (ci := 0) (q0 := r_2) hSt hP rfl (gb_at b (gb_cB z_6).1) hS (fun q h => Nat.le_trans hb1 h.1) hP) rfl rfl hl.1 rfl (lv_room (Nat.le_of_ble_eq_true rfl)) dX11_state_107 ⟨Nat.le_of_ble_eq_true rfl, Nat.le_of_ble_eq_true rfl⟩) hS (fun _ h => h) (fun _ h => h) (fun q_109 H locs hY hk hS => ?_)
      obtain ⟨hq_109, hP⟩ := hY
      replace hq_109 := hq_109.symm
      subst hq_109
      obtain ⟨e1, e2⟩ := gb_eq2 h
      exact W.iret (v := r_107) hx hb hr (fun t ht hW => gb_ri ht ⟨e2, by rw [← e1]; exact hP⟩ hS) hS.2.2 dX11_state_110
    rw [if_neg c_101] at h
    by_cases c_110 : p4 = (5 : Int32)
    · rw [if_pos c_110] at h
      refine lv_tableIn (off := 62) (tgt := 94) hx hb dX11_state_32 (by rw [c_110]; decide) (by rw [c_110]; decide) (by rw [c_110]; decide) (by decide) ?_
      refine lv_aload hx hb dX11_state_94 (lv_at hl 0 rfl) ?_
      refine lv_aload_n hx hb dX11_state_96 rfl (lv_at hl 1 rfl) ?_
      refine va_get (ci := 9) (v := (.ref (b + 109))) (C := RX11) (T := TX11) (N := 10) hx hb hq i_X11 hown hK hP 0 (gb_at b rfl) rfl 6 (by decide) (hq _ w_321) (fun _ h9 => h9) rfl dX11_state_97 ?_
      refine lv_iload hx hb dX11_state_100 (lv_at hl 5 rfl) ?_
      refine lv_iconst (v := 3) hx hb dX11_state_102 (by decide) ?_
      refine lv_isub hx hb dX11_state_103 ?_
      obtain ⟨s_111, r_112, z_113, h⟩ := gb_cd_s h
      refine gb_calli (va_runV (C := RX6) (As := [.int (p4 - 3)]) (rest := [.ref (b + r_2)]) ⟨hx, hb, hml, hown, hq⟩ (cc_Play_whoIs l D cT tt b1 b hb1 n s_72 (p4 - 3) s_111 r_112 z_113) (cwV 1 hq (gb_gV w_796 w_797 w_798 w_11 w_799) rfl rfl rfl (by decide +kernel) ⟨Nat.le_of_ble_eq_true rfl, Nat.le_of_ble_eq_true rfl⟩) (gb_preV (r := (RX6, TX6, 12)) (ci := 5) (q0 := 109) hSt hP rfl (gb_at b rfl) hS (fun q h => Nat.le_trans hb1 h.1) hP) rfl rfl hl.1 rfl (lv_room (Nat.le_of_ble_eq_true rfl)) dX11_state_104 ⟨Nat.le_of_ble_eq_true rfl, Nat.le_of_ble_eq_true rfl⟩) hS (fun _ h => h) (fun _ h => h) (fun q_114 H locs hY hk hS => ?_)
      obtain ⟨hq_114, hP⟩ := hY
      replace hq_114 := hq_114.symm
      subst hq_114
      obtain ⟨s_115, r_116, z_117, h⟩ := gb_cd_s h
      refine gb_calli (va_runV (C := RX0) (As := [.int r_112]) (rest := []) ⟨hx, hb, hml, hown, hq⟩ (cc_Border_worthOf_B l D cT tt b1 b hb1 n s_111 r_2 r_112 s_115 r_116 z_117) (cwV 1 hq (gb_gV w_800 w_801 w_802 w_4 w_803) rfl rfl rfl (by decide +kernel) ⟨Nat.le_of_ble_eq_true rfl, Nat.le_of_ble_eq_true rfl⟩) (gb_preV (r := (RX0, TX0, 1)) (ci := 0) (q0 := r_2) hSt hP rfl (gb_at b (gb_cB z_6).1) hS (fun q h => Nat.le_trans hb1 h.1) hP) rfl rfl hl.1 rfl (lv_room (Nat.le_of_ble_eq_true rfl)) dX11_state_107 ⟨Nat.le_of_ble_eq_true rfl, Nat.le_of_ble_eq_true rfl⟩) hS (fun _ h => h) (fun _ h => h) (fun q_118 H locs hY hk hS => ?_)
      obtain ⟨hq_118, hP⟩ := hY
      replace hq_118 := hq_118.symm
      subst hq_118
      obtain ⟨e1, e2⟩ := gb_eq2 h
      exact W.iret (v := r_116) hx hb hr (fun t ht hW => gb_ri ht ⟨e2, by rw [← e1]; exact hP⟩ hS) hS.2.2 dX11_state_110
    rw [if_neg c_110] at h
    by_cases c_119 : p4 = (6 : Int32)
    · rw [if_pos c_119] at h
      refine lv_tableIn (off := 79) (tgt := 111) hx hb dX11_state_32 (by rw [c_119]; decide) (by rw [c_119]; decide) (by rw [c_119]; decide) (by decide) ?_
      refine lv_aload_n hx hb dX11_state_111 rfl (lv_at hl 1 rfl) ?_
      refine va_get (ci := 9) (v := (.ref (b + 109))) (C := RX11) (T := TX11) (N := 10) hx hb hq i_X11 hown hK hP 0 (gb_at b rfl) rfl 6 (by decide) (hq _ w_321) (fun _ h9 => h9) rfl dX11_state_112 ?_
      obtain ⟨s_120, r_121, z_122, h⟩ := gb_cd_s h
      refine gb_calli (va_runV (C := RX6) (As := []) (rest := []) ⟨hx, hb, hml, hown, hq⟩ (cc_Play_worn l D cT tt b1 b hb1 n s_72 s_120 r_121 z_122) (cwV 0 hq (gb_gV w_808 w_809 w_810 w_11 w_811) rfl rfl rfl (by decide +kernel) ⟨Nat.le_of_ble_eq_true rfl, Nat.le_of_ble_eq_true rfl⟩) (gb_preV (r := (RX6, TX6, 12)) (ci := 5) (q0 := 109) hSt hP rfl (gb_at b rfl) hS (fun q h => Nat.le_trans hb1 h.1) hP) rfl rfl hl.1 rfl (lv_room (Nat.le_of_ble_eq_true rfl)) dX11_state_115 ⟨Nat.le_of_ble_eq_true rfl, Nat.le_of_ble_eq_true rfl⟩) hS (fun _ h => h) (fun _ h => h) (fun q_123 H locs hY hk hS => ?_)
      obtain ⟨hq_123, hP⟩ := hY
      replace hq_123 := hq_123.symm
      subst hq_123
      obtain ⟨e1, e2⟩ := gb_eq2 h
      exact W.iret (v := r_121) hx hb hr (fun t ht hW => gb_ri ht ⟨e2, by rw [← e1]; exact hP⟩ hS) hS.2.2 dX11_state_118
    rw [if_neg c_119] at h
    by_cases c_124 : p4 = (7 : Int32)
    · rw [if_pos c_124] at h
      refine lv_tableIn (off := 87) (tgt := 119) hx hb dX11_state_32 (by rw [c_124]; decide) (by rw [c_124]; decide) (by rw [c_124]; decide) (by decide) ?_
      refine lv_aload_n hx hb dX11_state_119 rfl (lv_at hl 1 rfl) ?_
      refine va_get (ci := 9) (v := (.ref (b + 109))) (C := RX11) (T := TX11) (N := 10) hx hb hq i_X11 hown hK hP 0 (gb_at b rfl) rfl 6 (by decide) (hq _ w_321) (fun _ h9 => h9) rfl dX11_state_120 ?_
      obtain ⟨s_125, r_126, z_127, h⟩ := gb_cd_s h
      refine gb_calli (va_runV (C := RX6) (As := []) (rest := []) ⟨hx, hb, hml, hown, hq⟩ (cc_Play_allPay l D cT tt b1 b hb1 n s_72 s_125 r_126 z_127) (cwV 0 hq (gb_gV w_812 w_813 w_814 w_11 w_815) rfl rfl rfl (by decide +kernel) ⟨Nat.le_of_ble_eq_true rfl, Nat.le_of_ble_eq_true rfl⟩) (gb_preV (r := (RX6, TX6, 12)) (ci := 5) (q0 := 109) hSt hP rfl (gb_at b rfl) hS (fun q h => Nat.le_trans hb1 h.1) hP) rfl rfl hl.1 rfl (lv_room (Nat.le_of_ble_eq_true rfl)) dX11_state_123 ⟨Nat.le_of_ble_eq_true rfl, Nat.le_of_ble_eq_true rfl⟩) hS (fun _ h => h) (fun _ h => h) (fun q_128 H locs hY hk hS => ?_)
      obtain ⟨hq_128, hP⟩ := hY
      replace hq_128 := hq_128.symm
      subst hq_128
      obtain ⟨e1, e2⟩ := gb_eq2 h
      exact W.iret (v := r_126) hx hb hr (fun t ht hW => gb_ri ht ⟨e2, by rw [← e1]; exact hP⟩ hS) hS.2.2 dX11_state_126
    rw [if_neg c_124] at h
    by_cases c_129 : p4 = (8 : Int32)
    · rw [if_pos c_129] at h
      refine lv_tableIn (off := 95) (tgt := 127) hx hb dX11_state_32 (by rw [c_129]; decide) (by rw [c_129]; decide) (by rw [c_129]; decide) (by decide) ?_
      refine lv_aload_n hx hb dX11_state_127 rfl (lv_at hl 1 rfl) ?_
      refine va_get (ci := 9) (v := (.ref (b + 109))) (C := RX11) (T := TX11) (N := 10) hx hb hq i_X11 hown hK hP 0 (gb_at b rfl) rfl 6 (by decide) (hq _ w_321) (fun _ h9 => h9) rfl dX11_state_128 ?_
      refine va_get (ci := 5) (v := (.int (s_72.1 109 10))) (C := RX6) (T := TX6) (N := 12) hx hb hq i_X6 hown hK hP 109 (gb_at b rfl) rfl 10 (by decide) (hq _ w_215) (fun _ h9 => h9) rfl dX11_state_131 ?_
      refine lv_if_eq (tgt := 141) hx hb dX11_state_134 (by decide) (fun c_130 => ?_) (fun c_130 => ?_)
      · rw [if_pos c_130] at h
        refine lv_iconst (v := 0) hx hb dX11_state_141 (by decide) ?_
        obtain ⟨e1, e2⟩ := gb_eq2 h
        exact W.iret (v := 0) hx hb hr (fun t ht hW => gb_ri ht ⟨e2, by rw [← e1]; exact hP⟩ hS) hS.2.2 dX11_state_142
      · rw [if_neg c_130] at h
        refine lv_iconst (v := 1) hx hb dX11_state_137 (by decide) ?_
        refine lv_goto (tgt := 142) hx hb dX11_state_138 (by decide) ?_
        obtain ⟨e1, e2⟩ := gb_eq2 h
        exact W.iret (v := 1) hx hb hr (fun t ht hW => gb_ri ht ⟨e2, by rw [← e1]; exact hP⟩ hS) hS.2.2 dX11_state_142
    rw [if_neg c_129] at h
    refine lv_tableOut (tgt := 143) hx hb dX11_state_32 (by have := lv_neT c_77 (a := 0) rfl; have := lv_neT c_82 (a := 1) rfl; have := lv_neT c_87 (a := 2) rfl; have := lv_neT c_92 (a := 3) rfl; have := lv_neT c_101 (a := 4) rfl; have := lv_neT c_110 (a := 5) rfl; have := lv_neT c_119 (a := 6) rfl; have := lv_neT c_124 (a := 7) rfl; have := lv_neT c_129 (a := 8) rfl; omega) (by decide) ?_
    refine lv_bipush (v := (-2)) hx hb dX11_state_143 (by decide) ?_
    obtain ⟨e1, e2⟩ := gb_eq2 h
    exact W.iret (v := (-2)) hx hb hr (fun t ht hW => gb_ri ht ⟨e2, by rw [← e1]; exact hP⟩ hS) hS.2.2 dX11_state_145
  · rw [if_pos c_76] at h
    refine lv_bipush (v := (-2)) hx hb dX11_state_27 (by decide) ?_
    obtain ⟨e1, e2⟩ := gb_eq2 h
    exact W.iret (v := (-2)) hx hb hr (fun t ht hW => gb_ri ht ⟨e2, by rw [← e1]; exact hP⟩ hS) hS.2.2 dX11_state_29
theorem dX11_rest_0 : decode cX11_rest 0 = .ok (.aload_n 0, 1) := dc_42 (show ((cX11_rest.data.toList.drop 0).take 1).map UInt8.toNat = [42] by decide +kernel)
theorem dX11_rest_1 : decode cX11_rest 1 = .ok (.iload_n 1, 1) := dc_27 (show ((cX11_rest.data.toList.drop 1).take 1).map UInt8.toNat = [27] by decide +kernel)
theorem dX11_rest_2 : decode cX11_rest 2 = .ok (.invokevirtual 113, 3) := dc_182 (show ((cX11_rest.data.toList.drop 2).take 3).map UInt8.toNat = [182, 0, 113] by decide +kernel) rfl
theorem dX11_rest_5 : decode cX11_rest 5 = .ok (.astore 4, 2) := dc_58 (show ((cX11_rest.data.toList.drop 5).take 2).map UInt8.toNat = [58, 4] by decide +kernel) rfl
theorem dX11_rest_7 : decode cX11_rest 7 = .ok (.iload_n 3, 1) := dc_29 (show ((cX11_rest.data.toList.drop 7).take 1).map UInt8.toNat = [29] by decide +kernel)
theorem dX11_rest_8 : decode cX11_rest 8 = .ok (.iconst (-1), 1) := dc_2 (show ((cX11_rest.data.toList.drop 8).take 1).map UInt8.toNat = [2] by decide +kernel)
theorem dX11_rest_9 : decode cX11_rest 9 = .ok (.if_icmp .lt 22, 3) := dc_161 (show ((cX11_rest.data.toList.drop 9).take 3).map UInt8.toNat = [161, 0, 22] by decide +kernel) rfl
theorem dX11_rest_31 : decode cX11_rest 31 = .ok (.bipush (-2), 2) := dc_16 (show ((cX11_rest.data.toList.drop 31).take 2).map UInt8.toNat = [16, 254] by decide +kernel) rfl
theorem dX11_rest_33 : decode cX11_rest 33 = .ok (.ireturn, 1) := dc_172 (show ((cX11_rest.data.toList.drop 33).take 1).map UInt8.toNat = [172] by decide +kernel)
theorem dX11_rest_12 : decode cX11_rest 12 = .ok (.aload 4, 2) := dc_25 (show ((cX11_rest.data.toList.drop 12).take 2).map UInt8.toNat = [25, 4] by decide +kernel) rfl
theorem dX11_rest_14 : decode cX11_rest 14 = .ok (.ifnull 17, 3) := dc_198 (show ((cX11_rest.data.toList.drop 14).take 3).map UInt8.toNat = [198, 0, 17] by decide +kernel) rfl
theorem dX11_rest_17 : decode cX11_rest 17 = .ok (.aload_n 0, 1) := dc_42 (show ((cX11_rest.data.toList.drop 17).take 1).map UInt8.toNat = [42] by decide +kernel)
theorem dX11_rest_18 : decode cX11_rest 18 = .ok (.aload 4, 2) := dc_25 (show ((cX11_rest.data.toList.drop 18).take 2).map UInt8.toNat = [25, 4] by decide +kernel) rfl
theorem dX11_rest_20 : decode cX11_rest 20 = .ok (.aload_n 0, 1) := dc_42 (show ((cX11_rest.data.toList.drop 20).take 1).map UInt8.toNat = [42] by decide +kernel)
theorem dX11_rest_21 : decode cX11_rest 21 = .ok (.iload_n 2, 1) := dc_28 (show ((cX11_rest.data.toList.drop 21).take 1).map UInt8.toNat = [28] by decide +kernel)
theorem dX11_rest_22 : decode cX11_rest 22 = .ok (.invokevirtual 148, 3) := dc_182 (show ((cX11_rest.data.toList.drop 22).take 3).map UInt8.toNat = [182, 0, 148] by decide +kernel) rfl
theorem dX11_rest_25 : decode cX11_rest 25 = .ok (.invokevirtual 195, 3) := dc_182 (show ((cX11_rest.data.toList.drop 25).take 3).map UInt8.toNat = [182, 0, 195] by decide +kernel) rfl
theorem dX11_rest_28 : decode cX11_rest 28 = .ok (.ifCond .ne 6, 3) := dc_154 (show ((cX11_rest.data.toList.drop 28).take 3).map UInt8.toNat = [154, 0, 6] by decide +kernel) rfl
theorem dX11_rest_34 : decode cX11_rest 34 = .ok (.iconst 1, 1) := dc_4 (show ((cX11_rest.data.toList.drop 34).take 1).map UInt8.toNat = [4] by decide +kernel)
theorem dX11_rest_35 : decode cX11_rest 35 = .ok (.aload 4, 2) := dc_25 (show ((cX11_rest.data.toList.drop 35).take 2).map UInt8.toNat = [25, 4] by decide +kernel) rfl
theorem dX11_rest_37 : decode cX11_rest 37 = .ok (.invokevirtual 117, 3) := dc_182 (show ((cX11_rest.data.toList.drop 37).take 3).map UInt8.toNat = [182, 0, 117] by decide +kernel) rfl
theorem dX11_rest_40 : decode cX11_rest 40 = .ok (.ishl, 1) := dc_120 (show ((cX11_rest.data.toList.drop 40).take 1).map UInt8.toNat = [120] by decide +kernel)
theorem dX11_rest_41 : decode cX11_rest 41 = .ok (.istore 5, 2) := dc_54 (show ((cX11_rest.data.toList.drop 41).take 2).map UInt8.toNat = [54, 5] by decide +kernel) rfl
theorem dX11_rest_43 : decode cX11_rest 43 = .ok (.iconst 0, 1) := dc_3 (show ((cX11_rest.data.toList.drop 43).take 1).map UInt8.toNat = [3] by decide +kernel)
theorem dX11_rest_44 : decode cX11_rest 44 = .ok (.istore 6, 2) := dc_54 (show ((cX11_rest.data.toList.drop 44).take 2).map UInt8.toNat = [54, 6] by decide +kernel) rfl
theorem dX11_rest_46 : decode cX11_rest 46 = .ok (.iconst 0, 1) := dc_3 (show ((cX11_rest.data.toList.drop 46).take 1).map UInt8.toNat = [3] by decide +kernel)
theorem dX11_rest_47 : decode cX11_rest 47 = .ok (.istore 7, 2) := dc_54 (show ((cX11_rest.data.toList.drop 47).take 2).map UInt8.toNat = [54, 7] by decide +kernel) rfl
theorem dX11_rest_49 : decode cX11_rest 49 = .ok (.iload 7, 2) := dc_21 (show ((cX11_rest.data.toList.drop 49).take 2).map UInt8.toNat = [21, 7] by decide +kernel) rfl
theorem dX11_rest_51 : decode cX11_rest 51 = .ok (.iload 5, 2) := dc_21 (show ((cX11_rest.data.toList.drop 51).take 2).map UInt8.toNat = [21, 5] by decide +kernel) rfl
theorem dX11_rest_53 : decode cX11_rest 53 = .ok (.if_icmp .ge 33, 3) := dc_162 (show ((cX11_rest.data.toList.drop 53).take 3).map UInt8.toNat = [162, 0, 33] by decide +kernel) rfl
theorem dX11_rest_86 : decode cX11_rest 86 = .ok (.iload_n 3, 1) := dc_29 (show ((cX11_rest.data.toList.drop 86).take 1).map UInt8.toNat = [29] by decide +kernel)
theorem dX11_rest_87 : decode cX11_rest 87 = .ok (.iconst (-1), 1) := dc_2 (show ((cX11_rest.data.toList.drop 87).take 1).map UInt8.toNat = [2] by decide +kernel)
theorem dX11_rest_88 : decode cX11_rest 88 = .ok (.if_icmp .ne 8, 3) := dc_160 (show ((cX11_rest.data.toList.drop 88).take 3).map UInt8.toNat = [160, 0, 8] by decide +kernel) rfl
theorem dX11_rest_96 : decode cX11_rest 96 = .ok (.bipush (-2), 2) := dc_16 (show ((cX11_rest.data.toList.drop 96).take 2).map UInt8.toNat = [16, 254] by decide +kernel) rfl
theorem dX11_rest_98 : decode cX11_rest 98 = .ok (.ireturn, 1) := dc_172 (show ((cX11_rest.data.toList.drop 98).take 1).map UInt8.toNat = [172] by decide +kernel)
theorem dX11_rest_91 : decode cX11_rest 91 = .ok (.iload 6, 2) := dc_21 (show ((cX11_rest.data.toList.drop 91).take 2).map UInt8.toNat = [21, 6] by decide +kernel) rfl
theorem dX11_rest_93 : decode cX11_rest 93 = .ok (.goto 5, 3) := dc_167 (show ((cX11_rest.data.toList.drop 93).take 3).map UInt8.toNat = [167, 0, 5] by decide +kernel) rfl
theorem dX11_rest_56 : decode cX11_rest 56 = .ok (.aload_n 0, 1) := dc_42 (show ((cX11_rest.data.toList.drop 56).take 1).map UInt8.toNat = [42] by decide +kernel)
theorem dX11_rest_57 : decode cX11_rest 57 = .ok (.getfield 56, 3) := dc_180 (show ((cX11_rest.data.toList.drop 57).take 3).map UInt8.toNat = [180, 0, 56] by decide +kernel) rfl
theorem dX11_rest_60 : decode cX11_rest 60 = .ok (.iload 7, 2) := dc_21 (show ((cX11_rest.data.toList.drop 60).take 2).map UInt8.toNat = [21, 7] by decide +kernel) rfl
theorem dX11_rest_62 : decode cX11_rest 62 = .ok (.invokevirtual 256, 3) := dc_182 (show ((cX11_rest.data.toList.drop 62).take 3).map UInt8.toNat = [182, 1, 0] by decide +kernel) rfl
theorem dX6_isAtRest_0 : decode cX6_isAtRest 0 = .ok (.iconst 0, 1) := dc_3 (show ((cX6_isAtRest.data.toList.drop 0).take 1).map UInt8.toNat = [3] by decide +kernel)
theorem dX6_isAtRest_1 : decode cX6_isAtRest 1 = .ok (.istore_n 2, 1) := dc_61 (show ((cX6_isAtRest.data.toList.drop 1).take 1).map UInt8.toNat = [61] by decide +kernel)
theorem dX6_isAtRest_2 : decode cX6_isAtRest 2 = .ok (.iload_n 2, 1) := dc_28 (show ((cX6_isAtRest.data.toList.drop 2).take 1).map UInt8.toNat = [28] by decide +kernel)
theorem dX6_isAtRest_3 : decode cX6_isAtRest 3 = .ok (.aload_n 0, 1) := dc_42 (show ((cX6_isAtRest.data.toList.drop 3).take 1).map UInt8.toNat = [42] by decide +kernel)
theorem dX6_isAtRest_4 : decode cX6_isAtRest 4 = .ok (.getfield 12, 3) := dc_180 (show ((cX6_isAtRest.data.toList.drop 4).take 3).map UInt8.toNat = [180, 0, 12] by decide +kernel) rfl
theorem dX6_isAtRest_7 : decode cX6_isAtRest 7 = .ok (.invokevirtual 128, 3) := dc_182 (show ((cX6_isAtRest.data.toList.drop 7).take 3).map UInt8.toNat = [182, 0, 128] by decide +kernel) rfl
theorem dX6_isAtRest_10 : decode cX6_isAtRest 10 = .ok (.if_icmp .ge 30, 3) := dc_162 (show ((cX6_isAtRest.data.toList.drop 10).take 3).map UInt8.toNat = [162, 0, 30] by decide +kernel) rfl
theorem dX6_isAtRest_40 : decode cX6_isAtRest 40 = .ok (.iconst 1, 1) := dc_4 (show ((cX6_isAtRest.data.toList.drop 40).take 1).map UInt8.toNat = [4] by decide +kernel)
theorem dX6_isAtRest_41 : decode cX6_isAtRest 41 = .ok (.ireturn, 1) := dc_172 (show ((cX6_isAtRest.data.toList.drop 41).take 1).map UInt8.toNat = [172] by decide +kernel)
theorem dX6_isAtRest_13 : decode cX6_isAtRest 13 = .ok (.aload_n 0, 1) := dc_42 (show ((cX6_isAtRest.data.toList.drop 13).take 1).map UInt8.toNat = [42] by decide +kernel)
theorem dX6_isAtRest_14 : decode cX6_isAtRest 14 = .ok (.iload_n 1, 1) := dc_27 (show ((cX6_isAtRest.data.toList.drop 14).take 1).map UInt8.toNat = [27] by decide +kernel)
theorem dX6_isAtRest_15 : decode cX6_isAtRest 15 = .ok (.iconst 1, 1) := dc_4 (show ((cX6_isAtRest.data.toList.drop 15).take 1).map UInt8.toNat = [4] by decide +kernel)
theorem dX6_isAtRest_16 : decode cX6_isAtRest 16 = .ok (.iload_n 2, 1) := dc_28 (show ((cX6_isAtRest.data.toList.drop 16).take 1).map UInt8.toNat = [28] by decide +kernel)
theorem dX6_isAtRest_17 : decode cX6_isAtRest 17 = .ok (.ishl, 1) := dc_120 (show ((cX6_isAtRest.data.toList.drop 17).take 1).map UInt8.toNat = [120] by decide +kernel)
theorem dX6_isAtRest_18 : decode cX6_isAtRest 18 = .ok (.ixor, 1) := dc_130 (show ((cX6_isAtRest.data.toList.drop 18).take 1).map UInt8.toNat = [130] by decide +kernel)
theorem dX6_isAtRest_19 : decode cX6_isAtRest 19 = .ok (.iload_n 2, 1) := dc_28 (show ((cX6_isAtRest.data.toList.drop 19).take 1).map UInt8.toNat = [28] by decide +kernel)
theorem dX6_isAtRest_20 : decode cX6_isAtRest 20 = .ok (.invokevirtual 152, 3) := dc_182 (show ((cX6_isAtRest.data.toList.drop 20).take 3).map UInt8.toNat = [182, 0, 152] by decide +kernel) rfl
theorem dX6_taken_0 : decode cX6_taken 0 = .ok (.iload_n 1, 1) := dc_27 (show ((cX6_taken.data.toList.drop 0).take 1).map UInt8.toNat = [27] by decide +kernel)
theorem dX6_taken_1 : decode cX6_taken 1 = .ok (.iload_n 2, 1) := dc_28 (show ((cX6_taken.data.toList.drop 1).take 1).map UInt8.toNat = [28] by decide +kernel)
theorem dX6_taken_2 : decode cX6_taken 2 = .ok (.ishr, 1) := dc_122 (show ((cX6_taken.data.toList.drop 2).take 1).map UInt8.toNat = [122] by decide +kernel)
theorem dX6_taken_3 : decode cX6_taken 3 = .ok (.iconst 1, 1) := dc_4 (show ((cX6_taken.data.toList.drop 3).take 1).map UInt8.toNat = [4] by decide +kernel)
theorem dX6_taken_4 : decode cX6_taken 4 = .ok (.iand, 1) := dc_126 (show ((cX6_taken.data.toList.drop 4).take 1).map UInt8.toNat = [126] by decide +kernel)
theorem dX6_taken_5 : decode cX6_taken 5 = .ok (.iconst 1, 1) := dc_4 (show ((cX6_taken.data.toList.drop 5).take 1).map UInt8.toNat = [4] by decide +kernel)
theorem dX6_taken_6 : decode cX6_taken 6 = .ok (.if_icmp .ne 7, 3) := dc_160 (show ((cX6_taken.data.toList.drop 6).take 3).map UInt8.toNat = [160, 0, 7] by decide +kernel) rfl
theorem dX6_taken_13 : decode cX6_taken 13 = .ok (.iconst 0, 1) := dc_3 (show ((cX6_taken.data.toList.drop 13).take 1).map UInt8.toNat = [3] by decide +kernel)
theorem dX6_taken_14 : decode cX6_taken 14 = .ok (.istore_n 3, 1) := dc_62 (show ((cX6_taken.data.toList.drop 14).take 1).map UInt8.toNat = [62] by decide +kernel)
theorem dX6_taken_15 : decode cX6_taken 15 = .ok (.iload_n 3, 1) := dc_29 (show ((cX6_taken.data.toList.drop 15).take 1).map UInt8.toNat = [29] by decide +kernel)
theorem dX6_taken_16 : decode cX6_taken 16 = .ok (.ifCond .eq 33, 3) := dc_153 (show ((cX6_taken.data.toList.drop 16).take 3).map UInt8.toNat = [153, 0, 33] by decide +kernel) rfl
theorem dX6_taken_49 : decode cX6_taken 49 = .ok (.iconst 0, 1) := dc_3 (show ((cX6_taken.data.toList.drop 49).take 1).map UInt8.toNat = [3] by decide +kernel)
theorem dX6_taken_50 : decode cX6_taken 50 = .ok (.istore 4, 2) := dc_54 (show ((cX6_taken.data.toList.drop 50).take 2).map UInt8.toNat = [54, 4] by decide +kernel) rfl
theorem dX6_taken_52 : decode cX6_taken 52 = .ok (.iload 4, 2) := dc_21 (show ((cX6_taken.data.toList.drop 52).take 2).map UInt8.toNat = [21, 4] by decide +kernel) rfl
theorem dX6_taken_54 : decode cX6_taken 54 = .ok (.ifCond .eq 7, 3) := dc_153 (show ((cX6_taken.data.toList.drop 54).take 3).map UInt8.toNat = [153, 0, 7] by decide +kernel) rfl
theorem dX6_taken_61 : decode cX6_taken 61 = .ok (.aload_n 0, 1) := dc_42 (show ((cX6_taken.data.toList.drop 61).take 1).map UInt8.toNat = [42] by decide +kernel)
theorem dX6_taken_62 : decode cX6_taken 62 = .ok (.iload_n 1, 1) := dc_27 (show ((cX6_taken.data.toList.drop 62).take 1).map UInt8.toNat = [27] by decide +kernel)
theorem dX6_taken_63 : decode cX6_taken 63 = .ok (.iload_n 2, 1) := dc_28 (show ((cX6_taken.data.toList.drop 63).take 1).map UInt8.toNat = [28] by decide +kernel)
theorem dX6_taken_64 : decode cX6_taken 64 = .ok (.invokevirtual 140, 3) := dc_182 (show ((cX6_taken.data.toList.drop 64).take 3).map UInt8.toNat = [182, 0, 140] by decide +kernel) rfl
theorem dX6_taken_67 : decode cX6_taken 67 = .ok (.ireturn, 1) := dc_172 (show ((cX6_taken.data.toList.drop 67).take 1).map UInt8.toNat = [172] by decide +kernel)
theorem dX6_taken_57 : decode cX6_taken 57 = .ok (.iconst 0, 1) := dc_3 (show ((cX6_taken.data.toList.drop 57).take 1).map UInt8.toNat = [3] by decide +kernel)
theorem dX6_taken_58 : decode cX6_taken 58 = .ok (.goto 9, 3) := dc_167 (show ((cX6_taken.data.toList.drop 58).take 3).map UInt8.toNat = [167, 0, 9] by decide +kernel) rfl
theorem dX6_taken_19 : decode cX6_taken 19 = .ok (.aload_n 0, 1) := dc_42 (show ((cX6_taken.data.toList.drop 19).take 1).map UInt8.toNat = [42] by decide +kernel)
theorem dX6_taken_20 : decode cX6_taken 20 = .ok (.getfield 12, 3) := dc_180 (show ((cX6_taken.data.toList.drop 20).take 3).map UInt8.toNat = [180, 0, 12] by decide +kernel) rfl
theorem dX6_taken_23 : decode cX6_taken 23 = .ok (.invokevirtual 149, 3) := dc_182 (show ((cX6_taken.data.toList.drop 23).take 3).map UInt8.toNat = [182, 0, 149] by decide +kernel) rfl
theorem w_839 : (Cond.methodLink "GooseBorder$Play" (149 : Nat) ({ cls := "GooseBorder$Border", name := "cap", desc := "()I" } : MethodName)) ∈ gb_wA := gb_t4 119 rfl rfl
theorem dX6_taken_26 : decode cX6_taken 26 = .ok (.iconst (-1), 1) := dc_2 (show ((cX6_taken.data.toList.drop 26).take 1).map UInt8.toNat = [2] by decide +kernel)
theorem dX6_taken_27 : decode cX6_taken 27 = .ok (.if_icmp .eq 22, 3) := dc_159 (show ((cX6_taken.data.toList.drop 27).take 3).map UInt8.toNat = [159, 0, 22] by decide +kernel) rfl
theorem dX6_taken_30 : decode cX6_taken 30 = .ok (.aload_n 0, 1) := dc_42 (show ((cX6_taken.data.toList.drop 30).take 1).map UInt8.toNat = [42] by decide +kernel)
theorem dX6_taken_31 : decode cX6_taken 31 = .ok (.iload_n 1, 1) := dc_27 (show ((cX6_taken.data.toList.drop 31).take 1).map UInt8.toNat = [27] by decide +kernel)
theorem dX6_taken_32 : decode cX6_taken 32 = .ok (.invokevirtual 137, 3) := dc_182 (show ((cX6_taken.data.toList.drop 32).take 3).map UInt8.toNat = [182, 0, 137] by decide +kernel) rfl
theorem dX6_taken_35 : decode cX6_taken 35 = .ok (.aload_n 0, 1) := dc_42 (show ((cX6_taken.data.toList.drop 35).take 1).map UInt8.toNat = [42] by decide +kernel)
theorem dX6_taken_36 : decode cX6_taken 36 = .ok (.getfield 12, 3) := dc_180 (show ((cX6_taken.data.toList.drop 36).take 3).map UInt8.toNat = [180, 0, 12] by decide +kernel) rfl
theorem dX6_taken_39 : decode cX6_taken 39 = .ok (.invokevirtual 149, 3) := dc_182 (show ((cX6_taken.data.toList.drop 39).take 3).map UInt8.toNat = [182, 0, 149] by decide +kernel) rfl
theorem dX6_taken_42 : decode cX6_taken 42 = .ok (.if_icmp .le 7, 3) := dc_164 (show ((cX6_taken.data.toList.drop 42).take 3).map UInt8.toNat = [164, 0, 7] by decide +kernel) rfl
theorem dX6_taken_45 : decode cX6_taken 45 = .ok (.iconst 1, 1) := dc_4 (show ((cX6_taken.data.toList.drop 45).take 1).map UInt8.toNat = [4] by decide +kernel)
theorem dX6_taken_46 : decode cX6_taken 46 = .ok (.goto 4, 3) := dc_167 (show ((cX6_taken.data.toList.drop 46).take 3).map UInt8.toNat = [167, 0, 4] by decide +kernel) rfl
theorem dX6_taken_9 : decode cX6_taken 9 = .ok (.iconst 1, 1) := dc_4 (show ((cX6_taken.data.toList.drop 9).take 1).map UInt8.toNat = [4] by decide +kernel)
theorem dX6_taken_10 : decode cX6_taken 10 = .ok (.goto 4, 3) := dc_167 (show ((cX6_taken.data.toList.drop 10).take 3).map UInt8.toNat = [167, 0, 4] by decide +kernel) rfl
def cs_Play_taken_14 (n : Nat) (σ : gb_S) (v1 : Int32) (v2 : Int32) (t0 : Int32) : gb_CR Int32 := (if t0 = 0 then (if (0 : Int32) = 0 then gb_cd (cs_Play_payTold n σ v1 v2) (fun s_4 r_5 => some (s_4, r_5)) else some (σ, 0)) else gb_kk (gb_kB (σ.2.1 1)) (gb_cd (cs_Border_cap_B n σ (σ.2.1 1)) (fun s_9 r_10 => (if r_10 = (-1) then (if (0 : Int32) = 0 then gb_cd (cs_Play_payTold n s_9 v1 v2) (fun s_15 r_16 => some (s_15, r_16)) else some (s_9, 0)) else gb_cd (cs_Play_payBy n s_9 v1) (fun s_19 r_20 => gb_kk (gb_kB (s_19.2.1 1)) (gb_cd (cs_Border_cap_B n s_19 (s_19.2.1 1)) (fun s_24 r_25 => (if r_20 ≤ r_25 then (if (0 : Int32) = 0 then gb_cd (cs_Play_payTold n s_24 v1 v2) (fun s_30 r_31 => some (s_30, r_31)) else some (s_24, 0)) else (if (1 : Int32) = 0 then gb_cd (cs_Play_payTold n s_24 v1 v2) (fun s_35 r_36 => some (s_35, r_36)) else some (s_24, 0))))))))))
def cs_Play_taken (n : Nat) (σ : gb_S) (p1 : Int32) (p2 : Int32) : gb_CR Int32 := (if ((p1 >>> (p2 &&& 31)) &&& 1) = 1 then cs_Play_taken_14 n σ p1 p2 1 else cs_Play_taken_14 n σ p1 p2 0)
set_option maxHeartbeats 8000000 in
set_option maxRecDepth 100000 in
theorem cc_Play_taken (l : Launch) (D : va_G) (cT : Nat → ClassId) (tt : Nat → Nat) (b1 b : Nat) (hb1 : b1 ≤ b) (n : Nat) (σ : gb_S) (p1 : Int32) (p2 : Int32) (σE : gb_S) (rE : Int32) (h : cs_Play_taken n σ p1 p2 = some (σE, rE)) : Met l yX6_taken (.code yX6_taken cX6_taken 5 (some FieldType.int) :: gb_wA) ({ frames := 4, cells := 0, slots := 0, locals := 89 }) (gb_Pc D cT tt b1 [.ref (b + 109), .int p1, .int p2] (fun h => va_P D vwCl (gb_wl b (gb_CW cT b σ)) h)) (gb_Qi (fun r h => r = rE ∧ va_P D vwCl (gb_wl b (gb_CW cT b σE)) h) (gb_fr b 135)) 0 0 (gb_fr b 135) := by
  refine Met.ofW (cc := cX6_taken) (maxL := 5) (ret := (some FieldType.int)) (by decide) rfl ?_
  intro p e s m args below meth c s₁ B hml hv
  obtain ⟨rfl, hSt, hP⟩ := hv
  have hx := B.exec
  have hb := B.bytes
  have hr := B.returns
  have hts := atoms_spec (ws := .code yX6_taken cX6_taken 5 (some FieldType.int) :: gb_wA) B.pre
  have hq : ∀ w ∈ gb_wA, w.before _ s = true := fun w h => hts w (List.mem_cons_of_mem _ h)
  have hown : s.vm.findClass RX6 = some m.cls := findClass_of_methodNamed B.named
  have hlocks := B.notSynchronized
  clear B hts
  have hK := hSt.1
  have hS : va_S (gb_fr b 135) s.heap s.heap [] := va_S.rf
  have hl := lv_entry ([.ref (b + 109), .int p1, .int p2]) (n := 5) (Nat.le_of_ble_eq_true rfl)
  rw [lg_entry_eq]
  generalize (lg_sl ([.ref (b + 109), .int p1, .int p2]) ++ List.replicate (5 - (lg_sl ([.ref (b + 109), .int p1, .int p2])).length) Slot.unset).toArray = ls at hl ⊢
  replace hl : lv_has ls 5 [(0, .ref (b + 109)), (1, .int p1), (2, .int p2)] := hl
  have L14_1 : ∀ (σ : gb_S) (v1 : Int32) (v2 : Int32) (t0 : Int32) (H : Heap) (locs : List Loc) (ls : Array Slot), cs_Play_taken_14 n σ v1 v2 t0 = some (σE, rE) → va_P D vwCl (gb_wl b (gb_CW cT b σ)) H → va_S (gb_fr b 135) s.heap H locs → lv_has ls 5 [(0, .ref (b + 109)), (1, .int v1), (2, .int v2)] → W p l e (headSpec (.code yX6_taken cX6_taken 5 (some FieldType.int) :: gb_wA) ({ frames := 4, cells := 0, slots := 0, locals := 89 })).room s m ([.ref (b + 109), .int p1, .int p2]).toArray below meth c H locs 0 0 (MQ below (gb_Qi (fun r h => r = rE ∧ va_P D vwCl (gb_wl b (gb_CW cT b σE)) h) (gb_fr b 135)) ([.ref (b + 109), .int p1, .int p2]).toArray s 0 0 (gb_fr b 135)) (F0 m 14 ls [.int t0]) := by
    clear h hP hS hl ls
    intro σ v1 v2 t0 H locs ls h hP hS hl
    unfold cs_Play_taken_14 at h
    refine lv_istore_n (lv' := [(3, .int t0), (0, .ref (b + 109)), (1, .int v1), (2, .int v2)]) hx hb dX6_taken_14 rfl hl (by decide) rfl (fun ls hl => ?_)
    refine lv_iload_n hx hb dX6_taken_15 rfl (lv_at hl 0 rfl) ?_
    refine lv_if_eq (tgt := 49) hx hb dX6_taken_16 (by decide) (fun c_2 => ?_) (fun c_2 => ?_)
    · rw [if_pos c_2] at h
      refine lv_iconst (v := 0) hx hb dX6_taken_49 (by decide) ?_
      refine lv_istore (lv' := [(4, .int 0), (3, .int t0), (0, .ref (b + 109)), (1, .int v1), (2, .int v2)]) hx hb dX6_taken_50 hl (by decide) rfl (fun ls hl => ?_)
      refine lv_iload hx hb dX6_taken_52 (lv_at hl 0 rfl) ?_
      refine lv_if_eq (tgt := 61) hx hb dX6_taken_54 (by decide) (fun c_3 => ?_) (fun c_3 => ?_)
      · rw [if_pos c_3] at h
        refine lv_aload_n hx hb dX6_taken_61 rfl (lv_at hl 2 rfl) ?_
        refine lv_iload_n hx hb dX6_taken_62 rfl (lv_at hl 3 rfl) ?_
        refine lv_iload_n hx hb dX6_taken_63 rfl (lv_at hl 4 rfl) ?_
        obtain ⟨s_4, r_5, z_6, h⟩ := gb_cd_s h
        refine gb_calli (va_runV (C := RX6) (As := [.int v1, .int v2]) (rest := []) ⟨hx, hb, hml, hown, hq⟩ (cc_Play_payTold l D cT tt b1 b hb1 n σ v1 v2 s_4 r_5 z_6) (cwV 2 hq (gb_gV w_820 w_822 s_2_3 w_11 w_823) rfl rfl rfl (by decide +kernel) ⟨Nat.le_of_ble_eq_true rfl, Nat.le_of_ble_eq_true rfl⟩) (gb_preV (r := (RX6, TX6, 12)) (ci := 5) (q0 := 109) hSt hP rfl (gb_at b rfl) hS (fun q h => Nat.le_trans hb1 h.1) hP) rfl rfl hl.1 rfl (lv_room (Nat.le_of_ble_eq_true rfl)) dX6_taken_64 ⟨Nat.le_of_ble_eq_true rfl, Nat.le_of_ble_eq_true rfl⟩) hS (fun _ h => h) (fun _ h => h) (fun q_7 H locs hY hk hS => ?_)
        obtain ⟨hq_7, hP⟩ := hY
        replace hq_7 := hq_7.symm
        subst hq_7
        obtain ⟨e1, e2⟩ := gb_eq2 h
        exact W.iret (v := r_5) hx hb hr (fun t ht hW => gb_ri ht ⟨e2, by rw [← e1]; exact hP⟩ hS) hS.2.2 dX6_taken_67
      · rw [if_neg c_3] at h
        refine lv_iconst (v := 0) hx hb dX6_taken_57 (by decide) ?_
        refine lv_goto (tgt := 67) hx hb dX6_taken_58 (by decide) ?_
        obtain ⟨e1, e2⟩ := gb_eq2 h
        exact W.iret (v := 0) hx hb hr (fun t ht hW => gb_ri ht ⟨e2, by rw [← e1]; exact hP⟩ hS) hS.2.2 dX6_taken_67
    · rw [if_neg c_2] at h
      refine lv_aload_n hx hb dX6_taken_19 rfl (lv_at hl 1 rfl) ?_
      obtain ⟨z_8, h⟩ := gb_kk_s h
      refine va_get (ci := 5) (v := (.ref (b + (σ.2.1 1)))) (C := RX6) (T := TX6) (N := 12) hx hb hq i_X6 hown hK hP 109 (gb_at b rfl) rfl 0 (by decide) (hq _ w_197) (fun _ h9 => h9) rfl dX6_taken_20 ?_
      obtain ⟨s_9, r_10, z_11, h⟩ := gb_cd_s h
      refine gb_calli (va_runV (C := RX0) (As := []) (rest := []) ⟨hx, hb, hml, hown, hq⟩ (cc_Border_cap_B l D cT tt b1 b hb1 n σ (σ.2.1 1) s_9 r_10 z_11) (cwV 0 hq (gb_gV w_839 w_600 w_601 w_4 w_602) rfl rfl rfl (by decide +kernel) ⟨Nat.le_of_ble_eq_true rfl, Nat.le_of_ble_eq_true rfl⟩) (gb_preV (r := (RX0, TX0, 1)) (ci := 0) (q0 := (σ.2.1 1)) hSt hP rfl (gb_at b (gb_cB z_8).1) hS (fun q h => Nat.le_trans hb1 h.1) hP) rfl rfl hl.1 rfl (lv_room (Nat.le_of_ble_eq_true rfl)) dX6_taken_23 ⟨Nat.le_of_ble_eq_true rfl, Nat.le_of_ble_eq_true rfl⟩) hS (fun _ h => h) (fun _ h => h) (fun q_12 H locs hY hk hS => ?_)
      obtain ⟨hq_12, hP⟩ := hY
      replace hq_12 := hq_12.symm
      subst hq_12
      refine lv_iconst (v := (-1)) hx hb dX6_taken_26 (by decide) ?_
      refine lv_icmp_eq (tgt := 49) hx hb dX6_taken_27 (by decide) (fun c_13 => ?_) (fun c_13 => ?_)
      · rw [if_pos c_13] at h
        refine lv_iconst (v := 0) hx hb dX6_taken_49 (by decide) ?_
        refine lv_istore (lv' := [(4, .int 0), (3, .int t0), (0, .ref (b + 109)), (1, .int v1), (2, .int v2)]) hx hb dX6_taken_50 hl (by decide) rfl (fun ls hl => ?_)
        refine lv_iload hx hb dX6_taken_52 (lv_at hl 0 rfl) ?_
        refine lv_if_eq (tgt := 61) hx hb dX6_taken_54 (by decide) (fun c_14 => ?_) (fun c_14 => ?_)
        · rw [if_pos c_14] at h
          refine lv_aload_n hx hb dX6_taken_61 rfl (lv_at hl 2 rfl) ?_
          refine lv_iload_n hx hb dX6_taken_62 rfl (lv_at hl 3 rfl) ?_
          refine lv_iload_n hx hb dX6_taken_63 rfl (lv_at hl 4 rfl) ?_
          obtain ⟨s_15, r_16, z_17, h⟩ := gb_cd_s h
          refine gb_calli (va_runV (C := RX6) (As := [.int v1, .int v2]) (rest := []) ⟨hx, hb, hml, hown, hq⟩ (cc_Play_payTold l D cT tt b1 b hb1 n s_9 v1 v2 s_15 r_16 z_17) (cwV 2 hq (gb_gV w_820 w_822 s_2_3 w_11 w_823) rfl rfl rfl (by decide +kernel) ⟨Nat.le_of_ble_eq_true rfl, Nat.le_of_ble_eq_true rfl⟩) (gb_preV (r := (RX6, TX6, 12)) (ci := 5) (q0 := 109) hSt hP rfl (gb_at b rfl) hS (fun q h => Nat.le_trans hb1 h.1) hP) rfl rfl hl.1 rfl (lv_room (Nat.le_of_ble_eq_true rfl)) dX6_taken_64 ⟨Nat.le_of_ble_eq_true rfl, Nat.le_of_ble_eq_true rfl⟩) hS (fun _ h => h) (fun _ h => h) (fun q_18 H locs hY hk hS => ?_)
          obtain ⟨hq_18, hP⟩ := hY
          replace hq_18 := hq_18.symm
          subst hq_18
          obtain ⟨e1, e2⟩ := gb_eq2 h
          exact W.iret (v := r_16) hx hb hr (fun t ht hW => gb_ri ht ⟨e2, by rw [← e1]; exact hP⟩ hS) hS.2.2 dX6_taken_67
        · rw [if_neg c_14] at h
          refine lv_iconst (v := 0) hx hb dX6_taken_57 (by decide) ?_
          refine lv_goto (tgt := 67) hx hb dX6_taken_58 (by decide) ?_
          obtain ⟨e1, e2⟩ := gb_eq2 h
          exact W.iret (v := 0) hx hb hr (fun t ht hW => gb_ri ht ⟨e2, by rw [← e1]; exact hP⟩ hS) hS.2.2 dX6_taken_67
      · rw [if_neg c_13] at h
        refine lv_aload_n hx hb dX6_taken_30 rfl (lv_at hl 1 rfl) ?_
        refine lv_iload_n hx hb dX6_taken_31 rfl (lv_at hl 2 rfl) ?_
        obtain ⟨s_19, r_20, z_21, h⟩ := gb_cd_s h
        refine gb_calli (va_runV (C := RX6) (As := [.int v1]) (rest := []) ⟨hx, hb, hml, hown, hq⟩ (cc_Play_payBy l D cT tt b1 b hb1 n s_9 v1 s_19 r_20 z_21) (cwV 1 hq (gb_gV w_816 w_818 s_2_2 w_11 w_819) rfl rfl rfl (by decide +kernel) ⟨Nat.le_of_ble_eq_true rfl, Nat.le_of_ble_eq_true rfl⟩) (gb_preV (r := (RX6, TX6, 12)) (ci := 5) (q0 := 109) hSt hP rfl (gb_at b rfl) hS (fun q h => Nat.le_trans hb1 h.1) hP) rfl rfl hl.1 rfl (lv_room (Nat.le_of_ble_eq_true rfl)) dX6_taken_32 ⟨Nat.le_of_ble_eq_true rfl, Nat.le_of_ble_eq_true rfl⟩) hS (fun _ h => h) (fun _ h => h) (fun q_22 H locs hY hk hS => ?_)
        obtain ⟨hq_22, hP⟩ := hY
        replace hq_22 := hq_22.symm
        subst hq_22
        refine lv_aload_n hx hb dX6_taken_35 rfl (lv_at hl 1 rfl) ?_
        obtain ⟨z_23, h⟩ := gb_kk_s h
        refine va_get (ci := 5) (v := (.ref (b + (s_19.2.1 1)))) (C := RX6) (T := TX6) (N := 12) hx hb hq i_X6 hown hK hP 109 (gb_at b rfl) rfl 0 (by decide) (hq _ w_197) (fun _ h9 => h9) rfl dX6_taken_36 ?_
        obtain ⟨s_24, r_25, z_26, h⟩ := gb_cd_s h
        refine gb_calli (va_runV (C := RX0) (As := []) (rest := [.int r_20]) ⟨hx, hb, hml, hown, hq⟩ (cc_Border_cap_B l D cT tt b1 b hb1 n s_19 (s_19.2.1 1) s_24 r_25 z_26) (cwV 0 hq (gb_gV w_839 w_600 w_601 w_4 w_602) rfl rfl rfl (by decide +kernel) ⟨Nat.le_of_ble_eq_true rfl, Nat.le_of_ble_eq_true rfl⟩) (gb_preV (r := (RX0, TX0, 1)) (ci := 0) (q0 := (s_19.2.1 1)) hSt hP rfl (gb_at b (gb_cB z_23).1) hS (fun q h => Nat.le_trans hb1 h.1) hP) rfl rfl hl.1 rfl (lv_room (Nat.le_of_ble_eq_true rfl)) dX6_taken_39 ⟨Nat.le_of_ble_eq_true rfl, Nat.le_of_ble_eq_true rfl⟩) hS (fun _ h => h) (fun _ h => h) (fun q_27 H locs hY hk hS => ?_)
        obtain ⟨hq_27, hP⟩ := hY
        replace hq_27 := hq_27.symm
        subst hq_27
        refine lv_icmp_le (tgt := 49) hx hb dX6_taken_42 (by decide) (fun c_28 => ?_) (fun c_28 => ?_)
        · rw [if_pos c_28] at h
          refine lv_iconst (v := 0) hx hb dX6_taken_49 (by decide) ?_
          refine lv_istore (lv' := [(4, .int 0), (3, .int t0), (0, .ref (b + 109)), (1, .int v1), (2, .int v2)]) hx hb dX6_taken_50 hl (by decide) rfl (fun ls hl => ?_)
          refine lv_iload hx hb dX6_taken_52 (lv_at hl 0 rfl) ?_
          refine lv_if_eq (tgt := 61) hx hb dX6_taken_54 (by decide) (fun c_29 => ?_) (fun c_29 => ?_)
          · rw [if_pos c_29] at h
            refine lv_aload_n hx hb dX6_taken_61 rfl (lv_at hl 2 rfl) ?_
            refine lv_iload_n hx hb dX6_taken_62 rfl (lv_at hl 3 rfl) ?_
            refine lv_iload_n hx hb dX6_taken_63 rfl (lv_at hl 4 rfl) ?_
            obtain ⟨s_30, r_31, z_32, h⟩ := gb_cd_s h
            refine gb_calli (va_runV (C := RX6) (As := [.int v1, .int v2]) (rest := []) ⟨hx, hb, hml, hown, hq⟩ (cc_Play_payTold l D cT tt b1 b hb1 n s_24 v1 v2 s_30 r_31 z_32) (cwV 2 hq (gb_gV w_820 w_822 s_2_3 w_11 w_823) rfl rfl rfl (by decide +kernel) ⟨Nat.le_of_ble_eq_true rfl, Nat.le_of_ble_eq_true rfl⟩) (gb_preV (r := (RX6, TX6, 12)) (ci := 5) (q0 := 109) hSt hP rfl (gb_at b rfl) hS (fun q h => Nat.le_trans hb1 h.1) hP) rfl rfl hl.1 rfl (lv_room (Nat.le_of_ble_eq_true rfl)) dX6_taken_64 ⟨Nat.le_of_ble_eq_true rfl, Nat.le_of_ble_eq_true rfl⟩) hS (fun _ h => h) (fun _ h => h) (fun q_33 H locs hY hk hS => ?_)
            obtain ⟨hq_33, hP⟩ := hY
            replace hq_33 := hq_33.symm
            subst hq_33
            obtain ⟨e1, e2⟩ := gb_eq2 h
            exact W.iret (v := r_31) hx hb hr (fun t ht hW => gb_ri ht ⟨e2, by rw [← e1]; exact hP⟩ hS) hS.2.2 dX6_taken_67
          · rw [if_neg c_29] at h
            refine lv_iconst (v := 0) hx hb dX6_taken_57 (by decide) ?_
            refine lv_goto (tgt := 67) hx hb dX6_taken_58 (by decide) ?_
            obtain ⟨e1, e2⟩ := gb_eq2 h
            exact W.iret (v := 0) hx hb hr (fun t ht hW => gb_ri ht ⟨e2, by rw [← e1]; exact hP⟩ hS) hS.2.2 dX6_taken_67
        · rw [if_neg c_28] at h
          refine lv_iconst (v := 1) hx hb dX6_taken_45 (by decide) ?_
          refine lv_goto (tgt := 50) hx hb dX6_taken_46 (by decide) ?_
          refine lv_istore (lv' := [(4, .int 1), (3, .int t0), (0, .ref (b + 109)), (1, .int v1), (2, .int v2)]) hx hb dX6_taken_50 hl (by decide) rfl (fun ls hl => ?_)
          refine lv_iload hx hb dX6_taken_52 (lv_at hl 0 rfl) ?_
          refine lv_if_eq (tgt := 61) hx hb dX6_taken_54 (by decide) (fun c_34 => ?_) (fun c_34 => ?_)
          · rw [if_pos c_34] at h
            refine lv_aload_n hx hb dX6_taken_61 rfl (lv_at hl 2 rfl) ?_
            refine lv_iload_n hx hb dX6_taken_62 rfl (lv_at hl 3 rfl) ?_
            refine lv_iload_n hx hb dX6_taken_63 rfl (lv_at hl 4 rfl) ?_
            obtain ⟨s_35, r_36, z_37, h⟩ := gb_cd_s h
            refine gb_calli (va_runV (C := RX6) (As := [.int v1, .int v2]) (rest := []) ⟨hx, hb, hml, hown, hq⟩ (cc_Play_payTold l D cT tt b1 b hb1 n s_24 v1 v2 s_35 r_36 z_37) (cwV 2 hq (gb_gV w_820 w_822 s_2_3 w_11 w_823) rfl rfl rfl (by decide +kernel) ⟨Nat.le_of_ble_eq_true rfl, Nat.le_of_ble_eq_true rfl⟩) (gb_preV (r := (RX6, TX6, 12)) (ci := 5) (q0 := 109) hSt hP rfl (gb_at b rfl) hS (fun q h => Nat.le_trans hb1 h.1) hP) rfl rfl hl.1 rfl (lv_room (Nat.le_of_ble_eq_true rfl)) dX6_taken_64 ⟨Nat.le_of_ble_eq_true rfl, Nat.le_of_ble_eq_true rfl⟩) hS (fun _ h => h) (fun _ h => h) (fun q_38 H locs hY hk hS => ?_)
            obtain ⟨hq_38, hP⟩ := hY
            replace hq_38 := hq_38.symm
            subst hq_38
            obtain ⟨e1, e2⟩ := gb_eq2 h
            exact W.iret (v := r_36) hx hb hr (fun t ht hW => gb_ri ht ⟨e2, by rw [← e1]; exact hP⟩ hS) hS.2.2 dX6_taken_67
          · rw [if_neg c_34] at h
            refine lv_iconst (v := 0) hx hb dX6_taken_57 (by decide) ?_
            refine lv_goto (tgt := 67) hx hb dX6_taken_58 (by decide) ?_
            obtain ⟨e1, e2⟩ := gb_eq2 h
            exact W.iret (v := 0) hx hb hr (fun t ht hW => gb_ri ht ⟨e2, by rw [← e1]; exact hP⟩ hS) hS.2.2 dX6_taken_67
  unfold cs_Play_taken at h
  refine lv_iload_n hx hb dX6_taken_0 rfl (lv_at hl 1 rfl) ?_
  refine lv_iload_n hx hb dX6_taken_1 rfl (lv_at hl 2 rfl) ?_
  refine lv_ishr hx hb dX6_taken_2 ?_
  refine lv_iconst (v := 1) hx hb dX6_taken_3 (by decide) ?_
  refine lv_iand hx hb dX6_taken_4 ?_
  refine lv_iconst (v := 1) hx hb dX6_taken_5 (by decide) ?_
  refine lv_icmp_ne (tgt := 13) hx hb dX6_taken_6 (by decide) (fun c_1 => ?_) (fun c_1 => ?_)
  · rw [if_neg c_1] at h
    refine lv_iconst (v := 0) hx hb dX6_taken_13 (by decide) ?_
    exact L14_1 _ _ _ _ _ _ _ h hP hS (lv_sub hl [0, 1, 2] rfl)
  · rw [if_pos c_1] at h
    refine lv_iconst (v := 1) hx hb dX6_taken_9 (by decide) ?_
    refine lv_goto (tgt := 14) hx hb dX6_taken_10 (by decide) ?_
    exact L14_1 _ _ _ _ _ _ _ h hP hS (lv_sub hl [0, 1, 2] rfl)
theorem w_838 : (Cond.code ({ cls := "GooseBorder$Play", name := "taken", desc := "(II)I" } : MethodName) prog_8_method_18_code (5 : Nat) (Option.some FieldType.int)) ∈ gb_wA := gb_t4 118 rfl rfl
theorem w_835 : (Cond.methodLink "GooseBorder$Play" (152 : Nat) ({ cls := "GooseBorder$Play", name := "taken", desc := "(II)I" } : MethodName)) ∈ gb_wA := gb_t4 115 rfl rfl
theorem w_836 : (Cond.instanceMethod ({ cls := "GooseBorder$Play", name := "taken", desc := "(II)I" } : MethodName)) ∈ gb_wA := gb_t4 116 rfl rfl
theorem w_837 : (Cond.selects "GooseBorder$Play" ({ cls := "GooseBorder$Play", name := "taken", desc := "(II)I" } : MethodName) ({ cls := "GooseBorder$Play", name := "taken", desc := "(II)I" } : MethodName)) ∈ gb_wA := gb_t4 117 rfl rfl
theorem dX6_isAtRest_23 : decode cX6_isAtRest 23 = .ok (.aload_n 0, 1) := dc_42 (show ((cX6_isAtRest.data.toList.drop 23).take 1).map UInt8.toNat = [42] by decide +kernel)
theorem dX6_isAtRest_24 : decode cX6_isAtRest 24 = .ok (.iload_n 1, 1) := dc_27 (show ((cX6_isAtRest.data.toList.drop 24).take 1).map UInt8.toNat = [27] by decide +kernel)
theorem dX6_isAtRest_25 : decode cX6_isAtRest 25 = .ok (.iload_n 2, 1) := dc_28 (show ((cX6_isAtRest.data.toList.drop 25).take 1).map UInt8.toNat = [28] by decide +kernel)
theorem dX6_isAtRest_26 : decode cX6_isAtRest 26 = .ok (.invokevirtual 152, 3) := dc_182 (show ((cX6_isAtRest.data.toList.drop 26).take 3).map UInt8.toNat = [182, 0, 152] by decide +kernel) rfl
theorem dX6_isAtRest_29 : decode cX6_isAtRest 29 = .ok (.if_icmp .le 5, 3) := dc_164 (show ((cX6_isAtRest.data.toList.drop 29).take 3).map UInt8.toNat = [164, 0, 5] by decide +kernel) rfl
theorem dX6_isAtRest_34 : decode cX6_isAtRest 34 = .ok (.iinc 2 1, 3) := dc_132 (show ((cX6_isAtRest.data.toList.drop 34).take 3).map UInt8.toNat = [132, 2, 1] by decide +kernel) rfl
theorem dX6_isAtRest_37 : decode cX6_isAtRest 37 = .ok (.goto (-35), 3) := dc_167 (show ((cX6_isAtRest.data.toList.drop 37).take 3).map UInt8.toNat = [167, 255, 221] by decide +kernel) rfl
theorem dX6_isAtRest_32 : decode cX6_isAtRest 32 = .ok (.iconst 0, 1) := dc_3 (show ((cX6_isAtRest.data.toList.drop 32).take 1).map UInt8.toNat = [3] by decide +kernel)
theorem dX6_isAtRest_33 : decode cX6_isAtRest 33 = .ok (.ireturn, 1) := dc_172 (show ((cX6_isAtRest.data.toList.drop 33).take 1).map UInt8.toNat = [172] by decide +kernel)
def cs_Play_isAtRest_2 (n : Nat) : Nat → gb_S → Int32 → Int32 → gb_CR Int32
  | 0, _, _, _ => none
  | mm + 1, σ, v1, v2 => gb_kk (gb_kB (σ.2.1 1)) (gb_cd (cs_Border_paths_B n σ (σ.2.1 1)) (fun s_2 r_3 => (if r_3 ≤ v2 then some (s_2, 1) else gb_cd (cs_Play_taken n s_2 (v1 ^^^ ((1 : Int32) <<< (v2 &&& 31))) v2) (fun s_7 r_8 => gb_cd (cs_Play_taken n s_7 v1 v2) (fun s_11 r_12 => (if r_8 ≤ r_12 then gb_lt (v2 + 1) (fun x_16 => cs_Play_isAtRest_2 n mm s_11 v1 x_16) else some (s_11, 0)))))))
def cs_Play_isAtRest (n : Nat) (σ : gb_S) (p1 : Int32) : gb_CR Int32 := cs_Play_isAtRest_2 n n σ p1 0
set_option maxHeartbeats 8000000 in
set_option maxRecDepth 100000 in
theorem cc_Play_isAtRest (l : Launch) (D : va_G) (cT : Nat → ClassId) (tt : Nat → Nat) (b1 b : Nat) (hb1 : b1 ≤ b) (n : Nat) (σ : gb_S) (p1 : Int32) (σE : gb_S) (rE : Int32) (h : cs_Play_isAtRest n σ p1 = some (σE, rE)) : Met l yX6_isAtRest (.code yX6_isAtRest cX6_isAtRest 3 (some FieldType.boolean) :: gb_wA) ({ frames := 5, cells := 0, slots := 0, locals := 113 }) (gb_Pc D cT tt b1 [.ref (b + 109), .int p1] (fun h => va_P D vwCl (gb_wl b (gb_CW cT b σ)) h)) (gb_Qi (fun r h => r = rE ∧ va_P D vwCl (gb_wl b (gb_CW cT b σE)) h) (gb_fr b 135)) 0 0 (gb_fr b 135) := by
  refine Met.ofW (cc := cX6_isAtRest) (maxL := 3) (ret := (some FieldType.boolean)) (by decide) rfl ?_
  intro p e s m args below meth c s₁ B hml hv
  obtain ⟨rfl, hSt, hP⟩ := hv
  have hx := B.exec
  have hb := B.bytes
  have hr := B.returns
  have hts := atoms_spec (ws := .code yX6_isAtRest cX6_isAtRest 3 (some FieldType.boolean) :: gb_wA) B.pre
  have hq : ∀ w ∈ gb_wA, w.before _ s = true := fun w h => hts w (List.mem_cons_of_mem _ h)
  have hown : s.vm.findClass RX6 = some m.cls := findClass_of_methodNamed B.named
  have hlocks := B.notSynchronized
  clear B hts
  have hK := hSt.1
  have hS : va_S (gb_fr b 135) s.heap s.heap [] := va_S.rf
  have hl := lv_entry ([.ref (b + 109), .int p1]) (n := 3) (Nat.le_of_ble_eq_true rfl)
  rw [lg_entry_eq]
  generalize (lg_sl ([.ref (b + 109), .int p1]) ++ List.replicate (3 - (lg_sl ([.ref (b + 109), .int p1])).length) Slot.unset).toArray = ls at hl ⊢
  replace hl : lv_has ls 3 [(0, .ref (b + 109)), (1, .int p1)] := hl
  have L2_1 : ∀ (mm : Nat) (σ : gb_S) (v1 : Int32) (v2 : Int32) (H : Heap) (locs : List Loc) (ls : Array Slot), cs_Play_isAtRest_2 n mm σ v1 v2 = some (σE, rE) → va_P D vwCl (gb_wl b (gb_CW cT b σ)) H → va_S (gb_fr b 135) s.heap H locs → lv_has ls 3 [(0, .ref (b + 109)), (1, .int v1), (2, .int v2)] → W p l e (headSpec (.code yX6_isAtRest cX6_isAtRest 3 (some FieldType.boolean) :: gb_wA) ({ frames := 5, cells := 0, slots := 0, locals := 113 })).room s m ([.ref (b + 109), .int p1]).toArray below meth c H locs 0 0 (MQ below (gb_Qi (fun r h => r = rE ∧ va_P D vwCl (gb_wl b (gb_CW cT b σE)) h) (gb_fr b 135)) ([.ref (b + 109), .int p1]).toArray s 0 0 (gb_fr b 135)) (F0 m 2 ls []) := by
    clear h hP hS hl ls
    intro mm
    induction mm with
    | zero =>
      intro σ v1 v2 H locs ls h
      cases h
    | succ mm ih =>
      intro σ v1 v2 H locs ls h hP hS hl
      rw [cs_Play_isAtRest_2] at h
      refine lv_iload_n hx hb dX6_isAtRest_2 rfl (lv_at hl 2 rfl) ?_
      refine lv_aload_n hx hb dX6_isAtRest_3 rfl (lv_at hl 0 rfl) ?_
      obtain ⟨z_1, h⟩ := gb_kk_s h
      refine va_get (ci := 5) (v := (.ref (b + (σ.2.1 1)))) (C := RX6) (T := TX6) (N := 12) hx hb hq i_X6 hown hK hP 109 (gb_at b rfl) rfl 0 (by decide) (hq _ w_197) (fun _ h9 => h9) rfl dX6_isAtRest_4 ?_
      obtain ⟨s_2, r_3, z_4, h⟩ := gb_cd_s h
      refine gb_calli (va_runV (C := RX0) (As := []) (rest := [.int v2]) ⟨hx, hb, hml, hown, hq⟩ (cc_Border_paths_B l D cT tt b1 b hb1 n σ (σ.2.1 1) s_2 r_3 z_4) (cwV 0 hq (gb_gV w_754 w_473 w_474 w_4 w_475) rfl rfl rfl (by decide +kernel) ⟨Nat.le_of_ble_eq_true rfl, Nat.le_of_ble_eq_true rfl⟩) (gb_preV (r := (RX0, TX0, 1)) (ci := 0) (q0 := (σ.2.1 1)) hSt hP rfl (gb_at b (gb_cB z_1).1) hS (fun q h => Nat.le_trans hb1 h.1) hP) rfl rfl hl.1 rfl (lv_room (Nat.le_of_ble_eq_true rfl)) dX6_isAtRest_7 ⟨Nat.le_of_ble_eq_true rfl, Nat.le_of_ble_eq_true rfl⟩) hS (fun _ h => h) (fun _ h => h) (fun q_5 H locs hY hk hS => ?_)
      obtain ⟨hq_5, hP⟩ := hY
      replace hq_5 := hq_5.symm
      subst hq_5
      refine lv_icmp_ge (tgt := 40) hx hb dX6_isAtRest_10 (by decide) (fun c_6 => ?_) (fun c_6 => ?_)
      · rw [if_pos c_6] at h
        refine lv_iconst (v := 1) hx hb dX6_isAtRest_40 (by decide) ?_
        obtain ⟨e1, e2⟩ := gb_eq2 h
        exact W.zret (v := 1) hx hb hr (by decide) (fun t ht hW => gb_ri ht ⟨e2, by rw [← e1]; exact hP⟩ hS) hS.2.2 dX6_isAtRest_41
      · rw [if_neg c_6] at h
        refine lv_aload_n hx hb dX6_isAtRest_13 rfl (lv_at hl 0 rfl) ?_
        refine lv_iload_n hx hb dX6_isAtRest_14 rfl (lv_at hl 1 rfl) ?_
        refine lv_iconst (v := 1) hx hb dX6_isAtRest_15 (by decide) ?_
        refine lv_iload_n hx hb dX6_isAtRest_16 rfl (lv_at hl 2 rfl) ?_
        refine lv_ishl hx hb dX6_isAtRest_17 ?_
        refine lv_ixor hx hb dX6_isAtRest_18 ?_
        refine lv_iload_n hx hb dX6_isAtRest_19 rfl (lv_at hl 2 rfl) ?_
        obtain ⟨s_7, r_8, z_9, h⟩ := gb_cd_s h
        refine gb_calli (va_runV (C := RX6) (As := [.int (v1 ^^^ ((1 : Int32) <<< (v2 &&& 31))), .int v2]) (rest := []) ⟨hx, hb, hml, hown, hq⟩ (cc_Play_taken l D cT tt b1 b hb1 n s_2 (v1 ^^^ ((1 : Int32) <<< (v2 &&& 31))) v2 s_7 r_8 z_9) (cwV 2 hq (gb_gV w_835 w_836 w_837 w_11 w_838) rfl rfl rfl (by decide +kernel) ⟨Nat.le_of_ble_eq_true rfl, Nat.le_of_ble_eq_true rfl⟩) (gb_preV (r := (RX6, TX6, 12)) (ci := 5) (q0 := 109) hSt hP rfl (gb_at b rfl) hS (fun q h => Nat.le_trans hb1 h.1) hP) rfl rfl hl.1 rfl (lv_room (Nat.le_of_ble_eq_true rfl)) dX6_isAtRest_20 ⟨Nat.le_of_ble_eq_true rfl, Nat.le_of_ble_eq_true rfl⟩) hS (fun _ h => h) (fun _ h => h) (fun q_10 H locs hY hk hS => ?_)
        obtain ⟨hq_10, hP⟩ := hY
        replace hq_10 := hq_10.symm
        subst hq_10
        refine lv_aload_n hx hb dX6_isAtRest_23 rfl (lv_at hl 0 rfl) ?_
        refine lv_iload_n hx hb dX6_isAtRest_24 rfl (lv_at hl 1 rfl) ?_
        refine lv_iload_n hx hb dX6_isAtRest_25 rfl (lv_at hl 2 rfl) ?_
        obtain ⟨s_11, r_12, z_13, h⟩ := gb_cd_s h
        refine gb_calli (va_runV (C := RX6) (As := [.int v1, .int v2]) (rest := [.int r_8]) ⟨hx, hb, hml, hown, hq⟩ (cc_Play_taken l D cT tt b1 b hb1 n s_7 v1 v2 s_11 r_12 z_13) (cwV 2 hq (gb_gV w_835 w_836 w_837 w_11 w_838) rfl rfl rfl (by decide +kernel) ⟨Nat.le_of_ble_eq_true rfl, Nat.le_of_ble_eq_true rfl⟩) (gb_preV (r := (RX6, TX6, 12)) (ci := 5) (q0 := 109) hSt hP rfl (gb_at b rfl) hS (fun q h => Nat.le_trans hb1 h.1) hP) rfl rfl hl.1 rfl (lv_room (Nat.le_of_ble_eq_true rfl)) dX6_isAtRest_26 ⟨Nat.le_of_ble_eq_true rfl, Nat.le_of_ble_eq_true rfl⟩) hS (fun _ h => h) (fun _ h => h) (fun q_14 H locs hY hk hS => ?_)
        obtain ⟨hq_14, hP⟩ := hY
        replace hq_14 := hq_14.symm
        subst hq_14
        refine lv_icmp_le (tgt := 34) hx hb dX6_isAtRest_29 (by decide) (fun c_15 => ?_) (fun c_15 => ?_)
        · rw [if_pos c_15] at h
          obtain ⟨x_16, ex_16⟩ : ∃ q, q = (v2 + 1) := ⟨_, rfl⟩
          replace h := gb_lt_s ex_16 h
          refine lv_iinc (v := x_16) (lv' := [(2, .int x_16), (0, .ref (b + 109)), (1, .int v1)]) hx hb dX6_isAtRest_34 hl (k := 2) rfl (by rw [ex_16]; rfl) (by decide) rfl (fun ls hl => ?_)
          refine lv_goto (tgt := 2) hx hb dX6_isAtRest_37 (by decide) ?_
          exact ih _ _ _ _ _ _ h hP hS (lv_sub hl [1, 2, 0] rfl)
        · rw [if_neg c_15] at h
          refine lv_iconst (v := 0) hx hb dX6_isAtRest_32 (by decide) ?_
          obtain ⟨e1, e2⟩ := gb_eq2 h
          exact W.zret (v := 0) hx hb hr (by decide) (fun t ht hW => gb_ri ht ⟨e2, by rw [← e1]; exact hP⟩ hS) hS.2.2 dX6_isAtRest_33
  unfold cs_Play_isAtRest at h
  refine lv_iconst (v := 0) hx hb dX6_isAtRest_0 (by decide) ?_
  refine lv_istore_n (lv' := [(2, .int 0), (0, .ref (b + 109)), (1, .int p1)]) hx hb dX6_isAtRest_1 rfl hl (by decide) rfl (fun ls hl => ?_)
  exact L2_1 n _ _ _ _ _ _ h hP hS (lv_sub hl [1, 2, 0] rfl)
theorem w_834 : (Cond.code ({ cls := "GooseBorder$Play", name := "isAtRest", desc := "(I)Z" } : MethodName) prog_8_method_19_code (3 : Nat) (Option.some FieldType.boolean)) ∈ gb_wA := gb_t4 114 rfl rfl
theorem w_831 : (Cond.methodLink "GooseBorder" (256 : Nat) ({ cls := "GooseBorder$Play", name := "isAtRest", desc := "(I)Z" } : MethodName)) ∈ gb_wA := gb_t4 111 rfl rfl
theorem w_832 : (Cond.instanceMethod ({ cls := "GooseBorder$Play", name := "isAtRest", desc := "(I)Z" } : MethodName)) ∈ gb_wA := gb_t4 112 rfl rfl
theorem w_833 : (Cond.selects "GooseBorder$Play" ({ cls := "GooseBorder$Play", name := "isAtRest", desc := "(I)Z" } : MethodName) ({ cls := "GooseBorder$Play", name := "isAtRest", desc := "(I)Z" } : MethodName)) ∈ gb_wA := gb_t4 113 rfl rfl
theorem dX11_rest_65 : decode cX11_rest 65 = .ok (.ifCond .eq 15, 3) := dc_153 (show ((cX11_rest.data.toList.drop 65).take 3).map UInt8.toNat = [153, 0, 15] by decide +kernel) rfl
theorem dX11_rest_80 : decode cX11_rest 80 = .ok (.iinc 7 1, 3) := dc_132 (show ((cX11_rest.data.toList.drop 80).take 3).map UInt8.toNat = [132, 7, 1] by decide +kernel) rfl
theorem dX11_rest_83 : decode cX11_rest 83 = .ok (.goto (-34), 3) := dc_167 (show ((cX11_rest.data.toList.drop 83).take 3).map UInt8.toNat = [167, 255, 222] by decide +kernel) rfl
theorem dX11_rest_68 : decode cX11_rest 68 = .ok (.iload 6, 2) := dc_21 (show ((cX11_rest.data.toList.drop 68).take 2).map UInt8.toNat = [21, 6] by decide +kernel) rfl
theorem dX11_rest_70 : decode cX11_rest 70 = .ok (.iload_n 3, 1) := dc_29 (show ((cX11_rest.data.toList.drop 70).take 1).map UInt8.toNat = [29] by decide +kernel)
theorem dX11_rest_71 : decode cX11_rest 71 = .ok (.if_icmp .ne 6, 3) := dc_160 (show ((cX11_rest.data.toList.drop 71).take 3).map UInt8.toNat = [160, 0, 6] by decide +kernel) rfl
theorem dX11_rest_77 : decode cX11_rest 77 = .ok (.iinc 6 1, 3) := dc_132 (show ((cX11_rest.data.toList.drop 77).take 3).map UInt8.toNat = [132, 6, 1] by decide +kernel) rfl
theorem dX11_rest_74 : decode cX11_rest 74 = .ok (.iload 7, 2) := dc_21 (show ((cX11_rest.data.toList.drop 74).take 2).map UInt8.toNat = [21, 7] by decide +kernel) rfl
theorem dX11_rest_76 : decode cX11_rest 76 = .ok (.ireturn, 1) := dc_172 (show ((cX11_rest.data.toList.drop 76).take 1).map UInt8.toNat = [172] by decide +kernel)
def cs_Face_rest_49 (n : Nat) : Nat → gb_S → Int32 → Int32 → Int32 → Int32 → gb_CR Int32
  | 0, _, _, _, _, _ => none
  | mm + 1, σ, v3, v5, v6, v7 => (if v5 ≤ v7 then (if v3 = (-1) then some (σ, v6) else some (σ, (-2))) else gb_cd (cs_Play_isAtRest n σ v7) (fun s_26 r_27 => (if r_27 = 0 then gb_lt (v7 + 1) (fun x_31 => cs_Face_rest_49 n mm s_26 v3 v5 v6 x_31) else (if v6 = v3 then some (s_26, v7) else gb_lt (v6 + 1) (fun x_33 => gb_lt (v7 + 1) (fun x_34 => cs_Face_rest_49 n mm s_26 v3 v5 x_33 x_34))))))
def cs_Face_rest (n : Nat) (σ : gb_S) (p1 : Int32) (p2 : Int32) (p3 : Int32) : gb_CR Int32 := gb_cd (cs_Face_borderAt n σ p1) (fun s_1 r_2 => (if r_2 = 0 then (if p3 < (-1) then some (s_1, (-2)) else some (s_1, (-2))) else gb_kk (gb_kB r_2) ((if p3 < (-1) then some (s_1, (-2)) else gb_cd (cs_Face_nightAt n s_1 p2) (fun s_9 r_10 => (if r_10 = 0 then gb_cd (cs_Face_playedOut_B_n n s_9 r_2) (fun s_14 r_15 => (if r_15 = 0 then some (s_14, (-2)) else gb_cd (cs_Border_paths_B n s_14 r_2) (fun s_19 r_20 => gb_lt ((1 : Int32) <<< (r_20 &&& 31)) (fun x_23 => cs_Face_rest_49 n n s_19 p3 x_23 0 0)))) else gb_kk (gb_kN r_10) (gb_cd (cs_Face_playedOut_B_N n s_9 r_2 r_10) (fun s_36 r_37 => (if r_37 = 0 then some (s_36, (-2)) else gb_cd (cs_Border_paths_B n s_36 r_2) (fun s_41 r_42 => gb_lt ((1 : Int32) <<< (r_42 &&& 31)) (fun x_45 => cs_Face_rest_49 n n s_41 p3 x_45 0 0)))))))))))
set_option maxHeartbeats 8000000 in
set_option maxRecDepth 100000 in
theorem cc_Face_rest (l : Launch) (D : va_G) (cT : Nat → ClassId) (tt : Nat → Nat) (b1 b : Nat) (hb1 : b1 ≤ b) (n : Nat) (σ : gb_S) (p1 : Int32) (p2 : Int32) (p3 : Int32) (σE : gb_S) (rE : Int32) (h : cs_Face_rest n σ p1 p2 p3 = some (σE, rE)) : Met l yX11_rest (.code yX11_rest cX11_rest 8 (some FieldType.int) :: gb_wA) ({ frames := 6, cells := 0, slots := 0, locals := 147 }) (gb_Pc D cT tt b1 [.ref (b + 0), .int p1, .int p2, .int p3] (fun h => va_P D vwCl (gb_wl b (gb_CW cT b σ)) h)) (gb_Qi (fun r h => r = rE ∧ va_P D vwCl (gb_wl b (gb_CW cT b σE)) h) (gb_fr b 135)) 0 0 (gb_fr b 135) := by
  refine Met.ofW (cc := cX11_rest) (maxL := 8) (ret := (some FieldType.int)) (by decide) rfl ?_
  intro p e s m args below meth c s₁ B hml hv
  obtain ⟨rfl, hSt, hP⟩ := hv
  have hx := B.exec
  have hb := B.bytes
  have hr := B.returns
  have hts := atoms_spec (ws := .code yX11_rest cX11_rest 8 (some FieldType.int) :: gb_wA) B.pre
  have hq : ∀ w ∈ gb_wA, w.before _ s = true := fun w h => hts w (List.mem_cons_of_mem _ h)
  have hown : s.vm.findClass RX11 = some m.cls := findClass_of_methodNamed B.named
  have hlocks := B.notSynchronized
  clear B hts
  have hK := hSt.1
  have hS : va_S (gb_fr b 135) s.heap s.heap [] := va_S.rf
  have hl := lv_entry ([.ref (b + 0), .int p1, .int p2, .int p3]) (n := 8) (Nat.le_of_ble_eq_true rfl)
  rw [lg_entry_eq]
  generalize (lg_sl ([.ref (b + 0), .int p1, .int p2, .int p3]) ++ List.replicate (8 - (lg_sl ([.ref (b + 0), .int p1, .int p2, .int p3])).length) Slot.unset).toArray = ls at hl ⊢
  replace hl : lv_has ls 8 [(0, .ref (b + 0)), (1, .int p1), (2, .int p2), (3, .int p3)] := hl
  have L49_1 : ∀ (mm : Nat) (σ : gb_S) (v3 : Int32) (v5 : Int32) (v6 : Int32) (v7 : Int32) (H : Heap) (locs : List Loc) (ls : Array Slot), cs_Face_rest_49 n mm σ v3 v5 v6 v7 = some (σE, rE) → va_P D vwCl (gb_wl b (gb_CW cT b σ)) H → va_S (gb_fr b 135) s.heap H locs → lv_has ls 8 [(0, .ref (b + 0)), (3, .int v3), (5, .int v5), (6, .int v6), (7, .int v7)] → W p l e (headSpec (.code yX11_rest cX11_rest 8 (some FieldType.int) :: gb_wA) ({ frames := 6, cells := 0, slots := 0, locals := 147 })).room s m ([.ref (b + 0), .int p1, .int p2, .int p3]).toArray below meth c H locs 0 0 (MQ below (gb_Qi (fun r h => r = rE ∧ va_P D vwCl (gb_wl b (gb_CW cT b σE)) h) (gb_fr b 135)) ([.ref (b + 0), .int p1, .int p2, .int p3]).toArray s 0 0 (gb_fr b 135)) (F0 m 49 ls []) := by
    clear h hP hS hl ls
    intro mm
    induction mm with
    | zero =>
      intro σ v3 v5 v6 v7 H locs ls h
      cases h
    | succ mm ih =>
      intro σ v3 v5 v6 v7 H locs ls h hP hS hl
      rw [cs_Face_rest_49] at h
      refine lv_iload hx hb dX11_rest_49 (lv_at hl 4 rfl) ?_
      refine lv_iload hx hb dX11_rest_51 (lv_at hl 2 rfl) ?_
      refine lv_icmp_ge (tgt := 86) hx hb dX11_rest_53 (by decide) (fun c_24 => ?_) (fun c_24 => ?_)
      · rw [if_pos c_24] at h
        refine lv_iload_n hx hb dX11_rest_86 rfl (lv_at hl 1 rfl) ?_
        refine lv_iconst (v := (-1)) hx hb dX11_rest_87 (by decide) ?_
        refine lv_icmp_ne (tgt := 96) hx hb dX11_rest_88 (by decide) (fun c_25 => ?_) (fun c_25 => ?_)
        · rw [if_neg c_25] at h
          refine lv_bipush (v := (-2)) hx hb dX11_rest_96 (by decide) ?_
          obtain ⟨e1, e2⟩ := gb_eq2 h
          exact W.iret (v := (-2)) hx hb hr (fun t ht hW => gb_ri ht ⟨e2, by rw [← e1]; exact hP⟩ hS) hS.2.2 dX11_rest_98
        · rw [if_pos c_25] at h
          refine lv_iload hx hb dX11_rest_91 (lv_at hl 3 rfl) ?_
          refine lv_goto (tgt := 98) hx hb dX11_rest_93 (by decide) ?_
          obtain ⟨e1, e2⟩ := gb_eq2 h
          exact W.iret (v := v6) hx hb hr (fun t ht hW => gb_ri ht ⟨e2, by rw [← e1]; exact hP⟩ hS) hS.2.2 dX11_rest_98
      · rw [if_neg c_24] at h
        refine lv_aload_n hx hb dX11_rest_56 rfl (lv_at hl 0 rfl) ?_
        refine va_get (ci := 9) (v := (.ref (b + 109))) (C := RX11) (T := TX11) (N := 10) hx hb hq i_X11 hown hK hP 0 (gb_at b rfl) rfl 6 (by decide) (hq _ w_321) (fun _ h9 => h9) rfl dX11_rest_57 ?_
        refine lv_iload hx hb dX11_rest_60 (lv_at hl 4 rfl) ?_
        obtain ⟨s_26, r_27, z_28, h⟩ := gb_cd_s h
        refine gb_calli (va_runV (C := RX6) (As := [.int v7]) (rest := []) ⟨hx, hb, hml, hown, hq⟩ (cc_Play_isAtRest l D cT tt b1 b hb1 n σ v7 s_26 r_27 z_28) (cwV 1 hq (gb_gV w_831 w_832 w_833 w_11 w_834) rfl rfl rfl (by decide +kernel) ⟨Nat.le_of_ble_eq_true rfl, Nat.le_of_ble_eq_true rfl⟩) (gb_preV (r := (RX6, TX6, 12)) (ci := 5) (q0 := 109) hSt hP rfl (gb_at b rfl) hS (fun q h => Nat.le_trans hb1 h.1) hP) rfl rfl hl.1 rfl (lv_room (Nat.le_of_ble_eq_true rfl)) dX11_rest_62 ⟨Nat.le_of_ble_eq_true rfl, Nat.le_of_ble_eq_true rfl⟩) hS (fun _ h => h) (fun _ h => h) (fun q_29 H locs hY hk hS => ?_)
        obtain ⟨hq_29, hP⟩ := hY
        replace hq_29 := hq_29.symm
        subst hq_29
        refine lv_if_eq (tgt := 80) hx hb dX11_rest_65 (by decide) (fun c_30 => ?_) (fun c_30 => ?_)
        · rw [if_pos c_30] at h
          obtain ⟨x_31, ex_31⟩ : ∃ q, q = (v7 + 1) := ⟨_, rfl⟩
          replace h := gb_lt_s ex_31 h
          refine lv_iinc (v := x_31) (lv' := [(7, .int x_31), (0, .ref (b + 0)), (3, .int v3), (5, .int v5), (6, .int v6)]) hx hb dX11_rest_80 hl (k := 4) rfl (by rw [ex_31]; rfl) (by decide) rfl (fun ls hl => ?_)
          refine lv_goto (tgt := 49) hx hb dX11_rest_83 (by decide) ?_
          exact ih _ _ _ _ _ _ _ _ h hP hS (lv_sub hl [1, 2, 3, 4, 0] rfl)
        · rw [if_neg c_30] at h
          refine lv_iload hx hb dX11_rest_68 (lv_at hl 3 rfl) ?_
          refine lv_iload_n hx hb dX11_rest_70 rfl (lv_at hl 1 rfl) ?_
          refine lv_icmp_ne (tgt := 77) hx hb dX11_rest_71 (by decide) (fun c_32 => ?_) (fun c_32 => ?_)
          · rw [if_neg c_32] at h
            obtain ⟨x_33, ex_33⟩ : ∃ q, q = (v6 + 1) := ⟨_, rfl⟩
            replace h := gb_lt_s ex_33 h
            refine lv_iinc (v := x_33) (lv' := [(6, .int x_33), (0, .ref (b + 0)), (3, .int v3), (5, .int v5), (7, .int v7)]) hx hb dX11_rest_77 hl (k := 3) rfl (by rw [ex_33]; rfl) (by decide) rfl (fun ls hl => ?_)
            obtain ⟨x_34, ex_34⟩ : ∃ q, q = (v7 + 1) := ⟨_, rfl⟩
            replace h := gb_lt_s ex_34 h
            refine lv_iinc (v := x_34) (lv' := [(7, .int x_34), (6, .int x_33), (0, .ref (b + 0)), (3, .int v3), (5, .int v5)]) hx hb dX11_rest_80 hl (k := 4) rfl (by rw [ex_34]; rfl) (by decide) rfl (fun ls hl => ?_)
            refine lv_goto (tgt := 49) hx hb dX11_rest_83 (by decide) ?_
            exact ih _ _ _ _ _ _ _ _ h hP hS (lv_sub hl [2, 3, 4, 1, 0] rfl)
          · rw [if_pos c_32] at h
            refine lv_iload hx hb dX11_rest_74 (lv_at hl 4 rfl) ?_
            obtain ⟨e1, e2⟩ := gb_eq2 h
            exact W.iret (v := v7) hx hb hr (fun t ht hW => gb_ri ht ⟨e2, by rw [← e1]; exact hP⟩ hS) hS.2.2 dX11_rest_76
  unfold cs_Face_rest at h
  refine lv_aload_n hx hb dX11_rest_0 rfl (lv_at hl 0 rfl) ?_
  refine lv_iload_n hx hb dX11_rest_1 rfl (lv_at hl 1 rfl) ?_
  obtain ⟨s_1, r_2, z_3, h⟩ := gb_cd_s h
  refine gb_callq (va_runV (C := RX11) (As := [.int p1]) (rest := []) ⟨hx, hb, hml, hown, hq⟩ (cc_Face_borderAt l D cT tt b1 b hb1 n σ p1 s_1 r_2 z_3) (cwV 1 hq (gb_gV w_593 w_595 s_1_7 w_1 w_596) rfl rfl rfl (by decide +kernel) ⟨Nat.le_of_ble_eq_true rfl, Nat.le_of_ble_eq_true rfl⟩) (gb_preV (r := (RX11, TX11, 10)) (ci := 9) (q0 := 0) hSt hP rfl (gb_at b rfl) hS (fun q h => Nat.le_trans hb1 h.1) hP) rfl rfl hl.1 rfl (lv_room (Nat.le_of_ble_eq_true rfl)) dX11_rest_2 ⟨Nat.le_of_ble_eq_true rfl, Nat.le_of_ble_eq_true rfl⟩) hS (fun _ h => h) (fun _ h => h) (fun q_4 H locs hY hk hS => ?_)
  obtain ⟨hq_4, hP⟩ := hY
  subst hq_4
  rw [gb_onv]
  by_cases c_5 : r_2 = 0
  · rw [if_pos c_5] at h
    rw [gb_nv0 c_5]
    refine lv_astoreN (lv' := [(4, .null), (0, .ref (b + 0)), (1, .int p1), (2, .int p2), (3, .int p3)]) hx hb dX11_rest_5 hl (by decide) rfl (fun ls hl => ?_)
    refine lv_iload_n hx hb dX11_rest_7 rfl (lv_at hl 4 rfl) ?_
    refine lv_iconst (v := (-1)) hx hb dX11_rest_8 (by decide) ?_
    refine lv_icmp_lt (tgt := 31) hx hb dX11_rest_9 (by decide) (fun c_6 => ?_) (fun c_6 => ?_)
    · rw [if_pos c_6] at h
      refine lv_bipush (v := (-2)) hx hb dX11_rest_31 (by decide) ?_
      obtain ⟨e1, e2⟩ := gb_eq2 h
      exact W.iret (v := (-2)) hx hb hr (fun t ht hW => gb_ri ht ⟨e2, by rw [← e1]; exact hP⟩ hS) hS.2.2 dX11_rest_33
    · rw [if_neg c_6] at h
      refine lv_aloadN hx hb dX11_rest_12 (lv_at hl 0 rfl) ?_
      refine lv_ifnullN (tgt := 31) hx hb dX11_rest_14 (by decide) ?_
      refine lv_bipush (v := (-2)) hx hb dX11_rest_31 (by decide) ?_
      obtain ⟨e1, e2⟩ := gb_eq2 h
      exact W.iret (v := (-2)) hx hb hr (fun t ht hW => gb_ri ht ⟨e2, by rw [← e1]; exact hP⟩ hS) hS.2.2 dX11_rest_33
  rw [if_neg c_5] at h
  rw [gb_nv1 c_5]
  obtain ⟨z_7, h⟩ := gb_kk_s h
  refine lv_astore (lv' := [(4, .ref (b + r_2)), (0, .ref (b + 0)), (1, .int p1), (2, .int p2), (3, .int p3)]) hx hb dX11_rest_5 hl (by decide) rfl (fun ls hl => ?_)
  refine lv_iload_n hx hb dX11_rest_7 rfl (lv_at hl 4 rfl) ?_
  refine lv_iconst (v := (-1)) hx hb dX11_rest_8 (by decide) ?_
  refine lv_icmp_lt (tgt := 31) hx hb dX11_rest_9 (by decide) (fun c_8 => ?_) (fun c_8 => ?_)
  · rw [if_pos c_8] at h
    refine lv_bipush (v := (-2)) hx hb dX11_rest_31 (by decide) ?_
    obtain ⟨e1, e2⟩ := gb_eq2 h
    exact W.iret (v := (-2)) hx hb hr (fun t ht hW => gb_ri ht ⟨e2, by rw [← e1]; exact hP⟩ hS) hS.2.2 dX11_rest_33
  · rw [if_neg c_8] at h
    refine lv_aload hx hb dX11_rest_12 (lv_at hl 0 rfl) ?_
    refine lv_ifnull hx hb dX11_rest_14 ?_
    refine lv_aload_n hx hb dX11_rest_17 rfl (lv_at hl 1 rfl) ?_
    refine lv_aload hx hb dX11_rest_18 (lv_at hl 0 rfl) ?_
    refine lv_aload_n hx hb dX11_rest_20 rfl (lv_at hl 1 rfl) ?_
    refine lv_iload_n hx hb dX11_rest_21 rfl (lv_at hl 3 rfl) ?_
    obtain ⟨s_9, r_10, z_11, h⟩ := gb_cd_s h
    refine gb_callq (va_runV (C := RX11) (As := [.int p2]) (rest := [.ref (b + r_2), .ref (b + 0)]) ⟨hx, hb, hml, hown, hq⟩ (cc_Face_nightAt l D cT tt b1 b hb1 n s_1 p2 s_9 r_10 z_11) (cwV 1 hq (gb_gV w_646 w_648 s_1_8 w_1 w_649) rfl rfl rfl (by decide +kernel) ⟨Nat.le_of_ble_eq_true rfl, Nat.le_of_ble_eq_true rfl⟩) (gb_preV (r := (RX11, TX11, 10)) (ci := 9) (q0 := 0) hSt hP rfl (gb_at b rfl) hS (fun q h => Nat.le_trans hb1 h.1) hP) rfl rfl hl.1 rfl (lv_room (Nat.le_of_ble_eq_true rfl)) dX11_rest_22 ⟨Nat.le_of_ble_eq_true rfl, Nat.le_of_ble_eq_true rfl⟩) hS (fun _ h => h) (fun _ h => h) (fun q_12 H locs hY hk hS => ?_)
    obtain ⟨hq_12, hP⟩ := hY
    subst hq_12
    rw [gb_onv]
    by_cases c_13 : r_10 = 0
    · rw [if_pos c_13] at h
      rw [gb_nv0 c_13]
      obtain ⟨s_14, r_15, z_16, h⟩ := gb_cd_s h
      refine gb_calli (va_runV (C := RX11) (As := [.ref (b + r_2), .null]) (rest := []) ⟨hx, hb, hml, hown, hq⟩ (cc_Face_playedOut_B_n l D cT tt b1 b hb1 n s_9 r_2 s_14 r_15 z_16) (cwV 2 hq (gb_gV w_697 w_699 s_1_11 w_1 w_700) rfl rfl rfl (by decide +kernel) ⟨Nat.le_of_ble_eq_true rfl, Nat.le_of_ble_eq_true rfl⟩) (gb_preV (r := (RX11, TX11, 10)) (ci := 9) (q0 := 0) hSt hP rfl (gb_at b rfl) hS (fun q h => Nat.le_trans hb1 h.1) hP) rfl rfl hl.1 rfl (lv_room (Nat.le_of_ble_eq_true rfl)) dX11_rest_25 ⟨Nat.le_of_ble_eq_true rfl, Nat.le_of_ble_eq_true rfl⟩) hS (fun _ h => h) (fun _ h => h) (fun q_17 H locs hY hk hS => ?_)
      obtain ⟨hq_17, hP⟩ := hY
      replace hq_17 := hq_17.symm
      subst hq_17
      refine lv_if_ne (tgt := 34) hx hb dX11_rest_28 (by decide) (fun c_18 => ?_) (fun c_18 => ?_)
      · rw [if_neg c_18] at h
        refine lv_iconst (v := 1) hx hb dX11_rest_34 (by decide) ?_
        refine lv_aload hx hb dX11_rest_35 (lv_at hl 0 rfl) ?_
        obtain ⟨s_19, r_20, z_21, h⟩ := gb_cd_s h
        refine gb_calli (va_runV (C := RX0) (As := []) (rest := [.int 1]) ⟨hx, hb, hml, hown, hq⟩ (cc_Border_paths_B l D cT tt b1 b hb1 n s_14 r_2 s_19 r_20 z_21) (cwV 0 hq (gb_gV w_597 w_473 w_474 w_4 w_475) rfl rfl rfl (by decide +kernel) ⟨Nat.le_of_ble_eq_true rfl, Nat.le_of_ble_eq_true rfl⟩) (gb_preV (r := (RX0, TX0, 1)) (ci := 0) (q0 := r_2) hSt hP rfl (gb_at b (gb_cB z_7).1) hS (fun q h => Nat.le_trans hb1 h.1) hP) rfl rfl hl.1 rfl (lv_room (Nat.le_of_ble_eq_true rfl)) dX11_rest_37 ⟨Nat.le_of_ble_eq_true rfl, Nat.le_of_ble_eq_true rfl⟩) hS (fun _ h => h) (fun _ h => h) (fun q_22 H locs hY hk hS => ?_)
        obtain ⟨hq_22, hP⟩ := hY
        replace hq_22 := hq_22.symm
        subst hq_22
        refine lv_ishl hx hb dX11_rest_40 ?_
        refine lv_topi (fun x_23 ex_23 => ?_)
        replace h := gb_lt_s ex_23 h
        refine lv_istore (lv' := [(5, .int x_23), (4, .ref (b + r_2)), (0, .ref (b + 0)), (1, .int p1), (2, .int p2), (3, .int p3)]) hx hb dX11_rest_41 hl (by decide) rfl (fun ls hl => ?_)
        refine lv_iconst (v := 0) hx hb dX11_rest_43 (by decide) ?_
        refine lv_istore (lv' := [(6, .int 0), (5, .int x_23), (4, .ref (b + r_2)), (0, .ref (b + 0)), (1, .int p1), (2, .int p2), (3, .int p3)]) hx hb dX11_rest_44 hl (by decide) rfl (fun ls hl => ?_)
        refine lv_iconst (v := 0) hx hb dX11_rest_46 (by decide) ?_
        refine lv_istore (lv' := [(7, .int 0), (6, .int 0), (5, .int x_23), (4, .ref (b + r_2)), (0, .ref (b + 0)), (1, .int p1), (2, .int p2), (3, .int p3)]) hx hb dX11_rest_47 hl (by decide) rfl (fun ls hl => ?_)
        exact L49_1 n _ _ _ _ _ _ _ _ h hP hS (lv_sub hl [4, 7, 2, 1, 0] rfl)
      · rw [if_pos c_18] at h
        refine lv_bipush (v := (-2)) hx hb dX11_rest_31 (by decide) ?_
        obtain ⟨e1, e2⟩ := gb_eq2 h
        exact W.iret (v := (-2)) hx hb hr (fun t ht hW => gb_ri ht ⟨e2, by rw [← e1]; exact hP⟩ hS) hS.2.2 dX11_rest_33
    rw [if_neg c_13] at h
    rw [gb_nv1 c_13]
    obtain ⟨z_35, h⟩ := gb_kk_s h
    obtain ⟨s_36, r_37, z_38, h⟩ := gb_cd_s h
    refine gb_calli (va_runV (C := RX11) (As := [.ref (b + r_2), .ref (b + r_10)]) (rest := []) ⟨hx, hb, hml, hown, hq⟩ (cc_Face_playedOut_B_N l D cT tt b1 b hb1 n s_9 r_2 r_10 s_36 r_37 z_38) (cwV 2 hq (gb_gV w_697 w_699 s_1_11 w_1 w_700) rfl rfl rfl (by decide +kernel) ⟨Nat.le_of_ble_eq_true rfl, Nat.le_of_ble_eq_true rfl⟩) (gb_preV (r := (RX11, TX11, 10)) (ci := 9) (q0 := 0) hSt hP rfl (gb_at b rfl) hS (fun q h => Nat.le_trans hb1 h.1) hP) rfl rfl hl.1 rfl (lv_room (Nat.le_of_ble_eq_true rfl)) dX11_rest_25 ⟨Nat.le_of_ble_eq_true rfl, Nat.le_of_ble_eq_true rfl⟩) hS (fun _ h => h) (fun _ h => h) (fun q_39 H locs hY hk hS => ?_)
    obtain ⟨hq_39, hP⟩ := hY
    replace hq_39 := hq_39.symm
    subst hq_39
    refine lv_if_ne (tgt := 34) hx hb dX11_rest_28 (by decide) (fun c_40 => ?_) (fun c_40 => ?_)
    · rw [if_neg c_40] at h
      refine lv_iconst (v := 1) hx hb dX11_rest_34 (by decide) ?_
      refine lv_aload hx hb dX11_rest_35 (lv_at hl 0 rfl) ?_
      obtain ⟨s_41, r_42, z_43, h⟩ := gb_cd_s h
      refine gb_calli (va_runV (C := RX0) (As := []) (rest := [.int 1]) ⟨hx, hb, hml, hown, hq⟩ (cc_Border_paths_B l D cT tt b1 b hb1 n s_36 r_2 s_41 r_42 z_43) (cwV 0 hq (gb_gV w_597 w_473 w_474 w_4 w_475) rfl rfl rfl (by decide +kernel) ⟨Nat.le_of_ble_eq_true rfl, Nat.le_of_ble_eq_true rfl⟩) (gb_preV (r := (RX0, TX0, 1)) (ci := 0) (q0 := r_2) hSt hP rfl (gb_at b (gb_cB z_7).1) hS (fun q h => Nat.le_trans hb1 h.1) hP) rfl rfl hl.1 rfl (lv_room (Nat.le_of_ble_eq_true rfl)) dX11_rest_37 ⟨Nat.le_of_ble_eq_true rfl, Nat.le_of_ble_eq_true rfl⟩) hS (fun _ h => h) (fun _ h => h) (fun q_44 H locs hY hk hS => ?_)
      obtain ⟨hq_44, hP⟩ := hY
      replace hq_44 := hq_44.symm
      subst hq_44
      refine lv_ishl hx hb dX11_rest_40 ?_
      refine lv_topi (fun x_45 ex_45 => ?_)
      replace h := gb_lt_s ex_45 h
      refine lv_istore (lv' := [(5, .int x_45), (4, .ref (b + r_2)), (0, .ref (b + 0)), (1, .int p1), (2, .int p2), (3, .int p3)]) hx hb dX11_rest_41 hl (by decide) rfl (fun ls hl => ?_)
      refine lv_iconst (v := 0) hx hb dX11_rest_43 (by decide) ?_
      refine lv_istore (lv' := [(6, .int 0), (5, .int x_45), (4, .ref (b + r_2)), (0, .ref (b + 0)), (1, .int p1), (2, .int p2), (3, .int p3)]) hx hb dX11_rest_44 hl (by decide) rfl (fun ls hl => ?_)
      refine lv_iconst (v := 0) hx hb dX11_rest_46 (by decide) ?_
      refine lv_istore (lv' := [(7, .int 0), (6, .int 0), (5, .int x_45), (4, .ref (b + r_2)), (0, .ref (b + 0)), (1, .int p1), (2, .int p2), (3, .int p3)]) hx hb dX11_rest_47 hl (by decide) rfl (fun ls hl => ?_)
      exact L49_1 n _ _ _ _ _ _ _ _ h hP hS (lv_sub hl [4, 7, 2, 1, 0] rfl)
    · rw [if_pos c_40] at h
      refine lv_bipush (v := (-2)) hx hb dX11_rest_31 (by decide) ?_
      obtain ⟨e1, e2⟩ := gb_eq2 h
      exact W.iret (v := (-2)) hx hb hr (fun t ht hW => gb_ri ht ⟨e2, by rw [← e1]; exact hP⟩ hS) hS.2.2 dX11_rest_33
theorem dX11_take_0 : decode cX11_take 0 = .ok (.aload_n 0, 1) := dc_42 (show ((cX11_take.data.toList.drop 0).take 1).map UInt8.toNat = [42] by decide +kernel)
theorem dX11_take_1 : decode cX11_take 1 = .ok (.iload_n 1, 1) := dc_27 (show ((cX11_take.data.toList.drop 1).take 1).map UInt8.toNat = [27] by decide +kernel)
theorem dX11_take_2 : decode cX11_take 2 = .ok (.invokevirtual 113, 3) := dc_182 (show ((cX11_take.data.toList.drop 2).take 3).map UInt8.toNat = [182, 0, 113] by decide +kernel) rfl
theorem dX11_take_5 : decode cX11_take 5 = .ok (.astore 5, 2) := dc_58 (show ((cX11_take.data.toList.drop 5).take 2).map UInt8.toNat = [58, 5] by decide +kernel) rfl
theorem dX11_take_7 : decode cX11_take 7 = .ok (.aload 5, 2) := dc_25 (show ((cX11_take.data.toList.drop 7).take 2).map UInt8.toNat = [25, 5] by decide +kernel) rfl
theorem dX11_take_9 : decode cX11_take 9 = .ok (.ifnull 28, 3) := dc_198 (show ((cX11_take.data.toList.drop 9).take 3).map UInt8.toNat = [198, 0, 28] by decide +kernel) rfl
theorem dX11_take_37 : decode cX11_take 37 = .ok (.iconst (-1), 1) := dc_2 (show ((cX11_take.data.toList.drop 37).take 1).map UInt8.toNat = [2] by decide +kernel)
theorem dX11_take_38 : decode cX11_take 38 = .ok (.ireturn, 1) := dc_172 (show ((cX11_take.data.toList.drop 38).take 1).map UInt8.toNat = [172] by decide +kernel)
theorem dX11_take_12 : decode cX11_take 12 = .ok (.aload 5, 2) := dc_25 (show ((cX11_take.data.toList.drop 12).take 2).map UInt8.toNat = [25, 5] by decide +kernel) rfl
theorem dX11_take_14 : decode cX11_take 14 = .ok (.iload 4, 2) := dc_21 (show ((cX11_take.data.toList.drop 14).take 2).map UInt8.toNat = [21, 4] by decide +kernel) rfl
theorem dX11_take_16 : decode cX11_take 16 = .ok (.invokevirtual 135, 3) := dc_182 (show ((cX11_take.data.toList.drop 16).take 3).map UInt8.toNat = [182, 0, 135] by decide +kernel) rfl
theorem dX11_take_19 : decode cX11_take 19 = .ok (.ifCond .eq 18, 3) := dc_153 (show ((cX11_take.data.toList.drop 19).take 3).map UInt8.toNat = [153, 0, 18] by decide +kernel) rfl
theorem dX11_take_22 : decode cX11_take 22 = .ok (.iload_n 3, 1) := dc_29 (show ((cX11_take.data.toList.drop 22).take 1).map UInt8.toNat = [29] by decide +kernel)
theorem dX11_take_23 : decode cX11_take 23 = .ok (.ifCond .lt 14, 3) := dc_155 (show ((cX11_take.data.toList.drop 23).take 3).map UInt8.toNat = [155, 0, 14] by decide +kernel) rfl
theorem dX11_take_26 : decode cX11_take 26 = .ok (.iload_n 3, 1) := dc_29 (show ((cX11_take.data.toList.drop 26).take 1).map UInt8.toNat = [29] by decide +kernel)
theorem dX11_take_27 : decode cX11_take 27 = .ok (.iconst 1, 1) := dc_4 (show ((cX11_take.data.toList.drop 27).take 1).map UInt8.toNat = [4] by decide +kernel)
theorem dX11_take_28 : decode cX11_take 28 = .ok (.aload 5, 2) := dc_25 (show ((cX11_take.data.toList.drop 28).take 2).map UInt8.toNat = [25, 5] by decide +kernel) rfl
theorem dX11_take_30 : decode cX11_take 30 = .ok (.invokevirtual 117, 3) := dc_182 (show ((cX11_take.data.toList.drop 30).take 3).map UInt8.toNat = [182, 0, 117] by decide +kernel) rfl
theorem dX11_take_33 : decode cX11_take 33 = .ok (.ishl, 1) := dc_120 (show ((cX11_take.data.toList.drop 33).take 1).map UInt8.toNat = [120] by decide +kernel)
theorem dX11_take_34 : decode cX11_take 34 = .ok (.if_icmp .lt 5, 3) := dc_161 (show ((cX11_take.data.toList.drop 34).take 3).map UInt8.toNat = [161, 0, 5] by decide +kernel) rfl
theorem dX11_take_39 : decode cX11_take 39 = .ok (.aload_n 0, 1) := dc_42 (show ((cX11_take.data.toList.drop 39).take 1).map UInt8.toNat = [42] by decide +kernel)
theorem dX11_take_40 : decode cX11_take 40 = .ok (.aload 5, 2) := dc_25 (show ((cX11_take.data.toList.drop 40).take 2).map UInt8.toNat = [25, 5] by decide +kernel) rfl
theorem dX11_take_42 : decode cX11_take 42 = .ok (.aload_n 0, 1) := dc_42 (show ((cX11_take.data.toList.drop 42).take 1).map UInt8.toNat = [42] by decide +kernel)
theorem dX11_take_43 : decode cX11_take 43 = .ok (.iload_n 2, 1) := dc_28 (show ((cX11_take.data.toList.drop 43).take 1).map UInt8.toNat = [28] by decide +kernel)
theorem dX11_take_44 : decode cX11_take 44 = .ok (.invokevirtual 148, 3) := dc_182 (show ((cX11_take.data.toList.drop 44).take 3).map UInt8.toNat = [182, 0, 148] by decide +kernel) rfl
theorem dX11_take_47 : decode cX11_take 47 = .ok (.invokevirtual 195, 3) := dc_182 (show ((cX11_take.data.toList.drop 47).take 3).map UInt8.toNat = [182, 0, 195] by decide +kernel) rfl
theorem dX11_take_50 : decode cX11_take 50 = .ok (.ifCond .eq 16, 3) := dc_153 (show ((cX11_take.data.toList.drop 50).take 3).map UInt8.toNat = [153, 0, 16] by decide +kernel) rfl
theorem dX11_take_66 : decode cX11_take 66 = .ok (.iconst (-1), 1) := dc_2 (show ((cX11_take.data.toList.drop 66).take 1).map UInt8.toNat = [2] by decide +kernel)
theorem dX11_take_67 : decode cX11_take 67 = .ok (.ireturn, 1) := dc_172 (show ((cX11_take.data.toList.drop 67).take 1).map UInt8.toNat = [172] by decide +kernel)
theorem dX11_take_53 : decode cX11_take 53 = .ok (.aload_n 0, 1) := dc_42 (show ((cX11_take.data.toList.drop 53).take 1).map UInt8.toNat = [42] by decide +kernel)
theorem dX11_take_54 : decode cX11_take 54 = .ok (.getfield 56, 3) := dc_180 (show ((cX11_take.data.toList.drop 54).take 3).map UInt8.toNat = [180, 0, 56] by decide +kernel) rfl
theorem dX11_take_57 : decode cX11_take 57 = .ok (.iload_n 3, 1) := dc_29 (show ((cX11_take.data.toList.drop 57).take 1).map UInt8.toNat = [29] by decide +kernel)
theorem dX11_take_58 : decode cX11_take 58 = .ok (.iload 4, 2) := dc_21 (show ((cX11_take.data.toList.drop 58).take 2).map UInt8.toNat = [21, 4] by decide +kernel) rfl
theorem dX11_take_60 : decode cX11_take 60 = .ok (.invokevirtual 259, 3) := dc_182 (show ((cX11_take.data.toList.drop 60).take 3).map UInt8.toNat = [182, 1, 3] by decide +kernel) rfl
theorem w_844 : (Cond.methodLink "GooseBorder" (259 : Nat) ({ cls := "GooseBorder$Play", name := "taken", desc := "(II)I" } : MethodName)) ∈ gb_wA := gb_t4 124 rfl rfl
theorem dX11_take_63 : decode cX11_take 63 = .ok (.goto 4, 3) := dc_167 (show ((cX11_take.data.toList.drop 63).take 3).map UInt8.toNat = [167, 0, 4] by decide +kernel) rfl
def cs_Face_take (n : Nat) (σ : gb_S) (p1 : Int32) (p2 : Int32) (p3 : Int32) (p4 : Int32) : gb_CR Int32 := gb_cd (cs_Face_borderAt n σ p1) (fun s_1 r_2 => (if r_2 = 0 then some (s_1, (-1)) else gb_kk (gb_kB r_2) (gb_cd (cs_Border_hasPath_B n s_1 r_2 p4) (fun s_7 r_8 => (if r_8 = 0 then some (s_7, (-1)) else (if p3 < 0 then some (s_7, (-1)) else gb_cd (cs_Border_paths_B n s_7 r_2) (fun s_13 r_14 => (if p3 < ((1 : Int32) <<< (r_14 &&& 31)) then gb_cd (cs_Face_nightAt n s_13 p2) (fun s_18 r_19 => (if r_19 = 0 then gb_cd (cs_Face_playedOut_B_n n s_18 r_2) (fun s_23 r_24 => (if r_24 = 0 then some (s_23, (-1)) else gb_cd (cs_Play_taken n s_23 p3 p4) (fun s_28 r_29 => some (s_28, r_29)))) else gb_kk (gb_kN r_19) (gb_cd (cs_Face_playedOut_B_N n s_18 r_2 r_19) (fun s_33 r_34 => (if r_34 = 0 then some (s_33, (-1)) else gb_cd (cs_Play_taken n s_33 p3 p4) (fun s_38 r_39 => some (s_38, r_39))))))) else some (s_13, (-1))))))))))
set_option maxHeartbeats 8000000 in
set_option maxRecDepth 100000 in
theorem cc_Face_take (l : Launch) (D : va_G) (cT : Nat → ClassId) (tt : Nat → Nat) (b1 b : Nat) (hb1 : b1 ≤ b) (n : Nat) (σ : gb_S) (p1 : Int32) (p2 : Int32) (p3 : Int32) (p4 : Int32) (σE : gb_S) (rE : Int32) (h : cs_Face_take n σ p1 p2 p3 p4 = some (σE, rE)) : Met l yX11_take (.code yX11_take cX11_take 6 (some FieldType.int) :: gb_wA) ({ frames := 6, cells := 0, slots := 0, locals := 147 }) (gb_Pc D cT tt b1 [.ref (b + 0), .int p1, .int p2, .int p3, .int p4] (fun h => va_P D vwCl (gb_wl b (gb_CW cT b σ)) h)) (gb_Qi (fun r h => r = rE ∧ va_P D vwCl (gb_wl b (gb_CW cT b σE)) h) (gb_fr b 135)) 0 0 (gb_fr b 135) := by
  refine Met.ofW (cc := cX11_take) (maxL := 6) (ret := (some FieldType.int)) (by decide) rfl ?_
  intro p e s m args below meth c s₁ B hml hv
  obtain ⟨rfl, hSt, hP⟩ := hv
  have hx := B.exec
  have hb := B.bytes
  have hr := B.returns
  have hts := atoms_spec (ws := .code yX11_take cX11_take 6 (some FieldType.int) :: gb_wA) B.pre
  have hq : ∀ w ∈ gb_wA, w.before _ s = true := fun w h => hts w (List.mem_cons_of_mem _ h)
  have hown : s.vm.findClass RX11 = some m.cls := findClass_of_methodNamed B.named
  have hlocks := B.notSynchronized
  clear B hts
  have hK := hSt.1
  have hS : va_S (gb_fr b 135) s.heap s.heap [] := va_S.rf
  have hl := lv_entry ([.ref (b + 0), .int p1, .int p2, .int p3, .int p4]) (n := 6) (Nat.le_of_ble_eq_true rfl)
  rw [lg_entry_eq]
  generalize (lg_sl ([.ref (b + 0), .int p1, .int p2, .int p3, .int p4]) ++ List.replicate (6 - (lg_sl ([.ref (b + 0), .int p1, .int p2, .int p3, .int p4])).length) Slot.unset).toArray = ls at hl ⊢
  replace hl : lv_has ls 6 [(0, .ref (b + 0)), (1, .int p1), (2, .int p2), (3, .int p3), (4, .int p4)] := hl
  unfold cs_Face_take at h
  refine lv_aload_n hx hb dX11_take_0 rfl (lv_at hl 0 rfl) ?_
  refine lv_iload_n hx hb dX11_take_1 rfl (lv_at hl 1 rfl) ?_
  obtain ⟨s_1, r_2, z_3, h⟩ := gb_cd_s h
  refine gb_callq (va_runV (C := RX11) (As := [.int p1]) (rest := []) ⟨hx, hb, hml, hown, hq⟩ (cc_Face_borderAt l D cT tt b1 b hb1 n σ p1 s_1 r_2 z_3) (cwV 1 hq (gb_gV w_593 w_595 s_1_7 w_1 w_596) rfl rfl rfl (by decide +kernel) ⟨Nat.le_of_ble_eq_true rfl, Nat.le_of_ble_eq_true rfl⟩) (gb_preV (r := (RX11, TX11, 10)) (ci := 9) (q0 := 0) hSt hP rfl (gb_at b rfl) hS (fun q h => Nat.le_trans hb1 h.1) hP) rfl rfl hl.1 rfl (lv_room (Nat.le_of_ble_eq_true rfl)) dX11_take_2 ⟨Nat.le_of_ble_eq_true rfl, Nat.le_of_ble_eq_true rfl⟩) hS (fun _ h => h) (fun _ h => h) (fun q_4 H locs hY hk hS => ?_)
  obtain ⟨hq_4, hP⟩ := hY
  subst hq_4
  rw [gb_onv]
  by_cases c_5 : r_2 = 0
  · rw [if_pos c_5] at h
    rw [gb_nv0 c_5]
    refine lv_astoreN (lv' := [(5, .null), (0, .ref (b + 0)), (1, .int p1), (2, .int p2), (3, .int p3), (4, .int p4)]) hx hb dX11_take_5 hl (by decide) rfl (fun ls hl => ?_)
    refine lv_aloadN hx hb dX11_take_7 (lv_at hl 0 rfl) ?_
    refine lv_ifnullN (tgt := 37) hx hb dX11_take_9 (by decide) ?_
    refine lv_iconst (v := (-1)) hx hb dX11_take_37 (by decide) ?_
    obtain ⟨e1, e2⟩ := gb_eq2 h
    exact W.iret (v := (-1)) hx hb hr (fun t ht hW => gb_ri ht ⟨e2, by rw [← e1]; exact hP⟩ hS) hS.2.2 dX11_take_38
  rw [if_neg c_5] at h
  rw [gb_nv1 c_5]
  obtain ⟨z_6, h⟩ := gb_kk_s h
  refine lv_astore (lv' := [(5, .ref (b + r_2)), (0, .ref (b + 0)), (1, .int p1), (2, .int p2), (3, .int p3), (4, .int p4)]) hx hb dX11_take_5 hl (by decide) rfl (fun ls hl => ?_)
  refine lv_aload hx hb dX11_take_7 (lv_at hl 0 rfl) ?_
  refine lv_ifnull hx hb dX11_take_9 ?_
  refine lv_aload hx hb dX11_take_12 (lv_at hl 0 rfl) ?_
  refine lv_iload hx hb dX11_take_14 (lv_at hl 5 rfl) ?_
  obtain ⟨s_7, r_8, z_9, h⟩ := gb_cd_s h
  refine gb_calli (va_runV (C := RX0) (As := [.int p4]) (rest := []) ⟨hx, hb, hml, hown, hq⟩ (cc_Border_hasPath_B l D cT tt b1 b hb1 n s_1 r_2 p4 s_7 r_8 z_9) (cwV 1 hq (gb_gV w_620 w_608 w_609 w_4 w_610) rfl rfl rfl (by decide +kernel) ⟨Nat.le_of_ble_eq_true rfl, Nat.le_of_ble_eq_true rfl⟩) (gb_preV (r := (RX0, TX0, 1)) (ci := 0) (q0 := r_2) hSt hP rfl (gb_at b (gb_cB z_6).1) hS (fun q h => Nat.le_trans hb1 h.1) hP) rfl rfl hl.1 rfl (lv_room (Nat.le_of_ble_eq_true rfl)) dX11_take_16 ⟨Nat.le_of_ble_eq_true rfl, Nat.le_of_ble_eq_true rfl⟩) hS (fun _ h => h) (fun _ h => h) (fun q_10 H locs hY hk hS => ?_)
  obtain ⟨hq_10, hP⟩ := hY
  replace hq_10 := hq_10.symm
  subst hq_10
  refine lv_if_eq (tgt := 37) hx hb dX11_take_19 (by decide) (fun c_11 => ?_) (fun c_11 => ?_)
  · rw [if_pos c_11] at h
    refine lv_iconst (v := (-1)) hx hb dX11_take_37 (by decide) ?_
    obtain ⟨e1, e2⟩ := gb_eq2 h
    exact W.iret (v := (-1)) hx hb hr (fun t ht hW => gb_ri ht ⟨e2, by rw [← e1]; exact hP⟩ hS) hS.2.2 dX11_take_38
  · rw [if_neg c_11] at h
    refine lv_iload_n hx hb dX11_take_22 rfl (lv_at hl 4 rfl) ?_
    refine lv_if_lt (tgt := 37) hx hb dX11_take_23 (by decide) (fun c_12 => ?_) (fun c_12 => ?_)
    · rw [if_pos c_12] at h
      refine lv_iconst (v := (-1)) hx hb dX11_take_37 (by decide) ?_
      obtain ⟨e1, e2⟩ := gb_eq2 h
      exact W.iret (v := (-1)) hx hb hr (fun t ht hW => gb_ri ht ⟨e2, by rw [← e1]; exact hP⟩ hS) hS.2.2 dX11_take_38
    · rw [if_neg c_12] at h
      refine lv_iload_n hx hb dX11_take_26 rfl (lv_at hl 4 rfl) ?_
      refine lv_iconst (v := 1) hx hb dX11_take_27 (by decide) ?_
      refine lv_aload hx hb dX11_take_28 (lv_at hl 0 rfl) ?_
      obtain ⟨s_13, r_14, z_15, h⟩ := gb_cd_s h
      refine gb_calli (va_runV (C := RX0) (As := []) (rest := [.int 1, .int p3]) ⟨hx, hb, hml, hown, hq⟩ (cc_Border_paths_B l D cT tt b1 b hb1 n s_7 r_2 s_13 r_14 z_15) (cwV 0 hq (gb_gV w_597 w_473 w_474 w_4 w_475) rfl rfl rfl (by decide +kernel) ⟨Nat.le_of_ble_eq_true rfl, Nat.le_of_ble_eq_true rfl⟩) (gb_preV (r := (RX0, TX0, 1)) (ci := 0) (q0 := r_2) hSt hP rfl (gb_at b (gb_cB z_6).1) hS (fun q h => Nat.le_trans hb1 h.1) hP) rfl rfl hl.1 rfl (lv_room (Nat.le_of_ble_eq_true rfl)) dX11_take_30 ⟨Nat.le_of_ble_eq_true rfl, Nat.le_of_ble_eq_true rfl⟩) hS (fun _ h => h) (fun _ h => h) (fun q_16 H locs hY hk hS => ?_)
      obtain ⟨hq_16, hP⟩ := hY
      replace hq_16 := hq_16.symm
      subst hq_16
      refine lv_ishl hx hb dX11_take_33 ?_
      refine lv_icmp_lt (tgt := 39) hx hb dX11_take_34 (by decide) (fun c_17 => ?_) (fun c_17 => ?_)
      · rw [if_pos c_17] at h
        refine lv_aload_n hx hb dX11_take_39 rfl (lv_at hl 1 rfl) ?_
        refine lv_aload hx hb dX11_take_40 (lv_at hl 0 rfl) ?_
        refine lv_aload_n hx hb dX11_take_42 rfl (lv_at hl 1 rfl) ?_
        refine lv_iload_n hx hb dX11_take_43 rfl (lv_at hl 3 rfl) ?_
        obtain ⟨s_18, r_19, z_20, h⟩ := gb_cd_s h
        refine gb_callq (va_runV (C := RX11) (As := [.int p2]) (rest := [.ref (b + r_2), .ref (b + 0)]) ⟨hx, hb, hml, hown, hq⟩ (cc_Face_nightAt l D cT tt b1 b hb1 n s_13 p2 s_18 r_19 z_20) (cwV 1 hq (gb_gV w_646 w_648 s_1_8 w_1 w_649) rfl rfl rfl (by decide +kernel) ⟨Nat.le_of_ble_eq_true rfl, Nat.le_of_ble_eq_true rfl⟩) (gb_preV (r := (RX11, TX11, 10)) (ci := 9) (q0 := 0) hSt hP rfl (gb_at b rfl) hS (fun q h => Nat.le_trans hb1 h.1) hP) rfl rfl hl.1 rfl (lv_room (Nat.le_of_ble_eq_true rfl)) dX11_take_44 ⟨Nat.le_of_ble_eq_true rfl, Nat.le_of_ble_eq_true rfl⟩) hS (fun _ h => h) (fun _ h => h) (fun q_21 H locs hY hk hS => ?_)
        obtain ⟨hq_21, hP⟩ := hY
        subst hq_21
        rw [gb_onv]
        by_cases c_22 : r_19 = 0
        · rw [if_pos c_22] at h
          rw [gb_nv0 c_22]
          obtain ⟨s_23, r_24, z_25, h⟩ := gb_cd_s h
          refine gb_calli (va_runV (C := RX11) (As := [.ref (b + r_2), .null]) (rest := []) ⟨hx, hb, hml, hown, hq⟩ (cc_Face_playedOut_B_n l D cT tt b1 b hb1 n s_18 r_2 s_23 r_24 z_25) (cwV 2 hq (gb_gV w_697 w_699 s_1_11 w_1 w_700) rfl rfl rfl (by decide +kernel) ⟨Nat.le_of_ble_eq_true rfl, Nat.le_of_ble_eq_true rfl⟩) (gb_preV (r := (RX11, TX11, 10)) (ci := 9) (q0 := 0) hSt hP rfl (gb_at b rfl) hS (fun q h => Nat.le_trans hb1 h.1) hP) rfl rfl hl.1 rfl (lv_room (Nat.le_of_ble_eq_true rfl)) dX11_take_47 ⟨Nat.le_of_ble_eq_true rfl, Nat.le_of_ble_eq_true rfl⟩) hS (fun _ h => h) (fun _ h => h) (fun q_26 H locs hY hk hS => ?_)
          obtain ⟨hq_26, hP⟩ := hY
          replace hq_26 := hq_26.symm
          subst hq_26
          refine lv_if_eq (tgt := 66) hx hb dX11_take_50 (by decide) (fun c_27 => ?_) (fun c_27 => ?_)
          · rw [if_pos c_27] at h
            refine lv_iconst (v := (-1)) hx hb dX11_take_66 (by decide) ?_
            obtain ⟨e1, e2⟩ := gb_eq2 h
            exact W.iret (v := (-1)) hx hb hr (fun t ht hW => gb_ri ht ⟨e2, by rw [← e1]; exact hP⟩ hS) hS.2.2 dX11_take_67
          · rw [if_neg c_27] at h
            refine lv_aload_n hx hb dX11_take_53 rfl (lv_at hl 1 rfl) ?_
            refine va_get (ci := 9) (v := (.ref (b + 109))) (C := RX11) (T := TX11) (N := 10) hx hb hq i_X11 hown hK hP 0 (gb_at b rfl) rfl 6 (by decide) (hq _ w_321) (fun _ h9 => h9) rfl dX11_take_54 ?_
            refine lv_iload_n hx hb dX11_take_57 rfl (lv_at hl 4 rfl) ?_
            refine lv_iload hx hb dX11_take_58 (lv_at hl 5 rfl) ?_
            obtain ⟨s_28, r_29, z_30, h⟩ := gb_cd_s h
            refine gb_calli (va_runV (C := RX6) (As := [.int p3, .int p4]) (rest := []) ⟨hx, hb, hml, hown, hq⟩ (cc_Play_taken l D cT tt b1 b hb1 n s_23 p3 p4 s_28 r_29 z_30) (cwV 2 hq (gb_gV w_844 w_836 w_837 w_11 w_838) rfl rfl rfl (by decide +kernel) ⟨Nat.le_of_ble_eq_true rfl, Nat.le_of_ble_eq_true rfl⟩) (gb_preV (r := (RX6, TX6, 12)) (ci := 5) (q0 := 109) hSt hP rfl (gb_at b rfl) hS (fun q h => Nat.le_trans hb1 h.1) hP) rfl rfl hl.1 rfl (lv_room (Nat.le_of_ble_eq_true rfl)) dX11_take_60 ⟨Nat.le_of_ble_eq_true rfl, Nat.le_of_ble_eq_true rfl⟩) hS (fun _ h => h) (fun _ h => h) (fun q_31 H locs hY hk hS => ?_)
            obtain ⟨hq_31, hP⟩ := hY
            replace hq_31 := hq_31.symm
            subst hq_31
            refine lv_goto (tgt := 67) hx hb dX11_take_63 (by decide) ?_
            obtain ⟨e1, e2⟩ := gb_eq2 h
            exact W.iret (v := r_29) hx hb hr (fun t ht hW => gb_ri ht ⟨e2, by rw [← e1]; exact hP⟩ hS) hS.2.2 dX11_take_67
        rw [if_neg c_22] at h
        rw [gb_nv1 c_22]
        obtain ⟨z_32, h⟩ := gb_kk_s h
        obtain ⟨s_33, r_34, z_35, h⟩ := gb_cd_s h
        refine gb_calli (va_runV (C := RX11) (As := [.ref (b + r_2), .ref (b + r_19)]) (rest := []) ⟨hx, hb, hml, hown, hq⟩ (cc_Face_playedOut_B_N l D cT tt b1 b hb1 n s_18 r_2 r_19 s_33 r_34 z_35) (cwV 2 hq (gb_gV w_697 w_699 s_1_11 w_1 w_700) rfl rfl rfl (by decide +kernel) ⟨Nat.le_of_ble_eq_true rfl, Nat.le_of_ble_eq_true rfl⟩) (gb_preV (r := (RX11, TX11, 10)) (ci := 9) (q0 := 0) hSt hP rfl (gb_at b rfl) hS (fun q h => Nat.le_trans hb1 h.1) hP) rfl rfl hl.1 rfl (lv_room (Nat.le_of_ble_eq_true rfl)) dX11_take_47 ⟨Nat.le_of_ble_eq_true rfl, Nat.le_of_ble_eq_true rfl⟩) hS (fun _ h => h) (fun _ h => h) (fun q_36 H locs hY hk hS => ?_)
        obtain ⟨hq_36, hP⟩ := hY
        replace hq_36 := hq_36.symm
        subst hq_36
        refine lv_if_eq (tgt := 66) hx hb dX11_take_50 (by decide) (fun c_37 => ?_) (fun c_37 => ?_)
        · rw [if_pos c_37] at h
          refine lv_iconst (v := (-1)) hx hb dX11_take_66 (by decide) ?_
          obtain ⟨e1, e2⟩ := gb_eq2 h
          exact W.iret (v := (-1)) hx hb hr (fun t ht hW => gb_ri ht ⟨e2, by rw [← e1]; exact hP⟩ hS) hS.2.2 dX11_take_67
        · rw [if_neg c_37] at h
          refine lv_aload_n hx hb dX11_take_53 rfl (lv_at hl 1 rfl) ?_
          refine va_get (ci := 9) (v := (.ref (b + 109))) (C := RX11) (T := TX11) (N := 10) hx hb hq i_X11 hown hK hP 0 (gb_at b rfl) rfl 6 (by decide) (hq _ w_321) (fun _ h9 => h9) rfl dX11_take_54 ?_
          refine lv_iload_n hx hb dX11_take_57 rfl (lv_at hl 4 rfl) ?_
          refine lv_iload hx hb dX11_take_58 (lv_at hl 5 rfl) ?_
          obtain ⟨s_38, r_39, z_40, h⟩ := gb_cd_s h
          refine gb_calli (va_runV (C := RX6) (As := [.int p3, .int p4]) (rest := []) ⟨hx, hb, hml, hown, hq⟩ (cc_Play_taken l D cT tt b1 b hb1 n s_33 p3 p4 s_38 r_39 z_40) (cwV 2 hq (gb_gV w_844 w_836 w_837 w_11 w_838) rfl rfl rfl (by decide +kernel) ⟨Nat.le_of_ble_eq_true rfl, Nat.le_of_ble_eq_true rfl⟩) (gb_preV (r := (RX6, TX6, 12)) (ci := 5) (q0 := 109) hSt hP rfl (gb_at b rfl) hS (fun q h => Nat.le_trans hb1 h.1) hP) rfl rfl hl.1 rfl (lv_room (Nat.le_of_ble_eq_true rfl)) dX11_take_60 ⟨Nat.le_of_ble_eq_true rfl, Nat.le_of_ble_eq_true rfl⟩) hS (fun _ h => h) (fun _ h => h) (fun q_41 H locs hY hk hS => ?_)
          obtain ⟨hq_41, hP⟩ := hY
          replace hq_41 := hq_41.symm
          subst hq_41
          refine lv_goto (tgt := 67) hx hb dX11_take_63 (by decide) ?_
          obtain ⟨e1, e2⟩ := gb_eq2 h
          exact W.iret (v := r_39) hx hb hr (fun t ht hW => gb_ri ht ⟨e2, by rw [← e1]; exact hP⟩ hS) hS.2.2 dX11_take_67
      · rw [if_neg c_17] at h
        refine lv_iconst (v := (-1)) hx hb dX11_take_37 (by decide) ?_
        obtain ⟨e1, e2⟩ := gb_eq2 h
        exact W.iret (v := (-1)) hx hb hr (fun t ht hW => gb_ri ht ⟨e2, by rw [← e1]; exact hP⟩ hS) hS.2.2 dX11_take_38
theorem dX11_honest_0 : decode cX11_honest 0 = .ok (.aload_n 0, 1) := dc_42 (show ((cX11_honest.data.toList.drop 0).take 1).map UInt8.toNat = [42] by decide +kernel)
theorem dX11_honest_1 : decode cX11_honest 1 = .ok (.iload_n 1, 1) := dc_27 (show ((cX11_honest.data.toList.drop 1).take 1).map UInt8.toNat = [27] by decide +kernel)
theorem dX11_honest_2 : decode cX11_honest 2 = .ok (.invokevirtual 113, 3) := dc_182 (show ((cX11_honest.data.toList.drop 2).take 3).map UInt8.toNat = [182, 0, 113] by decide +kernel) rfl
theorem dX11_honest_5 : decode cX11_honest 5 = .ok (.astore 4, 2) := dc_58 (show ((cX11_honest.data.toList.drop 5).take 2).map UInt8.toNat = [58, 4] by decide +kernel) rfl
theorem dX11_honest_7 : decode cX11_honest 7 = .ok (.aload 4, 2) := dc_25 (show ((cX11_honest.data.toList.drop 7).take 2).map UInt8.toNat = [25, 4] by decide +kernel) rfl
theorem dX11_honest_9 : decode cX11_honest 9 = .ok (.ifnull 26, 3) := dc_198 (show ((cX11_honest.data.toList.drop 9).take 3).map UInt8.toNat = [198, 0, 26] by decide +kernel) rfl
theorem dX11_honest_35 : decode cX11_honest 35 = .ok (.iconst (-1), 1) := dc_2 (show ((cX11_honest.data.toList.drop 35).take 1).map UInt8.toNat = [2] by decide +kernel)
theorem dX11_honest_36 : decode cX11_honest 36 = .ok (.ireturn, 1) := dc_172 (show ((cX11_honest.data.toList.drop 36).take 1).map UInt8.toNat = [172] by decide +kernel)
theorem dX11_honest_12 : decode cX11_honest 12 = .ok (.aload 4, 2) := dc_25 (show ((cX11_honest.data.toList.drop 12).take 2).map UInt8.toNat = [25, 4] by decide +kernel) rfl
theorem dX11_honest_14 : decode cX11_honest 14 = .ok (.iload_n 3, 1) := dc_29 (show ((cX11_honest.data.toList.drop 14).take 1).map UInt8.toNat = [29] by decide +kernel)
theorem dX11_honest_15 : decode cX11_honest 15 = .ok (.invokevirtual 135, 3) := dc_182 (show ((cX11_honest.data.toList.drop 15).take 3).map UInt8.toNat = [182, 0, 135] by decide +kernel) rfl
theorem dX11_honest_18 : decode cX11_honest 18 = .ok (.ifCond .eq 17, 3) := dc_153 (show ((cX11_honest.data.toList.drop 18).take 3).map UInt8.toNat = [153, 0, 17] by decide +kernel) rfl
theorem dX11_honest_21 : decode cX11_honest 21 = .ok (.aload_n 0, 1) := dc_42 (show ((cX11_honest.data.toList.drop 21).take 1).map UInt8.toNat = [42] by decide +kernel)
theorem dX11_honest_22 : decode cX11_honest 22 = .ok (.aload 4, 2) := dc_25 (show ((cX11_honest.data.toList.drop 22).take 2).map UInt8.toNat = [25, 4] by decide +kernel) rfl
theorem dX11_honest_24 : decode cX11_honest 24 = .ok (.aload_n 0, 1) := dc_42 (show ((cX11_honest.data.toList.drop 24).take 1).map UInt8.toNat = [42] by decide +kernel)
theorem dX11_honest_25 : decode cX11_honest 25 = .ok (.iload_n 2, 1) := dc_28 (show ((cX11_honest.data.toList.drop 25).take 1).map UInt8.toNat = [28] by decide +kernel)
theorem dX11_honest_26 : decode cX11_honest 26 = .ok (.invokevirtual 148, 3) := dc_182 (show ((cX11_honest.data.toList.drop 26).take 3).map UInt8.toNat = [182, 0, 148] by decide +kernel) rfl
theorem dX11_honest_29 : decode cX11_honest 29 = .ok (.invokevirtual 195, 3) := dc_182 (show ((cX11_honest.data.toList.drop 29).take 3).map UInt8.toNat = [182, 0, 195] by decide +kernel) rfl
theorem dX11_honest_32 : decode cX11_honest 32 = .ok (.ifCond .ne 5, 3) := dc_154 (show ((cX11_honest.data.toList.drop 32).take 3).map UInt8.toNat = [154, 0, 5] by decide +kernel) rfl
theorem dX11_honest_37 : decode cX11_honest 37 = .ok (.aload_n 0, 1) := dc_42 (show ((cX11_honest.data.toList.drop 37).take 1).map UInt8.toNat = [42] by decide +kernel)
theorem dX11_honest_38 : decode cX11_honest 38 = .ok (.getfield 56, 3) := dc_180 (show ((cX11_honest.data.toList.drop 38).take 3).map UInt8.toNat = [180, 0, 56] by decide +kernel) rfl
theorem dX11_honest_41 : decode cX11_honest 41 = .ok (.iload_n 3, 1) := dc_29 (show ((cX11_honest.data.toList.drop 41).take 1).map UInt8.toNat = [29] by decide +kernel)
theorem dX11_honest_42 : decode cX11_honest 42 = .ok (.invokevirtual 223, 3) := dc_182 (show ((cX11_honest.data.toList.drop 42).take 3).map UInt8.toNat = [182, 0, 223] by decide +kernel) rfl
theorem dX11_honest_45 : decode cX11_honest 45 = .ok (.istore 5, 2) := dc_54 (show ((cX11_honest.data.toList.drop 45).take 2).map UInt8.toNat = [54, 5] by decide +kernel) rfl
theorem dX11_honest_47 : decode cX11_honest 47 = .ok (.aload 4, 2) := dc_25 (show ((cX11_honest.data.toList.drop 47).take 2).map UInt8.toNat = [25, 4] by decide +kernel) rfl
theorem dX11_honest_49 : decode cX11_honest 49 = .ok (.iload_n 3, 1) := dc_29 (show ((cX11_honest.data.toList.drop 49).take 1).map UInt8.toNat = [29] by decide +kernel)
theorem dX11_honest_50 : decode cX11_honest 50 = .ok (.iload 5, 2) := dc_21 (show ((cX11_honest.data.toList.drop 50).take 2).map UInt8.toNat = [21, 5] by decide +kernel) rfl
theorem dX11_honest_52 : decode cX11_honest 52 = .ok (.invokevirtual 229, 3) := dc_182 (show ((cX11_honest.data.toList.drop 52).take 3).map UInt8.toNat = [182, 0, 229] by decide +kernel) rfl
theorem dX11_honest_55 : decode cX11_honest 55 = .ok (.aload 4, 2) := dc_25 (show ((cX11_honest.data.toList.drop 55).take 2).map UInt8.toNat = [25, 4] by decide +kernel) rfl
theorem dX11_honest_57 : decode cX11_honest 57 = .ok (.iload_n 3, 1) := dc_29 (show ((cX11_honest.data.toList.drop 57).take 1).map UInt8.toNat = [29] by decide +kernel)
theorem dX11_honest_58 : decode cX11_honest 58 = .ok (.invokevirtual 262, 3) := dc_182 (show ((cX11_honest.data.toList.drop 58).take 3).map UInt8.toNat = [182, 1, 6] by decide +kernel) rfl
theorem w_849 : (Cond.methodLink "GooseBorder" (262 : Nat) ({ cls := "GooseBorder$Border", name := "rate", desc := "(I)I" } : MethodName)) ∈ gb_wA := gb_t4 129 rfl rfl
theorem dX11_honest_61 : decode cX11_honest 61 = .ok (.iload 5, 2) := dc_21 (show ((cX11_honest.data.toList.drop 61).take 2).map UInt8.toNat = [21, 5] by decide +kernel) rfl
theorem dX11_honest_63 : decode cX11_honest 63 = .ok (.imul, 1) := dc_104 (show ((cX11_honest.data.toList.drop 63).take 1).map UInt8.toNat = [104] by decide +kernel)
theorem dX11_honest_64 : decode cX11_honest 64 = .ok (.isub, 1) := dc_100 (show ((cX11_honest.data.toList.drop 64).take 1).map UInt8.toNat = [100] by decide +kernel)
theorem dX11_honest_65 : decode cX11_honest 65 = .ok (.ireturn, 1) := dc_172 (show ((cX11_honest.data.toList.drop 65).take 1).map UInt8.toNat = [172] by decide +kernel)
def cs_Face_honest (n : Nat) (σ : gb_S) (p1 : Int32) (p2 : Int32) (p3 : Int32) : gb_CR Int32 := gb_cd (cs_Face_borderAt n σ p1) (fun s_1 r_2 => (if r_2 = 0 then some (s_1, (-1)) else gb_kk (gb_kB r_2) (gb_cd (cs_Border_hasPath_B n s_1 r_2 p3) (fun s_7 r_8 => (if r_8 = 0 then some (s_7, (-1)) else gb_cd (cs_Face_nightAt n s_7 p2) (fun s_12 r_13 => (if r_13 = 0 then gb_cd (cs_Face_playedOut_B_n n s_12 r_2) (fun s_17 r_18 => (if r_18 = 0 then some (s_17, (-1)) else gb_cd (cs_Play_tally n s_17 p3) (fun s_22 r_23 => gb_cd (cs_Border_payOf_B n s_22 r_2 p3 r_23) (fun s_26 r_27 => gb_cd (cs_Border_rate_B n s_26 r_2 p3) (fun s_30 r_31 => some (s_30, (r_27 - (r_31 * r_23)))))))) else gb_kk (gb_kN r_13) (gb_cd (cs_Face_playedOut_B_N n s_12 r_2 r_13) (fun s_35 r_36 => (if r_36 = 0 then some (s_35, (-1)) else gb_cd (cs_Play_tally n s_35 p3) (fun s_40 r_41 => gb_cd (cs_Border_payOf_B n s_40 r_2 p3 r_41) (fun s_44 r_45 => gb_cd (cs_Border_rate_B n s_44 r_2 p3) (fun s_48 r_49 => some (s_48, (r_45 - (r_49 * r_41))))))))))))))))
set_option maxHeartbeats 8000000 in
set_option maxRecDepth 100000 in
theorem cc_Face_honest (l : Launch) (D : va_G) (cT : Nat → ClassId) (tt : Nat → Nat) (b1 b : Nat) (hb1 : b1 ≤ b) (n : Nat) (σ : gb_S) (p1 : Int32) (p2 : Int32) (p3 : Int32) (σE : gb_S) (rE : Int32) (h : cs_Face_honest n σ p1 p2 p3 = some (σE, rE)) : Met l yX11_honest (.code yX11_honest cX11_honest 6 (some FieldType.int) :: gb_wA) ({ frames := 6, cells := 0, slots := 0, locals := 147 }) (gb_Pc D cT tt b1 [.ref (b + 0), .int p1, .int p2, .int p3] (fun h => va_P D vwCl (gb_wl b (gb_CW cT b σ)) h)) (gb_Qi (fun r h => r = rE ∧ va_P D vwCl (gb_wl b (gb_CW cT b σE)) h) (gb_fr b 135)) 0 0 (gb_fr b 135) := by
  refine Met.ofW (cc := cX11_honest) (maxL := 6) (ret := (some FieldType.int)) (by decide) rfl ?_
  intro p e s m args below meth c s₁ B hml hv
  obtain ⟨rfl, hSt, hP⟩ := hv
  have hx := B.exec
  have hb := B.bytes
  have hr := B.returns
  have hts := atoms_spec (ws := .code yX11_honest cX11_honest 6 (some FieldType.int) :: gb_wA) B.pre
  have hq : ∀ w ∈ gb_wA, w.before _ s = true := fun w h => hts w (List.mem_cons_of_mem _ h)
  have hown : s.vm.findClass RX11 = some m.cls := findClass_of_methodNamed B.named
  have hlocks := B.notSynchronized
  clear B hts
  have hK := hSt.1
  have hS : va_S (gb_fr b 135) s.heap s.heap [] := va_S.rf
  have hl := lv_entry ([.ref (b + 0), .int p1, .int p2, .int p3]) (n := 6) (Nat.le_of_ble_eq_true rfl)
  rw [lg_entry_eq]
  generalize (lg_sl ([.ref (b + 0), .int p1, .int p2, .int p3]) ++ List.replicate (6 - (lg_sl ([.ref (b + 0), .int p1, .int p2, .int p3])).length) Slot.unset).toArray = ls at hl ⊢
  replace hl : lv_has ls 6 [(0, .ref (b + 0)), (1, .int p1), (2, .int p2), (3, .int p3)] := hl
  unfold cs_Face_honest at h
  refine lv_aload_n hx hb dX11_honest_0 rfl (lv_at hl 0 rfl) ?_
  refine lv_iload_n hx hb dX11_honest_1 rfl (lv_at hl 1 rfl) ?_
  obtain ⟨s_1, r_2, z_3, h⟩ := gb_cd_s h
  refine gb_callq (va_runV (C := RX11) (As := [.int p1]) (rest := []) ⟨hx, hb, hml, hown, hq⟩ (cc_Face_borderAt l D cT tt b1 b hb1 n σ p1 s_1 r_2 z_3) (cwV 1 hq (gb_gV w_593 w_595 s_1_7 w_1 w_596) rfl rfl rfl (by decide +kernel) ⟨Nat.le_of_ble_eq_true rfl, Nat.le_of_ble_eq_true rfl⟩) (gb_preV (r := (RX11, TX11, 10)) (ci := 9) (q0 := 0) hSt hP rfl (gb_at b rfl) hS (fun q h => Nat.le_trans hb1 h.1) hP) rfl rfl hl.1 rfl (lv_room (Nat.le_of_ble_eq_true rfl)) dX11_honest_2 ⟨Nat.le_of_ble_eq_true rfl, Nat.le_of_ble_eq_true rfl⟩) hS (fun _ h => h) (fun _ h => h) (fun q_4 H locs hY hk hS => ?_)
  obtain ⟨hq_4, hP⟩ := hY
  subst hq_4
  rw [gb_onv]
  by_cases c_5 : r_2 = 0
  · rw [if_pos c_5] at h
    rw [gb_nv0 c_5]
    refine lv_astoreN (lv' := [(4, .null), (0, .ref (b + 0)), (1, .int p1), (2, .int p2), (3, .int p3)]) hx hb dX11_honest_5 hl (by decide) rfl (fun ls hl => ?_)
    refine lv_aloadN hx hb dX11_honest_7 (lv_at hl 0 rfl) ?_
    refine lv_ifnullN (tgt := 35) hx hb dX11_honest_9 (by decide) ?_
    refine lv_iconst (v := (-1)) hx hb dX11_honest_35 (by decide) ?_
    obtain ⟨e1, e2⟩ := gb_eq2 h
    exact W.iret (v := (-1)) hx hb hr (fun t ht hW => gb_ri ht ⟨e2, by rw [← e1]; exact hP⟩ hS) hS.2.2 dX11_honest_36
  rw [if_neg c_5] at h
  rw [gb_nv1 c_5]
  obtain ⟨z_6, h⟩ := gb_kk_s h
  refine lv_astore (lv' := [(4, .ref (b + r_2)), (0, .ref (b + 0)), (1, .int p1), (2, .int p2), (3, .int p3)]) hx hb dX11_honest_5 hl (by decide) rfl (fun ls hl => ?_)
  refine lv_aload hx hb dX11_honest_7 (lv_at hl 0 rfl) ?_
  refine lv_ifnull hx hb dX11_honest_9 ?_
  refine lv_aload hx hb dX11_honest_12 (lv_at hl 0 rfl) ?_
  refine lv_iload_n hx hb dX11_honest_14 rfl (lv_at hl 4 rfl) ?_
  obtain ⟨s_7, r_8, z_9, h⟩ := gb_cd_s h
  refine gb_calli (va_runV (C := RX0) (As := [.int p3]) (rest := []) ⟨hx, hb, hml, hown, hq⟩ (cc_Border_hasPath_B l D cT tt b1 b hb1 n s_1 r_2 p3 s_7 r_8 z_9) (cwV 1 hq (gb_gV w_620 w_608 w_609 w_4 w_610) rfl rfl rfl (by decide +kernel) ⟨Nat.le_of_ble_eq_true rfl, Nat.le_of_ble_eq_true rfl⟩) (gb_preV (r := (RX0, TX0, 1)) (ci := 0) (q0 := r_2) hSt hP rfl (gb_at b (gb_cB z_6).1) hS (fun q h => Nat.le_trans hb1 h.1) hP) rfl rfl hl.1 rfl (lv_room (Nat.le_of_ble_eq_true rfl)) dX11_honest_15 ⟨Nat.le_of_ble_eq_true rfl, Nat.le_of_ble_eq_true rfl⟩) hS (fun _ h => h) (fun _ h => h) (fun q_10 H locs hY hk hS => ?_)
  obtain ⟨hq_10, hP⟩ := hY
  replace hq_10 := hq_10.symm
  subst hq_10
  refine lv_if_eq (tgt := 35) hx hb dX11_honest_18 (by decide) (fun c_11 => ?_) (fun c_11 => ?_)
  · rw [if_pos c_11] at h
    refine lv_iconst (v := (-1)) hx hb dX11_honest_35 (by decide) ?_
    obtain ⟨e1, e2⟩ := gb_eq2 h
    exact W.iret (v := (-1)) hx hb hr (fun t ht hW => gb_ri ht ⟨e2, by rw [← e1]; exact hP⟩ hS) hS.2.2 dX11_honest_36
  · rw [if_neg c_11] at h
    refine lv_aload_n hx hb dX11_honest_21 rfl (lv_at hl 1 rfl) ?_
    refine lv_aload hx hb dX11_honest_22 (lv_at hl 0 rfl) ?_
    refine lv_aload_n hx hb dX11_honest_24 rfl (lv_at hl 1 rfl) ?_
    refine lv_iload_n hx hb dX11_honest_25 rfl (lv_at hl 3 rfl) ?_
    obtain ⟨s_12, r_13, z_14, h⟩ := gb_cd_s h
    refine gb_callq (va_runV (C := RX11) (As := [.int p2]) (rest := [.ref (b + r_2), .ref (b + 0)]) ⟨hx, hb, hml, hown, hq⟩ (cc_Face_nightAt l D cT tt b1 b hb1 n s_7 p2 s_12 r_13 z_14) (cwV 1 hq (gb_gV w_646 w_648 s_1_8 w_1 w_649) rfl rfl rfl (by decide +kernel) ⟨Nat.le_of_ble_eq_true rfl, Nat.le_of_ble_eq_true rfl⟩) (gb_preV (r := (RX11, TX11, 10)) (ci := 9) (q0 := 0) hSt hP rfl (gb_at b rfl) hS (fun q h => Nat.le_trans hb1 h.1) hP) rfl rfl hl.1 rfl (lv_room (Nat.le_of_ble_eq_true rfl)) dX11_honest_26 ⟨Nat.le_of_ble_eq_true rfl, Nat.le_of_ble_eq_true rfl⟩) hS (fun _ h => h) (fun _ h => h) (fun q_15 H locs hY hk hS => ?_)
    obtain ⟨hq_15, hP⟩ := hY
    subst hq_15
    rw [gb_onv]
    by_cases c_16 : r_13 = 0
    · rw [if_pos c_16] at h
      rw [gb_nv0 c_16]
      obtain ⟨s_17, r_18, z_19, h⟩ := gb_cd_s h
      refine gb_calli (va_runV (C := RX11) (As := [.ref (b + r_2), .null]) (rest := []) ⟨hx, hb, hml, hown, hq⟩ (cc_Face_playedOut_B_n l D cT tt b1 b hb1 n s_12 r_2 s_17 r_18 z_19) (cwV 2 hq (gb_gV w_697 w_699 s_1_11 w_1 w_700) rfl rfl rfl (by decide +kernel) ⟨Nat.le_of_ble_eq_true rfl, Nat.le_of_ble_eq_true rfl⟩) (gb_preV (r := (RX11, TX11, 10)) (ci := 9) (q0 := 0) hSt hP rfl (gb_at b rfl) hS (fun q h => Nat.le_trans hb1 h.1) hP) rfl rfl hl.1 rfl (lv_room (Nat.le_of_ble_eq_true rfl)) dX11_honest_29 ⟨Nat.le_of_ble_eq_true rfl, Nat.le_of_ble_eq_true rfl⟩) hS (fun _ h => h) (fun _ h => h) (fun q_20 H locs hY hk hS => ?_)
      obtain ⟨hq_20, hP⟩ := hY
      replace hq_20 := hq_20.symm
      subst hq_20
      refine lv_if_ne (tgt := 37) hx hb dX11_honest_32 (by decide) (fun c_21 => ?_) (fun c_21 => ?_)
      · rw [if_neg c_21] at h
        refine lv_aload_n hx hb dX11_honest_37 rfl (lv_at hl 1 rfl) ?_
        refine va_get (ci := 9) (v := (.ref (b + 109))) (C := RX11) (T := TX11) (N := 10) hx hb hq i_X11 hown hK hP 0 (gb_at b rfl) rfl 6 (by decide) (hq _ w_321) (fun _ h9 => h9) rfl dX11_honest_38 ?_
        refine lv_iload_n hx hb dX11_honest_41 rfl (lv_at hl 4 rfl) ?_
        obtain ⟨s_22, r_23, z_24, h⟩ := gb_cd_s h
        refine gb_calli (va_runV (C := RX6) (As := [.int p3]) (rest := []) ⟨hx, hb, hml, hown, hq⟩ (cc_Play_tally l D cT tt b1 b hb1 n s_17 p3 s_22 r_23 z_24) (cwV 1 hq (gb_gV w_771 w_772 w_773 w_11 w_774) rfl rfl rfl (by decide +kernel) ⟨Nat.le_of_ble_eq_true rfl, Nat.le_of_ble_eq_true rfl⟩) (gb_preV (r := (RX6, TX6, 12)) (ci := 5) (q0 := 109) hSt hP rfl (gb_at b rfl) hS (fun q h => Nat.le_trans hb1 h.1) hP) rfl rfl hl.1 rfl (lv_room (Nat.le_of_ble_eq_true rfl)) dX11_honest_42 ⟨Nat.le_of_ble_eq_true rfl, Nat.le_of_ble_eq_true rfl⟩) hS (fun _ h => h) (fun _ h => h) (fun q_25 H locs hY hk hS => ?_)
        obtain ⟨hq_25, hP⟩ := hY
        replace hq_25 := hq_25.symm
        subst hq_25
        refine lv_istore (lv' := [(5, .int r_23), (4, .ref (b + r_2)), (0, .ref (b + 0)), (1, .int p1), (2, .int p2), (3, .int p3)]) hx hb dX11_honest_45 hl (by decide) rfl (fun ls hl => ?_)
        refine lv_aload hx hb dX11_honest_47 (lv_at hl 1 rfl) ?_
        refine lv_iload_n hx hb dX11_honest_49 rfl (lv_at hl 5 rfl) ?_
        refine lv_iload hx hb dX11_honest_50 (lv_at hl 0 rfl) ?_
        obtain ⟨s_26, r_27, z_28, h⟩ := gb_cd_s h
        refine gb_calli (va_runV (C := RX0) (As := [.int p3, .int r_23]) (rest := []) ⟨hx, hb, hml, hown, hq⟩ (cc_Border_payOf_B l D cT tt b1 b hb1 n s_22 r_2 p3 r_23 s_26 r_27 z_28) (cwV 2 hq (gb_gV w_783 w_784 w_785 w_4 w_786) rfl rfl rfl (by decide +kernel) ⟨Nat.le_of_ble_eq_true rfl, Nat.le_of_ble_eq_true rfl⟩) (gb_preV (r := (RX0, TX0, 1)) (ci := 0) (q0 := r_2) hSt hP rfl (gb_at b (gb_cB z_6).1) hS (fun q h => Nat.le_trans hb1 h.1) hP) rfl rfl hl.1 rfl (lv_room (Nat.le_of_ble_eq_true rfl)) dX11_honest_52 ⟨Nat.le_of_ble_eq_true rfl, Nat.le_of_ble_eq_true rfl⟩) hS (fun _ h => h) (fun _ h => h) (fun q_29 H locs hY hk hS => ?_)
        obtain ⟨hq_29, hP⟩ := hY
        replace hq_29 := hq_29.symm
        subst hq_29
        refine lv_aload hx hb dX11_honest_55 (lv_at hl 1 rfl) ?_
        refine lv_iload_n hx hb dX11_honest_57 rfl (lv_at hl 5 rfl) ?_
        obtain ⟨s_30, r_31, z_32, h⟩ := gb_cd_s h
        refine gb_calli (va_runV (C := RX0) (As := [.int p3]) (rest := [.int r_27]) ⟨hx, hb, hml, hown, hq⟩ (cc_Border_rate_B l D cT tt b1 b hb1 n s_26 r_2 p3 s_30 r_31 z_32) (cwV 1 hq (gb_gV w_849 w_788 w_789 w_4 w_790) rfl rfl rfl (by decide +kernel) ⟨Nat.le_of_ble_eq_true rfl, Nat.le_of_ble_eq_true rfl⟩) (gb_preV (r := (RX0, TX0, 1)) (ci := 0) (q0 := r_2) hSt hP rfl (gb_at b (gb_cB z_6).1) hS (fun q h => Nat.le_trans hb1 h.1) hP) rfl rfl hl.1 rfl (lv_room (Nat.le_of_ble_eq_true rfl)) dX11_honest_58 ⟨Nat.le_of_ble_eq_true rfl, Nat.le_of_ble_eq_true rfl⟩) hS (fun _ h => h) (fun _ h => h) (fun q_33 H locs hY hk hS => ?_)
        obtain ⟨hq_33, hP⟩ := hY
        replace hq_33 := hq_33.symm
        subst hq_33
        refine lv_iload hx hb dX11_honest_61 (lv_at hl 0 rfl) ?_
        refine lv_imul hx hb dX11_honest_63 ?_
        refine lv_isub hx hb dX11_honest_64 ?_
        obtain ⟨e1, e2⟩ := gb_eq2 h
        exact W.iret (v := (r_27 - (r_31 * r_23))) hx hb hr (fun t ht hW => gb_ri ht ⟨e2, by rw [← e1]; exact hP⟩ hS) hS.2.2 dX11_honest_65
      · rw [if_pos c_21] at h
        refine lv_iconst (v := (-1)) hx hb dX11_honest_35 (by decide) ?_
        obtain ⟨e1, e2⟩ := gb_eq2 h
        exact W.iret (v := (-1)) hx hb hr (fun t ht hW => gb_ri ht ⟨e2, by rw [← e1]; exact hP⟩ hS) hS.2.2 dX11_honest_36
    rw [if_neg c_16] at h
    rw [gb_nv1 c_16]
    obtain ⟨z_34, h⟩ := gb_kk_s h
    obtain ⟨s_35, r_36, z_37, h⟩ := gb_cd_s h
    refine gb_calli (va_runV (C := RX11) (As := [.ref (b + r_2), .ref (b + r_13)]) (rest := []) ⟨hx, hb, hml, hown, hq⟩ (cc_Face_playedOut_B_N l D cT tt b1 b hb1 n s_12 r_2 r_13 s_35 r_36 z_37) (cwV 2 hq (gb_gV w_697 w_699 s_1_11 w_1 w_700) rfl rfl rfl (by decide +kernel) ⟨Nat.le_of_ble_eq_true rfl, Nat.le_of_ble_eq_true rfl⟩) (gb_preV (r := (RX11, TX11, 10)) (ci := 9) (q0 := 0) hSt hP rfl (gb_at b rfl) hS (fun q h => Nat.le_trans hb1 h.1) hP) rfl rfl hl.1 rfl (lv_room (Nat.le_of_ble_eq_true rfl)) dX11_honest_29 ⟨Nat.le_of_ble_eq_true rfl, Nat.le_of_ble_eq_true rfl⟩) hS (fun _ h => h) (fun _ h => h) (fun q_38 H locs hY hk hS => ?_)
    obtain ⟨hq_38, hP⟩ := hY
    replace hq_38 := hq_38.symm
    subst hq_38
    refine lv_if_ne (tgt := 37) hx hb dX11_honest_32 (by decide) (fun c_39 => ?_) (fun c_39 => ?_)
    · rw [if_neg c_39] at h
      refine lv_aload_n hx hb dX11_honest_37 rfl (lv_at hl 1 rfl) ?_
      refine va_get (ci := 9) (v := (.ref (b + 109))) (C := RX11) (T := TX11) (N := 10) hx hb hq i_X11 hown hK hP 0 (gb_at b rfl) rfl 6 (by decide) (hq _ w_321) (fun _ h9 => h9) rfl dX11_honest_38 ?_
      refine lv_iload_n hx hb dX11_honest_41 rfl (lv_at hl 4 rfl) ?_
      obtain ⟨s_40, r_41, z_42, h⟩ := gb_cd_s h
      refine gb_calli (va_runV (C := RX6) (As := [.int p3]) (rest := []) ⟨hx, hb, hml, hown, hq⟩ (cc_Play_tally l D cT tt b1 b hb1 n s_35 p3 s_40 r_41 z_42) (cwV 1 hq (gb_gV w_771 w_772 w_773 w_11 w_774) rfl rfl rfl (by decide +kernel) ⟨Nat.le_of_ble_eq_true rfl, Nat.le_of_ble_eq_true rfl⟩) (gb_preV (r := (RX6, TX6, 12)) (ci := 5) (q0 := 109) hSt hP rfl (gb_at b rfl) hS (fun q h => Nat.le_trans hb1 h.1) hP) rfl rfl hl.1 rfl (lv_room (Nat.le_of_ble_eq_true rfl)) dX11_honest_42 ⟨Nat.le_of_ble_eq_true rfl, Nat.le_of_ble_eq_true rfl⟩) hS (fun _ h => h) (fun _ h => h) (fun q_43 H locs hY hk hS => ?_)
      obtain ⟨hq_43, hP⟩ := hY
      replace hq_43 := hq_43.symm
      subst hq_43
      refine lv_istore (lv' := [(5, .int r_41), (4, .ref (b + r_2)), (0, .ref (b + 0)), (1, .int p1), (2, .int p2), (3, .int p3)]) hx hb dX11_honest_45 hl (by decide) rfl (fun ls hl => ?_)
      refine lv_aload hx hb dX11_honest_47 (lv_at hl 1 rfl) ?_
      refine lv_iload_n hx hb dX11_honest_49 rfl (lv_at hl 5 rfl) ?_
      refine lv_iload hx hb dX11_honest_50 (lv_at hl 0 rfl) ?_
      obtain ⟨s_44, r_45, z_46, h⟩ := gb_cd_s h
      refine gb_calli (va_runV (C := RX0) (As := [.int p3, .int r_41]) (rest := []) ⟨hx, hb, hml, hown, hq⟩ (cc_Border_payOf_B l D cT tt b1 b hb1 n s_40 r_2 p3 r_41 s_44 r_45 z_46) (cwV 2 hq (gb_gV w_783 w_784 w_785 w_4 w_786) rfl rfl rfl (by decide +kernel) ⟨Nat.le_of_ble_eq_true rfl, Nat.le_of_ble_eq_true rfl⟩) (gb_preV (r := (RX0, TX0, 1)) (ci := 0) (q0 := r_2) hSt hP rfl (gb_at b (gb_cB z_6).1) hS (fun q h => Nat.le_trans hb1 h.1) hP) rfl rfl hl.1 rfl (lv_room (Nat.le_of_ble_eq_true rfl)) dX11_honest_52 ⟨Nat.le_of_ble_eq_true rfl, Nat.le_of_ble_eq_true rfl⟩) hS (fun _ h => h) (fun _ h => h) (fun q_47 H locs hY hk hS => ?_)
      obtain ⟨hq_47, hP⟩ := hY
      replace hq_47 := hq_47.symm
      subst hq_47
      refine lv_aload hx hb dX11_honest_55 (lv_at hl 1 rfl) ?_
      refine lv_iload_n hx hb dX11_honest_57 rfl (lv_at hl 5 rfl) ?_
      obtain ⟨s_48, r_49, z_50, h⟩ := gb_cd_s h
      refine gb_calli (va_runV (C := RX0) (As := [.int p3]) (rest := [.int r_45]) ⟨hx, hb, hml, hown, hq⟩ (cc_Border_rate_B l D cT tt b1 b hb1 n s_44 r_2 p3 s_48 r_49 z_50) (cwV 1 hq (gb_gV w_849 w_788 w_789 w_4 w_790) rfl rfl rfl (by decide +kernel) ⟨Nat.le_of_ble_eq_true rfl, Nat.le_of_ble_eq_true rfl⟩) (gb_preV (r := (RX0, TX0, 1)) (ci := 0) (q0 := r_2) hSt hP rfl (gb_at b (gb_cB z_6).1) hS (fun q h => Nat.le_trans hb1 h.1) hP) rfl rfl hl.1 rfl (lv_room (Nat.le_of_ble_eq_true rfl)) dX11_honest_58 ⟨Nat.le_of_ble_eq_true rfl, Nat.le_of_ble_eq_true rfl⟩) hS (fun _ h => h) (fun _ h => h) (fun q_51 H locs hY hk hS => ?_)
      obtain ⟨hq_51, hP⟩ := hY
      replace hq_51 := hq_51.symm
      subst hq_51
      refine lv_iload hx hb dX11_honest_61 (lv_at hl 0 rfl) ?_
      refine lv_imul hx hb dX11_honest_63 ?_
      refine lv_isub hx hb dX11_honest_64 ?_
      obtain ⟨e1, e2⟩ := gb_eq2 h
      exact W.iret (v := (r_45 - (r_49 * r_41))) hx hb hr (fun t ht hW => gb_ri ht ⟨e2, by rw [← e1]; exact hP⟩ hS) hS.2.2 dX11_honest_65
    · rw [if_pos c_39] at h
      refine lv_iconst (v := (-1)) hx hb dX11_honest_35 (by decide) ?_
      obtain ⟨e1, e2⟩ := gb_eq2 h
      exact W.iret (v := (-1)) hx hb hr (fun t ht hW => gb_ri ht ⟨e2, by rw [← e1]; exact hP⟩ hS) hS.2.2 dX11_honest_36
theorem dX11_lacks_0 : decode cX11_lacks 0 = .ok (.aload_n 0, 1) := dc_42 (show ((cX11_lacks.data.toList.drop 0).take 1).map UInt8.toNat = [42] by decide +kernel)
theorem dX11_lacks_1 : decode cX11_lacks 1 = .ok (.iload_n 1, 1) := dc_27 (show ((cX11_lacks.data.toList.drop 1).take 1).map UInt8.toNat = [27] by decide +kernel)
theorem dX11_lacks_2 : decode cX11_lacks 2 = .ok (.invokevirtual 113, 3) := dc_182 (show ((cX11_lacks.data.toList.drop 2).take 3).map UInt8.toNat = [182, 0, 113] by decide +kernel) rfl
theorem dX11_lacks_5 : decode cX11_lacks 5 = .ok (.astore 4, 2) := dc_58 (show ((cX11_lacks.data.toList.drop 5).take 2).map UInt8.toNat = [58, 4] by decide +kernel) rfl
theorem dX11_lacks_7 : decode cX11_lacks 7 = .ok (.aload_n 0, 1) := dc_42 (show ((cX11_lacks.data.toList.drop 7).take 1).map UInt8.toNat = [42] by decide +kernel)
theorem dX11_lacks_8 : decode cX11_lacks 8 = .ok (.iload_n 3, 1) := dc_29 (show ((cX11_lacks.data.toList.drop 8).take 1).map UInt8.toNat = [29] by decide +kernel)
theorem dX11_lacks_9 : decode cX11_lacks 9 = .ok (.invokevirtual 160, 3) := dc_182 (show ((cX11_lacks.data.toList.drop 9).take 3).map UInt8.toNat = [182, 0, 160] by decide +kernel) rfl
theorem dX11_lacks_12 : decode cX11_lacks 12 = .ok (.astore 5, 2) := dc_58 (show ((cX11_lacks.data.toList.drop 12).take 2).map UInt8.toNat = [58, 5] by decide +kernel) rfl
theorem dX11_lacks_14 : decode cX11_lacks 14 = .ok (.aload 4, 2) := dc_25 (show ((cX11_lacks.data.toList.drop 14).take 2).map UInt8.toNat = [25, 4] by decide +kernel) rfl
theorem dX11_lacks_16 : decode cX11_lacks 16 = .ok (.ifnull 22, 3) := dc_198 (show ((cX11_lacks.data.toList.drop 16).take 3).map UInt8.toNat = [198, 0, 22] by decide +kernel) rfl
theorem dX11_lacks_38 : decode cX11_lacks 38 = .ok (.iconst (-1), 1) := dc_2 (show ((cX11_lacks.data.toList.drop 38).take 1).map UInt8.toNat = [2] by decide +kernel)
theorem dX11_lacks_39 : decode cX11_lacks 39 = .ok (.ireturn, 1) := dc_172 (show ((cX11_lacks.data.toList.drop 39).take 1).map UInt8.toNat = [172] by decide +kernel)
theorem dX11_lacks_19 : decode cX11_lacks 19 = .ok (.aload 5, 2) := dc_25 (show ((cX11_lacks.data.toList.drop 19).take 2).map UInt8.toNat = [25, 5] by decide +kernel) rfl
theorem dX11_lacks_21 : decode cX11_lacks 21 = .ok (.ifnull 17, 3) := dc_198 (show ((cX11_lacks.data.toList.drop 21).take 3).map UInt8.toNat = [198, 0, 17] by decide +kernel) rfl
theorem dX11_lacks_24 : decode cX11_lacks 24 = .ok (.aload_n 0, 1) := dc_42 (show ((cX11_lacks.data.toList.drop 24).take 1).map UInt8.toNat = [42] by decide +kernel)
theorem dX11_lacks_25 : decode cX11_lacks 25 = .ok (.aload 4, 2) := dc_25 (show ((cX11_lacks.data.toList.drop 25).take 2).map UInt8.toNat = [25, 4] by decide +kernel) rfl
theorem dX11_lacks_27 : decode cX11_lacks 27 = .ok (.aload_n 0, 1) := dc_42 (show ((cX11_lacks.data.toList.drop 27).take 1).map UInt8.toNat = [42] by decide +kernel)
theorem dX11_lacks_28 : decode cX11_lacks 28 = .ok (.iload_n 2, 1) := dc_28 (show ((cX11_lacks.data.toList.drop 28).take 1).map UInt8.toNat = [28] by decide +kernel)
theorem dX11_lacks_29 : decode cX11_lacks 29 = .ok (.invokevirtual 148, 3) := dc_182 (show ((cX11_lacks.data.toList.drop 29).take 3).map UInt8.toNat = [182, 0, 148] by decide +kernel) rfl
theorem dX11_lacks_32 : decode cX11_lacks 32 = .ok (.invokevirtual 195, 3) := dc_182 (show ((cX11_lacks.data.toList.drop 32).take 3).map UInt8.toNat = [182, 0, 195] by decide +kernel) rfl
theorem dX11_lacks_35 : decode cX11_lacks 35 = .ok (.ifCond .ne 5, 3) := dc_154 (show ((cX11_lacks.data.toList.drop 35).take 3).map UInt8.toNat = [154, 0, 5] by decide +kernel) rfl
theorem dX11_lacks_40 : decode cX11_lacks 40 = .ok (.iconst 0, 1) := dc_3 (show ((cX11_lacks.data.toList.drop 40).take 1).map UInt8.toNat = [3] by decide +kernel)
theorem dX11_lacks_41 : decode cX11_lacks 41 = .ok (.istore 6, 2) := dc_54 (show ((cX11_lacks.data.toList.drop 41).take 2).map UInt8.toNat = [54, 6] by decide +kernel) rfl
theorem dX11_lacks_43 : decode cX11_lacks 43 = .ok (.iconst 0, 1) := dc_3 (show ((cX11_lacks.data.toList.drop 43).take 1).map UInt8.toNat = [3] by decide +kernel)
theorem dX11_lacks_44 : decode cX11_lacks 44 = .ok (.istore 7, 2) := dc_54 (show ((cX11_lacks.data.toList.drop 44).take 2).map UInt8.toNat = [54, 7] by decide +kernel) rfl
theorem dX11_lacks_46 : decode cX11_lacks 46 = .ok (.iload 7, 2) := dc_21 (show ((cX11_lacks.data.toList.drop 46).take 2).map UInt8.toNat = [21, 7] by decide +kernel) rfl
theorem dX11_lacks_48 : decode cX11_lacks 48 = .ok (.aload 4, 2) := dc_25 (show ((cX11_lacks.data.toList.drop 48).take 2).map UInt8.toNat = [25, 4] by decide +kernel) rfl
theorem dX11_lacks_50 : decode cX11_lacks 50 = .ok (.invokevirtual 117, 3) := dc_182 (show ((cX11_lacks.data.toList.drop 50).take 3).map UInt8.toNat = [182, 0, 117] by decide +kernel) rfl
theorem dX11_lacks_53 : decode cX11_lacks 53 = .ok (.if_icmp .ge 37, 3) := dc_162 (show ((cX11_lacks.data.toList.drop 53).take 3).map UInt8.toNat = [162, 0, 37] by decide +kernel) rfl
theorem dX11_lacks_90 : decode cX11_lacks 90 = .ok (.iload 6, 2) := dc_21 (show ((cX11_lacks.data.toList.drop 90).take 2).map UInt8.toNat = [21, 6] by decide +kernel) rfl
theorem dX11_lacks_92 : decode cX11_lacks 92 = .ok (.ireturn, 1) := dc_172 (show ((cX11_lacks.data.toList.drop 92).take 1).map UInt8.toNat = [172] by decide +kernel)
theorem dX11_lacks_56 : decode cX11_lacks 56 = .ok (.aload 5, 2) := dc_25 (show ((cX11_lacks.data.toList.drop 56).take 2).map UInt8.toNat = [25, 5] by decide +kernel) rfl
theorem dX11_lacks_58 : decode cX11_lacks 58 = .ok (.iload 7, 2) := dc_21 (show ((cX11_lacks.data.toList.drop 58).take 2).map UInt8.toNat = [21, 7] by decide +kernel) rfl
theorem dX11_lacks_60 : decode cX11_lacks 60 = .ok (.invokevirtual 265, 3) := dc_182 (show ((cX11_lacks.data.toList.drop 60).take 3).map UInt8.toNat = [182, 1, 9] by decide +kernel) rfl
theorem dX1_leftOn_0 : decode cX1_leftOn 0 = .ok (.iconst 0, 1) := dc_3 (show ((cX1_leftOn.data.toList.drop 0).take 1).map UInt8.toNat = [3] by decide +kernel)
theorem dX1_leftOn_1 : decode cX1_leftOn 1 = .ok (.istore_n 2, 1) := dc_61 (show ((cX1_leftOn.data.toList.drop 1).take 1).map UInt8.toNat = [61] by decide +kernel)
theorem dX1_leftOn_2 : decode cX1_leftOn 2 = .ok (.iload_n 2, 1) := dc_28 (show ((cX1_leftOn.data.toList.drop 2).take 1).map UInt8.toNat = [28] by decide +kernel)
theorem dX1_leftOn_3 : decode cX1_leftOn 3 = .ok (.aload_n 0, 1) := dc_42 (show ((cX1_leftOn.data.toList.drop 3).take 1).map UInt8.toNat = [42] by decide +kernel)
theorem dX1_leftOn_4 : decode cX1_leftOn 4 = .ok (.invokevirtual 13, 3) := dc_182 (show ((cX1_leftOn.data.toList.drop 4).take 3).map UInt8.toNat = [182, 0, 13] by decide +kernel) rfl
theorem dX1_leftOn_7 : decode cX1_leftOn 7 = .ok (.if_icmp .ge 24, 3) := dc_162 (show ((cX1_leftOn.data.toList.drop 7).take 3).map UInt8.toNat = [162, 0, 24] by decide +kernel) rfl
theorem dX1_leftOn_31 : decode cX1_leftOn 31 = .ok (.iconst 0, 1) := dc_3 (show ((cX1_leftOn.data.toList.drop 31).take 1).map UInt8.toNat = [3] by decide +kernel)
theorem dX1_leftOn_32 : decode cX1_leftOn 32 = .ok (.ireturn, 1) := dc_172 (show ((cX1_leftOn.data.toList.drop 32).take 1).map UInt8.toNat = [172] by decide +kernel)
theorem dX1_leftOn_10 : decode cX1_leftOn 10 = .ok (.aload_n 0, 1) := dc_42 (show ((cX1_leftOn.data.toList.drop 10).take 1).map UInt8.toNat = [42] by decide +kernel)
theorem dX1_leftOn_11 : decode cX1_leftOn 11 = .ok (.iload_n 2, 1) := dc_28 (show ((cX1_leftOn.data.toList.drop 11).take 1).map UInt8.toNat = [28] by decide +kernel)
theorem dX1_leftOn_12 : decode cX1_leftOn 12 = .ok (.invokevirtual 19, 3) := dc_182 (show ((cX1_leftOn.data.toList.drop 12).take 3).map UInt8.toNat = [182, 0, 19] by decide +kernel) rfl
theorem dX1_leftOn_15 : decode cX1_leftOn 15 = .ok (.iload_n 1, 1) := dc_27 (show ((cX1_leftOn.data.toList.drop 15).take 1).map UInt8.toNat = [27] by decide +kernel)
theorem dX1_leftOn_16 : decode cX1_leftOn 16 = .ok (.if_icmp .ne 9, 3) := dc_160 (show ((cX1_leftOn.data.toList.drop 16).take 3).map UInt8.toNat = [160, 0, 9] by decide +kernel) rfl
theorem dX1_leftOn_25 : decode cX1_leftOn 25 = .ok (.iinc 2 1, 3) := dc_132 (show ((cX1_leftOn.data.toList.drop 25).take 3).map UInt8.toNat = [132, 2, 1] by decide +kernel) rfl
theorem dX1_leftOn_28 : decode cX1_leftOn 28 = .ok (.goto (-26), 3) := dc_167 (show ((cX1_leftOn.data.toList.drop 28).take 3).map UInt8.toNat = [167, 255, 230] by decide +kernel) rfl
theorem dX1_leftOn_19 : decode cX1_leftOn 19 = .ok (.aload_n 0, 1) := dc_42 (show ((cX1_leftOn.data.toList.drop 19).take 1).map UInt8.toNat = [42] by decide +kernel)
theorem dX1_leftOn_20 : decode cX1_leftOn 20 = .ok (.iload_n 2, 1) := dc_28 (show ((cX1_leftOn.data.toList.drop 20).take 1).map UInt8.toNat = [28] by decide +kernel)
theorem dX1_leftOn_21 : decode cX1_leftOn 21 = .ok (.invokevirtual 27, 3) := dc_182 (show ((cX1_leftOn.data.toList.drop 21).take 3).map UInt8.toNat = [182, 0, 27] by decide +kernel) rfl
theorem dX1_marksSeen_0 : decode cX1_marksSeen 0 = .ok (.aload_n 0, 1) := dc_42 (show ((cX1_marksSeen.data.toList.drop 0).take 1).map UInt8.toNat = [42] by decide +kernel)
theorem dX1_marksSeen_1 : decode cX1_marksSeen 1 = .ok (.iload_n 1, 1) := dc_27 (show ((cX1_marksSeen.data.toList.drop 1).take 1).map UInt8.toNat = [27] by decide +kernel)
theorem dX1_marksSeen_2 : decode cX1_marksSeen 2 = .ok (.iconst 2, 1) := dc_5 (show ((cX1_marksSeen.data.toList.drop 2).take 1).map UInt8.toNat = [5] by decide +kernel)
theorem dX1_marksSeen_3 : decode cX1_marksSeen 3 = .ok (.invokevirtual 23, 3) := dc_182 (show ((cX1_marksSeen.data.toList.drop 3).take 3).map UInt8.toNat = [182, 0, 23] by decide +kernel) rfl
theorem dX1_marksSeen_6 : decode cX1_marksSeen 6 = .ok (.ireturn, 1) := dc_172 (show ((cX1_marksSeen.data.toList.drop 6).take 1).map UInt8.toNat = [172] by decide +kernel)
def cs_Dawn_marksSeen_D (n : Nat) (σ : gb_S) (k0 : Nat) (p1 : Int32) : gb_CR Int32 := gb_kk (gb_kD k0) (gb_cd (cs_Lines_cell_D n σ k0 p1 2) (fun s_2 r_3 => some (s_2, r_3)))
set_option maxHeartbeats 8000000 in
set_option maxRecDepth 100000 in
theorem cc_Dawn_marksSeen_D (l : Launch) (D : va_G) (cT : Nat → ClassId) (tt : Nat → Nat) (b1 b : Nat) (hb1 : b1 ≤ b) (n : Nat) (σ : gb_S) (k0 : Nat) (p1 : Int32) (σE : gb_S) (rE : Int32) (h : cs_Dawn_marksSeen_D n σ k0 p1 = some (σE, rE)) : Met l yX1_marksSeen (.code yX1_marksSeen cX1_marksSeen 2 (some FieldType.int) :: gb_wA) ({ frames := 1, cells := 0, slots := 0, locals := 22 }) (gb_Pc D cT tt b1 [.ref (b + k0), .int p1] (fun h => va_P D vwCl (gb_wl b (gb_CW cT b σ)) h)) (gb_Qi (fun r h => r = rE ∧ va_P D vwCl (gb_wl b (gb_CW cT b σE)) h) (gb_fr b 135)) 0 0 (gb_fr b 135) := by
  refine Met.ofW (cc := cX1_marksSeen) (maxL := 2) (ret := (some FieldType.int)) (by decide) rfl ?_
  intro p e s m args below meth c s₁ B hml hv
  obtain ⟨rfl, hSt, hP⟩ := hv
  have hx := B.exec
  have hb := B.bytes
  have hr := B.returns
  have hts := atoms_spec (ws := .code yX1_marksSeen cX1_marksSeen 2 (some FieldType.int) :: gb_wA) B.pre
  have hq : ∀ w ∈ gb_wA, w.before _ s = true := fun w h => hts w (List.mem_cons_of_mem _ h)
  have hown : s.vm.findClass RX1 = some m.cls := findClass_of_methodNamed B.named
  have hlocks := B.notSynchronized
  clear B hts
  have hK := hSt.1
  have hS : va_S (gb_fr b 135) s.heap s.heap [] := va_S.rf
  have hl := lv_entry ([.ref (b + k0), .int p1]) (n := 2) (Nat.le_of_ble_eq_true rfl)
  rw [lg_entry_eq]
  generalize (lg_sl ([.ref (b + k0), .int p1]) ++ List.replicate (2 - (lg_sl ([.ref (b + k0), .int p1])).length) Slot.unset).toArray = ls at hl ⊢
  replace hl : lv_has ls 2 [(0, .ref (b + k0)), (1, .int p1)] := hl
  unfold cs_Dawn_marksSeen_D at h
  obtain ⟨z_1, h⟩ := gb_kk_s h
  refine lv_aload_n hx hb dX1_marksSeen_0 rfl (lv_at hl 0 rfl) ?_
  refine lv_iload_n hx hb dX1_marksSeen_1 rfl (lv_at hl 1 rfl) ?_
  refine lv_iconst (v := 2) hx hb dX1_marksSeen_2 (by decide) ?_
  obtain ⟨s_2, r_3, z_4, h⟩ := gb_cd_s h
  refine gb_calli (va_runU (x := ⟨"GooseBorder$Dawn", "cell", "(II)I"⟩) (C := RX1) (owner := "GooseBorder$Lines") (As := [.int p1, .int 2]) (rest := []) ⟨hx, hb, hml, hown, hq⟩ (cc_Lines_cell_D l D cT tt b1 b hb1 n σ k0 p1 2 s_2 r_3 z_4) (va_cwU (owner := "GooseBorder$Lines") (C := RX1) 2 hq (gb_gU w_542 w_543 w_545 w_546 w_6 w_547) rfl rfl rfl rfl (by decide +kernel) ⟨Nat.le_of_ble_eq_true rfl, Nat.le_of_ble_eq_true rfl⟩) (gb_preV (r := (RX1, TX1, 4)) (ci := 1) (q0 := k0) hSt hP rfl (gb_at b (gb_cD z_1).1) hS (fun q h => Nat.le_trans hb1 h.1) hP) rfl rfl hl.1 rfl (lv_room (Nat.le_of_ble_eq_true rfl)) dX1_marksSeen_3 ⟨Nat.le_of_ble_eq_true rfl, Nat.le_of_ble_eq_true rfl⟩) hS (fun _ h => h) (fun _ h => h) (fun q_5 H locs hY hk hS => ?_)
  obtain ⟨hq_5, hP⟩ := hY
  replace hq_5 := hq_5.symm
  subst hq_5
  obtain ⟨e1, e2⟩ := gb_eq2 h
  exact W.iret (v := r_3) hx hb hr (fun t ht hW => gb_ri ht ⟨e2, by rw [← e1]; exact hP⟩ hS) hS.2.2 dX1_marksSeen_6
theorem w_861 : (Cond.code ({ cls := "GooseBorder$Dawn", name := "marksSeen", desc := "(I)I" } : MethodName) prog_3_method_4_code (2 : Nat) (Option.some FieldType.int)) ∈ gb_wA := gb_t4 141 rfl rfl
theorem w_858 : (Cond.methodLink "GooseBorder$Dawn" (27 : Nat) ({ cls := "GooseBorder$Dawn", name := "marksSeen", desc := "(I)I" } : MethodName)) ∈ gb_wA := gb_t4 138 rfl rfl
theorem w_859 : (Cond.instanceMethod ({ cls := "GooseBorder$Dawn", name := "marksSeen", desc := "(I)I" } : MethodName)) ∈ gb_wA := gb_t4 139 rfl rfl
theorem w_860 : (Cond.selects "GooseBorder$Dawn" ({ cls := "GooseBorder$Dawn", name := "marksSeen", desc := "(I)I" } : MethodName) ({ cls := "GooseBorder$Dawn", name := "marksSeen", desc := "(I)I" } : MethodName)) ∈ gb_wA := gb_t4 140 rfl rfl
theorem dX1_leftOn_24 : decode cX1_leftOn 24 = .ok (.ireturn, 1) := dc_172 (show ((cX1_leftOn.data.toList.drop 24).take 1).map UInt8.toNat = [172] by decide +kernel)
def cs_Dawn_leftOn_D_2 (n : Nat) : Nat → gb_S → Nat → Int32 → Int32 → gb_CR Int32
  | 0, _, _, _, _ => none
  | mm + 1, σ, v0, v1, v2 => gb_kk (gb_kD v0) (gb_cd (cs_Lines_size_D n σ v0) (fun s_3 r_4 => (if r_4 ≤ v2 then some (s_3, 0) else gb_cd (cs_Dawn_pathSeen_D n s_3 v0 v2) (fun s_8 r_9 => (if r_9 = v1 then gb_cd (cs_Dawn_marksSeen_D n s_8 v0 v2) (fun s_14 r_15 => some (s_14, r_15)) else gb_lt (v2 + 1) (fun x_13 => cs_Dawn_leftOn_D_2 n mm s_8 v0 v1 x_13))))))
def cs_Dawn_leftOn_D (n : Nat) (σ : gb_S) (k0 : Nat) (p1 : Int32) : gb_CR Int32 := gb_kk (gb_kD k0) (cs_Dawn_leftOn_D_2 n n σ k0 p1 0)
set_option maxHeartbeats 8000000 in
set_option maxRecDepth 100000 in
theorem cc_Dawn_leftOn_D (l : Launch) (D : va_G) (cT : Nat → ClassId) (tt : Nat → Nat) (b1 b : Nat) (hb1 : b1 ≤ b) (n : Nat) (σ : gb_S) (k0 : Nat) (p1 : Int32) (σE : gb_S) (rE : Int32) (h : cs_Dawn_leftOn_D n σ k0 p1 = some (σE, rE)) : Met l yX1_leftOn (.code yX1_leftOn cX1_leftOn 3 (some FieldType.int) :: gb_wA) ({ frames := 2, cells := 0, slots := 0, locals := 43 }) (gb_Pc D cT tt b1 [.ref (b + k0), .int p1] (fun h => va_P D vwCl (gb_wl b (gb_CW cT b σ)) h)) (gb_Qi (fun r h => r = rE ∧ va_P D vwCl (gb_wl b (gb_CW cT b σE)) h) (gb_fr b 135)) 0 0 (gb_fr b 135) := by
  refine Met.ofW (cc := cX1_leftOn) (maxL := 3) (ret := (some FieldType.int)) (by decide) rfl ?_
  intro p e s m args below meth c s₁ B hml hv
  obtain ⟨rfl, hSt, hP⟩ := hv
  have hx := B.exec
  have hb := B.bytes
  have hr := B.returns
  have hts := atoms_spec (ws := .code yX1_leftOn cX1_leftOn 3 (some FieldType.int) :: gb_wA) B.pre
  have hq : ∀ w ∈ gb_wA, w.before _ s = true := fun w h => hts w (List.mem_cons_of_mem _ h)
  have hown : s.vm.findClass RX1 = some m.cls := findClass_of_methodNamed B.named
  have hlocks := B.notSynchronized
  clear B hts
  have hK := hSt.1
  have hS : va_S (gb_fr b 135) s.heap s.heap [] := va_S.rf
  have hl := lv_entry ([.ref (b + k0), .int p1]) (n := 3) (Nat.le_of_ble_eq_true rfl)
  rw [lg_entry_eq]
  generalize (lg_sl ([.ref (b + k0), .int p1]) ++ List.replicate (3 - (lg_sl ([.ref (b + k0), .int p1])).length) Slot.unset).toArray = ls at hl ⊢
  replace hl : lv_has ls 3 [(0, .ref (b + k0)), (1, .int p1)] := hl
  have L2_1 : ∀ (mm : Nat) (σ : gb_S) (v0 : Nat) (v1 : Int32) (v2 : Int32) (H : Heap) (locs : List Loc) (ls : Array Slot), cs_Dawn_leftOn_D_2 n mm σ v0 v1 v2 = some (σE, rE) → va_P D vwCl (gb_wl b (gb_CW cT b σ)) H → va_S (gb_fr b 135) s.heap H locs → lv_has ls 3 [(0, .ref (b + v0)), (1, .int v1), (2, .int v2)] → W p l e (headSpec (.code yX1_leftOn cX1_leftOn 3 (some FieldType.int) :: gb_wA) ({ frames := 2, cells := 0, slots := 0, locals := 43 })).room s m ([.ref (b + k0), .int p1]).toArray below meth c H locs 0 0 (MQ below (gb_Qi (fun r h => r = rE ∧ va_P D vwCl (gb_wl b (gb_CW cT b σE)) h) (gb_fr b 135)) ([.ref (b + k0), .int p1]).toArray s 0 0 (gb_fr b 135)) (F0 m 2 ls []) := by
    clear h hP hS hl ls
    intro mm
    induction mm with
    | zero =>
      intro σ v0 v1 v2 H locs ls h
      cases h
    | succ mm ih =>
      intro σ v0 v1 v2 H locs ls h hP hS hl
      rw [cs_Dawn_leftOn_D_2] at h
      obtain ⟨z_2, h⟩ := gb_kk_s h
      refine lv_iload_n hx hb dX1_leftOn_2 rfl (lv_at hl 2 rfl) ?_
      refine lv_aload_n hx hb dX1_leftOn_3 rfl (lv_at hl 0 rfl) ?_
      obtain ⟨s_3, r_4, z_5, h⟩ := gb_cd_s h
      refine gb_calli (va_runU (x := ⟨"GooseBorder$Dawn", "size", "()I"⟩) (C := RX1) (owner := "GooseBorder$Lines") (As := []) (rest := [.int v2]) ⟨hx, hb, hml, hown, hq⟩ (cc_Lines_size_D l D cT tt b1 b hb1 n σ v0 s_3 r_4 z_5) (va_cwU (owner := "GooseBorder$Lines") (C := RX1) 0 hq (gb_gU w_534 w_535 w_537 w_484 w_6 w_489) rfl rfl rfl rfl (by decide +kernel) ⟨Nat.le_of_ble_eq_true rfl, Nat.le_of_ble_eq_true rfl⟩) (gb_preV (r := (RX1, TX1, 4)) (ci := 1) (q0 := v0) hSt hP rfl (gb_at b (gb_cD z_2).1) hS (fun q h => Nat.le_trans hb1 h.1) hP) rfl rfl hl.1 rfl (lv_room (Nat.le_of_ble_eq_true rfl)) dX1_leftOn_4 ⟨Nat.le_of_ble_eq_true rfl, Nat.le_of_ble_eq_true rfl⟩) hS (fun _ h => h) (fun _ h => h) (fun q_6 H locs hY hk hS => ?_)
      obtain ⟨hq_6, hP⟩ := hY
      replace hq_6 := hq_6.symm
      subst hq_6
      refine lv_icmp_ge (tgt := 31) hx hb dX1_leftOn_7 (by decide) (fun c_7 => ?_) (fun c_7 => ?_)
      · rw [if_pos c_7] at h
        refine lv_iconst (v := 0) hx hb dX1_leftOn_31 (by decide) ?_
        obtain ⟨e1, e2⟩ := gb_eq2 h
        exact W.iret (v := 0) hx hb hr (fun t ht hW => gb_ri ht ⟨e2, by rw [← e1]; exact hP⟩ hS) hS.2.2 dX1_leftOn_32
      · rw [if_neg c_7] at h
        refine lv_aload_n hx hb dX1_leftOn_10 rfl (lv_at hl 0 rfl) ?_
        refine lv_iload_n hx hb dX1_leftOn_11 rfl (lv_at hl 2 rfl) ?_
        obtain ⟨s_8, r_9, z_10, h⟩ := gb_cd_s h
        refine gb_calli (va_runV (C := RX1) (As := [.int v2]) (rest := []) ⟨hx, hb, hml, hown, hq⟩ (cc_Dawn_pathSeen_D l D cT tt b1 b hb1 n s_3 v0 v2 s_8 r_9 z_10) (cwV 1 hq (gb_gV w_538 w_539 w_540 w_9 w_541) rfl rfl rfl (by decide +kernel) ⟨Nat.le_of_ble_eq_true rfl, Nat.le_of_ble_eq_true rfl⟩) (gb_preV (r := (RX1, TX1, 4)) (ci := 1) (q0 := v0) hSt hP rfl (gb_at b (gb_cD z_2).1) hS (fun q h => Nat.le_trans hb1 h.1) hP) rfl rfl hl.1 rfl (lv_room (Nat.le_of_ble_eq_true rfl)) dX1_leftOn_12 ⟨Nat.le_of_ble_eq_true rfl, Nat.le_of_ble_eq_true rfl⟩) hS (fun _ h => h) (fun _ h => h) (fun q_11 H locs hY hk hS => ?_)
        obtain ⟨hq_11, hP⟩ := hY
        replace hq_11 := hq_11.symm
        subst hq_11
        refine lv_iload_n hx hb dX1_leftOn_15 rfl (lv_at hl 1 rfl) ?_
        refine lv_icmp_ne (tgt := 25) hx hb dX1_leftOn_16 (by decide) (fun c_12 => ?_) (fun c_12 => ?_)
        · rw [if_neg c_12] at h
          obtain ⟨x_13, ex_13⟩ : ∃ q, q = (v2 + 1) := ⟨_, rfl⟩
          replace h := gb_lt_s ex_13 h
          refine lv_iinc (v := x_13) (lv' := [(2, .int x_13), (0, .ref (b + v0)), (1, .int v1)]) hx hb dX1_leftOn_25 hl (k := 2) rfl (by rw [ex_13]; rfl) (by decide) rfl (fun ls hl => ?_)
          refine lv_goto (tgt := 2) hx hb dX1_leftOn_28 (by decide) ?_
          exact ih _ _ _ _ _ _ _ h hP hS (lv_sub hl [1, 2, 0] rfl)
        · rw [if_pos c_12] at h
          refine lv_aload_n hx hb dX1_leftOn_19 rfl (lv_at hl 0 rfl) ?_
          refine lv_iload_n hx hb dX1_leftOn_20 rfl (lv_at hl 2 rfl) ?_
          obtain ⟨s_14, r_15, z_16, h⟩ := gb_cd_s h
          refine gb_calli (va_runV (C := RX1) (As := [.int v2]) (rest := []) ⟨hx, hb, hml, hown, hq⟩ (cc_Dawn_marksSeen_D l D cT tt b1 b hb1 n s_8 v0 v2 s_14 r_15 z_16) (cwV 1 hq (gb_gV w_858 w_859 w_860 w_9 w_861) rfl rfl rfl (by decide +kernel) ⟨Nat.le_of_ble_eq_true rfl, Nat.le_of_ble_eq_true rfl⟩) (gb_preV (r := (RX1, TX1, 4)) (ci := 1) (q0 := v0) hSt hP rfl (gb_at b (gb_cD z_2).1) hS (fun q h => Nat.le_trans hb1 h.1) hP) rfl rfl hl.1 rfl (lv_room (Nat.le_of_ble_eq_true rfl)) dX1_leftOn_21 ⟨Nat.le_of_ble_eq_true rfl, Nat.le_of_ble_eq_true rfl⟩) hS (fun _ h => h) (fun _ h => h) (fun q_17 H locs hY hk hS => ?_)
          obtain ⟨hq_17, hP⟩ := hY
          replace hq_17 := hq_17.symm
          subst hq_17
          obtain ⟨e1, e2⟩ := gb_eq2 h
          exact W.iret (v := r_15) hx hb hr (fun t ht hW => gb_ri ht ⟨e2, by rw [← e1]; exact hP⟩ hS) hS.2.2 dX1_leftOn_24
  unfold cs_Dawn_leftOn_D at h
  obtain ⟨z_1, h⟩ := gb_kk_s h
  refine lv_iconst (v := 0) hx hb dX1_leftOn_0 (by decide) ?_
  refine lv_istore_n (lv' := [(2, .int 0), (0, .ref (b + k0)), (1, .int p1)]) hx hb dX1_leftOn_1 rfl hl (by decide) rfl (fun ls hl => ?_)
  exact L2_1 n _ _ _ _ _ _ _ h hP hS (lv_sub hl [1, 2, 0] rfl)
theorem w_857 : (Cond.code ({ cls := "GooseBorder$Dawn", name := "leftOn", desc := "(I)I" } : MethodName) prog_3_method_5_code (3 : Nat) (Option.some FieldType.int)) ∈ gb_wA := gb_t4 137 rfl rfl
theorem w_854 : (Cond.methodLink "GooseBorder" (265 : Nat) ({ cls := "GooseBorder$Dawn", name := "leftOn", desc := "(I)I" } : MethodName)) ∈ gb_wA := gb_t4 134 rfl rfl
theorem w_855 : (Cond.instanceMethod ({ cls := "GooseBorder$Dawn", name := "leftOn", desc := "(I)I" } : MethodName)) ∈ gb_wA := gb_t4 135 rfl rfl
theorem w_856 : (Cond.selects "GooseBorder$Dawn" ({ cls := "GooseBorder$Dawn", name := "leftOn", desc := "(I)I" } : MethodName) ({ cls := "GooseBorder$Dawn", name := "leftOn", desc := "(I)I" } : MethodName)) ∈ gb_wA := gb_t4 136 rfl rfl
theorem dX11_lacks_63 : decode cX11_lacks 63 = .ok (.aload_n 0, 1) := dc_42 (show ((cX11_lacks.data.toList.drop 63).take 1).map UInt8.toNat = [42] by decide +kernel)
theorem dX11_lacks_64 : decode cX11_lacks 64 = .ok (.getfield 56, 3) := dc_180 (show ((cX11_lacks.data.toList.drop 64).take 3).map UInt8.toNat = [180, 0, 56] by decide +kernel) rfl
theorem dX11_lacks_67 : decode cX11_lacks 67 = .ok (.iload 7, 2) := dc_21 (show ((cX11_lacks.data.toList.drop 67).take 2).map UInt8.toNat = [21, 7] by decide +kernel) rfl
theorem dX11_lacks_69 : decode cX11_lacks 69 = .ok (.invokevirtual 223, 3) := dc_182 (show ((cX11_lacks.data.toList.drop 69).take 3).map UInt8.toNat = [182, 0, 223] by decide +kernel) rfl
theorem dX11_lacks_72 : decode cX11_lacks 72 = .ok (.if_icmp .ge 12, 3) := dc_162 (show ((cX11_lacks.data.toList.drop 72).take 3).map UInt8.toNat = [162, 0, 12] by decide +kernel) rfl
theorem dX11_lacks_84 : decode cX11_lacks 84 = .ok (.iinc 7 1, 3) := dc_132 (show ((cX11_lacks.data.toList.drop 84).take 3).map UInt8.toNat = [132, 7, 1] by decide +kernel) rfl
theorem dX11_lacks_87 : decode cX11_lacks 87 = .ok (.goto (-41), 3) := dc_167 (show ((cX11_lacks.data.toList.drop 87).take 3).map UInt8.toNat = [167, 255, 215] by decide +kernel) rfl
theorem dX11_lacks_75 : decode cX11_lacks 75 = .ok (.iload 6, 2) := dc_21 (show ((cX11_lacks.data.toList.drop 75).take 2).map UInt8.toNat = [21, 6] by decide +kernel) rfl
theorem dX11_lacks_77 : decode cX11_lacks 77 = .ok (.iconst 1, 1) := dc_4 (show ((cX11_lacks.data.toList.drop 77).take 1).map UInt8.toNat = [4] by decide +kernel)
theorem dX11_lacks_78 : decode cX11_lacks 78 = .ok (.iload 7, 2) := dc_21 (show ((cX11_lacks.data.toList.drop 78).take 2).map UInt8.toNat = [21, 7] by decide +kernel) rfl
theorem dX11_lacks_80 : decode cX11_lacks 80 = .ok (.ishl, 1) := dc_120 (show ((cX11_lacks.data.toList.drop 80).take 1).map UInt8.toNat = [120] by decide +kernel)
theorem dX11_lacks_81 : decode cX11_lacks 81 = .ok (.ior, 1) := dc_128 (show ((cX11_lacks.data.toList.drop 81).take 1).map UInt8.toNat = [128] by decide +kernel)
theorem dX11_lacks_82 : decode cX11_lacks 82 = .ok (.istore 6, 2) := dc_54 (show ((cX11_lacks.data.toList.drop 82).take 2).map UInt8.toNat = [54, 6] by decide +kernel) rfl
def cs_Face_lacks_46 (n : Nat) : Nat → gb_S → Nat → Nat → Int32 → Int32 → gb_CR Int32
  | 0, _, _, _, _, _ => none
  | mm + 1, σ, v4, v5, v6, v7 => gb_kk (gb_kB v4) (gb_kk (gb_kD v5) (gb_cd (cs_Border_paths_B n σ v4) (fun s_31 r_32 => (if r_32 ≤ v7 then some (s_31, v6) else gb_cd (cs_Dawn_leftOn_D n s_31 v5 v7) (fun s_36 r_37 => gb_cd (cs_Play_tally n s_36 v7) (fun s_40 r_41 => (if r_41 ≤ r_37 then gb_lt (v7 + 1) (fun x_45 => cs_Face_lacks_46 n mm s_40 v4 v5 v6 x_45) else gb_lt (v6 ||| ((1 : Int32) <<< (v7 &&& 31))) (fun x_46 => gb_lt (v7 + 1) (fun x_47 => cs_Face_lacks_46 n mm s_40 v4 v5 x_46 x_47)))))))))
def cs_Face_lacks (n : Nat) (σ : gb_S) (p1 : Int32) (p2 : Int32) (p3 : Int32) : gb_CR Int32 := gb_cd (cs_Face_borderAt n σ p1) (fun s_1 r_2 => (if r_2 = 0 then gb_cd (cs_Face_dawnAt n s_1 p3) (fun s_6 r_7 => (if r_7 = 0 then some (s_6, (-1)) else gb_kk (gb_kD r_7) (some (s_6, (-1))))) else gb_kk (gb_kB r_2) (gb_cd (cs_Face_dawnAt n s_1 p3) (fun s_13 r_14 => (if r_14 = 0 then some (s_13, (-1)) else gb_kk (gb_kD r_14) (gb_cd (cs_Face_nightAt n s_13 p2) (fun s_19 r_20 => (if r_20 = 0 then gb_cd (cs_Face_playedOut_B_n n s_19 r_2) (fun s_24 r_25 => (if r_25 = 0 then some (s_24, (-1)) else cs_Face_lacks_46 n n s_24 r_2 r_14 0 0)) else gb_kk (gb_kN r_20) (gb_cd (cs_Face_playedOut_B_N n s_19 r_2 r_20) (fun s_49 r_50 => (if r_50 = 0 then some (s_49, (-1)) else cs_Face_lacks_46 n n s_49 r_2 r_14 0 0)))))))))))
set_option maxHeartbeats 8000000 in
set_option maxRecDepth 100000 in
theorem cc_Face_lacks (l : Launch) (D : va_G) (cT : Nat → ClassId) (tt : Nat → Nat) (b1 b : Nat) (hb1 : b1 ≤ b) (n : Nat) (σ : gb_S) (p1 : Int32) (p2 : Int32) (p3 : Int32) (σE : gb_S) (rE : Int32) (h : cs_Face_lacks n σ p1 p2 p3 = some (σE, rE)) : Met l yX11_lacks (.code yX11_lacks cX11_lacks 8 (some FieldType.int) :: gb_wA) ({ frames := 6, cells := 0, slots := 0, locals := 147 }) (gb_Pc D cT tt b1 [.ref (b + 0), .int p1, .int p2, .int p3] (fun h => va_P D vwCl (gb_wl b (gb_CW cT b σ)) h)) (gb_Qi (fun r h => r = rE ∧ va_P D vwCl (gb_wl b (gb_CW cT b σE)) h) (gb_fr b 135)) 0 0 (gb_fr b 135) := by
  refine Met.ofW (cc := cX11_lacks) (maxL := 8) (ret := (some FieldType.int)) (by decide) rfl ?_
  intro p e s m args below meth c s₁ B hml hv
  obtain ⟨rfl, hSt, hP⟩ := hv
  have hx := B.exec
  have hb := B.bytes
  have hr := B.returns
  have hts := atoms_spec (ws := .code yX11_lacks cX11_lacks 8 (some FieldType.int) :: gb_wA) B.pre
  have hq : ∀ w ∈ gb_wA, w.before _ s = true := fun w h => hts w (List.mem_cons_of_mem _ h)
  have hown : s.vm.findClass RX11 = some m.cls := findClass_of_methodNamed B.named
  have hlocks := B.notSynchronized
  clear B hts
  have hK := hSt.1
  have hS : va_S (gb_fr b 135) s.heap s.heap [] := va_S.rf
  have hl := lv_entry ([.ref (b + 0), .int p1, .int p2, .int p3]) (n := 8) (Nat.le_of_ble_eq_true rfl)
  rw [lg_entry_eq]
  generalize (lg_sl ([.ref (b + 0), .int p1, .int p2, .int p3]) ++ List.replicate (8 - (lg_sl ([.ref (b + 0), .int p1, .int p2, .int p3])).length) Slot.unset).toArray = ls at hl ⊢
  replace hl : lv_has ls 8 [(0, .ref (b + 0)), (1, .int p1), (2, .int p2), (3, .int p3)] := hl
  have L46_1 : ∀ (mm : Nat) (σ : gb_S) (v4 : Nat) (v5 : Nat) (v6 : Int32) (v7 : Int32) (H : Heap) (locs : List Loc) (ls : Array Slot), cs_Face_lacks_46 n mm σ v4 v5 v6 v7 = some (σE, rE) → va_P D vwCl (gb_wl b (gb_CW cT b σ)) H → va_S (gb_fr b 135) s.heap H locs → lv_has ls 8 [(0, .ref (b + 0)), (4, .ref (b + v4)), (5, .ref (b + v5)), (6, .int v6), (7, .int v7)] → W p l e (headSpec (.code yX11_lacks cX11_lacks 8 (some FieldType.int) :: gb_wA) ({ frames := 6, cells := 0, slots := 0, locals := 147 })).room s m ([.ref (b + 0), .int p1, .int p2, .int p3]).toArray below meth c H locs 0 0 (MQ below (gb_Qi (fun r h => r = rE ∧ va_P D vwCl (gb_wl b (gb_CW cT b σE)) h) (gb_fr b 135)) ([.ref (b + 0), .int p1, .int p2, .int p3]).toArray s 0 0 (gb_fr b 135)) (F0 m 46 ls []) := by
    clear h hP hS hl ls
    intro mm
    induction mm with
    | zero =>
      intro σ v4 v5 v6 v7 H locs ls h
      cases h
    | succ mm ih =>
      intro σ v4 v5 v6 v7 H locs ls h hP hS hl
      rw [cs_Face_lacks_46] at h
      obtain ⟨z_29, h⟩ := gb_kk_s h
      obtain ⟨z_30, h⟩ := gb_kk_s h
      refine lv_iload hx hb dX11_lacks_46 (lv_at hl 4 rfl) ?_
      refine lv_aload hx hb dX11_lacks_48 (lv_at hl 1 rfl) ?_
      obtain ⟨s_31, r_32, z_33, h⟩ := gb_cd_s h
      refine gb_calli (va_runV (C := RX0) (As := []) (rest := [.int v7]) ⟨hx, hb, hml, hown, hq⟩ (cc_Border_paths_B l D cT tt b1 b hb1 n σ v4 s_31 r_32 z_33) (cwV 0 hq (gb_gV w_597 w_473 w_474 w_4 w_475) rfl rfl rfl (by decide +kernel) ⟨Nat.le_of_ble_eq_true rfl, Nat.le_of_ble_eq_true rfl⟩) (gb_preV (r := (RX0, TX0, 1)) (ci := 0) (q0 := v4) hSt hP rfl (gb_at b (gb_cB z_29).1) hS (fun q h => Nat.le_trans hb1 h.1) hP) rfl rfl hl.1 rfl (lv_room (Nat.le_of_ble_eq_true rfl)) dX11_lacks_50 ⟨Nat.le_of_ble_eq_true rfl, Nat.le_of_ble_eq_true rfl⟩) hS (fun _ h => h) (fun _ h => h) (fun q_34 H locs hY hk hS => ?_)
      obtain ⟨hq_34, hP⟩ := hY
      replace hq_34 := hq_34.symm
      subst hq_34
      refine lv_icmp_ge (tgt := 90) hx hb dX11_lacks_53 (by decide) (fun c_35 => ?_) (fun c_35 => ?_)
      · rw [if_pos c_35] at h
        refine lv_iload hx hb dX11_lacks_90 (lv_at hl 3 rfl) ?_
        obtain ⟨e1, e2⟩ := gb_eq2 h
        exact W.iret (v := v6) hx hb hr (fun t ht hW => gb_ri ht ⟨e2, by rw [← e1]; exact hP⟩ hS) hS.2.2 dX11_lacks_92
      · rw [if_neg c_35] at h
        refine lv_aload hx hb dX11_lacks_56 (lv_at hl 2 rfl) ?_
        refine lv_iload hx hb dX11_lacks_58 (lv_at hl 4 rfl) ?_
        obtain ⟨s_36, r_37, z_38, h⟩ := gb_cd_s h
        refine gb_calli (va_runV (C := RX1) (As := [.int v7]) (rest := []) ⟨hx, hb, hml, hown, hq⟩ (cc_Dawn_leftOn_D l D cT tt b1 b hb1 n s_31 v5 v7 s_36 r_37 z_38) (cwV 1 hq (gb_gV w_854 w_855 w_856 w_9 w_857) rfl rfl rfl (by decide +kernel) ⟨Nat.le_of_ble_eq_true rfl, Nat.le_of_ble_eq_true rfl⟩) (gb_preV (r := (RX1, TX1, 4)) (ci := 1) (q0 := v5) hSt hP rfl (gb_at b (gb_cD z_30).1) hS (fun q h => Nat.le_trans hb1 h.1) hP) rfl rfl hl.1 rfl (lv_room (Nat.le_of_ble_eq_true rfl)) dX11_lacks_60 ⟨Nat.le_of_ble_eq_true rfl, Nat.le_of_ble_eq_true rfl⟩) hS (fun _ h => h) (fun _ h => h) (fun q_39 H locs hY hk hS => ?_)
        obtain ⟨hq_39, hP⟩ := hY
        replace hq_39 := hq_39.symm
        subst hq_39
        refine lv_aload_n hx hb dX11_lacks_63 rfl (lv_at hl 0 rfl) ?_
        refine va_get (ci := 9) (v := (.ref (b + 109))) (C := RX11) (T := TX11) (N := 10) hx hb hq i_X11 hown hK hP 0 (gb_at b rfl) rfl 6 (by decide) (hq _ w_321) (fun _ h9 => h9) rfl dX11_lacks_64 ?_
        refine lv_iload hx hb dX11_lacks_67 (lv_at hl 4 rfl) ?_
        obtain ⟨s_40, r_41, z_42, h⟩ := gb_cd_s h
        refine gb_calli (va_runV (C := RX6) (As := [.int v7]) (rest := [.int r_37]) ⟨hx, hb, hml, hown, hq⟩ (cc_Play_tally l D cT tt b1 b hb1 n s_36 v7 s_40 r_41 z_42) (cwV 1 hq (gb_gV w_771 w_772 w_773 w_11 w_774) rfl rfl rfl (by decide +kernel) ⟨Nat.le_of_ble_eq_true rfl, Nat.le_of_ble_eq_true rfl⟩) (gb_preV (r := (RX6, TX6, 12)) (ci := 5) (q0 := 109) hSt hP rfl (gb_at b rfl) hS (fun q h => Nat.le_trans hb1 h.1) hP) rfl rfl hl.1 rfl (lv_room (Nat.le_of_ble_eq_true rfl)) dX11_lacks_69 ⟨Nat.le_of_ble_eq_true rfl, Nat.le_of_ble_eq_true rfl⟩) hS (fun _ h => h) (fun _ h => h) (fun q_43 H locs hY hk hS => ?_)
        obtain ⟨hq_43, hP⟩ := hY
        replace hq_43 := hq_43.symm
        subst hq_43
        refine lv_icmp_ge (tgt := 84) hx hb dX11_lacks_72 (by decide) (fun c_44 => ?_) (fun c_44 => ?_)
        · rw [if_pos c_44] at h
          obtain ⟨x_45, ex_45⟩ : ∃ q, q = (v7 + 1) := ⟨_, rfl⟩
          replace h := gb_lt_s ex_45 h
          refine lv_iinc (v := x_45) (lv' := [(7, .int x_45), (0, .ref (b + 0)), (4, .ref (b + v4)), (5, .ref (b + v5)), (6, .int v6)]) hx hb dX11_lacks_84 hl (k := 4) rfl (by rw [ex_45]; rfl) (by decide) rfl (fun ls hl => ?_)
          refine lv_goto (tgt := 46) hx hb dX11_lacks_87 (by decide) ?_
          exact ih _ _ _ _ _ _ _ _ h hP hS (lv_sub hl [1, 2, 3, 4, 0] rfl)
        · rw [if_neg c_44] at h
          refine lv_iload hx hb dX11_lacks_75 (lv_at hl 3 rfl) ?_
          refine lv_iconst (v := 1) hx hb dX11_lacks_77 (by decide) ?_
          refine lv_iload hx hb dX11_lacks_78 (lv_at hl 4 rfl) ?_
          refine lv_ishl hx hb dX11_lacks_80 ?_
          refine lv_ior hx hb dX11_lacks_81 ?_
          refine lv_topi (fun x_46 ex_46 => ?_)
          replace h := gb_lt_s ex_46 h
          refine lv_istore (lv' := [(6, .int x_46), (0, .ref (b + 0)), (4, .ref (b + v4)), (5, .ref (b + v5)), (7, .int v7)]) hx hb dX11_lacks_82 hl (by decide) rfl (fun ls hl => ?_)
          obtain ⟨x_47, ex_47⟩ : ∃ q, q = (v7 + 1) := ⟨_, rfl⟩
          replace h := gb_lt_s ex_47 h
          refine lv_iinc (v := x_47) (lv' := [(7, .int x_47), (6, .int x_46), (0, .ref (b + 0)), (4, .ref (b + v4)), (5, .ref (b + v5))]) hx hb dX11_lacks_84 hl (k := 4) rfl (by rw [ex_47]; rfl) (by decide) rfl (fun ls hl => ?_)
          refine lv_goto (tgt := 46) hx hb dX11_lacks_87 (by decide) ?_
          exact ih _ _ _ _ _ _ _ _ h hP hS (lv_sub hl [2, 3, 4, 1, 0] rfl)
  unfold cs_Face_lacks at h
  refine lv_aload_n hx hb dX11_lacks_0 rfl (lv_at hl 0 rfl) ?_
  refine lv_iload_n hx hb dX11_lacks_1 rfl (lv_at hl 1 rfl) ?_
  obtain ⟨s_1, r_2, z_3, h⟩ := gb_cd_s h
  refine gb_callq (va_runV (C := RX11) (As := [.int p1]) (rest := []) ⟨hx, hb, hml, hown, hq⟩ (cc_Face_borderAt l D cT tt b1 b hb1 n σ p1 s_1 r_2 z_3) (cwV 1 hq (gb_gV w_593 w_595 s_1_7 w_1 w_596) rfl rfl rfl (by decide +kernel) ⟨Nat.le_of_ble_eq_true rfl, Nat.le_of_ble_eq_true rfl⟩) (gb_preV (r := (RX11, TX11, 10)) (ci := 9) (q0 := 0) hSt hP rfl (gb_at b rfl) hS (fun q h => Nat.le_trans hb1 h.1) hP) rfl rfl hl.1 rfl (lv_room (Nat.le_of_ble_eq_true rfl)) dX11_lacks_2 ⟨Nat.le_of_ble_eq_true rfl, Nat.le_of_ble_eq_true rfl⟩) hS (fun _ h => h) (fun _ h => h) (fun q_4 H locs hY hk hS => ?_)
  obtain ⟨hq_4, hP⟩ := hY
  subst hq_4
  rw [gb_onv]
  by_cases c_5 : r_2 = 0
  · rw [if_pos c_5] at h
    rw [gb_nv0 c_5]
    refine lv_astoreN (lv' := [(4, .null), (0, .ref (b + 0)), (1, .int p1), (2, .int p2), (3, .int p3)]) hx hb dX11_lacks_5 hl (by decide) rfl (fun ls hl => ?_)
    refine lv_aload_n hx hb dX11_lacks_7 rfl (lv_at hl 1 rfl) ?_
    refine lv_iload_n hx hb dX11_lacks_8 rfl (lv_at hl 4 rfl) ?_
    obtain ⟨s_6, r_7, z_8, h⟩ := gb_cd_s h
    refine gb_callq (va_runV (C := RX11) (As := [.int p3]) (rest := []) ⟨hx, hb, hml, hown, hq⟩ (cc_Face_dawnAt l D cT tt b1 b hb1 n s_1 p3 s_6 r_7 z_8) (cwV 1 hq (gb_gV w_667 w_669 s_1_10 w_1 w_670) rfl rfl rfl (by decide +kernel) ⟨Nat.le_of_ble_eq_true rfl, Nat.le_of_ble_eq_true rfl⟩) (gb_preV (r := (RX11, TX11, 10)) (ci := 9) (q0 := 0) hSt hP rfl (gb_at b rfl) hS (fun q h => Nat.le_trans hb1 h.1) hP) rfl rfl hl.1 rfl (lv_room (Nat.le_of_ble_eq_true rfl)) dX11_lacks_9 ⟨Nat.le_of_ble_eq_true rfl, Nat.le_of_ble_eq_true rfl⟩) hS (fun _ h => h) (fun _ h => h) (fun q_9 H locs hY hk hS => ?_)
    obtain ⟨hq_9, hP⟩ := hY
    subst hq_9
    rw [gb_onv]
    by_cases c_10 : r_7 = 0
    · rw [if_pos c_10] at h
      rw [gb_nv0 c_10]
      refine lv_astoreN (lv' := [(5, .null), (4, .null), (0, .ref (b + 0)), (1, .int p1), (2, .int p2), (3, .int p3)]) hx hb dX11_lacks_12 hl (by decide) rfl (fun ls hl => ?_)
      refine lv_aloadN hx hb dX11_lacks_14 (lv_at hl 1 rfl) ?_
      refine lv_ifnullN (tgt := 38) hx hb dX11_lacks_16 (by decide) ?_
      refine lv_iconst (v := (-1)) hx hb dX11_lacks_38 (by decide) ?_
      obtain ⟨e1, e2⟩ := gb_eq2 h
      exact W.iret (v := (-1)) hx hb hr (fun t ht hW => gb_ri ht ⟨e2, by rw [← e1]; exact hP⟩ hS) hS.2.2 dX11_lacks_39
    rw [if_neg c_10] at h
    rw [gb_nv1 c_10]
    obtain ⟨z_11, h⟩ := gb_kk_s h
    refine lv_astore (lv' := [(5, .ref (b + r_7)), (4, .null), (0, .ref (b + 0)), (1, .int p1), (2, .int p2), (3, .int p3)]) hx hb dX11_lacks_12 hl (by decide) rfl (fun ls hl => ?_)
    refine lv_aloadN hx hb dX11_lacks_14 (lv_at hl 1 rfl) ?_
    refine lv_ifnullN (tgt := 38) hx hb dX11_lacks_16 (by decide) ?_
    refine lv_iconst (v := (-1)) hx hb dX11_lacks_38 (by decide) ?_
    obtain ⟨e1, e2⟩ := gb_eq2 h
    exact W.iret (v := (-1)) hx hb hr (fun t ht hW => gb_ri ht ⟨e2, by rw [← e1]; exact hP⟩ hS) hS.2.2 dX11_lacks_39
  rw [if_neg c_5] at h
  rw [gb_nv1 c_5]
  obtain ⟨z_12, h⟩ := gb_kk_s h
  refine lv_astore (lv' := [(4, .ref (b + r_2)), (0, .ref (b + 0)), (1, .int p1), (2, .int p2), (3, .int p3)]) hx hb dX11_lacks_5 hl (by decide) rfl (fun ls hl => ?_)
  refine lv_aload_n hx hb dX11_lacks_7 rfl (lv_at hl 1 rfl) ?_
  refine lv_iload_n hx hb dX11_lacks_8 rfl (lv_at hl 4 rfl) ?_
  obtain ⟨s_13, r_14, z_15, h⟩ := gb_cd_s h
  refine gb_callq (va_runV (C := RX11) (As := [.int p3]) (rest := []) ⟨hx, hb, hml, hown, hq⟩ (cc_Face_dawnAt l D cT tt b1 b hb1 n s_1 p3 s_13 r_14 z_15) (cwV 1 hq (gb_gV w_667 w_669 s_1_10 w_1 w_670) rfl rfl rfl (by decide +kernel) ⟨Nat.le_of_ble_eq_true rfl, Nat.le_of_ble_eq_true rfl⟩) (gb_preV (r := (RX11, TX11, 10)) (ci := 9) (q0 := 0) hSt hP rfl (gb_at b rfl) hS (fun q h => Nat.le_trans hb1 h.1) hP) rfl rfl hl.1 rfl (lv_room (Nat.le_of_ble_eq_true rfl)) dX11_lacks_9 ⟨Nat.le_of_ble_eq_true rfl, Nat.le_of_ble_eq_true rfl⟩) hS (fun _ h => h) (fun _ h => h) (fun q_16 H locs hY hk hS => ?_)
  obtain ⟨hq_16, hP⟩ := hY
  subst hq_16
  rw [gb_onv]
  by_cases c_17 : r_14 = 0
  · rw [if_pos c_17] at h
    rw [gb_nv0 c_17]
    refine lv_astoreN (lv' := [(5, .null), (4, .ref (b + r_2)), (0, .ref (b + 0)), (1, .int p1), (2, .int p2), (3, .int p3)]) hx hb dX11_lacks_12 hl (by decide) rfl (fun ls hl => ?_)
    refine lv_aload hx hb dX11_lacks_14 (lv_at hl 1 rfl) ?_
    refine lv_ifnull hx hb dX11_lacks_16 ?_
    refine lv_aloadN hx hb dX11_lacks_19 (lv_at hl 0 rfl) ?_
    refine lv_ifnullN (tgt := 38) hx hb dX11_lacks_21 (by decide) ?_
    refine lv_iconst (v := (-1)) hx hb dX11_lacks_38 (by decide) ?_
    obtain ⟨e1, e2⟩ := gb_eq2 h
    exact W.iret (v := (-1)) hx hb hr (fun t ht hW => gb_ri ht ⟨e2, by rw [← e1]; exact hP⟩ hS) hS.2.2 dX11_lacks_39
  rw [if_neg c_17] at h
  rw [gb_nv1 c_17]
  obtain ⟨z_18, h⟩ := gb_kk_s h
  refine lv_astore (lv' := [(5, .ref (b + r_14)), (4, .ref (b + r_2)), (0, .ref (b + 0)), (1, .int p1), (2, .int p2), (3, .int p3)]) hx hb dX11_lacks_12 hl (by decide) rfl (fun ls hl => ?_)
  refine lv_aload hx hb dX11_lacks_14 (lv_at hl 1 rfl) ?_
  refine lv_ifnull hx hb dX11_lacks_16 ?_
  refine lv_aload hx hb dX11_lacks_19 (lv_at hl 0 rfl) ?_
  refine lv_ifnull hx hb dX11_lacks_21 ?_
  refine lv_aload_n hx hb dX11_lacks_24 rfl (lv_at hl 2 rfl) ?_
  refine lv_aload hx hb dX11_lacks_25 (lv_at hl 1 rfl) ?_
  refine lv_aload_n hx hb dX11_lacks_27 rfl (lv_at hl 2 rfl) ?_
  refine lv_iload_n hx hb dX11_lacks_28 rfl (lv_at hl 4 rfl) ?_
  obtain ⟨s_19, r_20, z_21, h⟩ := gb_cd_s h
  refine gb_callq (va_runV (C := RX11) (As := [.int p2]) (rest := [.ref (b + r_2), .ref (b + 0)]) ⟨hx, hb, hml, hown, hq⟩ (cc_Face_nightAt l D cT tt b1 b hb1 n s_13 p2 s_19 r_20 z_21) (cwV 1 hq (gb_gV w_646 w_648 s_1_8 w_1 w_649) rfl rfl rfl (by decide +kernel) ⟨Nat.le_of_ble_eq_true rfl, Nat.le_of_ble_eq_true rfl⟩) (gb_preV (r := (RX11, TX11, 10)) (ci := 9) (q0 := 0) hSt hP rfl (gb_at b rfl) hS (fun q h => Nat.le_trans hb1 h.1) hP) rfl rfl hl.1 rfl (lv_room (Nat.le_of_ble_eq_true rfl)) dX11_lacks_29 ⟨Nat.le_of_ble_eq_true rfl, Nat.le_of_ble_eq_true rfl⟩) hS (fun _ h => h) (fun _ h => h) (fun q_22 H locs hY hk hS => ?_)
  obtain ⟨hq_22, hP⟩ := hY
  subst hq_22
  rw [gb_onv]
  by_cases c_23 : r_20 = 0
  · rw [if_pos c_23] at h
    rw [gb_nv0 c_23]
    obtain ⟨s_24, r_25, z_26, h⟩ := gb_cd_s h
    refine gb_calli (va_runV (C := RX11) (As := [.ref (b + r_2), .null]) (rest := []) ⟨hx, hb, hml, hown, hq⟩ (cc_Face_playedOut_B_n l D cT tt b1 b hb1 n s_19 r_2 s_24 r_25 z_26) (cwV 2 hq (gb_gV w_697 w_699 s_1_11 w_1 w_700) rfl rfl rfl (by decide +kernel) ⟨Nat.le_of_ble_eq_true rfl, Nat.le_of_ble_eq_true rfl⟩) (gb_preV (r := (RX11, TX11, 10)) (ci := 9) (q0 := 0) hSt hP rfl (gb_at b rfl) hS (fun q h => Nat.le_trans hb1 h.1) hP) rfl rfl hl.1 rfl (lv_room (Nat.le_of_ble_eq_true rfl)) dX11_lacks_32 ⟨Nat.le_of_ble_eq_true rfl, Nat.le_of_ble_eq_true rfl⟩) hS (fun _ h => h) (fun _ h => h) (fun q_27 H locs hY hk hS => ?_)
    obtain ⟨hq_27, hP⟩ := hY
    replace hq_27 := hq_27.symm
    subst hq_27
    refine lv_if_ne (tgt := 40) hx hb dX11_lacks_35 (by decide) (fun c_28 => ?_) (fun c_28 => ?_)
    · rw [if_neg c_28] at h
      refine lv_iconst (v := 0) hx hb dX11_lacks_40 (by decide) ?_
      refine lv_istore (lv' := [(6, .int 0), (5, .ref (b + r_14)), (4, .ref (b + r_2)), (0, .ref (b + 0)), (1, .int p1), (2, .int p2), (3, .int p3)]) hx hb dX11_lacks_41 hl (by decide) rfl (fun ls hl => ?_)
      refine lv_iconst (v := 0) hx hb dX11_lacks_43 (by decide) ?_
      refine lv_istore (lv' := [(7, .int 0), (6, .int 0), (5, .ref (b + r_14)), (4, .ref (b + r_2)), (0, .ref (b + 0)), (1, .int p1), (2, .int p2), (3, .int p3)]) hx hb dX11_lacks_44 hl (by decide) rfl (fun ls hl => ?_)
      exact L46_1 n _ _ _ _ _ _ _ _ h hP hS (lv_sub hl [4, 3, 2, 1, 0] rfl)
    · rw [if_pos c_28] at h
      refine lv_iconst (v := (-1)) hx hb dX11_lacks_38 (by decide) ?_
      obtain ⟨e1, e2⟩ := gb_eq2 h
      exact W.iret (v := (-1)) hx hb hr (fun t ht hW => gb_ri ht ⟨e2, by rw [← e1]; exact hP⟩ hS) hS.2.2 dX11_lacks_39
  rw [if_neg c_23] at h
  rw [gb_nv1 c_23]
  obtain ⟨z_48, h⟩ := gb_kk_s h
  obtain ⟨s_49, r_50, z_51, h⟩ := gb_cd_s h
  refine gb_calli (va_runV (C := RX11) (As := [.ref (b + r_2), .ref (b + r_20)]) (rest := []) ⟨hx, hb, hml, hown, hq⟩ (cc_Face_playedOut_B_N l D cT tt b1 b hb1 n s_19 r_2 r_20 s_49 r_50 z_51) (cwV 2 hq (gb_gV w_697 w_699 s_1_11 w_1 w_700) rfl rfl rfl (by decide +kernel) ⟨Nat.le_of_ble_eq_true rfl, Nat.le_of_ble_eq_true rfl⟩) (gb_preV (r := (RX11, TX11, 10)) (ci := 9) (q0 := 0) hSt hP rfl (gb_at b rfl) hS (fun q h => Nat.le_trans hb1 h.1) hP) rfl rfl hl.1 rfl (lv_room (Nat.le_of_ble_eq_true rfl)) dX11_lacks_32 ⟨Nat.le_of_ble_eq_true rfl, Nat.le_of_ble_eq_true rfl⟩) hS (fun _ h => h) (fun _ h => h) (fun q_52 H locs hY hk hS => ?_)
  obtain ⟨hq_52, hP⟩ := hY
  replace hq_52 := hq_52.symm
  subst hq_52
  refine lv_if_ne (tgt := 40) hx hb dX11_lacks_35 (by decide) (fun c_53 => ?_) (fun c_53 => ?_)
  · rw [if_neg c_53] at h
    refine lv_iconst (v := 0) hx hb dX11_lacks_40 (by decide) ?_
    refine lv_istore (lv' := [(6, .int 0), (5, .ref (b + r_14)), (4, .ref (b + r_2)), (0, .ref (b + 0)), (1, .int p1), (2, .int p2), (3, .int p3)]) hx hb dX11_lacks_41 hl (by decide) rfl (fun ls hl => ?_)
    refine lv_iconst (v := 0) hx hb dX11_lacks_43 (by decide) ?_
    refine lv_istore (lv' := [(7, .int 0), (6, .int 0), (5, .ref (b + r_14)), (4, .ref (b + r_2)), (0, .ref (b + 0)), (1, .int p1), (2, .int p2), (3, .int p3)]) hx hb dX11_lacks_44 hl (by decide) rfl (fun ls hl => ?_)
    exact L46_1 n _ _ _ _ _ _ _ _ h hP hS (lv_sub hl [4, 3, 2, 1, 0] rfl)
  · rw [if_pos c_53] at h
    refine lv_iconst (v := (-1)) hx hb dX11_lacks_38 (by decide) ?_
    obtain ⟨e1, e2⟩ := gb_eq2 h
    exact W.iret (v := (-1)) hx hb hr (fun t ht hW => gb_ri ht ⟨e2, by rw [← e1]; exact hP⟩ hS) hS.2.2 dX11_lacks_39
theorem dX11_who_0 : decode cX11_who 0 = .ok (.aload_n 0, 1) := dc_42 (show ((cX11_who.data.toList.drop 0).take 1).map UInt8.toNat = [42] by decide +kernel)
theorem dX11_who_1 : decode cX11_who 1 = .ok (.iload_n 1, 1) := dc_27 (show ((cX11_who.data.toList.drop 1).take 1).map UInt8.toNat = [27] by decide +kernel)
theorem dX11_who_2 : decode cX11_who 2 = .ok (.invokevirtual 113, 3) := dc_182 (show ((cX11_who.data.toList.drop 2).take 3).map UInt8.toNat = [182, 0, 113] by decide +kernel) rfl
theorem dX11_who_5 : decode cX11_who 5 = .ok (.astore 5, 2) := dc_58 (show ((cX11_who.data.toList.drop 5).take 2).map UInt8.toNat = [58, 5] by decide +kernel) rfl
theorem dX11_who_7 : decode cX11_who 7 = .ok (.aload_n 0, 1) := dc_42 (show ((cX11_who.data.toList.drop 7).take 1).map UInt8.toNat = [42] by decide +kernel)
theorem dX11_who_8 : decode cX11_who 8 = .ok (.iload_n 2, 1) := dc_28 (show ((cX11_who.data.toList.drop 8).take 1).map UInt8.toNat = [28] by decide +kernel)
theorem dX11_who_9 : decode cX11_who 9 = .ok (.invokevirtual 148, 3) := dc_182 (show ((cX11_who.data.toList.drop 9).take 3).map UInt8.toNat = [182, 0, 148] by decide +kernel) rfl
theorem dX11_who_12 : decode cX11_who 12 = .ok (.astore 6, 2) := dc_58 (show ((cX11_who.data.toList.drop 12).take 2).map UInt8.toNat = [58, 6] by decide +kernel) rfl
theorem dX11_who_14 : decode cX11_who 14 = .ok (.aload 5, 2) := dc_25 (show ((cX11_who.data.toList.drop 14).take 2).map UInt8.toNat = [25, 5] by decide +kernel) rfl
theorem dX11_who_16 : decode cX11_who 16 = .ok (.ifnull 28, 3) := dc_198 (show ((cX11_who.data.toList.drop 16).take 3).map UInt8.toNat = [198, 0, 28] by decide +kernel) rfl
theorem dX11_who_44 : decode cX11_who 44 = .ok (.iconst (-1), 1) := dc_2 (show ((cX11_who.data.toList.drop 44).take 1).map UInt8.toNat = [2] by decide +kernel)
theorem dX11_who_45 : decode cX11_who 45 = .ok (.ireturn, 1) := dc_172 (show ((cX11_who.data.toList.drop 45).take 1).map UInt8.toNat = [172] by decide +kernel)
theorem dX11_who_19 : decode cX11_who 19 = .ok (.aload 6, 2) := dc_25 (show ((cX11_who.data.toList.drop 19).take 2).map UInt8.toNat = [25, 6] by decide +kernel) rfl
theorem dX11_who_21 : decode cX11_who 21 = .ok (.ifnull 23, 3) := dc_198 (show ((cX11_who.data.toList.drop 21).take 3).map UInt8.toNat = [198, 0, 23] by decide +kernel) rfl
theorem dX11_who_24 : decode cX11_who 24 = .ok (.aload 5, 2) := dc_25 (show ((cX11_who.data.toList.drop 24).take 2).map UInt8.toNat = [25, 5] by decide +kernel) rfl
theorem dX11_who_26 : decode cX11_who 26 = .ok (.iload_n 3, 1) := dc_29 (show ((cX11_who.data.toList.drop 26).take 1).map UInt8.toNat = [29] by decide +kernel)
theorem dX11_who_27 : decode cX11_who 27 = .ok (.invokevirtual 135, 3) := dc_182 (show ((cX11_who.data.toList.drop 27).take 3).map UInt8.toNat = [182, 0, 135] by decide +kernel) rfl
theorem dX11_who_30 : decode cX11_who 30 = .ok (.ifCond .eq 14, 3) := dc_153 (show ((cX11_who.data.toList.drop 30).take 3).map UInt8.toNat = [153, 0, 14] by decide +kernel) rfl
theorem dX11_who_33 : decode cX11_who 33 = .ok (.aload_n 0, 1) := dc_42 (show ((cX11_who.data.toList.drop 33).take 1).map UInt8.toNat = [42] by decide +kernel)
theorem dX11_who_34 : decode cX11_who 34 = .ok (.aload 5, 2) := dc_25 (show ((cX11_who.data.toList.drop 34).take 2).map UInt8.toNat = [25, 5] by decide +kernel) rfl
theorem dX11_who_36 : decode cX11_who 36 = .ok (.aload 6, 2) := dc_25 (show ((cX11_who.data.toList.drop 36).take 2).map UInt8.toNat = [25, 6] by decide +kernel) rfl
theorem dX11_who_38 : decode cX11_who 38 = .ok (.invokevirtual 195, 3) := dc_182 (show ((cX11_who.data.toList.drop 38).take 3).map UInt8.toNat = [182, 0, 195] by decide +kernel) rfl
theorem dX11_who_41 : decode cX11_who 41 = .ok (.ifCond .ne 5, 3) := dc_154 (show ((cX11_who.data.toList.drop 41).take 3).map UInt8.toNat = [154, 0, 5] by decide +kernel) rfl
theorem dX11_who_46 : decode cX11_who 46 = .ok (.aload_n 0, 1) := dc_42 (show ((cX11_who.data.toList.drop 46).take 1).map UInt8.toNat = [42] by decide +kernel)
theorem dX11_who_47 : decode cX11_who 47 = .ok (.getfield 56, 3) := dc_180 (show ((cX11_who.data.toList.drop 47).take 3).map UInt8.toNat = [180, 0, 56] by decide +kernel) rfl
theorem dX11_who_50 : decode cX11_who 50 = .ok (.getfield 199, 3) := dc_180 (show ((cX11_who.data.toList.drop 50).take 3).map UInt8.toNat = [180, 0, 199] by decide +kernel) rfl
theorem dX11_who_53 : decode cX11_who 53 = .ok (.istore 7, 2) := dc_54 (show ((cX11_who.data.toList.drop 53).take 2).map UInt8.toNat = [54, 7] by decide +kernel) rfl
theorem dX11_who_55 : decode cX11_who 55 = .ok (.iconst 0, 1) := dc_3 (show ((cX11_who.data.toList.drop 55).take 1).map UInt8.toNat = [3] by decide +kernel)
theorem dX11_who_56 : decode cX11_who 56 = .ok (.istore 8, 2) := dc_54 (show ((cX11_who.data.toList.drop 56).take 2).map UInt8.toNat = [54, 8] by decide +kernel) rfl
theorem dX11_who_58 : decode cX11_who 58 = .ok (.iload 8, 2) := dc_21 (show ((cX11_who.data.toList.drop 58).take 2).map UInt8.toNat = [21, 8] by decide +kernel) rfl
theorem dX11_who_60 : decode cX11_who 60 = .ok (.iload 7, 2) := dc_21 (show ((cX11_who.data.toList.drop 60).take 2).map UInt8.toNat = [21, 7] by decide +kernel) rfl
theorem dX11_who_62 : decode cX11_who 62 = .ok (.if_icmp .ge 62, 3) := dc_162 (show ((cX11_who.data.toList.drop 62).take 3).map UInt8.toNat = [162, 0, 62] by decide +kernel) rfl
theorem dX11_who_124 : decode cX11_who 124 = .ok (.iconst (-1), 1) := dc_2 (show ((cX11_who.data.toList.drop 124).take 1).map UInt8.toNat = [2] by decide +kernel)
theorem dX11_who_125 : decode cX11_who 125 = .ok (.ireturn, 1) := dc_172 (show ((cX11_who.data.toList.drop 125).take 1).map UInt8.toNat = [172] by decide +kernel)
theorem dX11_who_65 : decode cX11_who 65 = .ok (.aload 6, 2) := dc_25 (show ((cX11_who.data.toList.drop 65).take 2).map UInt8.toNat = [25, 6] by decide +kernel) rfl
theorem dX11_who_67 : decode cX11_who 67 = .ok (.iload 8, 2) := dc_21 (show ((cX11_who.data.toList.drop 67).take 2).map UInt8.toNat = [21, 8] by decide +kernel) rfl
theorem dX11_who_69 : decode cX11_who 69 = .ok (.invokevirtual 268, 3) := dc_182 (show ((cX11_who.data.toList.drop 69).take 3).map UInt8.toNat = [182, 1, 12] by decide +kernel) rfl
theorem w_866 : (Cond.methodLink "GooseBorder" (268 : Nat) ({ cls := "GooseBorder$Night", name := "kind", desc := "(I)I" } : MethodName)) ∈ gb_wA := gb_t4 146 rfl rfl
theorem dX11_who_72 : decode cX11_who 72 = .ok (.ifCond .ne 46, 3) := dc_154 (show ((cX11_who.data.toList.drop 72).take 3).map UInt8.toNat = [154, 0, 46] by decide +kernel) rfl
theorem dX11_who_118 : decode cX11_who 118 = .ok (.iinc 8 1, 3) := dc_132 (show ((cX11_who.data.toList.drop 118).take 3).map UInt8.toNat = [132, 8, 1] by decide +kernel) rfl
theorem dX11_who_121 : decode cX11_who 121 = .ok (.goto (-63), 3) := dc_167 (show ((cX11_who.data.toList.drop 121).take 3).map UInt8.toNat = [167, 255, 193] by decide +kernel) rfl
theorem dX11_who_75 : decode cX11_who 75 = .ok (.aload 6, 2) := dc_25 (show ((cX11_who.data.toList.drop 75).take 2).map UInt8.toNat = [25, 6] by decide +kernel) rfl
theorem dX11_who_77 : decode cX11_who 77 = .ok (.iload 8, 2) := dc_21 (show ((cX11_who.data.toList.drop 77).take 2).map UInt8.toNat = [21, 8] by decide +kernel) rfl
theorem dX11_who_79 : decode cX11_who 79 = .ok (.iconst 2, 1) := dc_5 (show ((cX11_who.data.toList.drop 79).take 1).map UInt8.toNat = [5] by decide +kernel)
theorem dX11_who_80 : decode cX11_who 80 = .ok (.invokevirtual 271, 3) := dc_182 (show ((cX11_who.data.toList.drop 80).take 3).map UInt8.toNat = [182, 1, 15] by decide +kernel) rfl
theorem w_867 : (Cond.methodLink "GooseBorder" (271 : Nat) ({ cls := "GooseBorder$Night", name := "cell", desc := "(II)I" } : MethodName)) ∈ gb_wA := gb_t4 147 rfl rfl
theorem dX11_who_83 : decode cX11_who 83 = .ok (.iload_n 3, 1) := dc_29 (show ((cX11_who.data.toList.drop 83).take 1).map UInt8.toNat = [29] by decide +kernel)
theorem dX11_who_84 : decode cX11_who 84 = .ok (.if_icmp .ne 34, 3) := dc_160 (show ((cX11_who.data.toList.drop 84).take 3).map UInt8.toNat = [160, 0, 34] by decide +kernel) rfl
theorem dX11_who_87 : decode cX11_who 87 = .ok (.aload_n 0, 1) := dc_42 (show ((cX11_who.data.toList.drop 87).take 1).map UInt8.toNat = [42] by decide +kernel)
theorem dX11_who_88 : decode cX11_who 88 = .ok (.getfield 56, 3) := dc_180 (show ((cX11_who.data.toList.drop 88).take 3).map UInt8.toNat = [180, 0, 56] by decide +kernel) rfl
theorem dX11_who_91 : decode cX11_who 91 = .ok (.aload 5, 2) := dc_25 (show ((cX11_who.data.toList.drop 91).take 2).map UInt8.toNat = [25, 5] by decide +kernel) rfl
theorem dX11_who_93 : decode cX11_who 93 = .ok (.aload 6, 2) := dc_25 (show ((cX11_who.data.toList.drop 93).take 2).map UInt8.toNat = [25, 6] by decide +kernel) rfl
theorem dX11_who_95 : decode cX11_who 95 = .ok (.iload 7, 2) := dc_21 (show ((cX11_who.data.toList.drop 95).take 2).map UInt8.toNat = [21, 7] by decide +kernel) rfl
theorem dX11_who_97 : decode cX11_who 97 = .ok (.iload 8, 2) := dc_21 (show ((cX11_who.data.toList.drop 97).take 2).map UInt8.toNat = [21, 8] by decide +kernel) rfl
theorem dX11_who_99 : decode cX11_who 99 = .ok (.invokevirtual 252, 3) := dc_182 (show ((cX11_who.data.toList.drop 99).take 3).map UInt8.toNat = [182, 0, 252] by decide +kernel) rfl
theorem dX11_who_102 : decode cX11_who 102 = .ok (.aload_n 0, 1) := dc_42 (show ((cX11_who.data.toList.drop 102).take 1).map UInt8.toNat = [42] by decide +kernel)
theorem dX11_who_103 : decode cX11_who 103 = .ok (.getfield 56, 3) := dc_180 (show ((cX11_who.data.toList.drop 103).take 3).map UInt8.toNat = [180, 0, 56] by decide +kernel) rfl
theorem dX11_who_106 : decode cX11_who 106 = .ok (.iload_n 3, 1) := dc_29 (show ((cX11_who.data.toList.drop 106).take 1).map UInt8.toNat = [29] by decide +kernel)
theorem dX11_who_107 : decode cX11_who 107 = .ok (.invokevirtual 223, 3) := dc_182 (show ((cX11_who.data.toList.drop 107).take 3).map UInt8.toNat = [182, 0, 223] by decide +kernel) rfl
theorem dX11_who_110 : decode cX11_who 110 = .ok (.iload 4, 2) := dc_21 (show ((cX11_who.data.toList.drop 110).take 2).map UInt8.toNat = [21, 4] by decide +kernel) rfl
theorem dX11_who_112 : decode cX11_who 112 = .ok (.if_icmp .ne 6, 3) := dc_160 (show ((cX11_who.data.toList.drop 112).take 3).map UInt8.toNat = [160, 0, 6] by decide +kernel) rfl
theorem dX11_who_115 : decode cX11_who 115 = .ok (.iload 8, 2) := dc_21 (show ((cX11_who.data.toList.drop 115).take 2).map UInt8.toNat = [21, 8] by decide +kernel) rfl
theorem dX11_who_117 : decode cX11_who 117 = .ok (.ireturn, 1) := dc_172 (show ((cX11_who.data.toList.drop 117).take 1).map UInt8.toNat = [172] by decide +kernel)
def cs_Face_who_58 (n : Nat) : Nat → gb_S → Int32 → Int32 → Nat → Nat → Int32 → Int32 → gb_CR Int32
  | 0, _, _, _, _, _, _, _ => none
  | mm + 1, σ, v3, v4, v5, v6, v7, v8 => gb_kk (gb_kB v5) (gb_kk (gb_kN v6) ((if v7 ≤ v8 then some (σ, (-1)) else gb_cd (cs_Lines_kind_N n σ v6 v8) (fun s_33 r_34 => (if r_34 = 0 then gb_cd (cs_Lines_cell_N n s_33 v6 v8 2) (fun s_39 r_40 => (if r_40 = v3 then gb_cd (cs_Play_run_B_N n s_39 v5 v6 v7 v8) (fun s_45 _ => gb_cd (cs_Play_tally n s_45 v3) (fun s_49 r_50 => (if r_50 = v4 then some (s_49, v8) else gb_lt (v8 + 1) (fun x_54 => cs_Face_who_58 n mm s_49 v3 v4 v5 v6 v7 x_54)))) else gb_lt (v8 + 1) (fun x_44 => cs_Face_who_58 n mm s_39 v3 v4 v5 v6 v7 x_44))) else gb_lt (v8 + 1) (fun x_38 => cs_Face_who_58 n mm s_33 v3 v4 v5 v6 v7 x_38))))))
def cs_Face_who (n : Nat) (σ : gb_S) (p1 : Int32) (p2 : Int32) (p3 : Int32) (p4 : Int32) : gb_CR Int32 := gb_cd (cs_Face_borderAt n σ p1) (fun s_1 r_2 => (if r_2 = 0 then gb_cd (cs_Face_nightAt n s_1 p2) (fun s_6 r_7 => (if r_7 = 0 then some (s_6, (-1)) else gb_kk (gb_kN r_7) (some (s_6, (-1))))) else gb_kk (gb_kB r_2) (gb_cd (cs_Face_nightAt n s_1 p2) (fun s_13 r_14 => (if r_14 = 0 then some (s_13, (-1)) else gb_kk (gb_kN r_14) (gb_cd (cs_Border_hasPath_B n s_13 r_2 p3) (fun s_19 r_20 => (if r_20 = 0 then some (s_19, (-1)) else gb_cd (cs_Face_playedOut_B_N n s_19 r_2 r_14) (fun s_24 r_25 => (if r_25 = 0 then some (s_24, (-1)) else gb_lt (s_24.1 109 11) (fun x_29 => cs_Face_who_58 n n s_24 p3 p4 r_2 r_14 x_29 0)))))))))))
set_option maxHeartbeats 8000000 in
set_option maxRecDepth 100000 in
theorem cc_Face_who (l : Launch) (D : va_G) (cT : Nat → ClassId) (tt : Nat → Nat) (b1 b : Nat) (hb1 : b1 ≤ b) (n : Nat) (σ : gb_S) (p1 : Int32) (p2 : Int32) (p3 : Int32) (p4 : Int32) (σE : gb_S) (rE : Int32) (h : cs_Face_who n σ p1 p2 p3 p4 = some (σE, rE)) : Met l yX11_who (.code yX11_who cX11_who 9 (some FieldType.int) :: gb_wA) ({ frames := 6, cells := 0, slots := 0, locals := 147 }) (gb_Pc D cT tt b1 [.ref (b + 0), .int p1, .int p2, .int p3, .int p4] (fun h => va_P D vwCl (gb_wl b (gb_CW cT b σ)) h)) (gb_Qi (fun r h => r = rE ∧ va_P D vwCl (gb_wl b (gb_CW cT b σE)) h) (gb_fr b 135)) 0 0 (gb_fr b 135) := by
  refine Met.ofW (cc := cX11_who) (maxL := 9) (ret := (some FieldType.int)) (by decide) rfl ?_
  intro p e s m args below meth c s₁ B hml hv
  obtain ⟨rfl, hSt, hP⟩ := hv
  have hx := B.exec
  have hb := B.bytes
  have hr := B.returns
  have hts := atoms_spec (ws := .code yX11_who cX11_who 9 (some FieldType.int) :: gb_wA) B.pre
  have hq : ∀ w ∈ gb_wA, w.before _ s = true := fun w h => hts w (List.mem_cons_of_mem _ h)
  have hown : s.vm.findClass RX11 = some m.cls := findClass_of_methodNamed B.named
  have hlocks := B.notSynchronized
  clear B hts
  have hK := hSt.1
  have hS : va_S (gb_fr b 135) s.heap s.heap [] := va_S.rf
  have hl := lv_entry ([.ref (b + 0), .int p1, .int p2, .int p3, .int p4]) (n := 9) (Nat.le_of_ble_eq_true rfl)
  rw [lg_entry_eq]
  generalize (lg_sl ([.ref (b + 0), .int p1, .int p2, .int p3, .int p4]) ++ List.replicate (9 - (lg_sl ([.ref (b + 0), .int p1, .int p2, .int p3, .int p4])).length) Slot.unset).toArray = ls at hl ⊢
  replace hl : lv_has ls 9 [(0, .ref (b + 0)), (1, .int p1), (2, .int p2), (3, .int p3), (4, .int p4)] := hl
  have L58_1 : ∀ (mm : Nat) (σ : gb_S) (v3 : Int32) (v4 : Int32) (v5 : Nat) (v6 : Nat) (v7 : Int32) (v8 : Int32) (H : Heap) (locs : List Loc) (ls : Array Slot), cs_Face_who_58 n mm σ v3 v4 v5 v6 v7 v8 = some (σE, rE) → va_P D vwCl (gb_wl b (gb_CW cT b σ)) H → va_S (gb_fr b 135) s.heap H locs → lv_has ls 9 [(0, .ref (b + 0)), (3, .int v3), (4, .int v4), (5, .ref (b + v5)), (6, .ref (b + v6)), (7, .int v7), (8, .int v8)] → W p l e (headSpec (.code yX11_who cX11_who 9 (some FieldType.int) :: gb_wA) ({ frames := 6, cells := 0, slots := 0, locals := 147 })).room s m ([.ref (b + 0), .int p1, .int p2, .int p3, .int p4]).toArray below meth c H locs 0 0 (MQ below (gb_Qi (fun r h => r = rE ∧ va_P D vwCl (gb_wl b (gb_CW cT b σE)) h) (gb_fr b 135)) ([.ref (b + 0), .int p1, .int p2, .int p3, .int p4]).toArray s 0 0 (gb_fr b 135)) (F0 m 58 ls []) := by
    clear h hP hS hl ls
    intro mm
    induction mm with
    | zero =>
      intro σ v3 v4 v5 v6 v7 v8 H locs ls h
      cases h
    | succ mm ih =>
      intro σ v3 v4 v5 v6 v7 v8 H locs ls h hP hS hl
      rw [cs_Face_who_58] at h
      obtain ⟨z_30, h⟩ := gb_kk_s h
      obtain ⟨z_31, h⟩ := gb_kk_s h
      refine lv_iload hx hb dX11_who_58 (lv_at hl 6 rfl) ?_
      refine lv_iload hx hb dX11_who_60 (lv_at hl 5 rfl) ?_
      refine lv_icmp_ge (tgt := 124) hx hb dX11_who_62 (by decide) (fun c_32 => ?_) (fun c_32 => ?_)
      · rw [if_pos c_32] at h
        refine lv_iconst (v := (-1)) hx hb dX11_who_124 (by decide) ?_
        obtain ⟨e1, e2⟩ := gb_eq2 h
        exact W.iret (v := (-1)) hx hb hr (fun t ht hW => gb_ri ht ⟨e2, by rw [← e1]; exact hP⟩ hS) hS.2.2 dX11_who_125
      · rw [if_neg c_32] at h
        refine lv_aload hx hb dX11_who_65 (lv_at hl 4 rfl) ?_
        refine lv_iload hx hb dX11_who_67 (lv_at hl 6 rfl) ?_
        obtain ⟨s_33, r_34, z_35, h⟩ := gb_cd_s h
        refine gb_calli (va_runU (x := ⟨"GooseBorder$Night", "kind", "(I)I"⟩) (C := RX5) (owner := "GooseBorder$Lines") (As := [.int v8]) (rest := []) ⟨hx, hb, hml, hown, hq⟩ (cc_Lines_kind_N l D cT tt b1 b hb1 n σ v6 v8 s_33 r_34 z_35) (va_cwU (owner := "GooseBorder$Lines") (C := RX5) 1 hq (gb_gU w_866 w_727 w_728 w_689 w_6 w_690) rfl rfl rfl rfl (by decide +kernel) ⟨Nat.le_of_ble_eq_true rfl, Nat.le_of_ble_eq_true rfl⟩) (gb_preV (r := (RX5, TX5, 4)) (ci := 4) (q0 := v6) hSt hP rfl (gb_at b (gb_cN z_31).1) hS (fun q h => Nat.le_trans hb1 h.1) hP) rfl rfl hl.1 rfl (lv_room (Nat.le_of_ble_eq_true rfl)) dX11_who_69 ⟨Nat.le_of_ble_eq_true rfl, Nat.le_of_ble_eq_true rfl⟩) hS (fun _ h => h) (fun _ h => h) (fun q_36 H locs hY hk hS => ?_)
        obtain ⟨hq_36, hP⟩ := hY
        replace hq_36 := hq_36.symm
        subst hq_36
        refine lv_if_ne (tgt := 118) hx hb dX11_who_72 (by decide) (fun c_37 => ?_) (fun c_37 => ?_)
        · rw [if_neg c_37] at h
          obtain ⟨x_38, ex_38⟩ : ∃ q, q = (v8 + 1) := ⟨_, rfl⟩
          replace h := gb_lt_s ex_38 h
          refine lv_iinc (v := x_38) (lv' := [(8, .int x_38), (0, .ref (b + 0)), (3, .int v3), (4, .int v4), (5, .ref (b + v5)), (6, .ref (b + v6)), (7, .int v7)]) hx hb dX11_who_118 hl (k := 6) rfl (by rw [ex_38]; rfl) (by decide) rfl (fun ls hl => ?_)
          refine lv_goto (tgt := 58) hx hb dX11_who_121 (by decide) ?_
          exact ih _ _ _ _ _ _ _ _ _ _ h hP hS (lv_sub hl [1, 2, 3, 4, 5, 6, 0] rfl)
        · rw [if_pos c_37] at h
          refine lv_aload hx hb dX11_who_75 (lv_at hl 4 rfl) ?_
          refine lv_iload hx hb dX11_who_77 (lv_at hl 6 rfl) ?_
          refine lv_iconst (v := 2) hx hb dX11_who_79 (by decide) ?_
          obtain ⟨s_39, r_40, z_41, h⟩ := gb_cd_s h
          refine gb_calli (va_runU (x := ⟨"GooseBorder$Night", "cell", "(II)I"⟩) (C := RX5) (owner := "GooseBorder$Lines") (As := [.int v8, .int 2]) (rest := []) ⟨hx, hb, hml, hown, hq⟩ (cc_Lines_cell_N l D cT tt b1 b hb1 n s_33 v6 v8 2 s_39 r_40 z_41) (va_cwU (owner := "GooseBorder$Lines") (C := RX5) 2 hq (gb_gU w_867 w_724 w_725 w_546 w_6 w_547) rfl rfl rfl rfl (by decide +kernel) ⟨Nat.le_of_ble_eq_true rfl, Nat.le_of_ble_eq_true rfl⟩) (gb_preV (r := (RX5, TX5, 4)) (ci := 4) (q0 := v6) hSt hP rfl (gb_at b (gb_cN z_31).1) hS (fun q h => Nat.le_trans hb1 h.1) hP) rfl rfl hl.1 rfl (lv_room (Nat.le_of_ble_eq_true rfl)) dX11_who_80 ⟨Nat.le_of_ble_eq_true rfl, Nat.le_of_ble_eq_true rfl⟩) hS (fun _ h => h) (fun _ h => h) (fun q_42 H locs hY hk hS => ?_)
          obtain ⟨hq_42, hP⟩ := hY
          replace hq_42 := hq_42.symm
          subst hq_42
          refine lv_iload_n hx hb dX11_who_83 rfl (lv_at hl 1 rfl) ?_
          refine lv_icmp_ne (tgt := 118) hx hb dX11_who_84 (by decide) (fun c_43 => ?_) (fun c_43 => ?_)
          · rw [if_neg c_43] at h
            obtain ⟨x_44, ex_44⟩ : ∃ q, q = (v8 + 1) := ⟨_, rfl⟩
            replace h := gb_lt_s ex_44 h
            refine lv_iinc (v := x_44) (lv' := [(8, .int x_44), (0, .ref (b + 0)), (3, .int v3), (4, .int v4), (5, .ref (b + v5)), (6, .ref (b + v6)), (7, .int v7)]) hx hb dX11_who_118 hl (k := 6) rfl (by rw [ex_44]; rfl) (by decide) rfl (fun ls hl => ?_)
            refine lv_goto (tgt := 58) hx hb dX11_who_121 (by decide) ?_
            exact ih _ _ _ _ _ _ _ _ _ _ h hP hS (lv_sub hl [1, 2, 3, 4, 5, 6, 0] rfl)
          · rw [if_pos c_43] at h
            refine lv_aload_n hx hb dX11_who_87 rfl (lv_at hl 0 rfl) ?_
            refine va_get (ci := 9) (v := (.ref (b + 109))) (C := RX11) (T := TX11) (N := 10) hx hb hq i_X11 hown hK hP 0 (gb_at b rfl) rfl 6 (by decide) (hq _ w_321) (fun _ h9 => h9) rfl dX11_who_88 ?_
            refine lv_aload hx hb dX11_who_91 (lv_at hl 3 rfl) ?_
            refine lv_aload hx hb dX11_who_93 (lv_at hl 4 rfl) ?_
            refine lv_iload hx hb dX11_who_95 (lv_at hl 5 rfl) ?_
            refine lv_iload hx hb dX11_who_97 (lv_at hl 6 rfl) ?_
            obtain ⟨s_45, r_46, z_47, h⟩ := gb_cd_s h
            refine gb_callv (va_runV (C := RX6) (As := [.ref (b + v5), .ref (b + v6), .int v7, .int v8]) (rest := []) ⟨hx, hb, hml, hown, hq⟩ (cc_Play_run_B_N l D cT tt b1 b hb1 n s_39 v5 v6 v7 v8 s_45 r_46 z_47) (cwV 4 hq (gb_gV w_704 w_705 w_706 w_11 w_707) rfl rfl rfl (by decide +kernel) ⟨Nat.le_of_ble_eq_true rfl, Nat.le_of_ble_eq_true rfl⟩) (gb_preV (r := (RX6, TX6, 12)) (ci := 5) (q0 := 109) hSt hP rfl (gb_at b rfl) hS (fun q h => Nat.le_trans hb1 h.1) hP) rfl rfl hl.1 rfl (lv_room (Nat.le_of_ble_eq_true rfl)) dX11_who_99 ⟨Nat.le_of_ble_eq_true rfl, Nat.le_of_ble_eq_true rfl⟩) hS (fun _ h => h) (fun _ h => h) (fun H locs hY hk hS => ?_)
            have hP := hY
            refine lv_aload_n hx hb dX11_who_102 rfl (lv_at hl 0 rfl) ?_
            refine va_get (ci := 9) (v := (.ref (b + 109))) (C := RX11) (T := TX11) (N := 10) hx hb hq i_X11 hown hK hP 0 (gb_at b rfl) rfl 6 (by decide) (hq _ w_321) (fun _ h9 => h9) rfl dX11_who_103 ?_
            refine lv_iload_n hx hb dX11_who_106 rfl (lv_at hl 1 rfl) ?_
            obtain ⟨s_49, r_50, z_51, h⟩ := gb_cd_s h
            refine gb_calli (va_runV (C := RX6) (As := [.int v3]) (rest := []) ⟨hx, hb, hml, hown, hq⟩ (cc_Play_tally l D cT tt b1 b hb1 n s_45 v3 s_49 r_50 z_51) (cwV 1 hq (gb_gV w_771 w_772 w_773 w_11 w_774) rfl rfl rfl (by decide +kernel) ⟨Nat.le_of_ble_eq_true rfl, Nat.le_of_ble_eq_true rfl⟩) (gb_preV (r := (RX6, TX6, 12)) (ci := 5) (q0 := 109) hSt hP rfl (gb_at b rfl) hS (fun q h => Nat.le_trans hb1 h.1) hP) rfl rfl hl.1 rfl (lv_room (Nat.le_of_ble_eq_true rfl)) dX11_who_107 ⟨Nat.le_of_ble_eq_true rfl, Nat.le_of_ble_eq_true rfl⟩) hS (fun _ h => h) (fun _ h => h) (fun q_52 H locs hY hk hS => ?_)
            obtain ⟨hq_52, hP⟩ := hY
            replace hq_52 := hq_52.symm
            subst hq_52
            refine lv_iload hx hb dX11_who_110 (lv_at hl 2 rfl) ?_
            refine lv_icmp_ne (tgt := 118) hx hb dX11_who_112 (by decide) (fun c_53 => ?_) (fun c_53 => ?_)
            · rw [if_neg c_53] at h
              obtain ⟨x_54, ex_54⟩ : ∃ q, q = (v8 + 1) := ⟨_, rfl⟩
              replace h := gb_lt_s ex_54 h
              refine lv_iinc (v := x_54) (lv' := [(8, .int x_54), (0, .ref (b + 0)), (3, .int v3), (4, .int v4), (5, .ref (b + v5)), (6, .ref (b + v6)), (7, .int v7)]) hx hb dX11_who_118 hl (k := 6) rfl (by rw [ex_54]; rfl) (by decide) rfl (fun ls hl => ?_)
              refine lv_goto (tgt := 58) hx hb dX11_who_121 (by decide) ?_
              exact ih _ _ _ _ _ _ _ _ _ _ h hP hS (lv_sub hl [1, 2, 3, 4, 5, 6, 0] rfl)
            · rw [if_pos c_53] at h
              refine lv_iload hx hb dX11_who_115 (lv_at hl 6 rfl) ?_
              obtain ⟨e1, e2⟩ := gb_eq2 h
              exact W.iret (v := v8) hx hb hr (fun t ht hW => gb_ri ht ⟨e2, by rw [← e1]; exact hP⟩ hS) hS.2.2 dX11_who_117
  unfold cs_Face_who at h
  refine lv_aload_n hx hb dX11_who_0 rfl (lv_at hl 0 rfl) ?_
  refine lv_iload_n hx hb dX11_who_1 rfl (lv_at hl 1 rfl) ?_
  obtain ⟨s_1, r_2, z_3, h⟩ := gb_cd_s h
  refine gb_callq (va_runV (C := RX11) (As := [.int p1]) (rest := []) ⟨hx, hb, hml, hown, hq⟩ (cc_Face_borderAt l D cT tt b1 b hb1 n σ p1 s_1 r_2 z_3) (cwV 1 hq (gb_gV w_593 w_595 s_1_7 w_1 w_596) rfl rfl rfl (by decide +kernel) ⟨Nat.le_of_ble_eq_true rfl, Nat.le_of_ble_eq_true rfl⟩) (gb_preV (r := (RX11, TX11, 10)) (ci := 9) (q0 := 0) hSt hP rfl (gb_at b rfl) hS (fun q h => Nat.le_trans hb1 h.1) hP) rfl rfl hl.1 rfl (lv_room (Nat.le_of_ble_eq_true rfl)) dX11_who_2 ⟨Nat.le_of_ble_eq_true rfl, Nat.le_of_ble_eq_true rfl⟩) hS (fun _ h => h) (fun _ h => h) (fun q_4 H locs hY hk hS => ?_)
  obtain ⟨hq_4, hP⟩ := hY
  subst hq_4
  rw [gb_onv]
  by_cases c_5 : r_2 = 0
  · rw [if_pos c_5] at h
    rw [gb_nv0 c_5]
    refine lv_astoreN (lv' := [(5, .null), (0, .ref (b + 0)), (1, .int p1), (2, .int p2), (3, .int p3), (4, .int p4)]) hx hb dX11_who_5 hl (by decide) rfl (fun ls hl => ?_)
    refine lv_aload_n hx hb dX11_who_7 rfl (lv_at hl 1 rfl) ?_
    refine lv_iload_n hx hb dX11_who_8 rfl (lv_at hl 3 rfl) ?_
    obtain ⟨s_6, r_7, z_8, h⟩ := gb_cd_s h
    refine gb_callq (va_runV (C := RX11) (As := [.int p2]) (rest := []) ⟨hx, hb, hml, hown, hq⟩ (cc_Face_nightAt l D cT tt b1 b hb1 n s_1 p2 s_6 r_7 z_8) (cwV 1 hq (gb_gV w_646 w_648 s_1_8 w_1 w_649) rfl rfl rfl (by decide +kernel) ⟨Nat.le_of_ble_eq_true rfl, Nat.le_of_ble_eq_true rfl⟩) (gb_preV (r := (RX11, TX11, 10)) (ci := 9) (q0 := 0) hSt hP rfl (gb_at b rfl) hS (fun q h => Nat.le_trans hb1 h.1) hP) rfl rfl hl.1 rfl (lv_room (Nat.le_of_ble_eq_true rfl)) dX11_who_9 ⟨Nat.le_of_ble_eq_true rfl, Nat.le_of_ble_eq_true rfl⟩) hS (fun _ h => h) (fun _ h => h) (fun q_9 H locs hY hk hS => ?_)
    obtain ⟨hq_9, hP⟩ := hY
    subst hq_9
    rw [gb_onv]
    by_cases c_10 : r_7 = 0
    · rw [if_pos c_10] at h
      rw [gb_nv0 c_10]
      refine lv_astoreN (lv' := [(6, .null), (5, .null), (0, .ref (b + 0)), (1, .int p1), (2, .int p2), (3, .int p3), (4, .int p4)]) hx hb dX11_who_12 hl (by decide) rfl (fun ls hl => ?_)
      refine lv_aloadN hx hb dX11_who_14 (lv_at hl 1 rfl) ?_
      refine lv_ifnullN (tgt := 44) hx hb dX11_who_16 (by decide) ?_
      refine lv_iconst (v := (-1)) hx hb dX11_who_44 (by decide) ?_
      obtain ⟨e1, e2⟩ := gb_eq2 h
      exact W.iret (v := (-1)) hx hb hr (fun t ht hW => gb_ri ht ⟨e2, by rw [← e1]; exact hP⟩ hS) hS.2.2 dX11_who_45
    rw [if_neg c_10] at h
    rw [gb_nv1 c_10]
    obtain ⟨z_11, h⟩ := gb_kk_s h
    refine lv_astore (lv' := [(6, .ref (b + r_7)), (5, .null), (0, .ref (b + 0)), (1, .int p1), (2, .int p2), (3, .int p3), (4, .int p4)]) hx hb dX11_who_12 hl (by decide) rfl (fun ls hl => ?_)
    refine lv_aloadN hx hb dX11_who_14 (lv_at hl 1 rfl) ?_
    refine lv_ifnullN (tgt := 44) hx hb dX11_who_16 (by decide) ?_
    refine lv_iconst (v := (-1)) hx hb dX11_who_44 (by decide) ?_
    obtain ⟨e1, e2⟩ := gb_eq2 h
    exact W.iret (v := (-1)) hx hb hr (fun t ht hW => gb_ri ht ⟨e2, by rw [← e1]; exact hP⟩ hS) hS.2.2 dX11_who_45
  rw [if_neg c_5] at h
  rw [gb_nv1 c_5]
  obtain ⟨z_12, h⟩ := gb_kk_s h
  refine lv_astore (lv' := [(5, .ref (b + r_2)), (0, .ref (b + 0)), (1, .int p1), (2, .int p2), (3, .int p3), (4, .int p4)]) hx hb dX11_who_5 hl (by decide) rfl (fun ls hl => ?_)
  refine lv_aload_n hx hb dX11_who_7 rfl (lv_at hl 1 rfl) ?_
  refine lv_iload_n hx hb dX11_who_8 rfl (lv_at hl 3 rfl) ?_
  obtain ⟨s_13, r_14, z_15, h⟩ := gb_cd_s h
  refine gb_callq (va_runV (C := RX11) (As := [.int p2]) (rest := []) ⟨hx, hb, hml, hown, hq⟩ (cc_Face_nightAt l D cT tt b1 b hb1 n s_1 p2 s_13 r_14 z_15) (cwV 1 hq (gb_gV w_646 w_648 s_1_8 w_1 w_649) rfl rfl rfl (by decide +kernel) ⟨Nat.le_of_ble_eq_true rfl, Nat.le_of_ble_eq_true rfl⟩) (gb_preV (r := (RX11, TX11, 10)) (ci := 9) (q0 := 0) hSt hP rfl (gb_at b rfl) hS (fun q h => Nat.le_trans hb1 h.1) hP) rfl rfl hl.1 rfl (lv_room (Nat.le_of_ble_eq_true rfl)) dX11_who_9 ⟨Nat.le_of_ble_eq_true rfl, Nat.le_of_ble_eq_true rfl⟩) hS (fun _ h => h) (fun _ h => h) (fun q_16 H locs hY hk hS => ?_)
  obtain ⟨hq_16, hP⟩ := hY
  subst hq_16
  rw [gb_onv]
  by_cases c_17 : r_14 = 0
  · rw [if_pos c_17] at h
    rw [gb_nv0 c_17]
    refine lv_astoreN (lv' := [(6, .null), (5, .ref (b + r_2)), (0, .ref (b + 0)), (1, .int p1), (2, .int p2), (3, .int p3), (4, .int p4)]) hx hb dX11_who_12 hl (by decide) rfl (fun ls hl => ?_)
    refine lv_aload hx hb dX11_who_14 (lv_at hl 1 rfl) ?_
    refine lv_ifnull hx hb dX11_who_16 ?_
    refine lv_aloadN hx hb dX11_who_19 (lv_at hl 0 rfl) ?_
    refine lv_ifnullN (tgt := 44) hx hb dX11_who_21 (by decide) ?_
    refine lv_iconst (v := (-1)) hx hb dX11_who_44 (by decide) ?_
    obtain ⟨e1, e2⟩ := gb_eq2 h
    exact W.iret (v := (-1)) hx hb hr (fun t ht hW => gb_ri ht ⟨e2, by rw [← e1]; exact hP⟩ hS) hS.2.2 dX11_who_45
  rw [if_neg c_17] at h
  rw [gb_nv1 c_17]
  obtain ⟨z_18, h⟩ := gb_kk_s h
  refine lv_astore (lv' := [(6, .ref (b + r_14)), (5, .ref (b + r_2)), (0, .ref (b + 0)), (1, .int p1), (2, .int p2), (3, .int p3), (4, .int p4)]) hx hb dX11_who_12 hl (by decide) rfl (fun ls hl => ?_)
  refine lv_aload hx hb dX11_who_14 (lv_at hl 1 rfl) ?_
  refine lv_ifnull hx hb dX11_who_16 ?_
  refine lv_aload hx hb dX11_who_19 (lv_at hl 0 rfl) ?_
  refine lv_ifnull hx hb dX11_who_21 ?_
  refine lv_aload hx hb dX11_who_24 (lv_at hl 1 rfl) ?_
  refine lv_iload_n hx hb dX11_who_26 rfl (lv_at hl 5 rfl) ?_
  obtain ⟨s_19, r_20, z_21, h⟩ := gb_cd_s h
  refine gb_calli (va_runV (C := RX0) (As := [.int p3]) (rest := []) ⟨hx, hb, hml, hown, hq⟩ (cc_Border_hasPath_B l D cT tt b1 b hb1 n s_13 r_2 p3 s_19 r_20 z_21) (cwV 1 hq (gb_gV w_620 w_608 w_609 w_4 w_610) rfl rfl rfl (by decide +kernel) ⟨Nat.le_of_ble_eq_true rfl, Nat.le_of_ble_eq_true rfl⟩) (gb_preV (r := (RX0, TX0, 1)) (ci := 0) (q0 := r_2) hSt hP rfl (gb_at b (gb_cB z_12).1) hS (fun q h => Nat.le_trans hb1 h.1) hP) rfl rfl hl.1 rfl (lv_room (Nat.le_of_ble_eq_true rfl)) dX11_who_27 ⟨Nat.le_of_ble_eq_true rfl, Nat.le_of_ble_eq_true rfl⟩) hS (fun _ h => h) (fun _ h => h) (fun q_22 H locs hY hk hS => ?_)
  obtain ⟨hq_22, hP⟩ := hY
  replace hq_22 := hq_22.symm
  subst hq_22
  refine lv_if_eq (tgt := 44) hx hb dX11_who_30 (by decide) (fun c_23 => ?_) (fun c_23 => ?_)
  · rw [if_pos c_23] at h
    refine lv_iconst (v := (-1)) hx hb dX11_who_44 (by decide) ?_
    obtain ⟨e1, e2⟩ := gb_eq2 h
    exact W.iret (v := (-1)) hx hb hr (fun t ht hW => gb_ri ht ⟨e2, by rw [← e1]; exact hP⟩ hS) hS.2.2 dX11_who_45
  · rw [if_neg c_23] at h
    refine lv_aload_n hx hb dX11_who_33 rfl (lv_at hl 2 rfl) ?_
    refine lv_aload hx hb dX11_who_34 (lv_at hl 1 rfl) ?_
    refine lv_aload hx hb dX11_who_36 (lv_at hl 0 rfl) ?_
    obtain ⟨s_24, r_25, z_26, h⟩ := gb_cd_s h
    refine gb_calli (va_runV (C := RX11) (As := [.ref (b + r_2), .ref (b + r_14)]) (rest := []) ⟨hx, hb, hml, hown, hq⟩ (cc_Face_playedOut_B_N l D cT tt b1 b hb1 n s_19 r_2 r_14 s_24 r_25 z_26) (cwV 2 hq (gb_gV w_697 w_699 s_1_11 w_1 w_700) rfl rfl rfl (by decide +kernel) ⟨Nat.le_of_ble_eq_true rfl, Nat.le_of_ble_eq_true rfl⟩) (gb_preV (r := (RX11, TX11, 10)) (ci := 9) (q0 := 0) hSt hP rfl (gb_at b rfl) hS (fun q h => Nat.le_trans hb1 h.1) hP) rfl rfl hl.1 rfl (lv_room (Nat.le_of_ble_eq_true rfl)) dX11_who_38 ⟨Nat.le_of_ble_eq_true rfl, Nat.le_of_ble_eq_true rfl⟩) hS (fun _ h => h) (fun _ h => h) (fun q_27 H locs hY hk hS => ?_)
    obtain ⟨hq_27, hP⟩ := hY
    replace hq_27 := hq_27.symm
    subst hq_27
    refine lv_if_ne (tgt := 46) hx hb dX11_who_41 (by decide) (fun c_28 => ?_) (fun c_28 => ?_)
    · rw [if_neg c_28] at h
      refine lv_aload_n hx hb dX11_who_46 rfl (lv_at hl 2 rfl) ?_
      refine va_get (ci := 9) (v := (.ref (b + 109))) (C := RX11) (T := TX11) (N := 10) hx hb hq i_X11 hown hK hP 0 (gb_at b rfl) rfl 6 (by decide) (hq _ w_321) (fun _ h9 => h9) rfl dX11_who_47 ?_
      refine va_get (ci := 5) (v := (.int (s_24.1 109 11))) (C := RX6) (T := TX6) (N := 12) hx hb hq i_X6 hown hK hP 109 (gb_at b rfl) rfl 11 (by decide) (hq _ w_217) (fun _ h9 => h9) rfl dX11_who_50 ?_
      refine lv_topi (fun x_29 ex_29 => ?_)
      replace h := gb_lt_s ex_29 h
      refine lv_istore (lv' := [(7, .int x_29), (6, .ref (b + r_14)), (5, .ref (b + r_2)), (0, .ref (b + 0)), (1, .int p1), (2, .int p2), (3, .int p3), (4, .int p4)]) hx hb dX11_who_53 hl (by decide) rfl (fun ls hl => ?_)
      refine lv_iconst (v := 0) hx hb dX11_who_55 (by decide) ?_
      refine lv_istore (lv' := [(8, .int 0), (7, .int x_29), (6, .ref (b + r_14)), (5, .ref (b + r_2)), (0, .ref (b + 0)), (1, .int p1), (2, .int p2), (3, .int p3), (4, .int p4)]) hx hb dX11_who_56 hl (by decide) rfl (fun ls hl => ?_)
      exact L58_1 n _ _ _ _ _ _ _ _ _ _ h hP hS (lv_sub hl [4, 7, 8, 3, 2, 1, 0] rfl)
    · rw [if_pos c_28] at h
      refine lv_iconst (v := (-1)) hx hb dX11_who_44 (by decide) ?_
      obtain ⟨e1, e2⟩ := gb_eq2 h
      exact W.iret (v := (-1)) hx hb hr (fun t ht hW => gb_ri ht ⟨e2, by rw [← e1]; exact hP⟩ hS) hS.2.2 dX11_who_45
theorem dX11_shift_0 : decode cX11_shift 0 = .ok (.aload_n 0, 1) := dc_42 (show ((cX11_shift.data.toList.drop 0).take 1).map UInt8.toNat = [42] by decide +kernel)
theorem dX11_shift_1 : decode cX11_shift 1 = .ok (.iload_n 1, 1) := dc_27 (show ((cX11_shift.data.toList.drop 1).take 1).map UInt8.toNat = [27] by decide +kernel)
theorem dX11_shift_2 : decode cX11_shift 2 = .ok (.invokevirtual 113, 3) := dc_182 (show ((cX11_shift.data.toList.drop 2).take 3).map UInt8.toNat = [182, 0, 113] by decide +kernel) rfl
theorem dX11_shift_5 : decode cX11_shift 5 = .ok (.astore 4, 2) := dc_58 (show ((cX11_shift.data.toList.drop 5).take 2).map UInt8.toNat = [58, 4] by decide +kernel) rfl
theorem dX11_shift_7 : decode cX11_shift 7 = .ok (.aload_n 0, 1) := dc_42 (show ((cX11_shift.data.toList.drop 7).take 1).map UInt8.toNat = [42] by decide +kernel)
theorem dX11_shift_8 : decode cX11_shift 8 = .ok (.iload_n 2, 1) := dc_28 (show ((cX11_shift.data.toList.drop 8).take 1).map UInt8.toNat = [28] by decide +kernel)
theorem dX11_shift_9 : decode cX11_shift 9 = .ok (.invokevirtual 148, 3) := dc_182 (show ((cX11_shift.data.toList.drop 9).take 3).map UInt8.toNat = [182, 0, 148] by decide +kernel) rfl
theorem dX11_shift_12 : decode cX11_shift 12 = .ok (.astore 5, 2) := dc_58 (show ((cX11_shift.data.toList.drop 12).take 2).map UInt8.toNat = [58, 5] by decide +kernel) rfl
theorem dX11_shift_14 : decode cX11_shift 14 = .ok (.aload 4, 2) := dc_25 (show ((cX11_shift.data.toList.drop 14).take 2).map UInt8.toNat = [25, 4] by decide +kernel) rfl
theorem dX11_shift_16 : decode cX11_shift 16 = .ok (.ifnull 19, 3) := dc_198 (show ((cX11_shift.data.toList.drop 16).take 3).map UInt8.toNat = [198, 0, 19] by decide +kernel) rfl
theorem dX11_shift_35 : decode cX11_shift 35 = .ok (.iconst (-1), 1) := dc_2 (show ((cX11_shift.data.toList.drop 35).take 1).map UInt8.toNat = [2] by decide +kernel)
theorem dX11_shift_36 : decode cX11_shift 36 = .ok (.ireturn, 1) := dc_172 (show ((cX11_shift.data.toList.drop 36).take 1).map UInt8.toNat = [172] by decide +kernel)
theorem dX11_shift_19 : decode cX11_shift 19 = .ok (.aload 5, 2) := dc_25 (show ((cX11_shift.data.toList.drop 19).take 2).map UInt8.toNat = [25, 5] by decide +kernel) rfl
theorem dX11_shift_21 : decode cX11_shift 21 = .ok (.ifnull 14, 3) := dc_198 (show ((cX11_shift.data.toList.drop 21).take 3).map UInt8.toNat = [198, 0, 14] by decide +kernel) rfl
theorem dX11_shift_24 : decode cX11_shift 24 = .ok (.aload_n 0, 1) := dc_42 (show ((cX11_shift.data.toList.drop 24).take 1).map UInt8.toNat = [42] by decide +kernel)
theorem dX11_shift_25 : decode cX11_shift 25 = .ok (.aload 4, 2) := dc_25 (show ((cX11_shift.data.toList.drop 25).take 2).map UInt8.toNat = [25, 4] by decide +kernel) rfl
theorem dX11_shift_27 : decode cX11_shift 27 = .ok (.aload 5, 2) := dc_25 (show ((cX11_shift.data.toList.drop 27).take 2).map UInt8.toNat = [25, 5] by decide +kernel) rfl
theorem dX11_shift_29 : decode cX11_shift 29 = .ok (.invokevirtual 195, 3) := dc_182 (show ((cX11_shift.data.toList.drop 29).take 3).map UInt8.toNat = [182, 0, 195] by decide +kernel) rfl
theorem dX11_shift_32 : decode cX11_shift 32 = .ok (.ifCond .ne 5, 3) := dc_154 (show ((cX11_shift.data.toList.drop 32).take 3).map UInt8.toNat = [154, 0, 5] by decide +kernel) rfl
theorem dX11_shift_37 : decode cX11_shift 37 = .ok (.aload_n 0, 1) := dc_42 (show ((cX11_shift.data.toList.drop 37).take 1).map UInt8.toNat = [42] by decide +kernel)
theorem dX11_shift_38 : decode cX11_shift 38 = .ok (.getfield 56, 3) := dc_180 (show ((cX11_shift.data.toList.drop 38).take 3).map UInt8.toNat = [180, 0, 56] by decide +kernel) rfl
theorem dX11_shift_41 : decode cX11_shift 41 = .ok (.getfield 199, 3) := dc_180 (show ((cX11_shift.data.toList.drop 41).take 3).map UInt8.toNat = [180, 0, 199] by decide +kernel) rfl
theorem dX11_shift_44 : decode cX11_shift 44 = .ok (.istore 6, 2) := dc_54 (show ((cX11_shift.data.toList.drop 44).take 2).map UInt8.toNat = [54, 6] by decide +kernel) rfl
theorem dX11_shift_46 : decode cX11_shift 46 = .ok (.aload_n 0, 1) := dc_42 (show ((cX11_shift.data.toList.drop 46).take 1).map UInt8.toNat = [42] by decide +kernel)
theorem dX11_shift_47 : decode cX11_shift 47 = .ok (.getfield 56, 3) := dc_180 (show ((cX11_shift.data.toList.drop 47).take 3).map UInt8.toNat = [180, 0, 56] by decide +kernel) rfl
theorem dX11_shift_50 : decode cX11_shift 50 = .ok (.invokevirtual 244, 3) := dc_182 (show ((cX11_shift.data.toList.drop 50).take 3).map UInt8.toNat = [182, 0, 244] by decide +kernel) rfl
theorem dX11_shift_53 : decode cX11_shift 53 = .ok (.istore 7, 2) := dc_54 (show ((cX11_shift.data.toList.drop 53).take 2).map UInt8.toNat = [54, 7] by decide +kernel) rfl
theorem dX11_shift_55 : decode cX11_shift 55 = .ok (.iconst (-1), 1) := dc_2 (show ((cX11_shift.data.toList.drop 55).take 1).map UInt8.toNat = [2] by decide +kernel)
theorem dX11_shift_56 : decode cX11_shift 56 = .ok (.istore 8, 2) := dc_54 (show ((cX11_shift.data.toList.drop 56).take 2).map UInt8.toNat = [54, 8] by decide +kernel) rfl
theorem dX11_shift_58 : decode cX11_shift 58 = .ok (.iconst 0, 1) := dc_3 (show ((cX11_shift.data.toList.drop 58).take 1).map UInt8.toNat = [3] by decide +kernel)
theorem dX11_shift_59 : decode cX11_shift 59 = .ok (.istore 9, 2) := dc_54 (show ((cX11_shift.data.toList.drop 59).take 2).map UInt8.toNat = [54, 9] by decide +kernel) rfl
theorem dX11_shift_61 : decode cX11_shift 61 = .ok (.iload 9, 2) := dc_21 (show ((cX11_shift.data.toList.drop 61).take 2).map UInt8.toNat = [21, 9] by decide +kernel) rfl
theorem dX11_shift_63 : decode cX11_shift 63 = .ok (.iconst 1, 1) := dc_4 (show ((cX11_shift.data.toList.drop 63).take 1).map UInt8.toNat = [4] by decide +kernel)
theorem dX11_shift_64 : decode cX11_shift 64 = .ok (.iadd, 1) := dc_96 (show ((cX11_shift.data.toList.drop 64).take 1).map UInt8.toNat = [96] by decide +kernel)
theorem dX11_shift_65 : decode cX11_shift 65 = .ok (.iload 6, 2) := dc_21 (show ((cX11_shift.data.toList.drop 65).take 2).map UInt8.toNat = [21, 6] by decide +kernel) rfl
theorem dX11_shift_67 : decode cX11_shift 67 = .ok (.if_icmp .ge 85, 3) := dc_162 (show ((cX11_shift.data.toList.drop 67).take 3).map UInt8.toNat = [162, 0, 85] by decide +kernel) rfl
theorem dX11_shift_152 : decode cX11_shift 152 = .ok (.iload_n 3, 1) := dc_29 (show ((cX11_shift.data.toList.drop 152).take 1).map UInt8.toNat = [29] by decide +kernel)
theorem dX11_shift_153 : decode cX11_shift 153 = .ok (.ifCond .eq 14, 3) := dc_153 (show ((cX11_shift.data.toList.drop 153).take 3).map UInt8.toNat = [153, 0, 14] by decide +kernel) rfl
theorem dX11_shift_167 : decode cX11_shift 167 = .ok (.iload 8, 2) := dc_21 (show ((cX11_shift.data.toList.drop 167).take 2).map UInt8.toNat = [21, 8] by decide +kernel) rfl
theorem dX11_shift_169 : decode cX11_shift 169 = .ok (.ireturn, 1) := dc_172 (show ((cX11_shift.data.toList.drop 169).take 1).map UInt8.toNat = [172] by decide +kernel)
theorem dX11_shift_156 : decode cX11_shift 156 = .ok (.iload 8, 2) := dc_21 (show ((cX11_shift.data.toList.drop 156).take 2).map UInt8.toNat = [21, 8] by decide +kernel) rfl
theorem dX11_shift_158 : decode cX11_shift 158 = .ok (.iconst (-1), 1) := dc_2 (show ((cX11_shift.data.toList.drop 158).take 1).map UInt8.toNat = [2] by decide +kernel)
theorem dX11_shift_159 : decode cX11_shift 159 = .ok (.if_icmp .eq 8, 3) := dc_159 (show ((cX11_shift.data.toList.drop 159).take 3).map UInt8.toNat = [159, 0, 8] by decide +kernel) rfl
theorem dX11_shift_162 : decode cX11_shift 162 = .ok (.iload 7, 2) := dc_21 (show ((cX11_shift.data.toList.drop 162).take 2).map UInt8.toNat = [21, 7] by decide +kernel) rfl
theorem dX11_shift_164 : decode cX11_shift 164 = .ok (.goto 5, 3) := dc_167 (show ((cX11_shift.data.toList.drop 164).take 3).map UInt8.toNat = [167, 0, 5] by decide +kernel) rfl
theorem dX11_shift_70 : decode cX11_shift 70 = .ok (.aload_n 0, 1) := dc_42 (show ((cX11_shift.data.toList.drop 70).take 1).map UInt8.toNat = [42] by decide +kernel)
theorem dX11_shift_71 : decode cX11_shift 71 = .ok (.getfield 42, 3) := dc_180 (show ((cX11_shift.data.toList.drop 71).take 3).map UInt8.toNat = [180, 0, 42] by decide +kernel) rfl
theorem dX11_shift_74 : decode cX11_shift 74 = .ok (.aload 5, 2) := dc_25 (show ((cX11_shift.data.toList.drop 74).take 2).map UInt8.toNat = [25, 5] by decide +kernel) rfl
theorem dX11_shift_76 : decode cX11_shift 76 = .ok (.invokevirtual 272, 3) := dc_182 (show ((cX11_shift.data.toList.drop 76).take 3).map UInt8.toNat = [182, 1, 16] by decide +kernel) rfl
theorem w_872 : (Cond.methodLink "GooseBorder" (272 : Nat) ({ cls := "GooseBorder$Night", name := "copyFrom", desc := "(LGooseBorder$Sheet;)V" } : MethodName)) ∈ gb_wA := gb_t4 152 rfl rfl
theorem w_873 : (Cond.sameMethod "GooseBorder$Night" "GooseBorder$Sheet" "copyFrom" "(LGooseBorder$Sheet;)V") ∈ gb_wA := gb_t4 153 rfl rfl
theorem w_875 : (Cond.selects "GooseBorder$Night" ({ cls := "GooseBorder$Night", name := "copyFrom", desc := "(LGooseBorder$Sheet;)V" } : MethodName) ({ cls := "GooseBorder$Sheet", name := "copyFrom", desc := "(LGooseBorder$Sheet;)V" } : MethodName)) ∈ gb_wA := gb_t4 155 rfl rfl
theorem dX11_shift_79 : decode cX11_shift 79 = .ok (.aload_n 0, 1) := dc_42 (show ((cX11_shift.data.toList.drop 79).take 1).map UInt8.toNat = [42] by decide +kernel)
theorem dX11_shift_80 : decode cX11_shift 80 = .ok (.getfield 42, 3) := dc_180 (show ((cX11_shift.data.toList.drop 80).take 3).map UInt8.toNat = [180, 0, 42] by decide +kernel) rfl
theorem dX11_shift_83 : decode cX11_shift 83 = .ok (.iload 9, 2) := dc_21 (show ((cX11_shift.data.toList.drop 83).take 2).map UInt8.toNat = [21, 9] by decide +kernel) rfl
theorem dX11_shift_85 : decode cX11_shift 85 = .ok (.invokevirtual 273, 3) := dc_182 (show ((cX11_shift.data.toList.drop 85).take 3).map UInt8.toNat = [182, 1, 17] by decide +kernel) rfl
theorem dX5_changeWithNext_0 : decode cX5_changeWithNext 0 = .ok (.iload_n 1, 1) := dc_27 (show ((cX5_changeWithNext.data.toList.drop 0).take 1).map UInt8.toNat = [27] by decide +kernel)
theorem dX5_changeWithNext_1 : decode cX5_changeWithNext 1 = .ok (.ifCond .lt 13, 3) := dc_155 (show ((cX5_changeWithNext.data.toList.drop 1).take 3).map UInt8.toNat = [155, 0, 13] by decide +kernel) rfl
theorem dX5_changeWithNext_14 : decode cX5_changeWithNext 14 = .ok (.return_, 1) := dc_177 (show ((cX5_changeWithNext.data.toList.drop 14).take 1).map UInt8.toNat = [177] by decide +kernel)
theorem dX5_changeWithNext_4 : decode cX5_changeWithNext 4 = .ok (.iload_n 1, 1) := dc_27 (show ((cX5_changeWithNext.data.toList.drop 4).take 1).map UInt8.toNat = [27] by decide +kernel)
theorem dX5_changeWithNext_5 : decode cX5_changeWithNext 5 = .ok (.iconst 1, 1) := dc_4 (show ((cX5_changeWithNext.data.toList.drop 5).take 1).map UInt8.toNat = [4] by decide +kernel)
theorem dX5_changeWithNext_6 : decode cX5_changeWithNext 6 = .ok (.iadd, 1) := dc_96 (show ((cX5_changeWithNext.data.toList.drop 6).take 1).map UInt8.toNat = [96] by decide +kernel)
theorem dX5_changeWithNext_7 : decode cX5_changeWithNext 7 = .ok (.aload_n 0, 1) := dc_42 (show ((cX5_changeWithNext.data.toList.drop 7).take 1).map UInt8.toNat = [42] by decide +kernel)
theorem dX5_changeWithNext_8 : decode cX5_changeWithNext 8 = .ok (.invokevirtual 13, 3) := dc_182 (show ((cX5_changeWithNext.data.toList.drop 8).take 3).map UInt8.toNat = [182, 0, 13] by decide +kernel) rfl
def cs_Lines_size (n : Nat) (σ : gb_S) : gb_CR Int32 := gb_lt ((σ.1 105) (Int32.toNatClampNeg 0)) (fun x_1 => some (σ, x_1))
set_option maxHeartbeats 8000000 in
set_option maxRecDepth 100000 in
theorem cc_Lines_size (l : Launch) (D : va_G) (cT : Nat → ClassId) (tt : Nat → Nat) (b1 b : Nat) (hb1 : b1 ≤ b) (n : Nat) (σ : gb_S) (σE : gb_S) (rE : Int32) (h : cs_Lines_size n σ = some (σE, rE)) : Met l yX4_size (.code yX4_size cX4_size 1 (some FieldType.int) :: gb_wA) ({ frames := 0, cells := 0, slots := 0, locals := 0 }) (gb_Pc D cT tt b1 [.ref (b + 104)] (fun h => va_P D vwCl (gb_wl b (gb_CW cT b σ)) h)) (gb_Qi (fun r h => r = rE ∧ va_P D vwCl (gb_wl b (gb_CW cT b σE)) h) (gb_fr b 135)) 0 0 (gb_fr b 135) := by
  refine Met.ofW (cc := cX4_size) (maxL := 1) (ret := (some FieldType.int)) (by decide) rfl ?_
  intro p e s m args below meth c s₁ B hml hv
  obtain ⟨rfl, hSt, hP⟩ := hv
  have hx := B.exec
  have hb := B.bytes
  have hr := B.returns
  have hts := atoms_spec (ws := .code yX4_size cX4_size 1 (some FieldType.int) :: gb_wA) B.pre
  have hq : ∀ w ∈ gb_wA, w.before _ s = true := fun w h => hts w (List.mem_cons_of_mem _ h)
  have hown : s.vm.findClass RX4 = some m.cls := findClass_of_methodNamed B.named
  have hlocks := B.notSynchronized
  clear B hts
  have hK := hSt.1
  have hS : va_S (gb_fr b 135) s.heap s.heap [] := va_S.rf
  have hl := lv_entry ([.ref (b + 104)]) (n := 1) (Nat.le_of_ble_eq_true rfl)
  rw [lg_entry_eq]
  generalize (lg_sl ([.ref (b + 104)]) ++ List.replicate (1 - (lg_sl ([.ref (b + 104)])).length) Slot.unset).toArray = ls at hl ⊢
  replace hl : lv_has ls 1 [(0, .ref (b + 104))] := hl
  unfold cs_Lines_size at h
  refine lv_aload_n hx hb dX4_size_0 rfl (lv_at hl 0 rfl) ?_
  refine va_get (ci := 4) (v := (.ref (b + 105))) (C := RX5) (T := TX5) (N := 4) hx hb hq i_X5 hown hK hP 104 (gb_at b rfl) rfl 3 (by decide) (hq _ w_52) (fun x9 h9 => u_same (hq _ w_53) x9 h9) rfl dX4_size_1 ?_
  refine lv_iconst (v := 0) hx hb dX4_size_4 (by decide) ?_
  refine va_iald hx hb hK hP 105 0 (gb_at b rfl) rfl (gb_in rfl) dX4_size_5 ?_
  refine lv_topi (fun x_1 ex_1 => ?_)
  replace h := gb_lt_s ex_1 h
  obtain ⟨e1, e2⟩ := gb_eq2 h
  exact W.iret (v := x_1) hx hb hr (fun t ht hW => gb_ri ht ⟨e2, by rw [← e1]; exact hP⟩ hS) hS.2.2 dX4_size_6
theorem w_880 : (Cond.methodLink "GooseBorder$Night" (13 : Nat) ({ cls := "GooseBorder$Night", name := "size", desc := "()I" } : MethodName)) ∈ gb_wA := gb_t4 160 rfl rfl
theorem dX5_changeWithNext_11 : decode cX5_changeWithNext 11 = .ok (.if_icmp .lt 4, 3) := dc_161 (show ((cX5_changeWithNext.data.toList.drop 11).take 3).map UInt8.toNat = [161, 0, 4] by decide +kernel) rfl
theorem dX5_changeWithNext_15 : decode cX5_changeWithNext 15 = .ok (.aload_n 0, 1) := dc_42 (show ((cX5_changeWithNext.data.toList.drop 15).take 1).map UInt8.toNat = [42] by decide +kernel)
theorem dX5_changeWithNext_16 : decode cX5_changeWithNext 16 = .ok (.getfield 19, 3) := dc_180 (show ((cX5_changeWithNext.data.toList.drop 16).take 3).map UInt8.toNat = [180, 0, 19] by decide +kernel) rfl
theorem w_75 : (Cond.sameField "GooseBorder$Night" "GooseBorder$Lines" "numbers" "I") ∈ gb_wA := gb_t1 75 rfl rfl
theorem w_74 : (Cond.fieldLink "GooseBorder$Night" (19 : Nat) "GooseBorder$Night" "numbers" "I") ∈ gb_wA := gb_t1 74 rfl rfl
theorem dX5_changeWithNext_19 : decode cX5_changeWithNext 19 = .ok (.iconst 1, 1) := dc_4 (show ((cX5_changeWithNext.data.toList.drop 19).take 1).map UInt8.toNat = [4] by decide +kernel)
theorem dX5_changeWithNext_20 : decode cX5_changeWithNext 20 = .ok (.iadd, 1) := dc_96 (show ((cX5_changeWithNext.data.toList.drop 20).take 1).map UInt8.toNat = [96] by decide +kernel)
theorem dX5_changeWithNext_21 : decode cX5_changeWithNext 21 = .ok (.istore_n 2, 1) := dc_61 (show ((cX5_changeWithNext.data.toList.drop 21).take 1).map UInt8.toNat = [61] by decide +kernel)
theorem dX5_changeWithNext_22 : decode cX5_changeWithNext 22 = .ok (.iconst 1, 1) := dc_4 (show ((cX5_changeWithNext.data.toList.drop 22).take 1).map UInt8.toNat = [4] by decide +kernel)
theorem dX5_changeWithNext_23 : decode cX5_changeWithNext 23 = .ok (.iload_n 1, 1) := dc_27 (show ((cX5_changeWithNext.data.toList.drop 23).take 1).map UInt8.toNat = [27] by decide +kernel)
theorem dX5_changeWithNext_24 : decode cX5_changeWithNext 24 = .ok (.iload_n 2, 1) := dc_28 (show ((cX5_changeWithNext.data.toList.drop 24).take 1).map UInt8.toNat = [28] by decide +kernel)
theorem dX5_changeWithNext_25 : decode cX5_changeWithNext 25 = .ok (.imul, 1) := dc_104 (show ((cX5_changeWithNext.data.toList.drop 25).take 1).map UInt8.toNat = [104] by decide +kernel)
theorem dX5_changeWithNext_26 : decode cX5_changeWithNext 26 = .ok (.iadd, 1) := dc_96 (show ((cX5_changeWithNext.data.toList.drop 26).take 1).map UInt8.toNat = [96] by decide +kernel)
theorem dX5_changeWithNext_27 : decode cX5_changeWithNext 27 = .ok (.istore_n 3, 1) := dc_62 (show ((cX5_changeWithNext.data.toList.drop 27).take 1).map UInt8.toNat = [62] by decide +kernel)
theorem dX5_changeWithNext_28 : decode cX5_changeWithNext 28 = .ok (.iconst 0, 1) := dc_3 (show ((cX5_changeWithNext.data.toList.drop 28).take 1).map UInt8.toNat = [3] by decide +kernel)
theorem dX5_changeWithNext_29 : decode cX5_changeWithNext 29 = .ok (.istore 4, 2) := dc_54 (show ((cX5_changeWithNext.data.toList.drop 29).take 2).map UInt8.toNat = [54, 4] by decide +kernel) rfl
theorem dX5_changeWithNext_31 : decode cX5_changeWithNext 31 = .ok (.iload 4, 2) := dc_21 (show ((cX5_changeWithNext.data.toList.drop 31).take 2).map UInt8.toNat = [21, 4] by decide +kernel) rfl
theorem dX5_changeWithNext_33 : decode cX5_changeWithNext 33 = .ok (.iload_n 2, 1) := dc_28 (show ((cX5_changeWithNext.data.toList.drop 33).take 1).map UInt8.toNat = [28] by decide +kernel)
theorem dX5_changeWithNext_34 : decode cX5_changeWithNext 34 = .ok (.if_icmp .ge 53, 3) := dc_162 (show ((cX5_changeWithNext.data.toList.drop 34).take 3).map UInt8.toNat = [162, 0, 53] by decide +kernel) rfl
theorem dX5_changeWithNext_87 : decode cX5_changeWithNext 87 = .ok (.return_, 1) := dc_177 (show ((cX5_changeWithNext.data.toList.drop 87).take 1).map UInt8.toNat = [177] by decide +kernel)
theorem dX5_changeWithNext_37 : decode cX5_changeWithNext 37 = .ok (.aload_n 0, 1) := dc_42 (show ((cX5_changeWithNext.data.toList.drop 37).take 1).map UInt8.toNat = [42] by decide +kernel)
theorem dX5_changeWithNext_38 : decode cX5_changeWithNext 38 = .ok (.getfield 23, 3) := dc_180 (show ((cX5_changeWithNext.data.toList.drop 38).take 3).map UInt8.toNat = [180, 0, 23] by decide +kernel) rfl
theorem w_55 : (Cond.sameField "GooseBorder$Night" "GooseBorder$Sheet" "cells" "[I") ∈ gb_wA := gb_t1 55 rfl rfl
theorem w_54 : (Cond.fieldLink "GooseBorder$Night" (23 : Nat) "GooseBorder$Night" "cells" "[I") ∈ gb_wA := gb_t1 54 rfl rfl
theorem dX5_changeWithNext_41 : decode cX5_changeWithNext 41 = .ok (.iload_n 3, 1) := dc_29 (show ((cX5_changeWithNext.data.toList.drop 41).take 1).map UInt8.toNat = [29] by decide +kernel)
theorem dX5_changeWithNext_42 : decode cX5_changeWithNext 42 = .ok (.iload 4, 2) := dc_21 (show ((cX5_changeWithNext.data.toList.drop 42).take 2).map UInt8.toNat = [21, 4] by decide +kernel) rfl
theorem dX5_changeWithNext_44 : decode cX5_changeWithNext 44 = .ok (.iadd, 1) := dc_96 (show ((cX5_changeWithNext.data.toList.drop 44).take 1).map UInt8.toNat = [96] by decide +kernel)
theorem dX5_changeWithNext_45 : decode cX5_changeWithNext 45 = .ok (.iaload, 1) := dc_46 (show ((cX5_changeWithNext.data.toList.drop 45).take 1).map UInt8.toNat = [46] by decide +kernel)
theorem dX5_changeWithNext_46 : decode cX5_changeWithNext 46 = .ok (.istore 5, 2) := dc_54 (show ((cX5_changeWithNext.data.toList.drop 46).take 2).map UInt8.toNat = [54, 5] by decide +kernel) rfl
theorem dX5_changeWithNext_48 : decode cX5_changeWithNext 48 = .ok (.aload_n 0, 1) := dc_42 (show ((cX5_changeWithNext.data.toList.drop 48).take 1).map UInt8.toNat = [42] by decide +kernel)
theorem dX5_changeWithNext_49 : decode cX5_changeWithNext 49 = .ok (.getfield 23, 3) := dc_180 (show ((cX5_changeWithNext.data.toList.drop 49).take 3).map UInt8.toNat = [180, 0, 23] by decide +kernel) rfl
theorem dX5_changeWithNext_52 : decode cX5_changeWithNext 52 = .ok (.iload_n 3, 1) := dc_29 (show ((cX5_changeWithNext.data.toList.drop 52).take 1).map UInt8.toNat = [29] by decide +kernel)
theorem dX5_changeWithNext_53 : decode cX5_changeWithNext 53 = .ok (.iload 4, 2) := dc_21 (show ((cX5_changeWithNext.data.toList.drop 53).take 2).map UInt8.toNat = [21, 4] by decide +kernel) rfl
theorem dX5_changeWithNext_55 : decode cX5_changeWithNext 55 = .ok (.iadd, 1) := dc_96 (show ((cX5_changeWithNext.data.toList.drop 55).take 1).map UInt8.toNat = [96] by decide +kernel)
theorem dX5_changeWithNext_56 : decode cX5_changeWithNext 56 = .ok (.aload_n 0, 1) := dc_42 (show ((cX5_changeWithNext.data.toList.drop 56).take 1).map UInt8.toNat = [42] by decide +kernel)
theorem dX5_changeWithNext_57 : decode cX5_changeWithNext 57 = .ok (.getfield 23, 3) := dc_180 (show ((cX5_changeWithNext.data.toList.drop 57).take 3).map UInt8.toNat = [180, 0, 23] by decide +kernel) rfl
theorem dX5_changeWithNext_60 : decode cX5_changeWithNext 60 = .ok (.iload_n 3, 1) := dc_29 (show ((cX5_changeWithNext.data.toList.drop 60).take 1).map UInt8.toNat = [29] by decide +kernel)
theorem dX5_changeWithNext_61 : decode cX5_changeWithNext 61 = .ok (.iload_n 2, 1) := dc_28 (show ((cX5_changeWithNext.data.toList.drop 61).take 1).map UInt8.toNat = [28] by decide +kernel)
theorem dX5_changeWithNext_62 : decode cX5_changeWithNext 62 = .ok (.iadd, 1) := dc_96 (show ((cX5_changeWithNext.data.toList.drop 62).take 1).map UInt8.toNat = [96] by decide +kernel)
theorem dX5_changeWithNext_63 : decode cX5_changeWithNext 63 = .ok (.iload 4, 2) := dc_21 (show ((cX5_changeWithNext.data.toList.drop 63).take 2).map UInt8.toNat = [21, 4] by decide +kernel) rfl
theorem dX5_changeWithNext_65 : decode cX5_changeWithNext 65 = .ok (.iadd, 1) := dc_96 (show ((cX5_changeWithNext.data.toList.drop 65).take 1).map UInt8.toNat = [96] by decide +kernel)
theorem dX5_changeWithNext_66 : decode cX5_changeWithNext 66 = .ok (.iaload, 1) := dc_46 (show ((cX5_changeWithNext.data.toList.drop 66).take 1).map UInt8.toNat = [46] by decide +kernel)
theorem dX5_changeWithNext_67 : decode cX5_changeWithNext 67 = .ok (.iastore, 1) := dc_79 (show ((cX5_changeWithNext.data.toList.drop 67).take 1).map UInt8.toNat = [79] by decide +kernel)
theorem dX5_changeWithNext_68 : decode cX5_changeWithNext 68 = .ok (.aload_n 0, 1) := dc_42 (show ((cX5_changeWithNext.data.toList.drop 68).take 1).map UInt8.toNat = [42] by decide +kernel)
theorem dX5_changeWithNext_69 : decode cX5_changeWithNext 69 = .ok (.getfield 23, 3) := dc_180 (show ((cX5_changeWithNext.data.toList.drop 69).take 3).map UInt8.toNat = [180, 0, 23] by decide +kernel) rfl
theorem dX5_changeWithNext_72 : decode cX5_changeWithNext 72 = .ok (.iload_n 3, 1) := dc_29 (show ((cX5_changeWithNext.data.toList.drop 72).take 1).map UInt8.toNat = [29] by decide +kernel)
theorem dX5_changeWithNext_73 : decode cX5_changeWithNext 73 = .ok (.iload_n 2, 1) := dc_28 (show ((cX5_changeWithNext.data.toList.drop 73).take 1).map UInt8.toNat = [28] by decide +kernel)
theorem dX5_changeWithNext_74 : decode cX5_changeWithNext 74 = .ok (.iadd, 1) := dc_96 (show ((cX5_changeWithNext.data.toList.drop 74).take 1).map UInt8.toNat = [96] by decide +kernel)
theorem dX5_changeWithNext_75 : decode cX5_changeWithNext 75 = .ok (.iload 4, 2) := dc_21 (show ((cX5_changeWithNext.data.toList.drop 75).take 2).map UInt8.toNat = [21, 4] by decide +kernel) rfl
theorem dX5_changeWithNext_77 : decode cX5_changeWithNext 77 = .ok (.iadd, 1) := dc_96 (show ((cX5_changeWithNext.data.toList.drop 77).take 1).map UInt8.toNat = [96] by decide +kernel)
theorem dX5_changeWithNext_78 : decode cX5_changeWithNext 78 = .ok (.iload 5, 2) := dc_21 (show ((cX5_changeWithNext.data.toList.drop 78).take 2).map UInt8.toNat = [21, 5] by decide +kernel) rfl
theorem dX5_changeWithNext_80 : decode cX5_changeWithNext 80 = .ok (.iastore, 1) := dc_79 (show ((cX5_changeWithNext.data.toList.drop 80).take 1).map UInt8.toNat = [79] by decide +kernel)
theorem dX5_changeWithNext_81 : decode cX5_changeWithNext 81 = .ok (.iinc 4 1, 3) := dc_132 (show ((cX5_changeWithNext.data.toList.drop 81).take 3).map UInt8.toNat = [132, 4, 1] by decide +kernel) rfl
theorem dX5_changeWithNext_84 : decode cX5_changeWithNext 84 = .ok (.goto (-53), 3) := dc_167 (show ((cX5_changeWithNext.data.toList.drop 84).take 3).map UInt8.toNat = [167, 255, 203] by decide +kernel) rfl
def cs_Night_changeWithNext_31 (n : Nat) : Nat → gb_S → Int32 → Int32 → Int32 → gb_CR Unit
  | 0, _, _, _, _ => none
  | mm + 1, σ, v2, v3, v4 => (if v2 ≤ v4 then some (σ, ()) else gb_ck (v3 + v4) 97 (gb_lt ((σ.1 105) (Int32.toNatClampNeg (v3 + v4))) (fun x_11 => gb_ck ((v3 + v2) + v4) 97 (gb_lt ((σ.1 105) (Int32.toNatClampNeg ((v3 + v2) + v4))) (fun x_13 => gb_ck (v3 + v4) 97 (gb_lt (gb_su σ 105 (upd (σ.1 105) (Int32.toNatClampNeg (v3 + v4)) x_13)) (fun s_15 => gb_ck ((v3 + v2) + v4) 97 (gb_lt (gb_su s_15 105 (upd (s_15.1 105) (Int32.toNatClampNeg ((v3 + v2) + v4)) x_11)) (fun s_17 => gb_lt (v4 + 1) (fun x_18 => cs_Night_changeWithNext_31 n mm s_17 v2 v3 x_18))))))))))
def cs_Night_changeWithNext (n : Nat) (σ : gb_S) (p1 : Int32) : gb_CR Unit := (if p1 < 0 then some (σ, ()) else gb_cd (cs_Lines_size n σ) (fun s_2 r_3 => (if (p1 + 1) < r_3 then gb_lt ((3 : Int32) + 1) (fun x_7 => gb_lt ((1 : Int32) + (p1 * x_7)) (fun x_8 => cs_Night_changeWithNext_31 n n s_2 x_7 x_8 0)) else some (s_2, ()))))
set_option maxHeartbeats 8000000 in
set_option maxRecDepth 100000 in
theorem cc_Night_changeWithNext (l : Launch) (D : va_G) (cT : Nat → ClassId) (tt : Nat → Nat) (b1 b : Nat) (hb1 : b1 ≤ b) (n : Nat) (σ : gb_S) (p1 : Int32) (σE : gb_S) (rE : Unit) (h : cs_Night_changeWithNext n σ p1 = some (σE, rE)) : Met l yX5_changeWithNext (.code yX5_changeWithNext cX5_changeWithNext 6 none :: gb_wA) ({ frames := 1, cells := 0, slots := 0, locals := 20 }) (gb_Pc D cT tt b1 [.ref (b + 104), .int p1] (fun h => va_P D vwCl (gb_wl b (gb_CW cT b σ)) h)) (gb_Qv (fun h => va_P D vwCl (gb_wl b (gb_CW cT b σE)) h) (gb_fr b 135)) 0 0 (gb_fr b 135) := by
  refine Met.ofW (cc := cX5_changeWithNext) (maxL := 6) (ret := none) (by decide) rfl ?_
  intro p e s m args below meth c s₁ B hml hv
  obtain ⟨rfl, hSt, hP⟩ := hv
  have hx := B.exec
  have hb := B.bytes
  have hr := B.returns
  have hts := atoms_spec (ws := .code yX5_changeWithNext cX5_changeWithNext 6 none :: gb_wA) B.pre
  have hq : ∀ w ∈ gb_wA, w.before _ s = true := fun w h => hts w (List.mem_cons_of_mem _ h)
  have hown : s.vm.findClass RX5 = some m.cls := findClass_of_methodNamed B.named
  have hlocks := B.notSynchronized
  clear B hts
  have hK := hSt.1
  have hS : va_S (gb_fr b 135) s.heap s.heap [] := va_S.rf
  have hl := lv_entry ([.ref (b + 104), .int p1]) (n := 6) (Nat.le_of_ble_eq_true rfl)
  rw [lg_entry_eq]
  generalize (lg_sl ([.ref (b + 104), .int p1]) ++ List.replicate (6 - (lg_sl ([.ref (b + 104), .int p1])).length) Slot.unset).toArray = ls at hl ⊢
  replace hl : lv_has ls 6 [(0, .ref (b + 104)), (1, .int p1)] := hl
  have L31_1 : ∀ (mm : Nat) (σ : gb_S) (v2 : Int32) (v3 : Int32) (v4 : Int32) (H : Heap) (locs : List Loc) (ls : Array Slot), cs_Night_changeWithNext_31 n mm σ v2 v3 v4 = some (σE, rE) → va_P D vwCl (gb_wl b (gb_CW cT b σ)) H → va_S (gb_fr b 135) s.heap H locs → lv_has ls 6 [(0, .ref (b + 104)), (2, .int v2), (3, .int v3), (4, .int v4)] → W p l e (headSpec (.code yX5_changeWithNext cX5_changeWithNext 6 none :: gb_wA) ({ frames := 1, cells := 0, slots := 0, locals := 20 })).room s m ([.ref (b + 104), .int p1]).toArray below meth c H locs 0 0 (MQ below (gb_Qv (fun h => va_P D vwCl (gb_wl b (gb_CW cT b σE)) h) (gb_fr b 135)) ([.ref (b + 104), .int p1]).toArray s 0 0 (gb_fr b 135)) (F0 m 31 ls []) := by
    clear h hP hS hl ls
    intro mm
    induction mm with
    | zero =>
      intro σ v2 v3 v4 H locs ls h
      cases h
    | succ mm ih =>
      intro σ v2 v3 v4 H locs ls h hP hS hl
      rw [cs_Night_changeWithNext_31] at h
      refine lv_iload hx hb dX5_changeWithNext_31 (lv_at hl 3 rfl) ?_
      refine lv_iload_n hx hb dX5_changeWithNext_33 rfl (lv_at hl 1 rfl) ?_
      refine lv_icmp_ge (tgt := 87) hx hb dX5_changeWithNext_34 (by decide) (fun c_9 => ?_) (fun c_9 => ?_)
      · rw [if_pos c_9] at h
        obtain ⟨e1, -⟩ := gb_eq2 h
        exact W.vret hx hb hr (fun t ht hW => gb_rv ht (by rw [← e1]; exact hP) hS) hS.2.2 dX5_changeWithNext_87
      · rw [if_neg c_9] at h
        refine lv_aload_n hx hb dX5_changeWithNext_37 rfl (lv_at hl 0 rfl) ?_
        refine va_get (ci := 4) (v := (.ref (b + 105))) (C := RX5) (T := TX5) (N := 4) hx hb hq i_X5 hown hK hP 104 (gb_at b rfl) rfl 3 (by decide) (hq _ w_54) (fun x9 h9 => u_same (hq _ w_55) x9 h9) rfl dX5_changeWithNext_38 ?_
        refine lv_iload_n hx hb dX5_changeWithNext_41 rfl (lv_at hl 2 rfl) ?_
        refine lv_iload hx hb dX5_changeWithNext_42 (lv_at hl 3 rfl) ?_
        refine lv_iadd hx hb dX5_changeWithNext_44 ?_
        obtain ⟨z_10, h⟩ := gb_ck_s h
        refine va_iald hx hb hK hP 105 0 (gb_at b rfl) rfl z_10 dX5_changeWithNext_45 ?_
        refine lv_topi (fun x_11 ex_11 => ?_)
        replace h := gb_lt_s ex_11 h
        refine lv_istore (lv' := [(5, .int x_11), (0, .ref (b + 104)), (2, .int v2), (3, .int v3), (4, .int v4)]) hx hb dX5_changeWithNext_46 hl (by decide) rfl (fun ls hl => ?_)
        refine lv_aload_n hx hb dX5_changeWithNext_48 rfl (lv_at hl 1 rfl) ?_
        refine va_get (ci := 4) (v := (.ref (b + 105))) (C := RX5) (T := TX5) (N := 4) hx hb hq i_X5 hown hK hP 104 (gb_at b rfl) rfl 3 (by decide) (hq _ w_54) (fun x9 h9 => u_same (hq _ w_55) x9 h9) rfl dX5_changeWithNext_49 ?_
        refine lv_iload_n hx hb dX5_changeWithNext_52 rfl (lv_at hl 3 rfl) ?_
        refine lv_iload hx hb dX5_changeWithNext_53 (lv_at hl 4 rfl) ?_
        refine lv_iadd hx hb dX5_changeWithNext_55 ?_
        refine lv_aload_n hx hb dX5_changeWithNext_56 rfl (lv_at hl 1 rfl) ?_
        refine va_get (ci := 4) (v := (.ref (b + 105))) (C := RX5) (T := TX5) (N := 4) hx hb hq i_X5 hown hK hP 104 (gb_at b rfl) rfl 3 (by decide) (hq _ w_54) (fun x9 h9 => u_same (hq _ w_55) x9 h9) rfl dX5_changeWithNext_57 ?_
        refine lv_iload_n hx hb dX5_changeWithNext_60 rfl (lv_at hl 3 rfl) ?_
        refine lv_iload_n hx hb dX5_changeWithNext_61 rfl (lv_at hl 2 rfl) ?_
        refine lv_iadd hx hb dX5_changeWithNext_62 ?_
        refine lv_iload hx hb dX5_changeWithNext_63 (lv_at hl 4 rfl) ?_
        refine lv_iadd hx hb dX5_changeWithNext_65 ?_
        obtain ⟨z_12, h⟩ := gb_ck_s h
        refine va_iald hx hb hK hP 105 0 (gb_at b rfl) rfl z_12 dX5_changeWithNext_66 ?_
        refine lv_topi (fun x_13 ex_13 => ?_)
        replace h := gb_lt_s ex_13 h
        obtain ⟨z_14, h⟩ := gb_ck_s h
        refine va_iast (x := x_13) hx hb hK hP (gb_D (fun k h => ⟨Nat.le_add_right b k, Nat.add_lt_add_left h b⟩)) hS 105 0 (gb_at b rfl) rfl z_14 dX5_changeWithNext_67 (fun H locs hP hD hS => ?_)
        rw [gb_set] at hP
        obtain ⟨s_15, es_15⟩ : ∃ q, q = (gb_su σ 105 (upd (σ.1 105) (Int32.toNatClampNeg (v3 + v4)) x_13)) := ⟨_, rfl⟩
        replace hP : va_P D vwCl (gb_wl b (gb_CW cT b s_15)) H := by rw [es_15]; exact hP
        replace h := gb_lt_s es_15 h
        refine lv_aload_n hx hb dX5_changeWithNext_68 rfl (lv_at hl 1 rfl) ?_
        refine va_get (ci := 4) (v := (.ref (b + 105))) (C := RX5) (T := TX5) (N := 4) hx hb hq i_X5 hown hK hP 104 (gb_at b rfl) rfl 3 (by decide) (hq _ w_54) (fun x9 h9 => u_same (hq _ w_55) x9 h9) rfl dX5_changeWithNext_69 ?_
        refine lv_iload_n hx hb dX5_changeWithNext_72 rfl (lv_at hl 3 rfl) ?_
        refine lv_iload_n hx hb dX5_changeWithNext_73 rfl (lv_at hl 2 rfl) ?_
        refine lv_iadd hx hb dX5_changeWithNext_74 ?_
        refine lv_iload hx hb dX5_changeWithNext_75 (lv_at hl 4 rfl) ?_
        refine lv_iadd hx hb dX5_changeWithNext_77 ?_
        refine lv_iload hx hb dX5_changeWithNext_78 (lv_at hl 0 rfl) ?_
        obtain ⟨z_16, h⟩ := gb_ck_s h
        refine va_iast (x := x_11) hx hb hK hP (gb_D (fun k h => ⟨Nat.le_add_right b k, Nat.add_lt_add_left h b⟩)) hS 105 0 (gb_at b rfl) rfl z_16 dX5_changeWithNext_80 (fun H locs hP hD hS => ?_)
        rw [gb_set] at hP
        obtain ⟨s_17, es_17⟩ : ∃ q, q = (gb_su s_15 105 (upd (s_15.1 105) (Int32.toNatClampNeg ((v3 + v2) + v4)) x_11)) := ⟨_, rfl⟩
        replace hP : va_P D vwCl (gb_wl b (gb_CW cT b s_17)) H := by rw [es_17]; exact hP
        replace h := gb_lt_s es_17 h
        obtain ⟨x_18, ex_18⟩ : ∃ q, q = (v4 + 1) := ⟨_, rfl⟩
        replace h := gb_lt_s ex_18 h
        refine lv_iinc (v := x_18) (lv' := [(4, .int x_18), (5, .int x_11), (0, .ref (b + 104)), (2, .int v2), (3, .int v3)]) hx hb dX5_changeWithNext_81 hl (k := 4) rfl (by rw [ex_18]; rfl) (by decide) rfl (fun ls hl => ?_)
        refine lv_goto (tgt := 31) hx hb dX5_changeWithNext_84 (by decide) ?_
        exact ih _ _ _ _ _ _ _ h hP hS (lv_sub hl [2, 3, 4, 0] rfl)
  unfold cs_Night_changeWithNext at h
  refine lv_iload_n hx hb dX5_changeWithNext_0 rfl (lv_at hl 1 rfl) ?_
  refine lv_if_lt (tgt := 14) hx hb dX5_changeWithNext_1 (by decide) (fun c_1 => ?_) (fun c_1 => ?_)
  · rw [if_pos c_1] at h
    obtain ⟨e1, -⟩ := gb_eq2 h
    exact W.vret hx hb hr (fun t ht hW => gb_rv ht (by rw [← e1]; exact hP) hS) hS.2.2 dX5_changeWithNext_14
  · rw [if_neg c_1] at h
    refine lv_iload_n hx hb dX5_changeWithNext_4 rfl (lv_at hl 1 rfl) ?_
    refine lv_iconst (v := 1) hx hb dX5_changeWithNext_5 (by decide) ?_
    refine lv_iadd hx hb dX5_changeWithNext_6 ?_
    refine lv_aload_n hx hb dX5_changeWithNext_7 rfl (lv_at hl 0 rfl) ?_
    obtain ⟨s_2, r_3, z_4, h⟩ := gb_cd_s h
    refine gb_calli (va_runU (x := ⟨"GooseBorder$Night", "size", "()I"⟩) (C := RX5) (owner := "GooseBorder$Lines") (As := []) (rest := [.int (p1 + 1)]) ⟨hx, hb, hml, hown, hq⟩ (cc_Lines_size l D cT tt b1 b hb1 n σ s_2 r_3 z_4) (va_cwU (owner := "GooseBorder$Lines") (C := RX5) 0 hq (gb_gU w_880 w_702 w_703 w_484 w_6 w_489) rfl rfl rfl rfl (by decide +kernel) ⟨Nat.le_of_ble_eq_true rfl, Nat.le_of_ble_eq_true rfl⟩) (gb_preV (r := (RX5, TX5, 4)) (ci := 4) (q0 := 104) hSt hP rfl (gb_at b rfl) hS (fun q h => Nat.le_trans hb1 h.1) hP) rfl rfl hl.1 rfl (lv_room (Nat.le_of_ble_eq_true rfl)) dX5_changeWithNext_8 ⟨Nat.le_of_ble_eq_true rfl, Nat.le_of_ble_eq_true rfl⟩) hS (fun _ h => h) (fun _ h => h) (fun q_5 H locs hY hk hS => ?_)
    obtain ⟨hq_5, hP⟩ := hY
    replace hq_5 := hq_5.symm
    subst hq_5
    refine lv_icmp_lt (tgt := 15) hx hb dX5_changeWithNext_11 (by decide) (fun c_6 => ?_) (fun c_6 => ?_)
    · rw [if_pos c_6] at h
      refine lv_aload_n hx hb dX5_changeWithNext_15 rfl (lv_at hl 0 rfl) ?_
      refine va_get (ci := 4) (v := (.int 3)) (C := RX5) (T := TX5) (N := 4) hx hb hq i_X5 hown hK hP 104 (gb_at b rfl) rfl 1 (by decide) (hq _ w_74) (fun x9 h9 => u_same (hq _ w_75) x9 h9) rfl dX5_changeWithNext_16 ?_
      refine lv_iconst (v := 1) hx hb dX5_changeWithNext_19 (by decide) ?_
      refine lv_iadd hx hb dX5_changeWithNext_20 ?_
      refine lv_topi (fun x_7 ex_7 => ?_)
      replace h := gb_lt_s ex_7 h
      refine lv_istore_n (lv' := [(2, .int x_7), (0, .ref (b + 104)), (1, .int p1)]) hx hb dX5_changeWithNext_21 rfl hl (by decide) rfl (fun ls hl => ?_)
      refine lv_iconst (v := 1) hx hb dX5_changeWithNext_22 (by decide) ?_
      refine lv_iload_n hx hb dX5_changeWithNext_23 rfl (lv_at hl 2 rfl) ?_
      refine lv_iload_n hx hb dX5_changeWithNext_24 rfl (lv_at hl 0 rfl) ?_
      refine lv_imul hx hb dX5_changeWithNext_25 ?_
      refine lv_iadd hx hb dX5_changeWithNext_26 ?_
      refine lv_topi (fun x_8 ex_8 => ?_)
      replace h := gb_lt_s ex_8 h
      refine lv_istore_n (lv' := [(3, .int x_8), (2, .int x_7), (0, .ref (b + 104)), (1, .int p1)]) hx hb dX5_changeWithNext_27 rfl hl (by decide) rfl (fun ls hl => ?_)
      refine lv_iconst (v := 0) hx hb dX5_changeWithNext_28 (by decide) ?_
      refine lv_istore (lv' := [(4, .int 0), (3, .int x_8), (2, .int x_7), (0, .ref (b + 104)), (1, .int p1)]) hx hb dX5_changeWithNext_29 hl (by decide) rfl (fun ls hl => ?_)
      exact L31_1 n _ _ _ _ _ _ _ h hP hS (lv_sub hl [3, 2, 1, 0] rfl)
    · rw [if_neg c_6] at h
      obtain ⟨e1, -⟩ := gb_eq2 h
      exact W.vret hx hb hr (fun t ht hW => gb_rv ht (by rw [← e1]; exact hP) hS) hS.2.2 dX5_changeWithNext_14
theorem w_879 : (Cond.code ({ cls := "GooseBorder$Night", name := "changeWithNext", desc := "(I)V" } : MethodName) prog_7_method_2_code (6 : Nat) (Option.none : Option FieldType)) ∈ gb_wA := gb_t4 159 rfl rfl
theorem w_876 : (Cond.methodLink "GooseBorder" (273 : Nat) ({ cls := "GooseBorder$Night", name := "changeWithNext", desc := "(I)V" } : MethodName)) ∈ gb_wA := gb_t4 156 rfl rfl
theorem w_877 : (Cond.instanceMethod ({ cls := "GooseBorder$Night", name := "changeWithNext", desc := "(I)V" } : MethodName)) ∈ gb_wA := gb_t4 157 rfl rfl
theorem w_878 : (Cond.selects "GooseBorder$Night" ({ cls := "GooseBorder$Night", name := "changeWithNext", desc := "(I)V" } : MethodName) ({ cls := "GooseBorder$Night", name := "changeWithNext", desc := "(I)V" } : MethodName)) ∈ gb_wA := gb_t4 158 rfl rfl
theorem dX11_shift_88 : decode cX11_shift 88 = .ok (.aload_n 0, 1) := dc_42 (show ((cX11_shift.data.toList.drop 88).take 1).map UInt8.toNat = [42] by decide +kernel)
theorem dX11_shift_89 : decode cX11_shift 89 = .ok (.getfield 56, 3) := dc_180 (show ((cX11_shift.data.toList.drop 89).take 3).map UInt8.toNat = [180, 0, 56] by decide +kernel) rfl
theorem dX11_shift_92 : decode cX11_shift 92 = .ok (.aload 4, 2) := dc_25 (show ((cX11_shift.data.toList.drop 92).take 2).map UInt8.toNat = [25, 4] by decide +kernel) rfl
theorem dX11_shift_94 : decode cX11_shift 94 = .ok (.aload_n 0, 1) := dc_42 (show ((cX11_shift.data.toList.drop 94).take 1).map UInt8.toNat = [42] by decide +kernel)
theorem dX11_shift_95 : decode cX11_shift 95 = .ok (.getfield 42, 3) := dc_180 (show ((cX11_shift.data.toList.drop 95).take 3).map UInt8.toNat = [180, 0, 42] by decide +kernel) rfl
theorem dX11_shift_98 : decode cX11_shift 98 = .ok (.aload_n 0, 1) := dc_42 (show ((cX11_shift.data.toList.drop 98).take 1).map UInt8.toNat = [42] by decide +kernel)
theorem dX11_shift_99 : decode cX11_shift 99 = .ok (.getfield 42, 3) := dc_180 (show ((cX11_shift.data.toList.drop 99).take 3).map UInt8.toNat = [180, 0, 42] by decide +kernel) rfl
theorem dX11_shift_102 : decode cX11_shift 102 = .ok (.invokevirtual 251, 3) := dc_182 (show ((cX11_shift.data.toList.drop 102).take 3).map UInt8.toNat = [182, 0, 251] by decide +kernel) rfl
theorem dX11_shift_105 : decode cX11_shift 105 = .ok (.iconst (-1), 1) := dc_2 (show ((cX11_shift.data.toList.drop 105).take 1).map UInt8.toNat = [2] by decide +kernel)
theorem dX11_shift_106 : decode cX11_shift 106 = .ok (.invokevirtual 252, 3) := dc_182 (show ((cX11_shift.data.toList.drop 106).take 3).map UInt8.toNat = [182, 0, 252] by decide +kernel) rfl
def cs_Lines_cell (n : Nat) (σ : gb_S) (p1 : Int32) (p2 : Int32) : gb_CR Int32 := gb_ck (((1 : Int32) + (p1 * ((3 : Int32) + 1))) + p2) 97 (gb_lt ((σ.1 105) (Int32.toNatClampNeg (((1 : Int32) + (p1 * ((3 : Int32) + 1))) + p2))) (fun x_2 => some (σ, x_2)))
set_option maxHeartbeats 8000000 in
set_option maxRecDepth 100000 in
theorem cc_Lines_cell (l : Launch) (D : va_G) (cT : Nat → ClassId) (tt : Nat → Nat) (b1 b : Nat) (hb1 : b1 ≤ b) (n : Nat) (σ : gb_S) (p1 : Int32) (p2 : Int32) (σE : gb_S) (rE : Int32) (h : cs_Lines_cell n σ p1 p2 = some (σE, rE)) : Met l yX4_cell (.code yX4_cell cX4_cell 3 (some FieldType.int) :: gb_wA) ({ frames := 0, cells := 0, slots := 0, locals := 0 }) (gb_Pc D cT tt b1 [.ref (b + 104), .int p1, .int p2] (fun h => va_P D vwCl (gb_wl b (gb_CW cT b σ)) h)) (gb_Qi (fun r h => r = rE ∧ va_P D vwCl (gb_wl b (gb_CW cT b σE)) h) (gb_fr b 135)) 0 0 (gb_fr b 135) := by
  refine Met.ofW (cc := cX4_cell) (maxL := 3) (ret := (some FieldType.int)) (by decide) rfl ?_
  intro p e s m args below meth c s₁ B hml hv
  obtain ⟨rfl, hSt, hP⟩ := hv
  have hx := B.exec
  have hb := B.bytes
  have hr := B.returns
  have hts := atoms_spec (ws := .code yX4_cell cX4_cell 3 (some FieldType.int) :: gb_wA) B.pre
  have hq : ∀ w ∈ gb_wA, w.before _ s = true := fun w h => hts w (List.mem_cons_of_mem _ h)
  have hown : s.vm.findClass RX4 = some m.cls := findClass_of_methodNamed B.named
  have hlocks := B.notSynchronized
  clear B hts
  have hK := hSt.1
  have hS : va_S (gb_fr b 135) s.heap s.heap [] := va_S.rf
  have hl := lv_entry ([.ref (b + 104), .int p1, .int p2]) (n := 3) (Nat.le_of_ble_eq_true rfl)
  rw [lg_entry_eq]
  generalize (lg_sl ([.ref (b + 104), .int p1, .int p2]) ++ List.replicate (3 - (lg_sl ([.ref (b + 104), .int p1, .int p2])).length) Slot.unset).toArray = ls at hl ⊢
  replace hl : lv_has ls 3 [(0, .ref (b + 104)), (1, .int p1), (2, .int p2)] := hl
  unfold cs_Lines_cell at h
  refine lv_aload_n hx hb dX4_cell_0 rfl (lv_at hl 0 rfl) ?_
  refine va_get (ci := 4) (v := (.ref (b + 105))) (C := RX5) (T := TX5) (N := 4) hx hb hq i_X5 hown hK hP 104 (gb_at b rfl) rfl 3 (by decide) (hq _ w_52) (fun x9 h9 => u_same (hq _ w_53) x9 h9) rfl dX4_cell_1 ?_
  refine lv_iconst (v := 1) hx hb dX4_cell_4 (by decide) ?_
  refine lv_iload_n hx hb dX4_cell_5 rfl (lv_at hl 1 rfl) ?_
  refine lv_aload_n hx hb dX4_cell_6 rfl (lv_at hl 0 rfl) ?_
  refine va_get (ci := 4) (v := (.int 3)) (C := RX5) (T := TX5) (N := 4) hx hb hq i_X5 hown hK hP 104 (gb_at b rfl) rfl 1 (by decide) (hq _ w_73) (fun _ h9 => h9) rfl dX4_cell_7 ?_
  refine lv_iconst (v := 1) hx hb dX4_cell_10 (by decide) ?_
  refine lv_iadd hx hb dX4_cell_11 ?_
  refine lv_imul hx hb dX4_cell_12 ?_
  refine lv_iadd hx hb dX4_cell_13 ?_
  refine lv_iload_n hx hb dX4_cell_14 rfl (lv_at hl 2 rfl) ?_
  refine lv_iadd hx hb dX4_cell_15 ?_
  obtain ⟨z_1, h⟩ := gb_ck_s h
  refine va_iald hx hb hK hP 105 0 (gb_at b rfl) rfl z_1 dX4_cell_16 ?_
  refine lv_topi (fun x_2 ex_2 => ?_)
  replace h := gb_lt_s ex_2 h
  obtain ⟨e1, e2⟩ := gb_eq2 h
  exact W.iret (v := x_2) hx hb hr (fun t ht hW => gb_ri ht ⟨e2, by rw [← e1]; exact hP⟩ hS) hS.2.2 dX4_cell_17
def cs_Lines_kind (n : Nat) (σ : gb_S) (p1 : Int32) : gb_CR Int32 := gb_cd (cs_Lines_cell n σ p1 0) (fun s_1 r_2 => some (s_1, r_2))
set_option maxHeartbeats 8000000 in
set_option maxRecDepth 100000 in
theorem cc_Lines_kind (l : Launch) (D : va_G) (cT : Nat → ClassId) (tt : Nat → Nat) (b1 b : Nat) (hb1 : b1 ≤ b) (n : Nat) (σ : gb_S) (p1 : Int32) (σE : gb_S) (rE : Int32) (h : cs_Lines_kind n σ p1 = some (σE, rE)) : Met l yX4_kind (.code yX4_kind cX4_kind 2 (some FieldType.int) :: gb_wA) ({ frames := 1, cells := 0, slots := 0, locals := 22 }) (gb_Pc D cT tt b1 [.ref (b + 104), .int p1] (fun h => va_P D vwCl (gb_wl b (gb_CW cT b σ)) h)) (gb_Qi (fun r h => r = rE ∧ va_P D vwCl (gb_wl b (gb_CW cT b σE)) h) (gb_fr b 135)) 0 0 (gb_fr b 135) := by
  refine Met.ofW (cc := cX4_kind) (maxL := 2) (ret := (some FieldType.int)) (by decide) rfl ?_
  intro p e s m args below meth c s₁ B hml hv
  obtain ⟨rfl, hSt, hP⟩ := hv
  have hx := B.exec
  have hb := B.bytes
  have hr := B.returns
  have hts := atoms_spec (ws := .code yX4_kind cX4_kind 2 (some FieldType.int) :: gb_wA) B.pre
  have hq : ∀ w ∈ gb_wA, w.before _ s = true := fun w h => hts w (List.mem_cons_of_mem _ h)
  have hown : s.vm.findClass RX4 = some m.cls := findClass_of_methodNamed B.named
  have hlocks := B.notSynchronized
  clear B hts
  have hK := hSt.1
  have hS : va_S (gb_fr b 135) s.heap s.heap [] := va_S.rf
  have hl := lv_entry ([.ref (b + 104), .int p1]) (n := 2) (Nat.le_of_ble_eq_true rfl)
  rw [lg_entry_eq]
  generalize (lg_sl ([.ref (b + 104), .int p1]) ++ List.replicate (2 - (lg_sl ([.ref (b + 104), .int p1])).length) Slot.unset).toArray = ls at hl ⊢
  replace hl : lv_has ls 2 [(0, .ref (b + 104)), (1, .int p1)] := hl
  unfold cs_Lines_kind at h
  refine lv_aload_n hx hb dX4_kind_0 rfl (lv_at hl 0 rfl) ?_
  refine lv_iload_n hx hb dX4_kind_1 rfl (lv_at hl 1 rfl) ?_
  refine lv_iconst (v := 0) hx hb dX4_kind_2 (by decide) ?_
  obtain ⟨s_1, r_2, z_3, h⟩ := gb_cd_s h
  refine gb_calli (va_runU (x := yX4_cell) (C := RX5) (owner := "GooseBorder$Lines") (As := [.int p1, .int 0]) (rest := []) ⟨hx, hb, hml, hown, hq⟩ (cc_Lines_cell l D cT tt b1 b hb1 n σ p1 0 s_1 r_2 z_3) (va_cwU (owner := "GooseBorder$Lines") (C := RX5) 2 hq (gb_gU w_691 w_1730 w_1733 w_546 w_6 w_547) rfl rfl rfl rfl (by decide +kernel) ⟨Nat.le_of_ble_eq_true rfl, Nat.le_of_ble_eq_true rfl⟩) (gb_preV (r := (RX5, TX5, 4)) (ci := 4) (q0 := 104) hSt hP rfl (gb_at b rfl) hS (fun q h => Nat.le_trans hb1 h.1) hP) rfl rfl hl.1 rfl (lv_room (Nat.le_of_ble_eq_true rfl)) dX4_kind_3 ⟨Nat.le_of_ble_eq_true rfl, Nat.le_of_ble_eq_true rfl⟩) hS (fun _ h => h) (fun _ h => h) (fun q_4 H locs hY hk hS => ?_)
  obtain ⟨hq_4, hP⟩ := hY
  replace hq_4 := hq_4.symm
  subst hq_4
  obtain ⟨e1, e2⟩ := gb_eq2 h
  exact W.iret (v := r_2) hx hb hr (fun t ht hW => gb_ri ht ⟨e2, by rw [← e1]; exact hP⟩ hS) hS.2.2 dX4_kind_6
def cs_Play_canBe_c104 (n : Nat) (σ : gb_S) (p2 : Int32) : gb_CR Int32 := gb_cd (cs_Lines_cell n σ p2 1) (fun s_1 r_2 => gb_cd (cs_Lines_cell n s_1 p2 2) (fun s_5 r_6 => gb_cd (cs_Lines_kind n s_5 p2) (fun s_9 r_10 => (if r_10 = (0 : Int32) then gb_cd (cs_Play_stands n s_9 r_2 0) (fun s_14 r_15 => (if r_15 = 0 then some (s_14, 0) else gb_kk (gb_kB (s_14.2.1 1)) (gb_cd (cs_Border_hasPath_B n s_14 (s_14.2.1 1) r_6) (fun s_20 r_21 => (if r_21 = 0 then some (s_20, 0) else some (s_20, 1)))))) else (if r_10 = (1 : Int32) then gb_cd (cs_Play_stands n s_9 r_2 0) (fun s_26 r_27 => (if r_27 = 0 then some (s_26, 0) else gb_kk (gb_kB (s_26.2.1 1)) (gb_cd (cs_Border_hasPath_B n s_26 (s_26.2.1 1) r_6) (fun s_32 r_33 => (if r_33 = 0 then some (s_32, 0) else some (s_32, 1)))))) else (if r_10 = (2 : Int32) then gb_cd (cs_Play_stands n s_9 r_2 1) (fun s_38 r_39 => (if r_39 = 0 then some (s_38, 0) else gb_kk (gb_kB (s_38.2.1 1)) (gb_cd (cs_Border_hasPath_B n s_38 (s_38.2.1 1) r_6) (fun s_44 r_45 => (if r_45 = 0 then some (s_44, 0) else some (s_44, 1)))))) else (if r_10 = (3 : Int32) then gb_cd (cs_Play_stands n s_9 r_2 0) (fun s_50 r_51 => (if r_51 = 0 then some (s_50, 0) else gb_cd (cs_Play_stands n s_50 r_6 0) (fun s_55 r_56 => (if r_56 = 0 then some (s_55, 0) else gb_kk (gb_kB (s_55.2.1 1)) (gb_cd (cs_Lines_cell n s_55 p2 3) (fun s_61 r_62 => gb_cd (cs_Border_hasPath_B n s_61 (s_55.2.1 1) r_62) (fun s_65 r_66 => (if r_66 = 0 then some (s_65, 0) else some (s_65, 1))))))))) else (if r_10 = (4 : Int32) then gb_cd (cs_Play_stands n s_9 r_2 0) (fun s_71 r_72 => (if r_72 = 0 then gb_cd (cs_Play_stands n s_71 r_2 1) (fun s_76 r_77 => (if r_77 = 0 then some (s_76, 0) else some (s_76, 1))) else some (s_71, 1))) else (if r_10 = (5 : Int32) then some (s_9, 1) else (if r_10 = (6 : Int32) then some (s_9, 1) else (if r_10 = (7 : Int32) then some (s_9, 1) else (if r_10 = (8 : Int32) then gb_kk (gb_kB (s_9.2.1 1)) (gb_cd (cs_Border_hasPath_B n s_9 (s_9.2.1 1) r_2) (fun s_86 r_87 => (if r_87 = 0 then some (s_86, 0) else gb_cd (cs_Play_latestGoer n s_86 r_2) (fun s_91 r_92 => (if r_92 = (-1) then some (s_91, 0) else some (s_91, 1)))))) else some (s_9, 1)))))))))))))
set_option maxHeartbeats 8000000 in
set_option maxRecDepth 100000 in
theorem cc_Play_canBe_c104 (l : Launch) (D : va_G) (cT : Nat → ClassId) (tt : Nat → Nat) (b1 b : Nat) (hb1 : b1 ≤ b) (n : Nat) (σ : gb_S) (p2 : Int32) (σE : gb_S) (rE : Int32) (h : cs_Play_canBe_c104 n σ p2 = some (σE, rE)) : Met l yX6_canBe (.code yX6_canBe cX6_canBe 5 (some FieldType.boolean) :: gb_wA) ({ frames := 3, cells := 0, slots := 0, locals := 63 }) (gb_Pc D cT tt b1 [.ref (b + 109), .ref (b + 104), .int p2] (fun h => va_P D vwCl (gb_wl b (gb_CW cT b σ)) h)) (gb_Qi (fun r h => r = rE ∧ va_P D vwCl (gb_wl b (gb_CW cT b σE)) h) (gb_fr b 135)) 0 0 (gb_fr b 135) := by
  refine Met.ofW (cc := cX6_canBe) (maxL := 5) (ret := (some FieldType.boolean)) (by decide) rfl ?_
  intro p e s m args below meth c s₁ B hml hv
  obtain ⟨rfl, hSt, hP⟩ := hv
  have hx := B.exec
  have hb := B.bytes
  have hr := B.returns
  have hts := atoms_spec (ws := .code yX6_canBe cX6_canBe 5 (some FieldType.boolean) :: gb_wA) B.pre
  have hq : ∀ w ∈ gb_wA, w.before _ s = true := fun w h => hts w (List.mem_cons_of_mem _ h)
  have hown : s.vm.findClass RX6 = some m.cls := findClass_of_methodNamed B.named
  have hlocks := B.notSynchronized
  clear B hts
  have hK := hSt.1
  have hS : va_S (gb_fr b 135) s.heap s.heap [] := va_S.rf
  have hl := lv_entry ([.ref (b + 109), .ref (b + 104), .int p2]) (n := 5) (Nat.le_of_ble_eq_true rfl)
  rw [lg_entry_eq]
  generalize (lg_sl ([.ref (b + 109), .ref (b + 104), .int p2]) ++ List.replicate (5 - (lg_sl ([.ref (b + 109), .ref (b + 104), .int p2])).length) Slot.unset).toArray = ls at hl ⊢
  replace hl : lv_has ls 5 [(0, .ref (b + 109)), (1, .ref (b + 104)), (2, .int p2)] := hl
  unfold cs_Play_canBe_c104 at h
  refine lv_aload_n hx hb dX6_canBe_0 rfl (lv_at hl 1 rfl) ?_
  refine lv_iload_n hx hb dX6_canBe_1 rfl (lv_at hl 2 rfl) ?_
  refine lv_iconst (v := 1) hx hb dX6_canBe_2 (by decide) ?_
  obtain ⟨s_1, r_2, z_3, h⟩ := gb_cd_s h
  refine gb_calli (va_runU (x := ⟨"GooseBorder$Night", "cell", "(II)I"⟩) (C := RX5) (owner := "GooseBorder$Lines") (As := [.int p2, .int 1]) (rest := []) ⟨hx, hb, hml, hown, hq⟩ (cc_Lines_cell l D cT tt b1 b hb1 n σ p2 1 s_1 r_2 z_3) (va_cwU (owner := "GooseBorder$Lines") (C := RX5) 2 hq (gb_gU w_723 w_724 w_725 w_546 w_6 w_547) rfl rfl rfl rfl (by decide +kernel) ⟨Nat.le_of_ble_eq_true rfl, Nat.le_of_ble_eq_true rfl⟩) (gb_preV (r := (RX5, TX5, 4)) (ci := 4) (q0 := 104) hSt hP rfl (gb_at b rfl) hS (fun q h => Nat.le_trans hb1 h.1) hP) rfl rfl hl.1 rfl (lv_room (Nat.le_of_ble_eq_true rfl)) dX6_canBe_3 ⟨Nat.le_of_ble_eq_true rfl, Nat.le_of_ble_eq_true rfl⟩) hS (fun _ h => h) (fun _ h => h) (fun q_4 H locs hY hk hS => ?_)
  obtain ⟨hq_4, hP⟩ := hY
  replace hq_4 := hq_4.symm
  subst hq_4
  refine lv_istore_n (lv' := [(3, .int r_2), (0, .ref (b + 109)), (1, .ref (b + 104)), (2, .int p2)]) hx hb dX6_canBe_6 rfl hl (by decide) rfl (fun ls hl => ?_)
  refine lv_aload_n hx hb dX6_canBe_7 rfl (lv_at hl 2 rfl) ?_
  refine lv_iload_n hx hb dX6_canBe_8 rfl (lv_at hl 3 rfl) ?_
  refine lv_iconst (v := 2) hx hb dX6_canBe_9 (by decide) ?_
  obtain ⟨s_5, r_6, z_7, h⟩ := gb_cd_s h
  refine gb_calli (va_runU (x := ⟨"GooseBorder$Night", "cell", "(II)I"⟩) (C := RX5) (owner := "GooseBorder$Lines") (As := [.int p2, .int 2]) (rest := []) ⟨hx, hb, hml, hown, hq⟩ (cc_Lines_cell l D cT tt b1 b hb1 n s_1 p2 2 s_5 r_6 z_7) (va_cwU (owner := "GooseBorder$Lines") (C := RX5) 2 hq (gb_gU w_723 w_724 w_725 w_546 w_6 w_547) rfl rfl rfl rfl (by decide +kernel) ⟨Nat.le_of_ble_eq_true rfl, Nat.le_of_ble_eq_true rfl⟩) (gb_preV (r := (RX5, TX5, 4)) (ci := 4) (q0 := 104) hSt hP rfl (gb_at b rfl) hS (fun q h => Nat.le_trans hb1 h.1) hP) rfl rfl hl.1 rfl (lv_room (Nat.le_of_ble_eq_true rfl)) dX6_canBe_10 ⟨Nat.le_of_ble_eq_true rfl, Nat.le_of_ble_eq_true rfl⟩) hS (fun _ h => h) (fun _ h => h) (fun q_8 H locs hY hk hS => ?_)
  obtain ⟨hq_8, hP⟩ := hY
  replace hq_8 := hq_8.symm
  subst hq_8
  refine lv_istore (lv' := [(4, .int r_6), (3, .int r_2), (0, .ref (b + 109)), (1, .ref (b + 104)), (2, .int p2)]) hx hb dX6_canBe_13 hl (by decide) rfl (fun ls hl => ?_)
  refine lv_aload_n hx hb dX6_canBe_15 rfl (lv_at hl 3 rfl) ?_
  refine lv_iload_n hx hb dX6_canBe_16 rfl (lv_at hl 4 rfl) ?_
  obtain ⟨s_9, r_10, z_11, h⟩ := gb_cd_s h
  refine gb_calli (va_runU (x := ⟨"GooseBorder$Night", "kind", "(I)I"⟩) (C := RX5) (owner := "GooseBorder$Lines") (As := [.int p2]) (rest := []) ⟨hx, hb, hml, hown, hq⟩ (cc_Lines_kind l D cT tt b1 b hb1 n s_5 p2 s_9 r_10 z_11) (va_cwU (owner := "GooseBorder$Lines") (C := RX5) 1 hq (gb_gU w_726 w_727 w_728 w_689 w_6 w_690) rfl rfl rfl rfl (by decide +kernel) ⟨Nat.le_of_ble_eq_true rfl, Nat.le_of_ble_eq_true rfl⟩) (gb_preV (r := (RX5, TX5, 4)) (ci := 4) (q0 := 104) hSt hP rfl (gb_at b rfl) hS (fun q h => Nat.le_trans hb1 h.1) hP) rfl rfl hl.1 rfl (lv_room (Nat.le_of_ble_eq_true rfl)) dX6_canBe_17 ⟨Nat.le_of_ble_eq_true rfl, Nat.le_of_ble_eq_true rfl⟩) hS (fun _ h => h) (fun _ h => h) (fun q_12 H locs hY hk hS => ?_)
  obtain ⟨hq_12, hP⟩ := hY
  replace hq_12 := hq_12.symm
  subst hq_12
  by_cases c_13 : r_10 = (0 : Int32)
  · rw [if_pos c_13] at h
    refine lv_tableIn (off := 52) (tgt := 72) hx hb dX6_canBe_20 (by rw [c_13]; decide) (by rw [c_13]; decide) (by rw [c_13]; decide) (by decide) ?_
    refine lv_aload_n hx hb dX6_canBe_72 rfl (lv_at hl 2 rfl) ?_
    refine lv_iload_n hx hb dX6_canBe_73 rfl (lv_at hl 1 rfl) ?_
    refine lv_iconst (v := 0) hx hb dX6_canBe_74 (by decide) ?_
    obtain ⟨s_14, r_15, z_16, h⟩ := gb_cd_s h
    refine gb_calli (va_runV (C := RX6) (As := [.int r_2, .int 0]) (rest := []) ⟨hx, hb, hml, hown, hq⟩ (cc_Play_stands l D cT tt b1 b hb1 n s_9 r_2 0 s_14 r_15 z_16) (cwV 2 hq (gb_gV w_729 w_731 s_1_13 w_11 w_732) rfl rfl rfl (by decide +kernel) ⟨Nat.le_of_ble_eq_true rfl, Nat.le_of_ble_eq_true rfl⟩) (gb_preV (r := (RX6, TX6, 12)) (ci := 5) (q0 := 109) hSt hP rfl (gb_at b rfl) hS (fun q h => Nat.le_trans hb1 h.1) hP) rfl rfl hl.1 rfl (lv_room (Nat.le_of_ble_eq_true rfl)) dX6_canBe_75 ⟨Nat.le_of_ble_eq_true rfl, Nat.le_of_ble_eq_true rfl⟩) hS (fun _ h => h) (fun _ h => h) (fun q_17 H locs hY hk hS => ?_)
    obtain ⟨hq_17, hP⟩ := hY
    replace hq_17 := hq_17.symm
    subst hq_17
    refine lv_if_eq (tgt := 97) hx hb dX6_canBe_78 (by decide) (fun c_18 => ?_) (fun c_18 => ?_)
    · rw [if_pos c_18] at h
      refine lv_iconst (v := 0) hx hb dX6_canBe_97 (by decide) ?_
      obtain ⟨e1, e2⟩ := gb_eq2 h
      exact W.zret (v := 0) hx hb hr (by decide) (fun t ht hW => gb_ri ht ⟨e2, by rw [← e1]; exact hP⟩ hS) hS.2.2 dX6_canBe_98
    · rw [if_neg c_18] at h
      refine lv_aload_n hx hb dX6_canBe_81 rfl (lv_at hl 2 rfl) ?_
      obtain ⟨z_19, h⟩ := gb_kk_s h
      refine va_get (ci := 5) (v := (.ref (b + (s_14.2.1 1)))) (C := RX6) (T := TX6) (N := 12) hx hb hq i_X6 hown hK hP 109 (gb_at b rfl) rfl 0 (by decide) (hq _ w_197) (fun _ h9 => h9) rfl dX6_canBe_82 ?_
      refine lv_iload hx hb dX6_canBe_85 (lv_at hl 0 rfl) ?_
      obtain ⟨s_20, r_21, z_22, h⟩ := gb_cd_s h
      refine gb_calli (va_runV (C := RX0) (As := [.int r_6]) (rest := []) ⟨hx, hb, hml, hown, hq⟩ (cc_Border_hasPath_B l D cT tt b1 b hb1 n s_14 (s_14.2.1 1) r_6 s_20 r_21 z_22) (cwV 1 hq (gb_gV w_733 w_608 w_609 w_4 w_610) rfl rfl rfl (by decide +kernel) ⟨Nat.le_of_ble_eq_true rfl, Nat.le_of_ble_eq_true rfl⟩) (gb_preV (r := (RX0, TX0, 1)) (ci := 0) (q0 := (s_14.2.1 1)) hSt hP rfl (gb_at b (gb_cB z_19).1) hS (fun q h => Nat.le_trans hb1 h.1) hP) rfl rfl hl.1 rfl (lv_room (Nat.le_of_ble_eq_true rfl)) dX6_canBe_87 ⟨Nat.le_of_ble_eq_true rfl, Nat.le_of_ble_eq_true rfl⟩) hS (fun _ h => h) (fun _ h => h) (fun q_23 H locs hY hk hS => ?_)
      obtain ⟨hq_23, hP⟩ := hY
      replace hq_23 := hq_23.symm
      subst hq_23
      refine lv_if_eq (tgt := 97) hx hb dX6_canBe_90 (by decide) (fun c_24 => ?_) (fun c_24 => ?_)
      · rw [if_pos c_24] at h
        refine lv_iconst (v := 0) hx hb dX6_canBe_97 (by decide) ?_
        obtain ⟨e1, e2⟩ := gb_eq2 h
        exact W.zret (v := 0) hx hb hr (by decide) (fun t ht hW => gb_ri ht ⟨e2, by rw [← e1]; exact hP⟩ hS) hS.2.2 dX6_canBe_98
      · rw [if_neg c_24] at h
        refine lv_iconst (v := 1) hx hb dX6_canBe_93 (by decide) ?_
        refine lv_goto (tgt := 98) hx hb dX6_canBe_94 (by decide) ?_
        obtain ⟨e1, e2⟩ := gb_eq2 h
        exact W.zret (v := 1) hx hb hr (by decide) (fun t ht hW => gb_ri ht ⟨e2, by rw [← e1]; exact hP⟩ hS) hS.2.2 dX6_canBe_98
  rw [if_neg c_13] at h
  by_cases c_25 : r_10 = (1 : Int32)
  · rw [if_pos c_25] at h
    refine lv_tableIn (off := 52) (tgt := 72) hx hb dX6_canBe_20 (by rw [c_25]; decide) (by rw [c_25]; decide) (by rw [c_25]; decide) (by decide) ?_
    refine lv_aload_n hx hb dX6_canBe_72 rfl (lv_at hl 2 rfl) ?_
    refine lv_iload_n hx hb dX6_canBe_73 rfl (lv_at hl 1 rfl) ?_
    refine lv_iconst (v := 0) hx hb dX6_canBe_74 (by decide) ?_
    obtain ⟨s_26, r_27, z_28, h⟩ := gb_cd_s h
    refine gb_calli (va_runV (C := RX6) (As := [.int r_2, .int 0]) (rest := []) ⟨hx, hb, hml, hown, hq⟩ (cc_Play_stands l D cT tt b1 b hb1 n s_9 r_2 0 s_26 r_27 z_28) (cwV 2 hq (gb_gV w_729 w_731 s_1_13 w_11 w_732) rfl rfl rfl (by decide +kernel) ⟨Nat.le_of_ble_eq_true rfl, Nat.le_of_ble_eq_true rfl⟩) (gb_preV (r := (RX6, TX6, 12)) (ci := 5) (q0 := 109) hSt hP rfl (gb_at b rfl) hS (fun q h => Nat.le_trans hb1 h.1) hP) rfl rfl hl.1 rfl (lv_room (Nat.le_of_ble_eq_true rfl)) dX6_canBe_75 ⟨Nat.le_of_ble_eq_true rfl, Nat.le_of_ble_eq_true rfl⟩) hS (fun _ h => h) (fun _ h => h) (fun q_29 H locs hY hk hS => ?_)
    obtain ⟨hq_29, hP⟩ := hY
    replace hq_29 := hq_29.symm
    subst hq_29
    refine lv_if_eq (tgt := 97) hx hb dX6_canBe_78 (by decide) (fun c_30 => ?_) (fun c_30 => ?_)
    · rw [if_pos c_30] at h
      refine lv_iconst (v := 0) hx hb dX6_canBe_97 (by decide) ?_
      obtain ⟨e1, e2⟩ := gb_eq2 h
      exact W.zret (v := 0) hx hb hr (by decide) (fun t ht hW => gb_ri ht ⟨e2, by rw [← e1]; exact hP⟩ hS) hS.2.2 dX6_canBe_98
    · rw [if_neg c_30] at h
      refine lv_aload_n hx hb dX6_canBe_81 rfl (lv_at hl 2 rfl) ?_
      obtain ⟨z_31, h⟩ := gb_kk_s h
      refine va_get (ci := 5) (v := (.ref (b + (s_26.2.1 1)))) (C := RX6) (T := TX6) (N := 12) hx hb hq i_X6 hown hK hP 109 (gb_at b rfl) rfl 0 (by decide) (hq _ w_197) (fun _ h9 => h9) rfl dX6_canBe_82 ?_
      refine lv_iload hx hb dX6_canBe_85 (lv_at hl 0 rfl) ?_
      obtain ⟨s_32, r_33, z_34, h⟩ := gb_cd_s h
      refine gb_calli (va_runV (C := RX0) (As := [.int r_6]) (rest := []) ⟨hx, hb, hml, hown, hq⟩ (cc_Border_hasPath_B l D cT tt b1 b hb1 n s_26 (s_26.2.1 1) r_6 s_32 r_33 z_34) (cwV 1 hq (gb_gV w_733 w_608 w_609 w_4 w_610) rfl rfl rfl (by decide +kernel) ⟨Nat.le_of_ble_eq_true rfl, Nat.le_of_ble_eq_true rfl⟩) (gb_preV (r := (RX0, TX0, 1)) (ci := 0) (q0 := (s_26.2.1 1)) hSt hP rfl (gb_at b (gb_cB z_31).1) hS (fun q h => Nat.le_trans hb1 h.1) hP) rfl rfl hl.1 rfl (lv_room (Nat.le_of_ble_eq_true rfl)) dX6_canBe_87 ⟨Nat.le_of_ble_eq_true rfl, Nat.le_of_ble_eq_true rfl⟩) hS (fun _ h => h) (fun _ h => h) (fun q_35 H locs hY hk hS => ?_)
      obtain ⟨hq_35, hP⟩ := hY
      replace hq_35 := hq_35.symm
      subst hq_35
      refine lv_if_eq (tgt := 97) hx hb dX6_canBe_90 (by decide) (fun c_36 => ?_) (fun c_36 => ?_)
      · rw [if_pos c_36] at h
        refine lv_iconst (v := 0) hx hb dX6_canBe_97 (by decide) ?_
        obtain ⟨e1, e2⟩ := gb_eq2 h
        exact W.zret (v := 0) hx hb hr (by decide) (fun t ht hW => gb_ri ht ⟨e2, by rw [← e1]; exact hP⟩ hS) hS.2.2 dX6_canBe_98
      · rw [if_neg c_36] at h
        refine lv_iconst (v := 1) hx hb dX6_canBe_93 (by decide) ?_
        refine lv_goto (tgt := 98) hx hb dX6_canBe_94 (by decide) ?_
        obtain ⟨e1, e2⟩ := gb_eq2 h
        exact W.zret (v := 1) hx hb hr (by decide) (fun t ht hW => gb_ri ht ⟨e2, by rw [← e1]; exact hP⟩ hS) hS.2.2 dX6_canBe_98
  rw [if_neg c_25] at h
  by_cases c_37 : r_10 = (2 : Int32)
  · rw [if_pos c_37] at h
    refine lv_tableIn (off := 79) (tgt := 99) hx hb dX6_canBe_20 (by rw [c_37]; decide) (by rw [c_37]; decide) (by rw [c_37]; decide) (by decide) ?_
    refine lv_aload_n hx hb dX6_canBe_99 rfl (lv_at hl 2 rfl) ?_
    refine lv_iload_n hx hb dX6_canBe_100 rfl (lv_at hl 1 rfl) ?_
    refine lv_iconst (v := 1) hx hb dX6_canBe_101 (by decide) ?_
    obtain ⟨s_38, r_39, z_40, h⟩ := gb_cd_s h
    refine gb_calli (va_runV (C := RX6) (As := [.int r_2, .int 1]) (rest := []) ⟨hx, hb, hml, hown, hq⟩ (cc_Play_stands l D cT tt b1 b hb1 n s_9 r_2 1 s_38 r_39 z_40) (cwV 2 hq (gb_gV w_729 w_731 s_1_13 w_11 w_732) rfl rfl rfl (by decide +kernel) ⟨Nat.le_of_ble_eq_true rfl, Nat.le_of_ble_eq_true rfl⟩) (gb_preV (r := (RX6, TX6, 12)) (ci := 5) (q0 := 109) hSt hP rfl (gb_at b rfl) hS (fun q h => Nat.le_trans hb1 h.1) hP) rfl rfl hl.1 rfl (lv_room (Nat.le_of_ble_eq_true rfl)) dX6_canBe_102 ⟨Nat.le_of_ble_eq_true rfl, Nat.le_of_ble_eq_true rfl⟩) hS (fun _ h => h) (fun _ h => h) (fun q_41 H locs hY hk hS => ?_)
    obtain ⟨hq_41, hP⟩ := hY
    replace hq_41 := hq_41.symm
    subst hq_41
    refine lv_if_eq (tgt := 124) hx hb dX6_canBe_105 (by decide) (fun c_42 => ?_) (fun c_42 => ?_)
    · rw [if_pos c_42] at h
      refine lv_iconst (v := 0) hx hb dX6_canBe_124 (by decide) ?_
      obtain ⟨e1, e2⟩ := gb_eq2 h
      exact W.zret (v := 0) hx hb hr (by decide) (fun t ht hW => gb_ri ht ⟨e2, by rw [← e1]; exact hP⟩ hS) hS.2.2 dX6_canBe_125
    · rw [if_neg c_42] at h
      refine lv_aload_n hx hb dX6_canBe_108 rfl (lv_at hl 2 rfl) ?_
      obtain ⟨z_43, h⟩ := gb_kk_s h
      refine va_get (ci := 5) (v := (.ref (b + (s_38.2.1 1)))) (C := RX6) (T := TX6) (N := 12) hx hb hq i_X6 hown hK hP 109 (gb_at b rfl) rfl 0 (by decide) (hq _ w_197) (fun _ h9 => h9) rfl dX6_canBe_109 ?_
      refine lv_iload hx hb dX6_canBe_112 (lv_at hl 0 rfl) ?_
      obtain ⟨s_44, r_45, z_46, h⟩ := gb_cd_s h
      refine gb_calli (va_runV (C := RX0) (As := [.int r_6]) (rest := []) ⟨hx, hb, hml, hown, hq⟩ (cc_Border_hasPath_B l D cT tt b1 b hb1 n s_38 (s_38.2.1 1) r_6 s_44 r_45 z_46) (cwV 1 hq (gb_gV w_733 w_608 w_609 w_4 w_610) rfl rfl rfl (by decide +kernel) ⟨Nat.le_of_ble_eq_true rfl, Nat.le_of_ble_eq_true rfl⟩) (gb_preV (r := (RX0, TX0, 1)) (ci := 0) (q0 := (s_38.2.1 1)) hSt hP rfl (gb_at b (gb_cB z_43).1) hS (fun q h => Nat.le_trans hb1 h.1) hP) rfl rfl hl.1 rfl (lv_room (Nat.le_of_ble_eq_true rfl)) dX6_canBe_114 ⟨Nat.le_of_ble_eq_true rfl, Nat.le_of_ble_eq_true rfl⟩) hS (fun _ h => h) (fun _ h => h) (fun q_47 H locs hY hk hS => ?_)
      obtain ⟨hq_47, hP⟩ := hY
      replace hq_47 := hq_47.symm
      subst hq_47
      refine lv_if_eq (tgt := 124) hx hb dX6_canBe_117 (by decide) (fun c_48 => ?_) (fun c_48 => ?_)
      · rw [if_pos c_48] at h
        refine lv_iconst (v := 0) hx hb dX6_canBe_124 (by decide) ?_
        obtain ⟨e1, e2⟩ := gb_eq2 h
        exact W.zret (v := 0) hx hb hr (by decide) (fun t ht hW => gb_ri ht ⟨e2, by rw [← e1]; exact hP⟩ hS) hS.2.2 dX6_canBe_125
      · rw [if_neg c_48] at h
        refine lv_iconst (v := 1) hx hb dX6_canBe_120 (by decide) ?_
        refine lv_goto (tgt := 125) hx hb dX6_canBe_121 (by decide) ?_
        obtain ⟨e1, e2⟩ := gb_eq2 h
        exact W.zret (v := 1) hx hb hr (by decide) (fun t ht hW => gb_ri ht ⟨e2, by rw [← e1]; exact hP⟩ hS) hS.2.2 dX6_canBe_125
  rw [if_neg c_37] at h
  by_cases c_49 : r_10 = (3 : Int32)
  · rw [if_pos c_49] at h
    refine lv_tableIn (off := 106) (tgt := 126) hx hb dX6_canBe_20 (by rw [c_49]; decide) (by rw [c_49]; decide) (by rw [c_49]; decide) (by decide) ?_
    refine lv_aload_n hx hb dX6_canBe_126 rfl (lv_at hl 2 rfl) ?_
    refine lv_iload_n hx hb dX6_canBe_127 rfl (lv_at hl 1 rfl) ?_
    refine lv_iconst (v := 0) hx hb dX6_canBe_128 (by decide) ?_
    obtain ⟨s_50, r_51, z_52, h⟩ := gb_cd_s h
    refine gb_calli (va_runV (C := RX6) (As := [.int r_2, .int 0]) (rest := []) ⟨hx, hb, hml, hown, hq⟩ (cc_Play_stands l D cT tt b1 b hb1 n s_9 r_2 0 s_50 r_51 z_52) (cwV 2 hq (gb_gV w_729 w_731 s_1_13 w_11 w_732) rfl rfl rfl (by decide +kernel) ⟨Nat.le_of_ble_eq_true rfl, Nat.le_of_ble_eq_true rfl⟩) (gb_preV (r := (RX6, TX6, 12)) (ci := 5) (q0 := 109) hSt hP rfl (gb_at b rfl) hS (fun q h => Nat.le_trans hb1 h.1) hP) rfl rfl hl.1 rfl (lv_room (Nat.le_of_ble_eq_true rfl)) dX6_canBe_129 ⟨Nat.le_of_ble_eq_true rfl, Nat.le_of_ble_eq_true rfl⟩) hS (fun _ h => h) (fun _ h => h) (fun q_53 H locs hY hk hS => ?_)
    obtain ⟨hq_53, hP⟩ := hY
    replace hq_53 := hq_53.symm
    subst hq_53
    refine lv_if_eq (tgt := 165) hx hb dX6_canBe_132 (by decide) (fun c_54 => ?_) (fun c_54 => ?_)
    · rw [if_pos c_54] at h
      refine lv_iconst (v := 0) hx hb dX6_canBe_165 (by decide) ?_
      obtain ⟨e1, e2⟩ := gb_eq2 h
      exact W.zret (v := 0) hx hb hr (by decide) (fun t ht hW => gb_ri ht ⟨e2, by rw [← e1]; exact hP⟩ hS) hS.2.2 dX6_canBe_166
    · rw [if_neg c_54] at h
      refine lv_aload_n hx hb dX6_canBe_135 rfl (lv_at hl 2 rfl) ?_
      refine lv_iload hx hb dX6_canBe_136 (lv_at hl 0 rfl) ?_
      refine lv_iconst (v := 0) hx hb dX6_canBe_138 (by decide) ?_
      obtain ⟨s_55, r_56, z_57, h⟩ := gb_cd_s h
      refine gb_calli (va_runV (C := RX6) (As := [.int r_6, .int 0]) (rest := []) ⟨hx, hb, hml, hown, hq⟩ (cc_Play_stands l D cT tt b1 b hb1 n s_50 r_6 0 s_55 r_56 z_57) (cwV 2 hq (gb_gV w_729 w_731 s_1_13 w_11 w_732) rfl rfl rfl (by decide +kernel) ⟨Nat.le_of_ble_eq_true rfl, Nat.le_of_ble_eq_true rfl⟩) (gb_preV (r := (RX6, TX6, 12)) (ci := 5) (q0 := 109) hSt hP rfl (gb_at b rfl) hS (fun q h => Nat.le_trans hb1 h.1) hP) rfl rfl hl.1 rfl (lv_room (Nat.le_of_ble_eq_true rfl)) dX6_canBe_139 ⟨Nat.le_of_ble_eq_true rfl, Nat.le_of_ble_eq_true rfl⟩) hS (fun _ h => h) (fun _ h => h) (fun q_58 H locs hY hk hS => ?_)
      obtain ⟨hq_58, hP⟩ := hY
      replace hq_58 := hq_58.symm
      subst hq_58
      refine lv_if_eq (tgt := 165) hx hb dX6_canBe_142 (by decide) (fun c_59 => ?_) (fun c_59 => ?_)
      · rw [if_pos c_59] at h
        refine lv_iconst (v := 0) hx hb dX6_canBe_165 (by decide) ?_
        obtain ⟨e1, e2⟩ := gb_eq2 h
        exact W.zret (v := 0) hx hb hr (by decide) (fun t ht hW => gb_ri ht ⟨e2, by rw [← e1]; exact hP⟩ hS) hS.2.2 dX6_canBe_166
      · rw [if_neg c_59] at h
        refine lv_aload_n hx hb dX6_canBe_145 rfl (lv_at hl 2 rfl) ?_
        obtain ⟨z_60, h⟩ := gb_kk_s h
        refine va_get (ci := 5) (v := (.ref (b + (s_55.2.1 1)))) (C := RX6) (T := TX6) (N := 12) hx hb hq i_X6 hown hK hP 109 (gb_at b rfl) rfl 0 (by decide) (hq _ w_197) (fun _ h9 => h9) rfl dX6_canBe_146 ?_
        refine lv_aload_n hx hb dX6_canBe_149 rfl (lv_at hl 3 rfl) ?_
        refine lv_iload_n hx hb dX6_canBe_150 rfl (lv_at hl 4 rfl) ?_
        refine lv_iconst (v := 3) hx hb dX6_canBe_151 (by decide) ?_
        obtain ⟨s_61, r_62, z_63, h⟩ := gb_cd_s h
        refine gb_calli (va_runU (x := ⟨"GooseBorder$Night", "cell", "(II)I"⟩) (C := RX5) (owner := "GooseBorder$Lines") (As := [.int p2, .int 3]) (rest := [.ref (b + (s_55.2.1 1))]) ⟨hx, hb, hml, hown, hq⟩ (cc_Lines_cell l D cT tt b1 b hb1 n s_55 p2 3 s_61 r_62 z_63) (va_cwU (owner := "GooseBorder$Lines") (C := RX5) 2 hq (gb_gU w_723 w_724 w_725 w_546 w_6 w_547) rfl rfl rfl rfl (by decide +kernel) ⟨Nat.le_of_ble_eq_true rfl, Nat.le_of_ble_eq_true rfl⟩) (gb_preV (r := (RX5, TX5, 4)) (ci := 4) (q0 := 104) hSt hP rfl (gb_at b rfl) hS (fun q h => Nat.le_trans hb1 h.1) hP) rfl rfl hl.1 rfl (lv_room (Nat.le_of_ble_eq_true rfl)) dX6_canBe_152 ⟨Nat.le_of_ble_eq_true rfl, Nat.le_of_ble_eq_true rfl⟩) hS (fun _ h => h) (fun _ h => h) (fun q_64 H locs hY hk hS => ?_)
        obtain ⟨hq_64, hP⟩ := hY
        replace hq_64 := hq_64.symm
        subst hq_64
        obtain ⟨s_65, r_66, z_67, h⟩ := gb_cd_s h
        refine gb_calli (va_runV (C := RX0) (As := [.int r_62]) (rest := []) ⟨hx, hb, hml, hown, hq⟩ (cc_Border_hasPath_B l D cT tt b1 b hb1 n s_61 (s_55.2.1 1) r_62 s_65 r_66 z_67) (cwV 1 hq (gb_gV w_733 w_608 w_609 w_4 w_610) rfl rfl rfl (by decide +kernel) ⟨Nat.le_of_ble_eq_true rfl, Nat.le_of_ble_eq_true rfl⟩) (gb_preV (r := (RX0, TX0, 1)) (ci := 0) (q0 := (s_55.2.1 1)) hSt hP rfl (gb_at b (gb_cB z_60).1) hS (fun q h => Nat.le_trans hb1 h.1) hP) rfl rfl hl.1 rfl (lv_room (Nat.le_of_ble_eq_true rfl)) dX6_canBe_155 ⟨Nat.le_of_ble_eq_true rfl, Nat.le_of_ble_eq_true rfl⟩) hS (fun _ h => h) (fun _ h => h) (fun q_68 H locs hY hk hS => ?_)
        obtain ⟨hq_68, hP⟩ := hY
        replace hq_68 := hq_68.symm
        subst hq_68
        refine lv_if_eq (tgt := 165) hx hb dX6_canBe_158 (by decide) (fun c_69 => ?_) (fun c_69 => ?_)
        · rw [if_pos c_69] at h
          refine lv_iconst (v := 0) hx hb dX6_canBe_165 (by decide) ?_
          obtain ⟨e1, e2⟩ := gb_eq2 h
          exact W.zret (v := 0) hx hb hr (by decide) (fun t ht hW => gb_ri ht ⟨e2, by rw [← e1]; exact hP⟩ hS) hS.2.2 dX6_canBe_166
        · rw [if_neg c_69] at h
          refine lv_iconst (v := 1) hx hb dX6_canBe_161 (by decide) ?_
          refine lv_goto (tgt := 166) hx hb dX6_canBe_162 (by decide) ?_
          obtain ⟨e1, e2⟩ := gb_eq2 h
          exact W.zret (v := 1) hx hb hr (by decide) (fun t ht hW => gb_ri ht ⟨e2, by rw [← e1]; exact hP⟩ hS) hS.2.2 dX6_canBe_166
  rw [if_neg c_49] at h
  by_cases c_70 : r_10 = (4 : Int32)
  · rw [if_pos c_70] at h
    refine lv_tableIn (off := 147) (tgt := 167) hx hb dX6_canBe_20 (by rw [c_70]; decide) (by rw [c_70]; decide) (by rw [c_70]; decide) (by decide) ?_
    refine lv_aload_n hx hb dX6_canBe_167 rfl (lv_at hl 2 rfl) ?_
    refine lv_iload_n hx hb dX6_canBe_168 rfl (lv_at hl 1 rfl) ?_
    refine lv_iconst (v := 0) hx hb dX6_canBe_169 (by decide) ?_
    obtain ⟨s_71, r_72, z_73, h⟩ := gb_cd_s h
    refine gb_calli (va_runV (C := RX6) (As := [.int r_2, .int 0]) (rest := []) ⟨hx, hb, hml, hown, hq⟩ (cc_Play_stands l D cT tt b1 b hb1 n s_9 r_2 0 s_71 r_72 z_73) (cwV 2 hq (gb_gV w_729 w_731 s_1_13 w_11 w_732) rfl rfl rfl (by decide +kernel) ⟨Nat.le_of_ble_eq_true rfl, Nat.le_of_ble_eq_true rfl⟩) (gb_preV (r := (RX6, TX6, 12)) (ci := 5) (q0 := 109) hSt hP rfl (gb_at b rfl) hS (fun q h => Nat.le_trans hb1 h.1) hP) rfl rfl hl.1 rfl (lv_room (Nat.le_of_ble_eq_true rfl)) dX6_canBe_170 ⟨Nat.le_of_ble_eq_true rfl, Nat.le_of_ble_eq_true rfl⟩) hS (fun _ h => h) (fun _ h => h) (fun q_74 H locs hY hk hS => ?_)
    obtain ⟨hq_74, hP⟩ := hY
    replace hq_74 := hq_74.symm
    subst hq_74
    refine lv_if_ne (tgt := 185) hx hb dX6_canBe_173 (by decide) (fun c_75 => ?_) (fun c_75 => ?_)
    · rw [if_neg c_75] at h
      refine lv_iconst (v := 1) hx hb dX6_canBe_185 (by decide) ?_
      refine lv_goto (tgt := 190) hx hb dX6_canBe_186 (by decide) ?_
      obtain ⟨e1, e2⟩ := gb_eq2 h
      exact W.zret (v := 1) hx hb hr (by decide) (fun t ht hW => gb_ri ht ⟨e2, by rw [← e1]; exact hP⟩ hS) hS.2.2 dX6_canBe_190
    · rw [if_pos c_75] at h
      refine lv_aload_n hx hb dX6_canBe_176 rfl (lv_at hl 2 rfl) ?_
      refine lv_iload_n hx hb dX6_canBe_177 rfl (lv_at hl 1 rfl) ?_
      refine lv_iconst (v := 1) hx hb dX6_canBe_178 (by decide) ?_
      obtain ⟨s_76, r_77, z_78, h⟩ := gb_cd_s h
      refine gb_calli (va_runV (C := RX6) (As := [.int r_2, .int 1]) (rest := []) ⟨hx, hb, hml, hown, hq⟩ (cc_Play_stands l D cT tt b1 b hb1 n s_71 r_2 1 s_76 r_77 z_78) (cwV 2 hq (gb_gV w_729 w_731 s_1_13 w_11 w_732) rfl rfl rfl (by decide +kernel) ⟨Nat.le_of_ble_eq_true rfl, Nat.le_of_ble_eq_true rfl⟩) (gb_preV (r := (RX6, TX6, 12)) (ci := 5) (q0 := 109) hSt hP rfl (gb_at b rfl) hS (fun q h => Nat.le_trans hb1 h.1) hP) rfl rfl hl.1 rfl (lv_room (Nat.le_of_ble_eq_true rfl)) dX6_canBe_179 ⟨Nat.le_of_ble_eq_true rfl, Nat.le_of_ble_eq_true rfl⟩) hS (fun _ h => h) (fun _ h => h) (fun q_79 H locs hY hk hS => ?_)
      obtain ⟨hq_79, hP⟩ := hY
      replace hq_79 := hq_79.symm
      subst hq_79
      refine lv_if_eq (tgt := 189) hx hb dX6_canBe_182 (by decide) (fun c_80 => ?_) (fun c_80 => ?_)
      · rw [if_pos c_80] at h
        refine lv_iconst (v := 0) hx hb dX6_canBe_189 (by decide) ?_
        obtain ⟨e1, e2⟩ := gb_eq2 h
        exact W.zret (v := 0) hx hb hr (by decide) (fun t ht hW => gb_ri ht ⟨e2, by rw [← e1]; exact hP⟩ hS) hS.2.2 dX6_canBe_190
      · rw [if_neg c_80] at h
        refine lv_iconst (v := 1) hx hb dX6_canBe_185 (by decide) ?_
        refine lv_goto (tgt := 190) hx hb dX6_canBe_186 (by decide) ?_
        obtain ⟨e1, e2⟩ := gb_eq2 h
        exact W.zret (v := 1) hx hb hr (by decide) (fun t ht hW => gb_ri ht ⟨e2, by rw [← e1]; exact hP⟩ hS) hS.2.2 dX6_canBe_190
  rw [if_neg c_70] at h
  by_cases c_81 : r_10 = (5 : Int32)
  · rw [if_pos c_81] at h
    refine lv_tableIn (off := 197) (tgt := 217) hx hb dX6_canBe_20 (by rw [c_81]; decide) (by rw [c_81]; decide) (by rw [c_81]; decide) (by decide) ?_
    refine lv_iconst (v := 1) hx hb dX6_canBe_217 (by decide) ?_
    obtain ⟨e1, e2⟩ := gb_eq2 h
    exact W.zret (v := 1) hx hb hr (by decide) (fun t ht hW => gb_ri ht ⟨e2, by rw [← e1]; exact hP⟩ hS) hS.2.2 dX6_canBe_218
  rw [if_neg c_81] at h
  by_cases c_82 : r_10 = (6 : Int32)
  · rw [if_pos c_82] at h
    refine lv_tableIn (off := 197) (tgt := 217) hx hb dX6_canBe_20 (by rw [c_82]; decide) (by rw [c_82]; decide) (by rw [c_82]; decide) (by decide) ?_
    refine lv_iconst (v := 1) hx hb dX6_canBe_217 (by decide) ?_
    obtain ⟨e1, e2⟩ := gb_eq2 h
    exact W.zret (v := 1) hx hb hr (by decide) (fun t ht hW => gb_ri ht ⟨e2, by rw [← e1]; exact hP⟩ hS) hS.2.2 dX6_canBe_218
  rw [if_neg c_82] at h
  by_cases c_83 : r_10 = (7 : Int32)
  · rw [if_pos c_83] at h
    refine lv_tableIn (off := 197) (tgt := 217) hx hb dX6_canBe_20 (by rw [c_83]; decide) (by rw [c_83]; decide) (by rw [c_83]; decide) (by decide) ?_
    refine lv_iconst (v := 1) hx hb dX6_canBe_217 (by decide) ?_
    obtain ⟨e1, e2⟩ := gb_eq2 h
    exact W.zret (v := 1) hx hb hr (by decide) (fun t ht hW => gb_ri ht ⟨e2, by rw [← e1]; exact hP⟩ hS) hS.2.2 dX6_canBe_218
  rw [if_neg c_83] at h
  by_cases c_84 : r_10 = (8 : Int32)
  · rw [if_pos c_84] at h
    refine lv_tableIn (off := 171) (tgt := 191) hx hb dX6_canBe_20 (by rw [c_84]; decide) (by rw [c_84]; decide) (by rw [c_84]; decide) (by decide) ?_
    refine lv_aload_n hx hb dX6_canBe_191 rfl (lv_at hl 2 rfl) ?_
    obtain ⟨z_85, h⟩ := gb_kk_s h
    refine va_get (ci := 5) (v := (.ref (b + (s_9.2.1 1)))) (C := RX6) (T := TX6) (N := 12) hx hb hq i_X6 hown hK hP 109 (gb_at b rfl) rfl 0 (by decide) (hq _ w_197) (fun _ h9 => h9) rfl dX6_canBe_192 ?_
    refine lv_iload_n hx hb dX6_canBe_195 rfl (lv_at hl 1 rfl) ?_
    obtain ⟨s_86, r_87, z_88, h⟩ := gb_cd_s h
    refine gb_calli (va_runV (C := RX0) (As := [.int r_2]) (rest := []) ⟨hx, hb, hml, hown, hq⟩ (cc_Border_hasPath_B l D cT tt b1 b hb1 n s_9 (s_9.2.1 1) r_2 s_86 r_87 z_88) (cwV 1 hq (gb_gV w_733 w_608 w_609 w_4 w_610) rfl rfl rfl (by decide +kernel) ⟨Nat.le_of_ble_eq_true rfl, Nat.le_of_ble_eq_true rfl⟩) (gb_preV (r := (RX0, TX0, 1)) (ci := 0) (q0 := (s_9.2.1 1)) hSt hP rfl (gb_at b (gb_cB z_85).1) hS (fun q h => Nat.le_trans hb1 h.1) hP) rfl rfl hl.1 rfl (lv_room (Nat.le_of_ble_eq_true rfl)) dX6_canBe_196 ⟨Nat.le_of_ble_eq_true rfl, Nat.le_of_ble_eq_true rfl⟩) hS (fun _ h => h) (fun _ h => h) (fun q_89 H locs hY hk hS => ?_)
    obtain ⟨hq_89, hP⟩ := hY
    replace hq_89 := hq_89.symm
    subst hq_89
    refine lv_if_eq (tgt := 215) hx hb dX6_canBe_199 (by decide) (fun c_90 => ?_) (fun c_90 => ?_)
    · rw [if_pos c_90] at h
      refine lv_iconst (v := 0) hx hb dX6_canBe_215 (by decide) ?_
      obtain ⟨e1, e2⟩ := gb_eq2 h
      exact W.zret (v := 0) hx hb hr (by decide) (fun t ht hW => gb_ri ht ⟨e2, by rw [← e1]; exact hP⟩ hS) hS.2.2 dX6_canBe_216
    · rw [if_neg c_90] at h
      refine lv_aload_n hx hb dX6_canBe_202 rfl (lv_at hl 2 rfl) ?_
      refine lv_iload_n hx hb dX6_canBe_203 rfl (lv_at hl 1 rfl) ?_
      obtain ⟨s_91, r_92, z_93, h⟩ := gb_cd_s h
      refine gb_calli (va_runV (C := RX6) (As := [.int r_2]) (rest := []) ⟨hx, hb, hml, hown, hq⟩ (cc_Play_latestGoer l D cT tt b1 b hb1 n s_86 r_2 s_91 r_92 z_93) (cwV 1 hq (gb_gV w_734 w_736 s_1_14 w_11 w_737) rfl rfl rfl (by decide +kernel) ⟨Nat.le_of_ble_eq_true rfl, Nat.le_of_ble_eq_true rfl⟩) (gb_preV (r := (RX6, TX6, 12)) (ci := 5) (q0 := 109) hSt hP rfl (gb_at b rfl) hS (fun q h => Nat.le_trans hb1 h.1) hP) rfl rfl hl.1 rfl (lv_room (Nat.le_of_ble_eq_true rfl)) dX6_canBe_204 ⟨Nat.le_of_ble_eq_true rfl, Nat.le_of_ble_eq_true rfl⟩) hS (fun _ h => h) (fun _ h => h) (fun q_94 H locs hY hk hS => ?_)
      obtain ⟨hq_94, hP⟩ := hY
      replace hq_94 := hq_94.symm
      subst hq_94
      refine lv_iconst (v := (-1)) hx hb dX6_canBe_207 (by decide) ?_
      refine lv_icmp_eq (tgt := 215) hx hb dX6_canBe_208 (by decide) (fun c_95 => ?_) (fun c_95 => ?_)
      · rw [if_pos c_95] at h
        refine lv_iconst (v := 0) hx hb dX6_canBe_215 (by decide) ?_
        obtain ⟨e1, e2⟩ := gb_eq2 h
        exact W.zret (v := 0) hx hb hr (by decide) (fun t ht hW => gb_ri ht ⟨e2, by rw [← e1]; exact hP⟩ hS) hS.2.2 dX6_canBe_216
      · rw [if_neg c_95] at h
        refine lv_iconst (v := 1) hx hb dX6_canBe_211 (by decide) ?_
        refine lv_goto (tgt := 216) hx hb dX6_canBe_212 (by decide) ?_
        obtain ⟨e1, e2⟩ := gb_eq2 h
        exact W.zret (v := 1) hx hb hr (by decide) (fun t ht hW => gb_ri ht ⟨e2, by rw [← e1]; exact hP⟩ hS) hS.2.2 dX6_canBe_216
  rw [if_neg c_84] at h
  refine lv_tableOut (tgt := 217) hx hb dX6_canBe_20 (by have := lv_neT c_13 (a := 0) rfl; have := lv_neT c_25 (a := 1) rfl; have := lv_neT c_37 (a := 2) rfl; have := lv_neT c_49 (a := 3) rfl; have := lv_neT c_70 (a := 4) rfl; have := lv_neT c_81 (a := 5) rfl; have := lv_neT c_82 (a := 6) rfl; have := lv_neT c_83 (a := 7) rfl; have := lv_neT c_84 (a := 8) rfl; omega) (by decide) ?_
  refine lv_iconst (v := 1) hx hb dX6_canBe_217 (by decide) ?_
  obtain ⟨e1, e2⟩ := gb_eq2 h
  exact W.zret (v := 1) hx hb hr (by decide) (fun t ht hW => gb_ri ht ⟨e2, by rw [← e1]; exact hP⟩ hS) hS.2.2 dX6_canBe_218
def cs_Play_doDeed_c104 (n : Nat) (σ : gb_S) (p2 : Int32) (p3 : Int32) : gb_CR Unit := gb_cd (cs_Lines_cell n σ p2 1) (fun s_1 r_2 => gb_cd (cs_Lines_cell n s_1 p2 2) (fun s_5 r_6 => gb_cd (cs_Lines_kind n s_5 p2) (fun s_9 r_10 => (if r_10 = (0 : Int32) then (if p3 = 0 then gb_cd (cs_Play_go_n n s_9 r_2 r_6 p2) (fun s_15 _ => some (s_15, ())) else gb_cd (cs_Play_go_c116 n s_9 r_2 r_6 p2) (fun s_19 _ => some (s_19, ()))) else (if r_10 = (1 : Int32) then gb_cd (cs_Play_go_c117 n s_9 r_2 r_6 p2) (fun s_24 _ => some (s_24, ())) else (if r_10 = (2 : Int32) then gb_cd (cs_Play_go_c117 n s_9 r_2 r_6 p2) (fun s_29 _ => some (s_29, ())) else (if r_10 = (3 : Int32) then gb_cd (cs_Lines_cell n s_9 p2 3) (fun s_34 r_35 => gb_cd (cs_Play_go_c116 n s_34 r_2 r_35 p2) (fun s_38 _ => gb_ck r_6 8 (gb_lt (gb_su s_38 112 (upd (s_38.1 112) (Int32.toNatClampNeg r_6) 1)) (fun s_43 => gb_cd (cs_Lines_cell n s_43 p2 3) (fun s_44 r_45 => gb_ck r_6 8 (gb_lt (gb_su s_44 115 (upd (s_44.1 115) (Int32.toNatClampNeg r_6) r_45)) (fun s_49 => some (s_49, ())))))))) else (if r_10 = (4 : Int32) then gb_ck r_2 8 (gb_lt (gb_su s_9 113 (upd (s_9.1 113) (Int32.toNatClampNeg r_2) r_6)) (fun s_52 => gb_lt (gb_su s_52 109 (upd (s_52.1 109) 9 ((s_52.1 109 9) ||| ((1 : Int32) <<< (r_2 &&& 31))))) (fun s_53 => some (s_53, ())))) else (if r_10 = (5 : Int32) then gb_cd (cs_Play_rainDown n s_9 r_2) (fun s_55 _ => some (s_55, ())) else (if r_10 = (6 : Int32) then gb_lt (gb_su s_9 109 (upd (s_9.1 109) 10 1)) (fun s_60 => some (s_60, ())) else (if r_10 = (7 : Int32) then gb_lt (gb_su s_9 109 (upd (s_9.1 109) 10 0)) (fun s_62 => some (s_62, ())) else (if r_10 = (8 : Int32) then gb_cd (cs_Play_latestGoer n s_9 r_2) (fun s_64 r_65 => gb_cd (cs_Play_eat n s_64 r_65) (fun s_68 _ => some (s_68, ()))) else some (s_9, ())))))))))))))
set_option maxHeartbeats 8000000 in
set_option maxRecDepth 100000 in
theorem cc_Play_doDeed_c104 (l : Launch) (D : va_G) (cT : Nat → ClassId) (tt : Nat → Nat) (b1 b : Nat) (hb1 : b1 ≤ b) (n : Nat) (σ : gb_S) (p2 : Int32) (p3 : Int32) (σE : gb_S) (rE : Unit) (h : cs_Play_doDeed_c104 n σ p2 p3 = some (σE, rE)) : Met l yX6_doDeed (.code yX6_doDeed cX6_doDeed 6 none :: gb_wA) ({ frames := 3, cells := 0, slots := 0, locals := 74 }) (gb_Pc D cT tt b1 [.ref (b + 109), .ref (b + 104), .int p2, .int p3] (fun h => va_P D vwCl (gb_wl b (gb_CW cT b σ)) h)) (gb_Qv (fun h => va_P D vwCl (gb_wl b (gb_CW cT b σE)) h) (gb_fr b 135)) 0 0 (gb_fr b 135) := by
  refine Met.ofW (cc := cX6_doDeed) (maxL := 6) (ret := none) (by decide) rfl ?_
  intro p e s m args below meth c s₁ B hml hv
  obtain ⟨rfl, hSt, hP⟩ := hv
  have hx := B.exec
  have hb := B.bytes
  have hr := B.returns
  have hts := atoms_spec (ws := .code yX6_doDeed cX6_doDeed 6 none :: gb_wA) B.pre
  have hq : ∀ w ∈ gb_wA, w.before _ s = true := fun w h => hts w (List.mem_cons_of_mem _ h)
  have hown : s.vm.findClass RX6 = some m.cls := findClass_of_methodNamed B.named
  have hlocks := B.notSynchronized
  clear B hts
  have hK := hSt.1
  have hS : va_S (gb_fr b 135) s.heap s.heap [] := va_S.rf
  have hl := lv_entry ([.ref (b + 109), .ref (b + 104), .int p2, .int p3]) (n := 6) (Nat.le_of_ble_eq_true rfl)
  rw [lg_entry_eq]
  generalize (lg_sl ([.ref (b + 109), .ref (b + 104), .int p2, .int p3]) ++ List.replicate (6 - (lg_sl ([.ref (b + 109), .ref (b + 104), .int p2, .int p3])).length) Slot.unset).toArray = ls at hl ⊢
  replace hl : lv_has ls 6 [(0, .ref (b + 109)), (1, .ref (b + 104)), (2, .int p2), (3, .int p3)] := hl
  unfold cs_Play_doDeed_c104 at h
  refine lv_aload_n hx hb dX6_doDeed_0 rfl (lv_at hl 1 rfl) ?_
  refine lv_iload_n hx hb dX6_doDeed_1 rfl (lv_at hl 2 rfl) ?_
  refine lv_iconst (v := 1) hx hb dX6_doDeed_2 (by decide) ?_
  obtain ⟨s_1, r_2, z_3, h⟩ := gb_cd_s h
  refine gb_calli (va_runU (x := ⟨"GooseBorder$Night", "cell", "(II)I"⟩) (C := RX5) (owner := "GooseBorder$Lines") (As := [.int p2, .int 1]) (rest := []) ⟨hx, hb, hml, hown, hq⟩ (cc_Lines_cell l D cT tt b1 b hb1 n σ p2 1 s_1 r_2 z_3) (va_cwU (owner := "GooseBorder$Lines") (C := RX5) 2 hq (gb_gU w_723 w_724 w_725 w_546 w_6 w_547) rfl rfl rfl rfl (by decide +kernel) ⟨Nat.le_of_ble_eq_true rfl, Nat.le_of_ble_eq_true rfl⟩) (gb_preV (r := (RX5, TX5, 4)) (ci := 4) (q0 := 104) hSt hP rfl (gb_at b rfl) hS (fun q h => Nat.le_trans hb1 h.1) hP) rfl rfl hl.1 rfl (lv_room (Nat.le_of_ble_eq_true rfl)) dX6_doDeed_3 ⟨Nat.le_of_ble_eq_true rfl, Nat.le_of_ble_eq_true rfl⟩) hS (fun _ h => h) (fun _ h => h) (fun q_4 H locs hY hk hS => ?_)
  obtain ⟨hq_4, hP⟩ := hY
  replace hq_4 := hq_4.symm
  subst hq_4
  refine lv_istore (lv' := [(4, .int r_2), (0, .ref (b + 109)), (1, .ref (b + 104)), (2, .int p2), (3, .int p3)]) hx hb dX6_doDeed_6 hl (by decide) rfl (fun ls hl => ?_)
  refine lv_aload_n hx hb dX6_doDeed_8 rfl (lv_at hl 2 rfl) ?_
  refine lv_iload_n hx hb dX6_doDeed_9 rfl (lv_at hl 3 rfl) ?_
  refine lv_iconst (v := 2) hx hb dX6_doDeed_10 (by decide) ?_
  obtain ⟨s_5, r_6, z_7, h⟩ := gb_cd_s h
  refine gb_calli (va_runU (x := ⟨"GooseBorder$Night", "cell", "(II)I"⟩) (C := RX5) (owner := "GooseBorder$Lines") (As := [.int p2, .int 2]) (rest := []) ⟨hx, hb, hml, hown, hq⟩ (cc_Lines_cell l D cT tt b1 b hb1 n s_1 p2 2 s_5 r_6 z_7) (va_cwU (owner := "GooseBorder$Lines") (C := RX5) 2 hq (gb_gU w_723 w_724 w_725 w_546 w_6 w_547) rfl rfl rfl rfl (by decide +kernel) ⟨Nat.le_of_ble_eq_true rfl, Nat.le_of_ble_eq_true rfl⟩) (gb_preV (r := (RX5, TX5, 4)) (ci := 4) (q0 := 104) hSt hP rfl (gb_at b rfl) hS (fun q h => Nat.le_trans hb1 h.1) hP) rfl rfl hl.1 rfl (lv_room (Nat.le_of_ble_eq_true rfl)) dX6_doDeed_11 ⟨Nat.le_of_ble_eq_true rfl, Nat.le_of_ble_eq_true rfl⟩) hS (fun _ h => h) (fun _ h => h) (fun q_8 H locs hY hk hS => ?_)
  obtain ⟨hq_8, hP⟩ := hY
  replace hq_8 := hq_8.symm
  subst hq_8
  refine lv_istore (lv' := [(5, .int r_6), (4, .int r_2), (0, .ref (b + 109)), (1, .ref (b + 104)), (2, .int p2), (3, .int p3)]) hx hb dX6_doDeed_14 hl (by decide) rfl (fun ls hl => ?_)
  refine lv_aload_n hx hb dX6_doDeed_16 rfl (lv_at hl 3 rfl) ?_
  refine lv_iload_n hx hb dX6_doDeed_17 rfl (lv_at hl 4 rfl) ?_
  obtain ⟨s_9, r_10, z_11, h⟩ := gb_cd_s h
  refine gb_calli (va_runU (x := ⟨"GooseBorder$Night", "kind", "(I)I"⟩) (C := RX5) (owner := "GooseBorder$Lines") (As := [.int p2]) (rest := []) ⟨hx, hb, hml, hown, hq⟩ (cc_Lines_kind l D cT tt b1 b hb1 n s_5 p2 s_9 r_10 z_11) (va_cwU (owner := "GooseBorder$Lines") (C := RX5) 1 hq (gb_gU w_726 w_727 w_728 w_689 w_6 w_690) rfl rfl rfl rfl (by decide +kernel) ⟨Nat.le_of_ble_eq_true rfl, Nat.le_of_ble_eq_true rfl⟩) (gb_preV (r := (RX5, TX5, 4)) (ci := 4) (q0 := 104) hSt hP rfl (gb_at b rfl) hS (fun q h => Nat.le_trans hb1 h.1) hP) rfl rfl hl.1 rfl (lv_room (Nat.le_of_ble_eq_true rfl)) dX6_doDeed_18 ⟨Nat.le_of_ble_eq_true rfl, Nat.le_of_ble_eq_true rfl⟩) hS (fun _ h => h) (fun _ h => h) (fun q_12 H locs hY hk hS => ?_)
  obtain ⟨hq_12, hP⟩ := hY
  replace hq_12 := hq_12.symm
  subst hq_12
  by_cases c_13 : r_10 = (0 : Int32)
  · rw [if_pos c_13] at h
    refine lv_tableIn (off := 51) (tgt := 72) hx hb dX6_doDeed_21 (by rw [c_13]; decide) (by rw [c_13]; decide) (by rw [c_13]; decide) (by decide) ?_
    refine lv_aload_n hx hb dX6_doDeed_72 rfl (lv_at hl 2 rfl) ?_
    refine lv_iload hx hb dX6_doDeed_73 (lv_at hl 1 rfl) ?_
    refine lv_iload hx hb dX6_doDeed_75 (lv_at hl 0 rfl) ?_
    refine lv_iload_n hx hb dX6_doDeed_77 rfl (lv_at hl 4 rfl) ?_
    refine lv_iload_n hx hb dX6_doDeed_78 rfl (lv_at hl 5 rfl) ?_
    refine lv_if_eq (tgt := 89) hx hb dX6_doDeed_79 (by decide) (fun c_14 => ?_) (fun c_14 => ?_)
    · rw [if_pos c_14] at h
      refine lv_null hx hb dX6_doDeed_89 ?_
      obtain ⟨s_15, r_16, z_17, h⟩ := gb_cd_s h
      refine gb_callv (va_runV (C := RX6) (As := [.int r_2, .int r_6, .int p2, .null]) (rest := []) ⟨hx, hb, hml, hown, hq⟩ (cc_Play_go_n l D cT tt b1 b hb1 n s_9 r_2 r_6 p2 s_15 r_16 z_17) (cwV 4 hq (gb_gV w_743 w_744 w_745 w_11 w_746) rfl rfl rfl (by decide +kernel) ⟨Nat.le_of_ble_eq_true rfl, Nat.le_of_ble_eq_true rfl⟩) (gb_preV (r := (RX6, TX6, 12)) (ci := 5) (q0 := 109) hSt hP rfl (gb_at b rfl) hS (fun q h => Nat.le_trans hb1 h.1) hP) rfl rfl hl.1 rfl (lv_room (Nat.le_of_ble_eq_true rfl)) dX6_doDeed_90 ⟨Nat.le_of_ble_eq_true rfl, Nat.le_of_ble_eq_true rfl⟩) hS (fun _ h => h) (fun _ h => h) (fun H locs hY hk hS => ?_)
      have hP := hY
      refine lv_goto (tgt := 216) hx hb dX6_doDeed_93 (by decide) ?_
      obtain ⟨e1, -⟩ := gb_eq2 h
      exact W.vret hx hb hr (fun t ht hW => gb_rv ht (by rw [← e1]; exact hP) hS) hS.2.2 dX6_doDeed_216
    · rw [if_neg c_14] at h
      refine lv_aload_n hx hb dX6_doDeed_82 rfl (lv_at hl 2 rfl) ?_
      refine va_get (ci := 5) (v := (.ref (b + 116))) (C := RX6) (T := TX6) (N := 12) hx hb hq i_X6 hown hK hP 109 (gb_at b rfl) rfl 5 (by decide) (hq _ w_206) (fun _ h9 => h9) rfl dX6_doDeed_83 ?_
      refine lv_goto (tgt := 90) hx hb dX6_doDeed_86 (by decide) ?_
      obtain ⟨s_19, r_20, z_21, h⟩ := gb_cd_s h
      refine gb_callv (va_runV (C := RX6) (As := [.int r_2, .int r_6, .int p2, .ref (b + 116)]) (rest := []) ⟨hx, hb, hml, hown, hq⟩ (cc_Play_go_c116 l D cT tt b1 b hb1 n s_9 r_2 r_6 p2 s_19 r_20 z_21) (cwV 4 hq (gb_gV w_743 w_744 w_745 w_11 w_746) rfl rfl rfl (by decide +kernel) ⟨Nat.le_of_ble_eq_true rfl, Nat.le_of_ble_eq_true rfl⟩) (gb_preV (r := (RX6, TX6, 12)) (ci := 5) (q0 := 109) hSt hP rfl (gb_at b rfl) hS (fun q h => Nat.le_trans hb1 h.1) hP) rfl rfl hl.1 rfl (lv_room (Nat.le_of_ble_eq_true rfl)) dX6_doDeed_90 ⟨Nat.le_of_ble_eq_true rfl, Nat.le_of_ble_eq_true rfl⟩) hS (fun _ h => h) (fun _ h => h) (fun H locs hY hk hS => ?_)
      have hP := hY
      refine lv_goto (tgt := 216) hx hb dX6_doDeed_93 (by decide) ?_
      obtain ⟨e1, -⟩ := gb_eq2 h
      exact W.vret hx hb hr (fun t ht hW => gb_rv ht (by rw [← e1]; exact hP) hS) hS.2.2 dX6_doDeed_216
  rw [if_neg c_13] at h
  by_cases c_23 : r_10 = (1 : Int32)
  · rw [if_pos c_23] at h
    refine lv_tableIn (off := 75) (tgt := 96) hx hb dX6_doDeed_21 (by rw [c_23]; decide) (by rw [c_23]; decide) (by rw [c_23]; decide) (by decide) ?_
    refine lv_aload_n hx hb dX6_doDeed_96 rfl (lv_at hl 2 rfl) ?_
    refine lv_iload hx hb dX6_doDeed_97 (lv_at hl 1 rfl) ?_
    refine lv_iload hx hb dX6_doDeed_99 (lv_at hl 0 rfl) ?_
    refine lv_iload_n hx hb dX6_doDeed_101 rfl (lv_at hl 4 rfl) ?_
    refine lv_aload_n hx hb dX6_doDeed_102 rfl (lv_at hl 2 rfl) ?_
    refine va_get (ci := 5) (v := (.ref (b + 117))) (C := RX6) (T := TX6) (N := 12) hx hb hq i_X6 hown hK hP 109 (gb_at b rfl) rfl 6 (by decide) (hq _ w_208) (fun _ h9 => h9) rfl dX6_doDeed_103 ?_
    obtain ⟨s_24, r_25, z_26, h⟩ := gb_cd_s h
    refine gb_callv (va_runV (C := RX6) (As := [.int r_2, .int r_6, .int p2, .ref (b + 117)]) (rest := []) ⟨hx, hb, hml, hown, hq⟩ (cc_Play_go_c117 l D cT tt b1 b hb1 n s_9 r_2 r_6 p2 s_24 r_25 z_26) (cwV 4 hq (gb_gV w_743 w_744 w_745 w_11 w_746) rfl rfl rfl (by decide +kernel) ⟨Nat.le_of_ble_eq_true rfl, Nat.le_of_ble_eq_true rfl⟩) (gb_preV (r := (RX6, TX6, 12)) (ci := 5) (q0 := 109) hSt hP rfl (gb_at b rfl) hS (fun q h => Nat.le_trans hb1 h.1) hP) rfl rfl hl.1 rfl (lv_room (Nat.le_of_ble_eq_true rfl)) dX6_doDeed_106 ⟨Nat.le_of_ble_eq_true rfl, Nat.le_of_ble_eq_true rfl⟩) hS (fun _ h => h) (fun _ h => h) (fun H locs hY hk hS => ?_)
    have hP := hY
    refine lv_goto (tgt := 216) hx hb dX6_doDeed_109 (by decide) ?_
    obtain ⟨e1, -⟩ := gb_eq2 h
    exact W.vret hx hb hr (fun t ht hW => gb_rv ht (by rw [← e1]; exact hP) hS) hS.2.2 dX6_doDeed_216
  rw [if_neg c_23] at h
  by_cases c_28 : r_10 = (2 : Int32)
  · rw [if_pos c_28] at h
    refine lv_tableIn (off := 75) (tgt := 96) hx hb dX6_doDeed_21 (by rw [c_28]; decide) (by rw [c_28]; decide) (by rw [c_28]; decide) (by decide) ?_
    refine lv_aload_n hx hb dX6_doDeed_96 rfl (lv_at hl 2 rfl) ?_
    refine lv_iload hx hb dX6_doDeed_97 (lv_at hl 1 rfl) ?_
    refine lv_iload hx hb dX6_doDeed_99 (lv_at hl 0 rfl) ?_
    refine lv_iload_n hx hb dX6_doDeed_101 rfl (lv_at hl 4 rfl) ?_
    refine lv_aload_n hx hb dX6_doDeed_102 rfl (lv_at hl 2 rfl) ?_
    refine va_get (ci := 5) (v := (.ref (b + 117))) (C := RX6) (T := TX6) (N := 12) hx hb hq i_X6 hown hK hP 109 (gb_at b rfl) rfl 6 (by decide) (hq _ w_208) (fun _ h9 => h9) rfl dX6_doDeed_103 ?_
    obtain ⟨s_29, r_30, z_31, h⟩ := gb_cd_s h
    refine gb_callv (va_runV (C := RX6) (As := [.int r_2, .int r_6, .int p2, .ref (b + 117)]) (rest := []) ⟨hx, hb, hml, hown, hq⟩ (cc_Play_go_c117 l D cT tt b1 b hb1 n s_9 r_2 r_6 p2 s_29 r_30 z_31) (cwV 4 hq (gb_gV w_743 w_744 w_745 w_11 w_746) rfl rfl rfl (by decide +kernel) ⟨Nat.le_of_ble_eq_true rfl, Nat.le_of_ble_eq_true rfl⟩) (gb_preV (r := (RX6, TX6, 12)) (ci := 5) (q0 := 109) hSt hP rfl (gb_at b rfl) hS (fun q h => Nat.le_trans hb1 h.1) hP) rfl rfl hl.1 rfl (lv_room (Nat.le_of_ble_eq_true rfl)) dX6_doDeed_106 ⟨Nat.le_of_ble_eq_true rfl, Nat.le_of_ble_eq_true rfl⟩) hS (fun _ h => h) (fun _ h => h) (fun H locs hY hk hS => ?_)
    have hP := hY
    refine lv_goto (tgt := 216) hx hb dX6_doDeed_109 (by decide) ?_
    obtain ⟨e1, -⟩ := gb_eq2 h
    exact W.vret hx hb hr (fun t ht hW => gb_rv ht (by rw [← e1]; exact hP) hS) hS.2.2 dX6_doDeed_216
  rw [if_neg c_28] at h
  by_cases c_33 : r_10 = (3 : Int32)
  · rw [if_pos c_33] at h
    refine lv_tableIn (off := 91) (tgt := 112) hx hb dX6_doDeed_21 (by rw [c_33]; decide) (by rw [c_33]; decide) (by rw [c_33]; decide) (by decide) ?_
    refine lv_aload_n hx hb dX6_doDeed_112 rfl (lv_at hl 2 rfl) ?_
    refine lv_iload hx hb dX6_doDeed_113 (lv_at hl 1 rfl) ?_
    refine lv_aload_n hx hb dX6_doDeed_115 rfl (lv_at hl 3 rfl) ?_
    refine lv_iload_n hx hb dX6_doDeed_116 rfl (lv_at hl 4 rfl) ?_
    refine lv_iconst (v := 3) hx hb dX6_doDeed_117 (by decide) ?_
    obtain ⟨s_34, r_35, z_36, h⟩ := gb_cd_s h
    refine gb_calli (va_runU (x := ⟨"GooseBorder$Night", "cell", "(II)I"⟩) (C := RX5) (owner := "GooseBorder$Lines") (As := [.int p2, .int 3]) (rest := [.int r_2, .ref (b + 109)]) ⟨hx, hb, hml, hown, hq⟩ (cc_Lines_cell l D cT tt b1 b hb1 n s_9 p2 3 s_34 r_35 z_36) (va_cwU (owner := "GooseBorder$Lines") (C := RX5) 2 hq (gb_gU w_723 w_724 w_725 w_546 w_6 w_547) rfl rfl rfl rfl (by decide +kernel) ⟨Nat.le_of_ble_eq_true rfl, Nat.le_of_ble_eq_true rfl⟩) (gb_preV (r := (RX5, TX5, 4)) (ci := 4) (q0 := 104) hSt hP rfl (gb_at b rfl) hS (fun q h => Nat.le_trans hb1 h.1) hP) rfl rfl hl.1 rfl (lv_room (Nat.le_of_ble_eq_true rfl)) dX6_doDeed_118 ⟨Nat.le_of_ble_eq_true rfl, Nat.le_of_ble_eq_true rfl⟩) hS (fun _ h => h) (fun _ h => h) (fun q_37 H locs hY hk hS => ?_)
    obtain ⟨hq_37, hP⟩ := hY
    replace hq_37 := hq_37.symm
    subst hq_37
    refine lv_iload_n hx hb dX6_doDeed_121 rfl (lv_at hl 4 rfl) ?_
    refine lv_aload_n hx hb dX6_doDeed_122 rfl (lv_at hl 2 rfl) ?_
    refine va_get (ci := 5) (v := (.ref (b + 116))) (C := RX6) (T := TX6) (N := 12) hx hb hq i_X6 hown hK hP 109 (gb_at b rfl) rfl 5 (by decide) (hq _ w_206) (fun _ h9 => h9) rfl dX6_doDeed_123 ?_
    obtain ⟨s_38, r_39, z_40, h⟩ := gb_cd_s h
    refine gb_callv (va_runV (C := RX6) (As := [.int r_2, .int r_35, .int p2, .ref (b + 116)]) (rest := []) ⟨hx, hb, hml, hown, hq⟩ (cc_Play_go_c116 l D cT tt b1 b hb1 n s_34 r_2 r_35 p2 s_38 r_39 z_40) (cwV 4 hq (gb_gV w_743 w_744 w_745 w_11 w_746) rfl rfl rfl (by decide +kernel) ⟨Nat.le_of_ble_eq_true rfl, Nat.le_of_ble_eq_true rfl⟩) (gb_preV (r := (RX6, TX6, 12)) (ci := 5) (q0 := 109) hSt hP rfl (gb_at b rfl) hS (fun q h => Nat.le_trans hb1 h.1) hP) rfl rfl hl.1 rfl (lv_room (Nat.le_of_ble_eq_true rfl)) dX6_doDeed_126 ⟨Nat.le_of_ble_eq_true rfl, Nat.le_of_ble_eq_true rfl⟩) hS (fun _ h => h) (fun _ h => h) (fun H locs hY hk hS => ?_)
    have hP := hY
    refine lv_aload_n hx hb dX6_doDeed_129 rfl (lv_at hl 2 rfl) ?_
    refine va_get (ci := 5) (v := (.ref (b + 112))) (C := RX6) (T := TX6) (N := 12) hx hb hq i_X6 hown hK hP 109 (gb_at b rfl) rfl 1 (by decide) (hq _ w_198) (fun _ h9 => h9) rfl dX6_doDeed_130 ?_
    refine lv_iload hx hb dX6_doDeed_133 (lv_at hl 0 rfl) ?_
    refine lv_iconst (v := 1) hx hb dX6_doDeed_135 (by decide) ?_
    obtain ⟨z_42, h⟩ := gb_ck_s h
    refine va_iast (x := 1) hx hb hK hP (gb_D (fun k h => ⟨Nat.le_add_right b k, Nat.add_lt_add_left h b⟩)) hS 112 0 (gb_at b rfl) rfl z_42 dX6_doDeed_136 (fun H locs hP hD hS => ?_)
    rw [gb_set] at hP
    obtain ⟨s_43, es_43⟩ : ∃ q, q = (gb_su s_38 112 (upd (s_38.1 112) (Int32.toNatClampNeg r_6) 1)) := ⟨_, rfl⟩
    replace hP : va_P D vwCl (gb_wl b (gb_CW cT b s_43)) H := by rw [es_43]; exact hP
    replace h := gb_lt_s es_43 h
    refine lv_aload_n hx hb dX6_doDeed_137 rfl (lv_at hl 2 rfl) ?_
    refine va_get (ci := 5) (v := (.ref (b + 115))) (C := RX6) (T := TX6) (N := 12) hx hb hq i_X6 hown hK hP 109 (gb_at b rfl) rfl 4 (by decide) (hq _ w_204) (fun _ h9 => h9) rfl dX6_doDeed_138 ?_
    refine lv_iload hx hb dX6_doDeed_141 (lv_at hl 0 rfl) ?_
    refine lv_aload_n hx hb dX6_doDeed_143 rfl (lv_at hl 3 rfl) ?_
    refine lv_iload_n hx hb dX6_doDeed_144 rfl (lv_at hl 4 rfl) ?_
    refine lv_iconst (v := 3) hx hb dX6_doDeed_145 (by decide) ?_
    obtain ⟨s_44, r_45, z_46, h⟩ := gb_cd_s h
    refine gb_calli (va_runU (x := ⟨"GooseBorder$Night", "cell", "(II)I"⟩) (C := RX5) (owner := "GooseBorder$Lines") (As := [.int p2, .int 3]) (rest := [.int r_6, .ref (b + 115)]) ⟨hx, hb, hml, hown, hq⟩ (cc_Lines_cell l D cT tt b1 b hb1 n s_43 p2 3 s_44 r_45 z_46) (va_cwU (owner := "GooseBorder$Lines") (C := RX5) 2 hq (gb_gU w_723 w_724 w_725 w_546 w_6 w_547) rfl rfl rfl rfl (by decide +kernel) ⟨Nat.le_of_ble_eq_true rfl, Nat.le_of_ble_eq_true rfl⟩) (gb_preV (r := (RX5, TX5, 4)) (ci := 4) (q0 := 104) hSt hP rfl (gb_at b rfl) hS (fun q h => Nat.le_trans hb1 h.1) hP) rfl rfl hl.1 rfl (lv_room (Nat.le_of_ble_eq_true rfl)) dX6_doDeed_146 ⟨Nat.le_of_ble_eq_true rfl, Nat.le_of_ble_eq_true rfl⟩) hS (fun _ h => h) (fun _ h => h) (fun q_47 H locs hY hk hS => ?_)
    obtain ⟨hq_47, hP⟩ := hY
    replace hq_47 := hq_47.symm
    subst hq_47
    obtain ⟨z_48, h⟩ := gb_ck_s h
    refine va_iast (x := r_45) hx hb hK hP (gb_D (fun k h => ⟨Nat.le_add_right b k, Nat.add_lt_add_left h b⟩)) hS 115 0 (gb_at b rfl) rfl z_48 dX6_doDeed_149 (fun H locs hP hD hS => ?_)
    rw [gb_set] at hP
    obtain ⟨s_49, es_49⟩ : ∃ q, q = (gb_su s_44 115 (upd (s_44.1 115) (Int32.toNatClampNeg r_6) r_45)) := ⟨_, rfl⟩
    replace hP : va_P D vwCl (gb_wl b (gb_CW cT b s_49)) H := by rw [es_49]; exact hP
    replace h := gb_lt_s es_49 h
    refine lv_goto (tgt := 216) hx hb dX6_doDeed_150 (by decide) ?_
    obtain ⟨e1, -⟩ := gb_eq2 h
    exact W.vret hx hb hr (fun t ht hW => gb_rv ht (by rw [← e1]; exact hP) hS) hS.2.2 dX6_doDeed_216
  rw [if_neg c_33] at h
  by_cases c_50 : r_10 = (4 : Int32)
  · rw [if_pos c_50] at h
    refine lv_tableIn (off := 132) (tgt := 153) hx hb dX6_doDeed_21 (by rw [c_50]; decide) (by rw [c_50]; decide) (by rw [c_50]; decide) (by decide) ?_
    refine lv_aload_n hx hb dX6_doDeed_153 rfl (lv_at hl 2 rfl) ?_
    refine va_get (ci := 5) (v := (.ref (b + 113))) (C := RX6) (T := TX6) (N := 12) hx hb hq i_X6 hown hK hP 109 (gb_at b rfl) rfl 2 (by decide) (hq _ w_200) (fun _ h9 => h9) rfl dX6_doDeed_154 ?_
    refine lv_iload hx hb dX6_doDeed_157 (lv_at hl 1 rfl) ?_
    refine lv_iload hx hb dX6_doDeed_159 (lv_at hl 0 rfl) ?_
    obtain ⟨z_51, h⟩ := gb_ck_s h
    refine va_iast (x := r_6) hx hb hK hP (gb_D (fun k h => ⟨Nat.le_add_right b k, Nat.add_lt_add_left h b⟩)) hS 113 0 (gb_at b rfl) rfl z_51 dX6_doDeed_161 (fun H locs hP hD hS => ?_)
    rw [gb_set] at hP
    obtain ⟨s_52, es_52⟩ : ∃ q, q = (gb_su s_9 113 (upd (s_9.1 113) (Int32.toNatClampNeg r_2) r_6)) := ⟨_, rfl⟩
    replace hP : va_P D vwCl (gb_wl b (gb_CW cT b s_52)) H := by rw [es_52]; exact hP
    replace h := gb_lt_s es_52 h
    refine lv_aload_n hx hb dX6_doDeed_162 rfl (lv_at hl 2 rfl) ?_
    refine lv_dup hx hb dX6_doDeed_163 rfl ?_
    refine va_get (ci := 5) (v := (.int (s_52.1 109 9))) (C := RX6) (T := TX6) (N := 12) hx hb hq i_X6 hown hK hP 109 (gb_at b rfl) rfl 9 (by decide) (hq _ w_213) (fun _ h9 => h9) rfl dX6_doDeed_164 ?_
    refine lv_iconst (v := 1) hx hb dX6_doDeed_167 (by decide) ?_
    refine lv_iload hx hb dX6_doDeed_168 (lv_at hl 1 rfl) ?_
    refine lv_ishl hx hb dX6_doDeed_170 ?_
    refine lv_ior hx hb dX6_doDeed_171 ?_
    refine gb_put (ci := 5) (v := (.int ((s_52.1 109 9) ||| ((1 : Int32) <<< (r_2 &&& 31))))) (ty := .int) (C := RX6) (T := TX6) (N := 12) hx hb hq i_X6 tyX6 tyX6_ok nmX6 hown hK hP (fun k h => ⟨Nat.le_add_right b k, Nat.add_lt_add_left h b⟩) hS rfl 109 rfl rfl 9 (by decide) (hq _ w_213) (fun _ h9 => h9) rfl (by decide +kernel) rfl rfl (Nat.le_of_ble_eq_true rfl) dX6_doDeed_172 (fun H locs hP hz_ hS => ?_)
    obtain ⟨s_53, es_53⟩ : ∃ q, q = (gb_su s_52 109 (upd (s_52.1 109) 9 ((s_52.1 109 9) ||| ((1 : Int32) <<< (r_2 &&& 31))))) := ⟨_, rfl⟩
    replace hP : va_P D vwCl (gb_wl b (gb_CW cT b s_53)) H := by rw [es_53]; exact hP
    replace h := gb_lt_s es_53 h
    refine lv_goto (tgt := 216) hx hb dX6_doDeed_175 (by decide) ?_
    obtain ⟨e1, -⟩ := gb_eq2 h
    exact W.vret hx hb hr (fun t ht hW => gb_rv ht (by rw [← e1]; exact hP) hS) hS.2.2 dX6_doDeed_216
  rw [if_neg c_50] at h
  by_cases c_54 : r_10 = (5 : Int32)
  · rw [if_pos c_54] at h
    refine lv_tableIn (off := 157) (tgt := 178) hx hb dX6_doDeed_21 (by rw [c_54]; decide) (by rw [c_54]; decide) (by rw [c_54]; decide) (by decide) ?_
    refine lv_aload_n hx hb dX6_doDeed_178 rfl (lv_at hl 2 rfl) ?_
    refine lv_iload hx hb dX6_doDeed_179 (lv_at hl 1 rfl) ?_
    obtain ⟨s_55, r_56, z_57, h⟩ := gb_cd_s h
    refine gb_callv (va_runV (C := RX6) (As := [.int r_2]) (rest := []) ⟨hx, hb, hml, hown, hq⟩ (cc_Play_rainDown l D cT tt b1 b hb1 n s_9 r_2 s_55 r_56 z_57) (cwV 1 hq (gb_gV w_750 w_751 w_752 w_11 w_753) rfl rfl rfl (by decide +kernel) ⟨Nat.le_of_ble_eq_true rfl, Nat.le_of_ble_eq_true rfl⟩) (gb_preV (r := (RX6, TX6, 12)) (ci := 5) (q0 := 109) hSt hP rfl (gb_at b rfl) hS (fun q h => Nat.le_trans hb1 h.1) hP) rfl rfl hl.1 rfl (lv_room (Nat.le_of_ble_eq_true rfl)) dX6_doDeed_181 ⟨Nat.le_of_ble_eq_true rfl, Nat.le_of_ble_eq_true rfl⟩) hS (fun _ h => h) (fun _ h => h) (fun H locs hY hk hS => ?_)
    have hP := hY
    refine lv_goto (tgt := 216) hx hb dX6_doDeed_184 (by decide) ?_
    obtain ⟨e1, -⟩ := gb_eq2 h
    exact W.vret hx hb hr (fun t ht hW => gb_rv ht (by rw [← e1]; exact hP) hS) hS.2.2 dX6_doDeed_216
  rw [if_neg c_54] at h
  by_cases c_59 : r_10 = (6 : Int32)
  · rw [if_pos c_59] at h
    refine lv_tableIn (off := 166) (tgt := 187) hx hb dX6_doDeed_21 (by rw [c_59]; decide) (by rw [c_59]; decide) (by rw [c_59]; decide) (by decide) ?_
    refine lv_aload_n hx hb dX6_doDeed_187 rfl (lv_at hl 2 rfl) ?_
    refine lv_iconst (v := 1) hx hb dX6_doDeed_188 (by decide) ?_
    refine gb_put (ci := 5) (v := (.int 1)) (ty := .boolean) (C := RX6) (T := TX6) (N := 12) hx hb hq i_X6 tyX6 tyX6_ok nmX6 hown hK hP (fun k h => ⟨Nat.le_add_right b k, Nat.add_lt_add_left h b⟩) hS rfl 109 rfl rfl 10 (by decide) (hq _ w_214) (fun _ h9 => h9) rfl (by decide +kernel) (by decide) (by decide) (Nat.le_of_ble_eq_true rfl) dX6_doDeed_189 (fun H locs hP hz_ hS => ?_)
    obtain ⟨s_60, es_60⟩ : ∃ q, q = (gb_su s_9 109 (upd (s_9.1 109) 10 1)) := ⟨_, rfl⟩
    replace hP : va_P D vwCl (gb_wl b (gb_CW cT b s_60)) H := by rw [es_60]; exact hP
    replace h := gb_lt_s es_60 h
    refine lv_goto (tgt := 216) hx hb dX6_doDeed_192 (by decide) ?_
    obtain ⟨e1, -⟩ := gb_eq2 h
    exact W.vret hx hb hr (fun t ht hW => gb_rv ht (by rw [← e1]; exact hP) hS) hS.2.2 dX6_doDeed_216
  rw [if_neg c_59] at h
  by_cases c_61 : r_10 = (7 : Int32)
  · rw [if_pos c_61] at h
    refine lv_tableIn (off := 174) (tgt := 195) hx hb dX6_doDeed_21 (by rw [c_61]; decide) (by rw [c_61]; decide) (by rw [c_61]; decide) (by decide) ?_
    refine lv_aload_n hx hb dX6_doDeed_195 rfl (lv_at hl 2 rfl) ?_
    refine lv_iconst (v := 0) hx hb dX6_doDeed_196 (by decide) ?_
    refine gb_put (ci := 5) (v := (.int 0)) (ty := .boolean) (C := RX6) (T := TX6) (N := 12) hx hb hq i_X6 tyX6 tyX6_ok nmX6 hown hK hP (fun k h => ⟨Nat.le_add_right b k, Nat.add_lt_add_left h b⟩) hS rfl 109 rfl rfl 10 (by decide) (hq _ w_214) (fun _ h9 => h9) rfl (by decide +kernel) (by decide) (by decide) (Nat.le_of_ble_eq_true rfl) dX6_doDeed_197 (fun H locs hP hz_ hS => ?_)
    obtain ⟨s_62, es_62⟩ : ∃ q, q = (gb_su s_9 109 (upd (s_9.1 109) 10 0)) := ⟨_, rfl⟩
    replace hP : va_P D vwCl (gb_wl b (gb_CW cT b s_62)) H := by rw [es_62]; exact hP
    replace h := gb_lt_s es_62 h
    refine lv_goto (tgt := 216) hx hb dX6_doDeed_200 (by decide) ?_
    obtain ⟨e1, -⟩ := gb_eq2 h
    exact W.vret hx hb hr (fun t ht hW => gb_rv ht (by rw [← e1]; exact hP) hS) hS.2.2 dX6_doDeed_216
  rw [if_neg c_61] at h
  by_cases c_63 : r_10 = (8 : Int32)
  · rw [if_pos c_63] at h
    refine lv_tableIn (off := 182) (tgt := 203) hx hb dX6_doDeed_21 (by rw [c_63]; decide) (by rw [c_63]; decide) (by rw [c_63]; decide) (by decide) ?_
    refine lv_aload_n hx hb dX6_doDeed_203 rfl (lv_at hl 2 rfl) ?_
    refine lv_aload_n hx hb dX6_doDeed_204 rfl (lv_at hl 2 rfl) ?_
    refine lv_iload hx hb dX6_doDeed_205 (lv_at hl 1 rfl) ?_
    obtain ⟨s_64, r_65, z_66, h⟩ := gb_cd_s h
    refine gb_calli (va_runV (C := RX6) (As := [.int r_2]) (rest := [.ref (b + 109)]) ⟨hx, hb, hml, hown, hq⟩ (cc_Play_latestGoer l D cT tt b1 b hb1 n s_9 r_2 s_64 r_65 z_66) (cwV 1 hq (gb_gV w_734 w_736 s_1_14 w_11 w_737) rfl rfl rfl (by decide +kernel) ⟨Nat.le_of_ble_eq_true rfl, Nat.le_of_ble_eq_true rfl⟩) (gb_preV (r := (RX6, TX6, 12)) (ci := 5) (q0 := 109) hSt hP rfl (gb_at b rfl) hS (fun q h => Nat.le_trans hb1 h.1) hP) rfl rfl hl.1 rfl (lv_room (Nat.le_of_ble_eq_true rfl)) dX6_doDeed_207 ⟨Nat.le_of_ble_eq_true rfl, Nat.le_of_ble_eq_true rfl⟩) hS (fun _ h => h) (fun _ h => h) (fun q_67 H locs hY hk hS => ?_)
    obtain ⟨hq_67, hP⟩ := hY
    replace hq_67 := hq_67.symm
    subst hq_67
    obtain ⟨s_68, r_69, z_70, h⟩ := gb_cd_s h
    refine gb_callv (va_runV (C := RX6) (As := [.int r_65]) (rest := []) ⟨hx, hb, hml, hown, hq⟩ (cc_Play_eat l D cT tt b1 b hb1 n s_64 r_65 s_68 r_69 z_70) (cwV 1 hq (gb_gV w_755 w_757 s_2_0 w_11 w_758) rfl rfl rfl (by decide +kernel) ⟨Nat.le_of_ble_eq_true rfl, Nat.le_of_ble_eq_true rfl⟩) (gb_preV (r := (RX6, TX6, 12)) (ci := 5) (q0 := 109) hSt hP rfl (gb_at b rfl) hS (fun q h => Nat.le_trans hb1 h.1) hP) rfl rfl hl.1 rfl (lv_room (Nat.le_of_ble_eq_true rfl)) dX6_doDeed_210 ⟨Nat.le_of_ble_eq_true rfl, Nat.le_of_ble_eq_true rfl⟩) hS (fun _ h => h) (fun _ h => h) (fun H locs hY hk hS => ?_)
    have hP := hY
    refine lv_goto (tgt := 216) hx hb dX6_doDeed_213 (by decide) ?_
    obtain ⟨e1, -⟩ := gb_eq2 h
    exact W.vret hx hb hr (fun t ht hW => gb_rv ht (by rw [← e1]; exact hP) hS) hS.2.2 dX6_doDeed_216
  rw [if_neg c_63] at h
  refine lv_tableOut (tgt := 216) hx hb dX6_doDeed_21 (by have := lv_neT c_13 (a := 0) rfl; have := lv_neT c_23 (a := 1) rfl; have := lv_neT c_28 (a := 2) rfl; have := lv_neT c_33 (a := 3) rfl; have := lv_neT c_50 (a := 4) rfl; have := lv_neT c_54 (a := 5) rfl; have := lv_neT c_59 (a := 6) rfl; have := lv_neT c_61 (a := 7) rfl; have := lv_neT c_63 (a := 8) rfl; omega) (by decide) ?_
  obtain ⟨e1, -⟩ := gb_eq2 h
  exact W.vret hx hb hr (fun t ht hW => gb_rv ht (by rw [← e1]; exact hP) hS) hS.2.2 dX6_doDeed_216
def cs_Play_run_B_c104_18 (n : Nat) : Nat → gb_S → Int32 → Int32 → Int32 → gb_CR Unit
  | 0, _, _, _, _ => none
  | mm + 1, σ, v4, v5, v6 => (if v5 ≤ v6 then some (σ, ()) else gb_cd (cs_Play_canBe_c104 n σ v6) (fun s_12 r_13 => (if r_13 = 0 then some (s_12, ()) else (if v6 = v4 then gb_cd (cs_Play_doDeed_c104 n s_12 v6 0) (fun s_18 _ => gb_lt (gb_su s_18 109 (upd (s_18.1 109) 11 (v6 + 1))) (fun s_22 => gb_lt (v6 + 1) (fun x_23 => cs_Play_run_B_c104_18 n mm s_22 v4 v5 x_23))) else gb_cd (cs_Play_doDeed_c104 n s_12 v6 1) (fun s_24 _ => gb_lt (gb_su s_24 109 (upd (s_24.1 109) 11 (v6 + 1))) (fun s_28 => gb_lt (v6 + 1) (fun x_29 => cs_Play_run_B_c104_18 n mm s_28 v4 v5 x_29)))))))
def cs_Play_run_B_c104 (n : Nat) (σ : gb_S) (p1 : Nat) (p3 : Int32) (p4 : Int32) : gb_CR Unit := gb_kk (gb_kB p1) (gb_cd (cs_Play_begin_B n σ p1) (fun s_2 _ => gb_cd (cs_Lines_size n s_2) (fun s_6 r_7 => gb_lt (if r_7 < p3 then r_7 else p3) (fun x_10 => cs_Play_run_B_c104_18 n n s_6 p4 x_10 0))))
set_option maxHeartbeats 8000000 in
set_option maxRecDepth 100000 in
theorem cc_Play_run_B_c104 (l : Launch) (D : va_G) (cT : Nat → ClassId) (tt : Nat → Nat) (b1 b : Nat) (hb1 : b1 ≤ b) (n : Nat) (σ : gb_S) (p1 : Nat) (p3 : Int32) (p4 : Int32) (σE : gb_S) (rE : Unit) (h : cs_Play_run_B_c104 n σ p1 p3 p4 = some (σE, rE)) : Met l yX6_run (.code yX6_run cX6_run 7 none :: gb_wA) ({ frames := 4, cells := 0, slots := 0, locals := 99 }) (gb_Pc D cT tt b1 [.ref (b + 109), .ref (b + p1), .ref (b + 104), .int p3, .int p4] (fun h => va_P D vwCl (gb_wl b (gb_CW cT b σ)) h)) (gb_Qv (fun h => va_P D vwCl (gb_wl b (gb_CW cT b σE)) h) (gb_fr b 135)) 0 0 (gb_fr b 135) := by
  refine Met.ofW (cc := cX6_run) (maxL := 7) (ret := none) (by decide) rfl ?_
  intro p e s m args below meth c s₁ B hml hv
  obtain ⟨rfl, hSt, hP⟩ := hv
  have hx := B.exec
  have hb := B.bytes
  have hr := B.returns
  have hts := atoms_spec (ws := .code yX6_run cX6_run 7 none :: gb_wA) B.pre
  have hq : ∀ w ∈ gb_wA, w.before _ s = true := fun w h => hts w (List.mem_cons_of_mem _ h)
  have hown : s.vm.findClass RX6 = some m.cls := findClass_of_methodNamed B.named
  have hlocks := B.notSynchronized
  clear B hts
  have hK := hSt.1
  have hS : va_S (gb_fr b 135) s.heap s.heap [] := va_S.rf
  have hl := lv_entry ([.ref (b + 109), .ref (b + p1), .ref (b + 104), .int p3, .int p4]) (n := 7) (Nat.le_of_ble_eq_true rfl)
  rw [lg_entry_eq]
  generalize (lg_sl ([.ref (b + 109), .ref (b + p1), .ref (b + 104), .int p3, .int p4]) ++ List.replicate (7 - (lg_sl ([.ref (b + 109), .ref (b + p1), .ref (b + 104), .int p3, .int p4])).length) Slot.unset).toArray = ls at hl ⊢
  replace hl : lv_has ls 7 [(0, .ref (b + 109)), (1, .ref (b + p1)), (2, .ref (b + 104)), (3, .int p3), (4, .int p4)] := hl
  have L18_1 : ∀ (mm : Nat) (σ : gb_S) (v4 : Int32) (v5 : Int32) (v6 : Int32) (H : Heap) (locs : List Loc) (ls : Array Slot), cs_Play_run_B_c104_18 n mm σ v4 v5 v6 = some (σE, rE) → va_P D vwCl (gb_wl b (gb_CW cT b σ)) H → va_S (gb_fr b 135) s.heap H locs → lv_has ls 7 [(0, .ref (b + 109)), (2, .ref (b + 104)), (4, .int v4), (5, .int v5), (6, .int v6)] → W p l e (headSpec (.code yX6_run cX6_run 7 none :: gb_wA) ({ frames := 4, cells := 0, slots := 0, locals := 99 })).room s m ([.ref (b + 109), .ref (b + p1), .ref (b + 104), .int p3, .int p4]).toArray below meth c H locs 0 0 (MQ below (gb_Qv (fun h => va_P D vwCl (gb_wl b (gb_CW cT b σE)) h) (gb_fr b 135)) ([.ref (b + 109), .ref (b + p1), .ref (b + 104), .int p3, .int p4]).toArray s 0 0 (gb_fr b 135)) (F0 m 18 ls []) := by
    clear h hP hS hl ls
    intro mm
    induction mm with
    | zero =>
      intro σ v4 v5 v6 H locs ls h
      cases h
    | succ mm ih =>
      intro σ v4 v5 v6 H locs ls h hP hS hl
      rw [cs_Play_run_B_c104_18] at h
      refine lv_iload hx hb dX6_run_18 (lv_at hl 4 rfl) ?_
      refine lv_iload hx hb dX6_run_20 (lv_at hl 3 rfl) ?_
      refine lv_icmp_ge (tgt := 69) hx hb dX6_run_22 (by decide) (fun c_11 => ?_) (fun c_11 => ?_)
      · rw [if_pos c_11] at h
        obtain ⟨e1, -⟩ := gb_eq2 h
        exact W.vret hx hb hr (fun t ht hW => gb_rv ht (by rw [← e1]; exact hP) hS) hS.2.2 dX6_run_69
      · rw [if_neg c_11] at h
        refine lv_aload_n hx hb dX6_run_25 rfl (lv_at hl 0 rfl) ?_
        refine lv_aload_n hx hb dX6_run_26 rfl (lv_at hl 1 rfl) ?_
        refine lv_iload hx hb dX6_run_27 (lv_at hl 4 rfl) ?_
        obtain ⟨s_12, r_13, z_14, h⟩ := gb_cd_s h
        refine gb_calli (va_runV (C := RX6) (As := [.ref (b + 104), .int v6]) (rest := []) ⟨hx, hb, hml, hown, hq⟩ (cc_Play_canBe_c104 l D cT tt b1 b hb1 n σ v6 s_12 r_13 z_14) (cwV 2 hq (gb_gV w_719 w_721 s_1_12 w_11 w_722) rfl rfl rfl (by decide +kernel) ⟨Nat.le_of_ble_eq_true rfl, Nat.le_of_ble_eq_true rfl⟩) (gb_preV (r := (RX6, TX6, 12)) (ci := 5) (q0 := 109) hSt hP rfl (gb_at b rfl) hS (fun q h => Nat.le_trans hb1 h.1) hP) rfl rfl hl.1 rfl (lv_room (Nat.le_of_ble_eq_true rfl)) dX6_run_29 ⟨Nat.le_of_ble_eq_true rfl, Nat.le_of_ble_eq_true rfl⟩) hS (fun _ h => h) (fun _ h => h) (fun q_15 H locs hY hk hS => ?_)
        obtain ⟨hq_15, hP⟩ := hY
        replace hq_15 := hq_15.symm
        subst hq_15
        refine lv_if_ne (tgt := 36) hx hb dX6_run_32 (by decide) (fun c_16 => ?_) (fun c_16 => ?_)
        · rw [if_neg c_16] at h
          refine lv_aload_n hx hb dX6_run_36 rfl (lv_at hl 0 rfl) ?_
          refine lv_aload_n hx hb dX6_run_37 rfl (lv_at hl 1 rfl) ?_
          refine lv_iload hx hb dX6_run_38 (lv_at hl 4 rfl) ?_
          refine lv_iload hx hb dX6_run_40 (lv_at hl 4 rfl) ?_
          refine lv_iload hx hb dX6_run_42 (lv_at hl 2 rfl) ?_
          refine lv_icmp_eq (tgt := 51) hx hb dX6_run_44 (by decide) (fun c_17 => ?_) (fun c_17 => ?_)
          · rw [if_pos c_17] at h
            refine lv_iconst (v := 0) hx hb dX6_run_51 (by decide) ?_
            obtain ⟨s_18, r_19, z_20, h⟩ := gb_cd_s h
            refine gb_callv (va_runV (C := RX6) (As := [.ref (b + 104), .int v6, .int 0]) (rest := []) ⟨hx, hb, hml, hown, hq⟩ (cc_Play_doDeed_c104 l D cT tt b1 b hb1 n s_12 v6 0 s_18 r_19 z_20) (cwV 3 hq (gb_gV w_739 w_741 s_1_15 w_11 w_742) rfl rfl rfl (by decide +kernel) ⟨Nat.le_of_ble_eq_true rfl, Nat.le_of_ble_eq_true rfl⟩) (gb_preV (r := (RX6, TX6, 12)) (ci := 5) (q0 := 109) hSt hP rfl (gb_at b rfl) hS (fun q h => Nat.le_trans hb1 h.1) hP) rfl rfl hl.1 rfl (lv_room (Nat.le_of_ble_eq_true rfl)) dX6_run_52 ⟨Nat.le_of_ble_eq_true rfl, Nat.le_of_ble_eq_true rfl⟩) hS (fun _ h => h) (fun _ h => h) (fun H locs hY hk hS => ?_)
            have hP := hY
            refine lv_aload_n hx hb dX6_run_55 rfl (lv_at hl 0 rfl) ?_
            refine lv_iload hx hb dX6_run_56 (lv_at hl 4 rfl) ?_
            refine lv_iconst (v := 1) hx hb dX6_run_58 (by decide) ?_
            refine lv_iadd hx hb dX6_run_59 ?_
            refine gb_put (ci := 5) (v := (.int (v6 + 1))) (ty := .int) (C := RX6) (T := TX6) (N := 12) hx hb hq i_X6 tyX6 tyX6_ok nmX6 hown hK hP (fun k h => ⟨Nat.le_add_right b k, Nat.add_lt_add_left h b⟩) hS rfl 109 rfl rfl 11 (by decide) (hq _ w_216) (fun _ h9 => h9) rfl (by decide +kernel) rfl rfl (Nat.le_of_ble_eq_true rfl) dX6_run_60 (fun H locs hP hz_ hS => ?_)
            obtain ⟨s_22, es_22⟩ : ∃ q, q = (gb_su s_18 109 (upd (s_18.1 109) 11 (v6 + 1))) := ⟨_, rfl⟩
            replace hP : va_P D vwCl (gb_wl b (gb_CW cT b s_22)) H := by rw [es_22]; exact hP
            replace h := gb_lt_s es_22 h
            obtain ⟨x_23, ex_23⟩ : ∃ q, q = (v6 + 1) := ⟨_, rfl⟩
            replace h := gb_lt_s ex_23 h
            refine lv_iinc (v := x_23) (lv' := [(6, .int x_23), (0, .ref (b + 109)), (2, .ref (b + 104)), (4, .int v4), (5, .int v5)]) hx hb dX6_run_63 hl (k := 4) rfl (by rw [ex_23]; rfl) (by decide) rfl (fun ls hl => ?_)
            refine lv_goto (tgt := 18) hx hb dX6_run_66 (by decide) ?_
            exact ih _ _ _ _ _ _ _ h hP hS (lv_sub hl [1, 2, 3, 4, 0] rfl)
          · rw [if_neg c_17] at h
            refine lv_iconst (v := 1) hx hb dX6_run_47 (by decide) ?_
            refine lv_goto (tgt := 52) hx hb dX6_run_48 (by decide) ?_
            obtain ⟨s_24, r_25, z_26, h⟩ := gb_cd_s h
            refine gb_callv (va_runV (C := RX6) (As := [.ref (b + 104), .int v6, .int 1]) (rest := []) ⟨hx, hb, hml, hown, hq⟩ (cc_Play_doDeed_c104 l D cT tt b1 b hb1 n s_12 v6 1 s_24 r_25 z_26) (cwV 3 hq (gb_gV w_739 w_741 s_1_15 w_11 w_742) rfl rfl rfl (by decide +kernel) ⟨Nat.le_of_ble_eq_true rfl, Nat.le_of_ble_eq_true rfl⟩) (gb_preV (r := (RX6, TX6, 12)) (ci := 5) (q0 := 109) hSt hP rfl (gb_at b rfl) hS (fun q h => Nat.le_trans hb1 h.1) hP) rfl rfl hl.1 rfl (lv_room (Nat.le_of_ble_eq_true rfl)) dX6_run_52 ⟨Nat.le_of_ble_eq_true rfl, Nat.le_of_ble_eq_true rfl⟩) hS (fun _ h => h) (fun _ h => h) (fun H locs hY hk hS => ?_)
            have hP := hY
            refine lv_aload_n hx hb dX6_run_55 rfl (lv_at hl 0 rfl) ?_
            refine lv_iload hx hb dX6_run_56 (lv_at hl 4 rfl) ?_
            refine lv_iconst (v := 1) hx hb dX6_run_58 (by decide) ?_
            refine lv_iadd hx hb dX6_run_59 ?_
            refine gb_put (ci := 5) (v := (.int (v6 + 1))) (ty := .int) (C := RX6) (T := TX6) (N := 12) hx hb hq i_X6 tyX6 tyX6_ok nmX6 hown hK hP (fun k h => ⟨Nat.le_add_right b k, Nat.add_lt_add_left h b⟩) hS rfl 109 rfl rfl 11 (by decide) (hq _ w_216) (fun _ h9 => h9) rfl (by decide +kernel) rfl rfl (Nat.le_of_ble_eq_true rfl) dX6_run_60 (fun H locs hP hz_ hS => ?_)
            obtain ⟨s_28, es_28⟩ : ∃ q, q = (gb_su s_24 109 (upd (s_24.1 109) 11 (v6 + 1))) := ⟨_, rfl⟩
            replace hP : va_P D vwCl (gb_wl b (gb_CW cT b s_28)) H := by rw [es_28]; exact hP
            replace h := gb_lt_s es_28 h
            obtain ⟨x_29, ex_29⟩ : ∃ q, q = (v6 + 1) := ⟨_, rfl⟩
            replace h := gb_lt_s ex_29 h
            refine lv_iinc (v := x_29) (lv' := [(6, .int x_29), (0, .ref (b + 109)), (2, .ref (b + 104)), (4, .int v4), (5, .int v5)]) hx hb dX6_run_63 hl (k := 4) rfl (by rw [ex_29]; rfl) (by decide) rfl (fun ls hl => ?_)
            refine lv_goto (tgt := 18) hx hb dX6_run_66 (by decide) ?_
            exact ih _ _ _ _ _ _ _ h hP hS (lv_sub hl [1, 2, 3, 4, 0] rfl)
        · rw [if_pos c_16] at h
          obtain ⟨e1, -⟩ := gb_eq2 h
          exact W.vret hx hb hr (fun t ht hW => gb_rv ht (by rw [← e1]; exact hP) hS) hS.2.2 dX6_run_35
  unfold cs_Play_run_B_c104 at h
  obtain ⟨z_1, h⟩ := gb_kk_s h
  refine lv_aload_n hx hb dX6_run_0 rfl (lv_at hl 0 rfl) ?_
  refine lv_aload_n hx hb dX6_run_1 rfl (lv_at hl 1 rfl) ?_
  obtain ⟨s_2, r_3, z_4, h⟩ := gb_cd_s h
  refine gb_callv (va_runV (C := RX6) (As := [.ref (b + p1)]) (rest := []) ⟨hx, hb, hml, hown, hq⟩ (cc_Play_begin_B l D cT tt b1 b hb1 n σ p1 s_2 r_3 z_4) (cwV 1 hq (gb_gV w_708 w_709 w_710 w_11 w_711) rfl rfl rfl (by decide +kernel) ⟨Nat.le_of_ble_eq_true rfl, Nat.le_of_ble_eq_true rfl⟩) (gb_preV (r := (RX6, TX6, 12)) (ci := 5) (q0 := 109) hSt hP rfl (gb_at b rfl) hS (fun q h => Nat.le_trans hb1 h.1) hP) rfl rfl hl.1 rfl (lv_room (Nat.le_of_ble_eq_true rfl)) dX6_run_2 ⟨Nat.le_of_ble_eq_true rfl, Nat.le_of_ble_eq_true rfl⟩) hS (fun _ h => h) (fun _ h => h) (fun H locs hY hk hS => ?_)
  have hP := hY
  refine lv_iload_n hx hb dX6_run_5 rfl (lv_at hl 3 rfl) ?_
  refine lv_aload_n hx hb dX6_run_6 rfl (lv_at hl 2 rfl) ?_
  obtain ⟨s_6, r_7, z_8, h⟩ := gb_cd_s h
  refine gb_calli (va_runU (x := ⟨"GooseBorder$Night", "size", "()I"⟩) (C := RX5) (owner := "GooseBorder$Lines") (As := []) (rest := [.int p3]) ⟨hx, hb, hml, hown, hq⟩ (cc_Lines_size l D cT tt b1 b hb1 n s_2 s_6 r_7 z_8) (va_cwU (owner := "GooseBorder$Lines") (C := RX5) 0 hq (gb_gU w_717 w_702 w_703 w_484 w_6 w_489) rfl rfl rfl rfl (by decide +kernel) ⟨Nat.le_of_ble_eq_true rfl, Nat.le_of_ble_eq_true rfl⟩) (gb_preV (r := (RX5, TX5, 4)) (ci := 4) (q0 := 104) hSt hP rfl (gb_at b rfl) hS (fun q h => Nat.le_trans hb1 h.1) hP) rfl rfl hl.1 rfl (lv_room (Nat.le_of_ble_eq_true rfl)) dX6_run_7 ⟨Nat.le_of_ble_eq_true rfl, Nat.le_of_ble_eq_true rfl⟩) hS (fun _ h => h) (fun _ h => h) (fun q_9 H locs hY hk hS => ?_)
  obtain ⟨hq_9, hP⟩ := hY
  replace hq_9 := hq_9.symm
  subst hq_9
  refine va_mmin hx hb (hml.trans hl.1.symm) hown (hq _ w_718) (hq _ w_367) (hq _ w_5) (hq _ w_368) (Nat.le_of_ble_eq_true rfl) (Nat.le_of_ble_eq_true rfl) (Nat.le_of_ble_eq_true rfl) (Nat.le_of_ble_eq_true rfl) dX6_run_10 ?_
  refine lv_topi (fun x_10 ex_10 => ?_)
  replace h := gb_lt_s ex_10 h
  refine lv_istore (lv' := [(5, .int x_10), (0, .ref (b + 109)), (1, .ref (b + p1)), (2, .ref (b + 104)), (3, .int p3), (4, .int p4)]) hx hb dX6_run_13 hl (by decide) rfl (fun ls hl => ?_)
  refine lv_iconst (v := 0) hx hb dX6_run_15 (by decide) ?_
  refine lv_istore (lv' := [(6, .int 0), (5, .int x_10), (0, .ref (b + 109)), (1, .ref (b + p1)), (2, .ref (b + 104)), (3, .int p3), (4, .int p4)]) hx hb dX6_run_16 hl (by decide) rfl (fun ls hl => ?_)
  exact L18_1 n _ _ _ _ _ _ _ h hP hS (lv_sub hl [2, 4, 6, 1, 0] rfl)
theorem dX11_shift_109 : decode cX11_shift 109 = .ok (.aload_n 0, 1) := dc_42 (show ((cX11_shift.data.toList.drop 109).take 1).map UInt8.toNat = [42] by decide +kernel)
theorem dX11_shift_110 : decode cX11_shift 110 = .ok (.getfield 56, 3) := dc_180 (show ((cX11_shift.data.toList.drop 110).take 3).map UInt8.toNat = [180, 0, 56] by decide +kernel) rfl
theorem dX11_shift_113 : decode cX11_shift 113 = .ok (.getfield 199, 3) := dc_180 (show ((cX11_shift.data.toList.drop 113).take 3).map UInt8.toNat = [180, 0, 199] by decide +kernel) rfl
theorem dX11_shift_116 : decode cX11_shift 116 = .ok (.iload 6, 2) := dc_21 (show ((cX11_shift.data.toList.drop 116).take 2).map UInt8.toNat = [21, 6] by decide +kernel) rfl
theorem dX11_shift_118 : decode cX11_shift 118 = .ok (.if_icmp .lt 28, 3) := dc_161 (show ((cX11_shift.data.toList.drop 118).take 3).map UInt8.toNat = [161, 0, 28] by decide +kernel) rfl
theorem dX11_shift_146 : decode cX11_shift 146 = .ok (.iinc 9 1, 3) := dc_132 (show ((cX11_shift.data.toList.drop 146).take 3).map UInt8.toNat = [132, 9, 1] by decide +kernel) rfl
theorem dX11_shift_149 : decode cX11_shift 149 = .ok (.goto (-88), 3) := dc_167 (show ((cX11_shift.data.toList.drop 149).take 3).map UInt8.toNat = [167, 255, 168] by decide +kernel) rfl
theorem dX11_shift_121 : decode cX11_shift 121 = .ok (.aload_n 0, 1) := dc_42 (show ((cX11_shift.data.toList.drop 121).take 1).map UInt8.toNat = [42] by decide +kernel)
theorem dX11_shift_122 : decode cX11_shift 122 = .ok (.getfield 56, 3) := dc_180 (show ((cX11_shift.data.toList.drop 122).take 3).map UInt8.toNat = [180, 0, 56] by decide +kernel) rfl
theorem dX11_shift_125 : decode cX11_shift 125 = .ok (.invokevirtual 244, 3) := dc_182 (show ((cX11_shift.data.toList.drop 125).take 3).map UInt8.toNat = [182, 0, 244] by decide +kernel) rfl
theorem dX11_shift_128 : decode cX11_shift 128 = .ok (.iload 7, 2) := dc_21 (show ((cX11_shift.data.toList.drop 128).take 2).map UInt8.toNat = [21, 7] by decide +kernel) rfl
theorem dX11_shift_130 : decode cX11_shift 130 = .ok (.if_icmp .le 16, 3) := dc_164 (show ((cX11_shift.data.toList.drop 130).take 3).map UInt8.toNat = [164, 0, 16] by decide +kernel) rfl
theorem dX11_shift_133 : decode cX11_shift 133 = .ok (.aload_n 0, 1) := dc_42 (show ((cX11_shift.data.toList.drop 133).take 1).map UInt8.toNat = [42] by decide +kernel)
theorem dX11_shift_134 : decode cX11_shift 134 = .ok (.getfield 56, 3) := dc_180 (show ((cX11_shift.data.toList.drop 134).take 3).map UInt8.toNat = [180, 0, 56] by decide +kernel) rfl
theorem dX11_shift_137 : decode cX11_shift 137 = .ok (.invokevirtual 244, 3) := dc_182 (show ((cX11_shift.data.toList.drop 137).take 3).map UInt8.toNat = [182, 0, 244] by decide +kernel) rfl
theorem dX11_shift_140 : decode cX11_shift 140 = .ok (.istore 7, 2) := dc_54 (show ((cX11_shift.data.toList.drop 140).take 2).map UInt8.toNat = [54, 7] by decide +kernel) rfl
theorem dX11_shift_142 : decode cX11_shift 142 = .ok (.iload 9, 2) := dc_21 (show ((cX11_shift.data.toList.drop 142).take 2).map UInt8.toNat = [21, 9] by decide +kernel) rfl
theorem dX11_shift_144 : decode cX11_shift 144 = .ok (.istore 8, 2) := dc_54 (show ((cX11_shift.data.toList.drop 144).take 2).map UInt8.toNat = [54, 8] by decide +kernel) rfl
def cs_Face_shift_61 (n : Nat) : Nat → gb_S → Int32 → Nat → Nat → Int32 → Int32 → Int32 → Int32 → gb_CR Int32
  | 0, _, _, _, _, _, _, _, _ => none
  | mm + 1, σ, v3, v4, v5, v6, v7, v8, v9 => gb_kk (gb_kB v4) (gb_kk (gb_kN v5) ((if v6 ≤ (v9 + 1) then (if v3 = 0 then some (σ, v8) else (if v8 = (-1) then some (σ, v8) else some (σ, v7))) else gb_cd (cs_Sheet_copyFrom_N_N n σ 104 v5) (fun s_34 _ => gb_cd (cs_Night_changeWithNext n s_34 v9) (fun s_38 _ => gb_cd (cs_Lines_size n s_38) (fun s_42 r_43 => gb_cd (cs_Play_run_B_c104 n s_42 v4 r_43 (-1)) (fun s_46 _ => (if (s_46.1 109 11) < v6 then gb_lt (v9 + 1) (fun x_51 => cs_Face_shift_61 n mm s_46 v3 v4 v5 v6 v7 v8 x_51) else gb_cd (cs_Play_allPay n s_46) (fun s_52 r_53 => (if r_53 ≤ v7 then gb_lt (v9 + 1) (fun x_57 => cs_Face_shift_61 n mm s_52 v3 v4 v5 v6 v7 v8 x_57) else gb_cd (cs_Play_allPay n s_52) (fun s_58 r_59 => gb_lt (v9 + 1) (fun x_62 => cs_Face_shift_61 n mm s_58 v3 v4 v5 v6 r_59 v9 x_62))))))))))))
def cs_Face_shift (n : Nat) (σ : gb_S) (p1 : Int32) (p2 : Int32) (p3 : Int32) : gb_CR Int32 := gb_cd (cs_Face_borderAt n σ p1) (fun s_1 r_2 => (if r_2 = 0 then gb_cd (cs_Face_nightAt n s_1 p2) (fun s_6 r_7 => (if r_7 = 0 then some (s_6, (-1)) else gb_kk (gb_kN r_7) (some (s_6, (-1))))) else gb_kk (gb_kB r_2) (gb_cd (cs_Face_nightAt n s_1 p2) (fun s_13 r_14 => (if r_14 = 0 then some (s_13, (-1)) else gb_kk (gb_kN r_14) (gb_cd (cs_Face_playedOut_B_N n s_13 r_2 r_14) (fun s_19 r_20 => (if r_20 = 0 then some (s_19, (-1)) else gb_lt (s_19.1 109 11) (fun x_24 => gb_cd (cs_Play_allPay n s_19) (fun s_25 r_26 => cs_Face_shift_61 n n s_25 p3 r_2 r_14 x_24 r_26 (-1) 0))))))))))
set_option maxHeartbeats 8000000 in
set_option maxRecDepth 100000 in
theorem cc_Face_shift (l : Launch) (D : va_G) (cT : Nat → ClassId) (tt : Nat → Nat) (b1 b : Nat) (hb1 : b1 ≤ b) (n : Nat) (σ : gb_S) (p1 : Int32) (p2 : Int32) (p3 : Int32) (σE : gb_S) (rE : Int32) (h : cs_Face_shift n σ p1 p2 p3 = some (σE, rE)) : Met l yX11_shift (.code yX11_shift cX11_shift 10 (some FieldType.int) :: gb_wA) ({ frames := 6, cells := 0, slots := 0, locals := 147 }) (gb_Pc D cT tt b1 [.ref (b + 0), .int p1, .int p2, .int p3] (fun h => va_P D vwCl (gb_wl b (gb_CW cT b σ)) h)) (gb_Qi (fun r h => r = rE ∧ va_P D vwCl (gb_wl b (gb_CW cT b σE)) h) (gb_fr b 135)) 0 0 (gb_fr b 135) := by
  refine Met.ofW (cc := cX11_shift) (maxL := 10) (ret := (some FieldType.int)) (by decide) rfl ?_
  intro p e s m args below meth c s₁ B hml hv
  obtain ⟨rfl, hSt, hP⟩ := hv
  have hx := B.exec
  have hb := B.bytes
  have hr := B.returns
  have hts := atoms_spec (ws := .code yX11_shift cX11_shift 10 (some FieldType.int) :: gb_wA) B.pre
  have hq : ∀ w ∈ gb_wA, w.before _ s = true := fun w h => hts w (List.mem_cons_of_mem _ h)
  have hown : s.vm.findClass RX11 = some m.cls := findClass_of_methodNamed B.named
  have hlocks := B.notSynchronized
  clear B hts
  have hK := hSt.1
  have hS : va_S (gb_fr b 135) s.heap s.heap [] := va_S.rf
  have hl := lv_entry ([.ref (b + 0), .int p1, .int p2, .int p3]) (n := 10) (Nat.le_of_ble_eq_true rfl)
  rw [lg_entry_eq]
  generalize (lg_sl ([.ref (b + 0), .int p1, .int p2, .int p3]) ++ List.replicate (10 - (lg_sl ([.ref (b + 0), .int p1, .int p2, .int p3])).length) Slot.unset).toArray = ls at hl ⊢
  replace hl : lv_has ls 10 [(0, .ref (b + 0)), (1, .int p1), (2, .int p2), (3, .int p3)] := hl
  have L61_1 : ∀ (mm : Nat) (σ : gb_S) (v3 : Int32) (v4 : Nat) (v5 : Nat) (v6 : Int32) (v7 : Int32) (v8 : Int32) (v9 : Int32) (H : Heap) (locs : List Loc) (ls : Array Slot), cs_Face_shift_61 n mm σ v3 v4 v5 v6 v7 v8 v9 = some (σE, rE) → va_P D vwCl (gb_wl b (gb_CW cT b σ)) H → va_S (gb_fr b 135) s.heap H locs → lv_has ls 10 [(0, .ref (b + 0)), (3, .int v3), (4, .ref (b + v4)), (5, .ref (b + v5)), (6, .int v6), (7, .int v7), (8, .int v8), (9, .int v9)] → W p l e (headSpec (.code yX11_shift cX11_shift 10 (some FieldType.int) :: gb_wA) ({ frames := 6, cells := 0, slots := 0, locals := 147 })).room s m ([.ref (b + 0), .int p1, .int p2, .int p3]).toArray below meth c H locs 0 0 (MQ below (gb_Qi (fun r h => r = rE ∧ va_P D vwCl (gb_wl b (gb_CW cT b σE)) h) (gb_fr b 135)) ([.ref (b + 0), .int p1, .int p2, .int p3]).toArray s 0 0 (gb_fr b 135)) (F0 m 61 ls []) := by
    clear h hP hS hl ls
    intro mm
    induction mm with
    | zero =>
      intro σ v3 v4 v5 v6 v7 v8 v9 H locs ls h
      cases h
    | succ mm ih =>
      intro σ v3 v4 v5 v6 v7 v8 v9 H locs ls h hP hS hl
      rw [cs_Face_shift_61] at h
      obtain ⟨z_29, h⟩ := gb_kk_s h
      obtain ⟨z_30, h⟩ := gb_kk_s h
      refine lv_iload hx hb dX11_shift_61 (lv_at hl 7 rfl) ?_
      refine lv_iconst (v := 1) hx hb dX11_shift_63 (by decide) ?_
      refine lv_iadd hx hb dX11_shift_64 ?_
      refine lv_iload hx hb dX11_shift_65 (lv_at hl 4 rfl) ?_
      refine lv_icmp_ge (tgt := 152) hx hb dX11_shift_67 (by decide) (fun c_31 => ?_) (fun c_31 => ?_)
      · rw [if_pos c_31] at h
        refine lv_iload_n hx hb dX11_shift_152 rfl (lv_at hl 1 rfl) ?_
        refine lv_if_eq (tgt := 167) hx hb dX11_shift_153 (by decide) (fun c_32 => ?_) (fun c_32 => ?_)
        · rw [if_pos c_32] at h
          refine lv_iload hx hb dX11_shift_167 (lv_at hl 6 rfl) ?_
          obtain ⟨e1, e2⟩ := gb_eq2 h
          exact W.iret (v := v8) hx hb hr (fun t ht hW => gb_ri ht ⟨e2, by rw [← e1]; exact hP⟩ hS) hS.2.2 dX11_shift_169
        · rw [if_neg c_32] at h
          refine lv_iload hx hb dX11_shift_156 (lv_at hl 6 rfl) ?_
          refine lv_iconst (v := (-1)) hx hb dX11_shift_158 (by decide) ?_
          refine lv_icmp_eq (tgt := 167) hx hb dX11_shift_159 (by decide) (fun c_33 => ?_) (fun c_33 => ?_)
          · rw [if_pos c_33] at h
            refine lv_iload hx hb dX11_shift_167 (lv_at hl 6 rfl) ?_
            obtain ⟨e1, e2⟩ := gb_eq2 h
            exact W.iret (v := v8) hx hb hr (fun t ht hW => gb_ri ht ⟨e2, by rw [← e1]; exact hP⟩ hS) hS.2.2 dX11_shift_169
          · rw [if_neg c_33] at h
            refine lv_iload hx hb dX11_shift_162 (lv_at hl 5 rfl) ?_
            refine lv_goto (tgt := 169) hx hb dX11_shift_164 (by decide) ?_
            obtain ⟨e1, e2⟩ := gb_eq2 h
            exact W.iret (v := v7) hx hb hr (fun t ht hW => gb_ri ht ⟨e2, by rw [← e1]; exact hP⟩ hS) hS.2.2 dX11_shift_169
      · rw [if_neg c_31] at h
        refine lv_aload_n hx hb dX11_shift_70 rfl (lv_at hl 0 rfl) ?_
        refine va_get (ci := 9) (v := (.ref (b + 104))) (C := RX11) (T := TX11) (N := 10) hx hb hq i_X11 hown hK hP 0 (gb_at b rfl) rfl 4 (by decide) (hq _ w_319) (fun _ h9 => h9) rfl dX11_shift_71 ?_
        refine lv_aload hx hb dX11_shift_74 (lv_at hl 3 rfl) ?_
        obtain ⟨s_34, r_35, z_36, h⟩ := gb_cd_s h
        refine gb_callv (va_runU (x := ⟨"GooseBorder$Night", "copyFrom", "(LGooseBorder$Sheet;)V"⟩) (C := RX5) (owner := "GooseBorder$Sheet") (As := [.ref (b + v5)]) (rest := []) ⟨hx, hb, hml, hown, hq⟩ (cc_Sheet_copyFrom_N_N l D cT tt b1 b hb1 n σ 104 v5 s_34 r_35 z_36) (va_cwU (owner := "GooseBorder$Sheet") (C := RX5) 1 hq (gb_gU w_872 w_873 w_875 w_557 w_3 w_563) rfl rfl rfl rfl (by decide +kernel) ⟨Nat.le_of_ble_eq_true rfl, Nat.le_of_ble_eq_true rfl⟩) (gb_preV (r := (RX5, TX5, 4)) (ci := 4) (q0 := 104) hSt hP rfl (gb_at b (gb_cN rfl).1) hS (fun q h => Nat.le_trans hb1 h.1) hP) rfl rfl hl.1 rfl (lv_room (Nat.le_of_ble_eq_true rfl)) dX11_shift_76 ⟨Nat.le_of_ble_eq_true rfl, Nat.le_of_ble_eq_true rfl⟩) hS (fun _ h => h) (fun _ h => h) (fun H locs hY hk hS => ?_)
        have hP := hY
        refine lv_aload_n hx hb dX11_shift_79 rfl (lv_at hl 0 rfl) ?_
        refine va_get (ci := 9) (v := (.ref (b + 104))) (C := RX11) (T := TX11) (N := 10) hx hb hq i_X11 hown hK hP 0 (gb_at b rfl) rfl 4 (by decide) (hq _ w_319) (fun _ h9 => h9) rfl dX11_shift_80 ?_
        refine lv_iload hx hb dX11_shift_83 (lv_at hl 7 rfl) ?_
        obtain ⟨s_38, r_39, z_40, h⟩ := gb_cd_s h
        refine gb_callv (va_runV (C := RX5) (As := [.int v9]) (rest := []) ⟨hx, hb, hml, hown, hq⟩ (cc_Night_changeWithNext l D cT tt b1 b hb1 n s_34 v9 s_38 r_39 z_40) (cwV 1 hq (gb_gV w_876 w_877 w_878 w_7 w_879) rfl rfl rfl (by decide +kernel) ⟨Nat.le_of_ble_eq_true rfl, Nat.le_of_ble_eq_true rfl⟩) (gb_preV (r := (RX5, TX5, 4)) (ci := 4) (q0 := 104) hSt hP rfl (gb_at b rfl) hS (fun q h => Nat.le_trans hb1 h.1) hP) rfl rfl hl.1 rfl (lv_room (Nat.le_of_ble_eq_true rfl)) dX11_shift_85 ⟨Nat.le_of_ble_eq_true rfl, Nat.le_of_ble_eq_true rfl⟩) hS (fun _ h => h) (fun _ h => h) (fun H locs hY hk hS => ?_)
        have hP := hY
        refine lv_aload_n hx hb dX11_shift_88 rfl (lv_at hl 0 rfl) ?_
        refine va_get (ci := 9) (v := (.ref (b + 109))) (C := RX11) (T := TX11) (N := 10) hx hb hq i_X11 hown hK hP 0 (gb_at b rfl) rfl 6 (by decide) (hq _ w_321) (fun _ h9 => h9) rfl dX11_shift_89 ?_
        refine lv_aload hx hb dX11_shift_92 (lv_at hl 2 rfl) ?_
        refine lv_aload_n hx hb dX11_shift_94 rfl (lv_at hl 0 rfl) ?_
        refine va_get (ci := 9) (v := (.ref (b + 104))) (C := RX11) (T := TX11) (N := 10) hx hb hq i_X11 hown hK hP 0 (gb_at b rfl) rfl 4 (by decide) (hq _ w_319) (fun _ h9 => h9) rfl dX11_shift_95 ?_
        refine lv_aload_n hx hb dX11_shift_98 rfl (lv_at hl 0 rfl) ?_
        refine va_get (ci := 9) (v := (.ref (b + 104))) (C := RX11) (T := TX11) (N := 10) hx hb hq i_X11 hown hK hP 0 (gb_at b rfl) rfl 4 (by decide) (hq _ w_319) (fun _ h9 => h9) rfl dX11_shift_99 ?_
        obtain ⟨s_42, r_43, z_44, h⟩ := gb_cd_s h
        refine gb_calli (va_runU (x := ⟨"GooseBorder$Night", "size", "()I"⟩) (C := RX5) (owner := "GooseBorder$Lines") (As := []) (rest := [.ref (b + 104), .ref (b + v4), .ref (b + 109)]) ⟨hx, hb, hml, hown, hq⟩ (cc_Lines_size l D cT tt b1 b hb1 n s_38 s_42 r_43 z_44) (va_cwU (owner := "GooseBorder$Lines") (C := RX5) 0 hq (gb_gU w_701 w_702 w_703 w_484 w_6 w_489) rfl rfl rfl rfl (by decide +kernel) ⟨Nat.le_of_ble_eq_true rfl, Nat.le_of_ble_eq_true rfl⟩) (gb_preV (r := (RX5, TX5, 4)) (ci := 4) (q0 := 104) hSt hP rfl (gb_at b rfl) hS (fun q h => Nat.le_trans hb1 h.1) hP) rfl rfl hl.1 rfl (lv_room (Nat.le_of_ble_eq_true rfl)) dX11_shift_102 ⟨Nat.le_of_ble_eq_true rfl, Nat.le_of_ble_eq_true rfl⟩) hS (fun _ h => h) (fun _ h => h) (fun q_45 H locs hY hk hS => ?_)
        obtain ⟨hq_45, hP⟩ := hY
        replace hq_45 := hq_45.symm
        subst hq_45
        refine lv_iconst (v := (-1)) hx hb dX11_shift_105 (by decide) ?_
        obtain ⟨s_46, r_47, z_48, h⟩ := gb_cd_s h
        refine gb_callv (va_runV (C := RX6) (As := [.ref (b + v4), .ref (b + 104), .int r_43, .int (-1)]) (rest := []) ⟨hx, hb, hml, hown, hq⟩ (cc_Play_run_B_c104 l D cT tt b1 b hb1 n s_42 v4 r_43 (-1) s_46 r_47 z_48) (cwV 4 hq (gb_gV w_704 w_705 w_706 w_11 w_707) rfl rfl rfl (by decide +kernel) ⟨Nat.le_of_ble_eq_true rfl, Nat.le_of_ble_eq_true rfl⟩) (gb_preV (r := (RX6, TX6, 12)) (ci := 5) (q0 := 109) hSt hP rfl (gb_at b rfl) hS (fun q h => Nat.le_trans hb1 h.1) hP) rfl rfl hl.1 rfl (lv_room (Nat.le_of_ble_eq_true rfl)) dX11_shift_106 ⟨Nat.le_of_ble_eq_true rfl, Nat.le_of_ble_eq_true rfl⟩) hS (fun _ h => h) (fun _ h => h) (fun H locs hY hk hS => ?_)
        have hP := hY
        refine lv_aload_n hx hb dX11_shift_109 rfl (lv_at hl 0 rfl) ?_
        refine va_get (ci := 9) (v := (.ref (b + 109))) (C := RX11) (T := TX11) (N := 10) hx hb hq i_X11 hown hK hP 0 (gb_at b rfl) rfl 6 (by decide) (hq _ w_321) (fun _ h9 => h9) rfl dX11_shift_110 ?_
        refine va_get (ci := 5) (v := (.int (s_46.1 109 11))) (C := RX6) (T := TX6) (N := 12) hx hb hq i_X6 hown hK hP 109 (gb_at b rfl) rfl 11 (by decide) (hq _ w_217) (fun _ h9 => h9) rfl dX11_shift_113 ?_
        refine lv_iload hx hb dX11_shift_116 (lv_at hl 4 rfl) ?_
        refine lv_icmp_lt (tgt := 146) hx hb dX11_shift_118 (by decide) (fun c_50 => ?_) (fun c_50 => ?_)
        · rw [if_pos c_50] at h
          obtain ⟨x_51, ex_51⟩ : ∃ q, q = (v9 + 1) := ⟨_, rfl⟩
          replace h := gb_lt_s ex_51 h
          refine lv_iinc (v := x_51) (lv' := [(9, .int x_51), (0, .ref (b + 0)), (3, .int v3), (4, .ref (b + v4)), (5, .ref (b + v5)), (6, .int v6), (7, .int v7), (8, .int v8)]) hx hb dX11_shift_146 hl (k := 7) rfl (by rw [ex_51]; rfl) (by decide) rfl (fun ls hl => ?_)
          refine lv_goto (tgt := 61) hx hb dX11_shift_149 (by decide) ?_
          exact ih _ _ _ _ _ _ _ _ _ _ _ h hP hS (lv_sub hl [1, 2, 3, 4, 5, 6, 7, 0] rfl)
        · rw [if_neg c_50] at h
          refine lv_aload_n hx hb dX11_shift_121 rfl (lv_at hl 0 rfl) ?_
          refine va_get (ci := 9) (v := (.ref (b + 109))) (C := RX11) (T := TX11) (N := 10) hx hb hq i_X11 hown hK hP 0 (gb_at b rfl) rfl 6 (by decide) (hq _ w_321) (fun _ h9 => h9) rfl dX11_shift_122 ?_
          obtain ⟨s_52, r_53, z_54, h⟩ := gb_cd_s h
          refine gb_calli (va_runV (C := RX6) (As := []) (rest := []) ⟨hx, hb, hml, hown, hq⟩ (cc_Play_allPay l D cT tt b1 b hb1 n s_46 s_52 r_53 z_54) (cwV 0 hq (gb_gV w_812 w_813 w_814 w_11 w_815) rfl rfl rfl (by decide +kernel) ⟨Nat.le_of_ble_eq_true rfl, Nat.le_of_ble_eq_true rfl⟩) (gb_preV (r := (RX6, TX6, 12)) (ci := 5) (q0 := 109) hSt hP rfl (gb_at b rfl) hS (fun q h => Nat.le_trans hb1 h.1) hP) rfl rfl hl.1 rfl (lv_room (Nat.le_of_ble_eq_true rfl)) dX11_shift_125 ⟨Nat.le_of_ble_eq_true rfl, Nat.le_of_ble_eq_true rfl⟩) hS (fun _ h => h) (fun _ h => h) (fun q_55 H locs hY hk hS => ?_)
          obtain ⟨hq_55, hP⟩ := hY
          replace hq_55 := hq_55.symm
          subst hq_55
          refine lv_iload hx hb dX11_shift_128 (lv_at hl 5 rfl) ?_
          refine lv_icmp_le (tgt := 146) hx hb dX11_shift_130 (by decide) (fun c_56 => ?_) (fun c_56 => ?_)
          · rw [if_pos c_56] at h
            obtain ⟨x_57, ex_57⟩ : ∃ q, q = (v9 + 1) := ⟨_, rfl⟩
            replace h := gb_lt_s ex_57 h
            refine lv_iinc (v := x_57) (lv' := [(9, .int x_57), (0, .ref (b + 0)), (3, .int v3), (4, .ref (b + v4)), (5, .ref (b + v5)), (6, .int v6), (7, .int v7), (8, .int v8)]) hx hb dX11_shift_146 hl (k := 7) rfl (by rw [ex_57]; rfl) (by decide) rfl (fun ls hl => ?_)
            refine lv_goto (tgt := 61) hx hb dX11_shift_149 (by decide) ?_
            exact ih _ _ _ _ _ _ _ _ _ _ _ h hP hS (lv_sub hl [1, 2, 3, 4, 5, 6, 7, 0] rfl)
          · rw [if_neg c_56] at h
            refine lv_aload_n hx hb dX11_shift_133 rfl (lv_at hl 0 rfl) ?_
            refine va_get (ci := 9) (v := (.ref (b + 109))) (C := RX11) (T := TX11) (N := 10) hx hb hq i_X11 hown hK hP 0 (gb_at b rfl) rfl 6 (by decide) (hq _ w_321) (fun _ h9 => h9) rfl dX11_shift_134 ?_
            obtain ⟨s_58, r_59, z_60, h⟩ := gb_cd_s h
            refine gb_calli (va_runV (C := RX6) (As := []) (rest := []) ⟨hx, hb, hml, hown, hq⟩ (cc_Play_allPay l D cT tt b1 b hb1 n s_52 s_58 r_59 z_60) (cwV 0 hq (gb_gV w_812 w_813 w_814 w_11 w_815) rfl rfl rfl (by decide +kernel) ⟨Nat.le_of_ble_eq_true rfl, Nat.le_of_ble_eq_true rfl⟩) (gb_preV (r := (RX6, TX6, 12)) (ci := 5) (q0 := 109) hSt hP rfl (gb_at b rfl) hS (fun q h => Nat.le_trans hb1 h.1) hP) rfl rfl hl.1 rfl (lv_room (Nat.le_of_ble_eq_true rfl)) dX11_shift_137 ⟨Nat.le_of_ble_eq_true rfl, Nat.le_of_ble_eq_true rfl⟩) hS (fun _ h => h) (fun _ h => h) (fun q_61 H locs hY hk hS => ?_)
            obtain ⟨hq_61, hP⟩ := hY
            replace hq_61 := hq_61.symm
            subst hq_61
            refine lv_istore (lv' := [(7, .int r_59), (0, .ref (b + 0)), (3, .int v3), (4, .ref (b + v4)), (5, .ref (b + v5)), (6, .int v6), (8, .int v8), (9, .int v9)]) hx hb dX11_shift_140 hl (by decide) rfl (fun ls hl => ?_)
            refine lv_iload hx hb dX11_shift_142 (lv_at hl 7 rfl) ?_
            refine lv_istore (lv' := [(8, .int v9), (7, .int r_59), (0, .ref (b + 0)), (3, .int v3), (4, .ref (b + v4)), (5, .ref (b + v5)), (6, .int v6), (9, .int v9)]) hx hb dX11_shift_144 hl (by decide) rfl (fun ls hl => ?_)
            obtain ⟨x_62, ex_62⟩ : ∃ q, q = (v9 + 1) := ⟨_, rfl⟩
            replace h := gb_lt_s ex_62 h
            refine lv_iinc (v := x_62) (lv' := [(9, .int x_62), (8, .int v9), (7, .int r_59), (0, .ref (b + 0)), (3, .int v3), (4, .ref (b + v4)), (5, .ref (b + v5)), (6, .int v6)]) hx hb dX11_shift_146 hl (k := 7) rfl (by rw [ex_62]; rfl) (by decide) rfl (fun ls hl => ?_)
            refine lv_goto (tgt := 61) hx hb dX11_shift_149 (by decide) ?_
            exact ih _ _ _ _ _ _ _ _ _ _ _ h hP hS (lv_sub hl [3, 4, 5, 6, 7, 2, 1, 0] rfl)
  unfold cs_Face_shift at h
  refine lv_aload_n hx hb dX11_shift_0 rfl (lv_at hl 0 rfl) ?_
  refine lv_iload_n hx hb dX11_shift_1 rfl (lv_at hl 1 rfl) ?_
  obtain ⟨s_1, r_2, z_3, h⟩ := gb_cd_s h
  refine gb_callq (va_runV (C := RX11) (As := [.int p1]) (rest := []) ⟨hx, hb, hml, hown, hq⟩ (cc_Face_borderAt l D cT tt b1 b hb1 n σ p1 s_1 r_2 z_3) (cwV 1 hq (gb_gV w_593 w_595 s_1_7 w_1 w_596) rfl rfl rfl (by decide +kernel) ⟨Nat.le_of_ble_eq_true rfl, Nat.le_of_ble_eq_true rfl⟩) (gb_preV (r := (RX11, TX11, 10)) (ci := 9) (q0 := 0) hSt hP rfl (gb_at b rfl) hS (fun q h => Nat.le_trans hb1 h.1) hP) rfl rfl hl.1 rfl (lv_room (Nat.le_of_ble_eq_true rfl)) dX11_shift_2 ⟨Nat.le_of_ble_eq_true rfl, Nat.le_of_ble_eq_true rfl⟩) hS (fun _ h => h) (fun _ h => h) (fun q_4 H locs hY hk hS => ?_)
  obtain ⟨hq_4, hP⟩ := hY
  subst hq_4
  rw [gb_onv]
  by_cases c_5 : r_2 = 0
  · rw [if_pos c_5] at h
    rw [gb_nv0 c_5]
    refine lv_astoreN (lv' := [(4, .null), (0, .ref (b + 0)), (1, .int p1), (2, .int p2), (3, .int p3)]) hx hb dX11_shift_5 hl (by decide) rfl (fun ls hl => ?_)
    refine lv_aload_n hx hb dX11_shift_7 rfl (lv_at hl 1 rfl) ?_
    refine lv_iload_n hx hb dX11_shift_8 rfl (lv_at hl 3 rfl) ?_
    obtain ⟨s_6, r_7, z_8, h⟩ := gb_cd_s h
    refine gb_callq (va_runV (C := RX11) (As := [.int p2]) (rest := []) ⟨hx, hb, hml, hown, hq⟩ (cc_Face_nightAt l D cT tt b1 b hb1 n s_1 p2 s_6 r_7 z_8) (cwV 1 hq (gb_gV w_646 w_648 s_1_8 w_1 w_649) rfl rfl rfl (by decide +kernel) ⟨Nat.le_of_ble_eq_true rfl, Nat.le_of_ble_eq_true rfl⟩) (gb_preV (r := (RX11, TX11, 10)) (ci := 9) (q0 := 0) hSt hP rfl (gb_at b rfl) hS (fun q h => Nat.le_trans hb1 h.1) hP) rfl rfl hl.1 rfl (lv_room (Nat.le_of_ble_eq_true rfl)) dX11_shift_9 ⟨Nat.le_of_ble_eq_true rfl, Nat.le_of_ble_eq_true rfl⟩) hS (fun _ h => h) (fun _ h => h) (fun q_9 H locs hY hk hS => ?_)
    obtain ⟨hq_9, hP⟩ := hY
    subst hq_9
    rw [gb_onv]
    by_cases c_10 : r_7 = 0
    · rw [if_pos c_10] at h
      rw [gb_nv0 c_10]
      refine lv_astoreN (lv' := [(5, .null), (4, .null), (0, .ref (b + 0)), (1, .int p1), (2, .int p2), (3, .int p3)]) hx hb dX11_shift_12 hl (by decide) rfl (fun ls hl => ?_)
      refine lv_aloadN hx hb dX11_shift_14 (lv_at hl 1 rfl) ?_
      refine lv_ifnullN (tgt := 35) hx hb dX11_shift_16 (by decide) ?_
      refine lv_iconst (v := (-1)) hx hb dX11_shift_35 (by decide) ?_
      obtain ⟨e1, e2⟩ := gb_eq2 h
      exact W.iret (v := (-1)) hx hb hr (fun t ht hW => gb_ri ht ⟨e2, by rw [← e1]; exact hP⟩ hS) hS.2.2 dX11_shift_36
    rw [if_neg c_10] at h
    rw [gb_nv1 c_10]
    obtain ⟨z_11, h⟩ := gb_kk_s h
    refine lv_astore (lv' := [(5, .ref (b + r_7)), (4, .null), (0, .ref (b + 0)), (1, .int p1), (2, .int p2), (3, .int p3)]) hx hb dX11_shift_12 hl (by decide) rfl (fun ls hl => ?_)
    refine lv_aloadN hx hb dX11_shift_14 (lv_at hl 1 rfl) ?_
    refine lv_ifnullN (tgt := 35) hx hb dX11_shift_16 (by decide) ?_
    refine lv_iconst (v := (-1)) hx hb dX11_shift_35 (by decide) ?_
    obtain ⟨e1, e2⟩ := gb_eq2 h
    exact W.iret (v := (-1)) hx hb hr (fun t ht hW => gb_ri ht ⟨e2, by rw [← e1]; exact hP⟩ hS) hS.2.2 dX11_shift_36
  rw [if_neg c_5] at h
  rw [gb_nv1 c_5]
  obtain ⟨z_12, h⟩ := gb_kk_s h
  refine lv_astore (lv' := [(4, .ref (b + r_2)), (0, .ref (b + 0)), (1, .int p1), (2, .int p2), (3, .int p3)]) hx hb dX11_shift_5 hl (by decide) rfl (fun ls hl => ?_)
  refine lv_aload_n hx hb dX11_shift_7 rfl (lv_at hl 1 rfl) ?_
  refine lv_iload_n hx hb dX11_shift_8 rfl (lv_at hl 3 rfl) ?_
  obtain ⟨s_13, r_14, z_15, h⟩ := gb_cd_s h
  refine gb_callq (va_runV (C := RX11) (As := [.int p2]) (rest := []) ⟨hx, hb, hml, hown, hq⟩ (cc_Face_nightAt l D cT tt b1 b hb1 n s_1 p2 s_13 r_14 z_15) (cwV 1 hq (gb_gV w_646 w_648 s_1_8 w_1 w_649) rfl rfl rfl (by decide +kernel) ⟨Nat.le_of_ble_eq_true rfl, Nat.le_of_ble_eq_true rfl⟩) (gb_preV (r := (RX11, TX11, 10)) (ci := 9) (q0 := 0) hSt hP rfl (gb_at b rfl) hS (fun q h => Nat.le_trans hb1 h.1) hP) rfl rfl hl.1 rfl (lv_room (Nat.le_of_ble_eq_true rfl)) dX11_shift_9 ⟨Nat.le_of_ble_eq_true rfl, Nat.le_of_ble_eq_true rfl⟩) hS (fun _ h => h) (fun _ h => h) (fun q_16 H locs hY hk hS => ?_)
  obtain ⟨hq_16, hP⟩ := hY
  subst hq_16
  rw [gb_onv]
  by_cases c_17 : r_14 = 0
  · rw [if_pos c_17] at h
    rw [gb_nv0 c_17]
    refine lv_astoreN (lv' := [(5, .null), (4, .ref (b + r_2)), (0, .ref (b + 0)), (1, .int p1), (2, .int p2), (3, .int p3)]) hx hb dX11_shift_12 hl (by decide) rfl (fun ls hl => ?_)
    refine lv_aload hx hb dX11_shift_14 (lv_at hl 1 rfl) ?_
    refine lv_ifnull hx hb dX11_shift_16 ?_
    refine lv_aloadN hx hb dX11_shift_19 (lv_at hl 0 rfl) ?_
    refine lv_ifnullN (tgt := 35) hx hb dX11_shift_21 (by decide) ?_
    refine lv_iconst (v := (-1)) hx hb dX11_shift_35 (by decide) ?_
    obtain ⟨e1, e2⟩ := gb_eq2 h
    exact W.iret (v := (-1)) hx hb hr (fun t ht hW => gb_ri ht ⟨e2, by rw [← e1]; exact hP⟩ hS) hS.2.2 dX11_shift_36
  rw [if_neg c_17] at h
  rw [gb_nv1 c_17]
  obtain ⟨z_18, h⟩ := gb_kk_s h
  refine lv_astore (lv' := [(5, .ref (b + r_14)), (4, .ref (b + r_2)), (0, .ref (b + 0)), (1, .int p1), (2, .int p2), (3, .int p3)]) hx hb dX11_shift_12 hl (by decide) rfl (fun ls hl => ?_)
  refine lv_aload hx hb dX11_shift_14 (lv_at hl 1 rfl) ?_
  refine lv_ifnull hx hb dX11_shift_16 ?_
  refine lv_aload hx hb dX11_shift_19 (lv_at hl 0 rfl) ?_
  refine lv_ifnull hx hb dX11_shift_21 ?_
  refine lv_aload_n hx hb dX11_shift_24 rfl (lv_at hl 2 rfl) ?_
  refine lv_aload hx hb dX11_shift_25 (lv_at hl 1 rfl) ?_
  refine lv_aload hx hb dX11_shift_27 (lv_at hl 0 rfl) ?_
  obtain ⟨s_19, r_20, z_21, h⟩ := gb_cd_s h
  refine gb_calli (va_runV (C := RX11) (As := [.ref (b + r_2), .ref (b + r_14)]) (rest := []) ⟨hx, hb, hml, hown, hq⟩ (cc_Face_playedOut_B_N l D cT tt b1 b hb1 n s_13 r_2 r_14 s_19 r_20 z_21) (cwV 2 hq (gb_gV w_697 w_699 s_1_11 w_1 w_700) rfl rfl rfl (by decide +kernel) ⟨Nat.le_of_ble_eq_true rfl, Nat.le_of_ble_eq_true rfl⟩) (gb_preV (r := (RX11, TX11, 10)) (ci := 9) (q0 := 0) hSt hP rfl (gb_at b rfl) hS (fun q h => Nat.le_trans hb1 h.1) hP) rfl rfl hl.1 rfl (lv_room (Nat.le_of_ble_eq_true rfl)) dX11_shift_29 ⟨Nat.le_of_ble_eq_true rfl, Nat.le_of_ble_eq_true rfl⟩) hS (fun _ h => h) (fun _ h => h) (fun q_22 H locs hY hk hS => ?_)
  obtain ⟨hq_22, hP⟩ := hY
  replace hq_22 := hq_22.symm
  subst hq_22
  refine lv_if_ne (tgt := 37) hx hb dX11_shift_32 (by decide) (fun c_23 => ?_) (fun c_23 => ?_)
  · rw [if_neg c_23] at h
    refine lv_aload_n hx hb dX11_shift_37 rfl (lv_at hl 2 rfl) ?_
    refine va_get (ci := 9) (v := (.ref (b + 109))) (C := RX11) (T := TX11) (N := 10) hx hb hq i_X11 hown hK hP 0 (gb_at b rfl) rfl 6 (by decide) (hq _ w_321) (fun _ h9 => h9) rfl dX11_shift_38 ?_
    refine va_get (ci := 5) (v := (.int (s_19.1 109 11))) (C := RX6) (T := TX6) (N := 12) hx hb hq i_X6 hown hK hP 109 (gb_at b rfl) rfl 11 (by decide) (hq _ w_217) (fun _ h9 => h9) rfl dX11_shift_41 ?_
    refine lv_topi (fun x_24 ex_24 => ?_)
    replace h := gb_lt_s ex_24 h
    refine lv_istore (lv' := [(6, .int x_24), (5, .ref (b + r_14)), (4, .ref (b + r_2)), (0, .ref (b + 0)), (1, .int p1), (2, .int p2), (3, .int p3)]) hx hb dX11_shift_44 hl (by decide) rfl (fun ls hl => ?_)
    refine lv_aload_n hx hb dX11_shift_46 rfl (lv_at hl 3 rfl) ?_
    refine va_get (ci := 9) (v := (.ref (b + 109))) (C := RX11) (T := TX11) (N := 10) hx hb hq i_X11 hown hK hP 0 (gb_at b rfl) rfl 6 (by decide) (hq _ w_321) (fun _ h9 => h9) rfl dX11_shift_47 ?_
    obtain ⟨s_25, r_26, z_27, h⟩ := gb_cd_s h
    refine gb_calli (va_runV (C := RX6) (As := []) (rest := []) ⟨hx, hb, hml, hown, hq⟩ (cc_Play_allPay l D cT tt b1 b hb1 n s_19 s_25 r_26 z_27) (cwV 0 hq (gb_gV w_812 w_813 w_814 w_11 w_815) rfl rfl rfl (by decide +kernel) ⟨Nat.le_of_ble_eq_true rfl, Nat.le_of_ble_eq_true rfl⟩) (gb_preV (r := (RX6, TX6, 12)) (ci := 5) (q0 := 109) hSt hP rfl (gb_at b rfl) hS (fun q h => Nat.le_trans hb1 h.1) hP) rfl rfl hl.1 rfl (lv_room (Nat.le_of_ble_eq_true rfl)) dX11_shift_50 ⟨Nat.le_of_ble_eq_true rfl, Nat.le_of_ble_eq_true rfl⟩) hS (fun _ h => h) (fun _ h => h) (fun q_28 H locs hY hk hS => ?_)
    obtain ⟨hq_28, hP⟩ := hY
    replace hq_28 := hq_28.symm
    subst hq_28
    refine lv_istore (lv' := [(7, .int r_26), (6, .int x_24), (5, .ref (b + r_14)), (4, .ref (b + r_2)), (0, .ref (b + 0)), (1, .int p1), (2, .int p2), (3, .int p3)]) hx hb dX11_shift_53 hl (by decide) rfl (fun ls hl => ?_)
    refine lv_iconst (v := (-1)) hx hb dX11_shift_55 (by decide) ?_
    refine lv_istore (lv' := [(8, .int (-1)), (7, .int r_26), (6, .int x_24), (5, .ref (b + r_14)), (4, .ref (b + r_2)), (0, .ref (b + 0)), (1, .int p1), (2, .int p2), (3, .int p3)]) hx hb dX11_shift_56 hl (by decide) rfl (fun ls hl => ?_)
    refine lv_iconst (v := 0) hx hb dX11_shift_58 (by decide) ?_
    refine lv_istore (lv' := [(9, .int 0), (8, .int (-1)), (7, .int r_26), (6, .int x_24), (5, .ref (b + r_14)), (4, .ref (b + r_2)), (0, .ref (b + 0)), (1, .int p1), (2, .int p2), (3, .int p3)]) hx hb dX11_shift_59 hl (by decide) rfl (fun ls hl => ?_)
    exact L61_1 n _ _ _ _ _ _ _ _ _ _ _ h hP hS (lv_sub hl [6, 9, 5, 4, 3, 2, 1, 0] rfl)
  · rw [if_pos c_23] at h
    refine lv_iconst (v := (-1)) hx hb dX11_shift_35 (by decide) ?_
    obtain ⟨e1, e2⟩ := gb_eq2 h
    exact W.iret (v := (-1)) hx hb hr (fun t ht hW => gb_ri ht ⟨e2, by rw [← e1]; exact hP⟩ hS) hS.2.2 dX11_shift_36
