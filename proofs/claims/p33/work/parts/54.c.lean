theorem dX11_even_0 : decode cX11_even 0 = .ok (.aload_n 0, 1) := dc_42 (show ((cX11_even.data.toList.drop 0).take 1).map UInt8.toNat = [42] by decide +kernel)
theorem dX11_even_1 : decode cX11_even 1 = .ok (.iload_n 1, 1) := dc_27 (show ((cX11_even.data.toList.drop 1).take 1).map UInt8.toNat = [27] by decide +kernel)
theorem dX11_even_2 : decode cX11_even 2 = .ok (.invokevirtual 113, 3) := dc_182 (show ((cX11_even.data.toList.drop 2).take 3).map UInt8.toNat = [182, 0, 113] by decide +kernel) rfl
theorem dX11_even_5 : decode cX11_even 5 = .ok (.astore_n 3, 1) := dc_78 (show ((cX11_even.data.toList.drop 5).take 1).map UInt8.toNat = [78] by decide +kernel)
theorem dX11_even_6 : decode cX11_even 6 = .ok (.aload_n 3, 1) := dc_45 (show ((cX11_even.data.toList.drop 6).take 1).map UInt8.toNat = [45] by decide +kernel)
theorem dX11_even_7 : decode cX11_even 7 = .ok (.ifnull 10, 3) := dc_198 (show ((cX11_even.data.toList.drop 7).take 3).map UInt8.toNat = [198, 0, 10] by decide +kernel) rfl
theorem dX11_even_17 : decode cX11_even 17 = .ok (.iconst (-1), 1) := dc_2 (show ((cX11_even.data.toList.drop 17).take 1).map UInt8.toNat = [2] by decide +kernel)
theorem dX11_even_18 : decode cX11_even 18 = .ok (.ireturn, 1) := dc_172 (show ((cX11_even.data.toList.drop 18).take 1).map UInt8.toNat = [172] by decide +kernel)
theorem dX11_even_10 : decode cX11_even 10 = .ok (.aload_n 3, 1) := dc_45 (show ((cX11_even.data.toList.drop 10).take 1).map UInt8.toNat = [45] by decide +kernel)
theorem dX11_even_11 : decode cX11_even 11 = .ok (.invokestatic 276, 3) := dc_184 (show ((cX11_even.data.toList.drop 11).take 3).map UInt8.toNat = [184, 1, 20] by decide +kernel) rfl
theorem dX8_canShare_0 : decode cX8_canShare 0 = .ok (.aload_n 0, 1) := dc_42 (show ((cX8_canShare.data.toList.drop 0).take 1).map UInt8.toNat = [42] by decide +kernel)
theorem dX8_canShare_1 : decode cX8_canShare 1 = .ok (.invokevirtual 40, 3) := dc_182 (show ((cX8_canShare.data.toList.drop 1).take 3).map UInt8.toNat = [182, 0, 40] by decide +kernel) rfl
theorem w_888 : (Cond.methodLink "GooseBorder$Sharing" (40 : Nat) ({ cls := "GooseBorder$Border", name := "paths", desc := "()I" } : MethodName)) ∈ gb_wA := gb_t4 168 rfl rfl
theorem dX8_canShare_4 : decode cX8_canShare 4 = .ok (.ifCond .le 16, 3) := dc_158 (show ((cX8_canShare.data.toList.drop 4).take 3).map UInt8.toNat = [158, 0, 16] by decide +kernel) rfl
theorem dX8_canShare_20 : decode cX8_canShare 20 = .ok (.iconst 0, 1) := dc_3 (show ((cX8_canShare.data.toList.drop 20).take 1).map UInt8.toNat = [3] by decide +kernel)
theorem dX8_canShare_21 : decode cX8_canShare 21 = .ok (.ireturn, 1) := dc_172 (show ((cX8_canShare.data.toList.drop 21).take 1).map UInt8.toNat = [172] by decide +kernel)
theorem dX8_canShare_7 : decode cX8_canShare 7 = .ok (.aload_n 0, 1) := dc_42 (show ((cX8_canShare.data.toList.drop 7).take 1).map UInt8.toNat = [42] by decide +kernel)
theorem dX8_canShare_8 : decode cX8_canShare 8 = .ok (.invokevirtual 44, 3) := dc_182 (show ((cX8_canShare.data.toList.drop 8).take 3).map UInt8.toNat = [182, 0, 44] by decide +kernel) rfl
theorem w_889 : (Cond.methodLink "GooseBorder$Sharing" (44 : Nat) ({ cls := "GooseBorder$Border", name := "geese", desc := "()I" } : MethodName)) ∈ gb_wA := gb_t4 169 rfl rfl
theorem dX8_canShare_11 : decode cX8_canShare 11 = .ok (.bipush 6, 2) := dc_16 (show ((cX8_canShare.data.toList.drop 11).take 2).map UInt8.toNat = [16, 6] by decide +kernel) rfl
theorem dX8_canShare_13 : decode cX8_canShare 13 = .ok (.if_icmp .gt 7, 3) := dc_163 (show ((cX8_canShare.data.toList.drop 13).take 3).map UInt8.toNat = [163, 0, 7] by decide +kernel) rfl
theorem dX8_canShare_16 : decode cX8_canShare 16 = .ok (.iconst 1, 1) := dc_4 (show ((cX8_canShare.data.toList.drop 16).take 1).map UInt8.toNat = [4] by decide +kernel)
theorem dX8_canShare_17 : decode cX8_canShare 17 = .ok (.goto 4, 3) := dc_167 (show ((cX8_canShare.data.toList.drop 17).take 3).map UInt8.toNat = [167, 0, 4] by decide +kernel) rfl
def cs_Sharing_canShare_B (n : Nat) (σ : gb_S) (p1 : Nat) : gb_CR Int32 := gb_kk (gb_kB p1) (gb_cd (cs_Border_paths_B n σ p1) (fun s_2 r_3 => (if r_3 ≤ 0 then some (s_2, 0) else gb_cd (cs_Border_geese_B n s_2 p1) (fun s_7 r_8 => (if (6 : Int32) < r_8 then some (s_7, 0) else some (s_7, 1))))))
set_option maxHeartbeats 8000000 in
set_option maxRecDepth 100000 in
theorem cc_Sharing_canShare_B (l : Launch) (D : va_G) (cT : Nat → ClassId) (tt : Nat → Nat) (b1 b : Nat) (hb1 : b1 ≤ b) (n : Nat) (σ : gb_S) (p1 : Nat) (σE : gb_S) (rE : Int32) (h : cs_Sharing_canShare_B n σ p1 = some (σE, rE)) : Met l yX8_canShare (.code yX8_canShare cX8_canShare 1 (some FieldType.boolean) :: gb_wA) ({ frames := 1, cells := 0, slots := 0, locals := 20 }) (gb_Pc D cT tt b1 [.ref (b + p1)] (fun h => va_P D vwCl (gb_wl b (gb_CW cT b σ)) h)) (gb_Qi (fun r h => r = rE ∧ va_P D vwCl (gb_wl b (gb_CW cT b σE)) h) (gb_fr b 135)) 0 0 (gb_fr b 135) := by
  refine Met.ofW (cc := cX8_canShare) (maxL := 1) (ret := (some FieldType.boolean)) (by decide) rfl ?_
  intro p e s m args below meth c s₁ B hml hv
  obtain ⟨rfl, hSt, hP⟩ := hv
  have hx := B.exec
  have hb := B.bytes
  have hr := B.returns
  have hts := atoms_spec (ws := .code yX8_canShare cX8_canShare 1 (some FieldType.boolean) :: gb_wA) B.pre
  have hq : ∀ w ∈ gb_wA, w.before _ s = true := fun w h => hts w (List.mem_cons_of_mem _ h)
  have hown : s.vm.findClass RX8 = some m.cls := findClass_of_methodNamed B.named
  have hlocks := B.notSynchronized
  clear B hts
  have hK := hSt.1
  have hS : va_S (gb_fr b 135) s.heap s.heap [] := va_S.rf
  have hl := lv_entry ([.ref (b + p1)]) (n := 1) (Nat.le_of_ble_eq_true rfl)
  rw [lg_entry_eq]
  generalize (lg_sl ([.ref (b + p1)]) ++ List.replicate (1 - (lg_sl ([.ref (b + p1)])).length) Slot.unset).toArray = ls at hl ⊢
  replace hl : lv_has ls 1 [(0, .ref (b + p1))] := hl
  unfold cs_Sharing_canShare_B at h
  obtain ⟨z_1, h⟩ := gb_kk_s h
  refine lv_aload_n hx hb dX8_canShare_0 rfl (lv_at hl 0 rfl) ?_
  obtain ⟨s_2, r_3, z_4, h⟩ := gb_cd_s h
  refine gb_calli (va_runV (C := RX0) (As := []) (rest := []) ⟨hx, hb, hml, hown, hq⟩ (cc_Border_paths_B l D cT tt b1 b hb1 n σ p1 s_2 r_3 z_4) (cwV 0 hq (gb_gV w_888 w_473 w_474 w_4 w_475) rfl rfl rfl (by decide +kernel) ⟨Nat.le_of_ble_eq_true rfl, Nat.le_of_ble_eq_true rfl⟩) (gb_preV (r := (RX0, TX0, 1)) (ci := 0) (q0 := p1) hSt hP rfl (gb_at b (gb_cB z_1).1) hS (fun q h => Nat.le_trans hb1 h.1) hP) rfl rfl hl.1 rfl (lv_room (Nat.le_of_ble_eq_true rfl)) dX8_canShare_1 ⟨Nat.le_of_ble_eq_true rfl, Nat.le_of_ble_eq_true rfl⟩) hS (fun _ h => h) (fun _ h => h) (fun q_5 H locs hY hk hS => ?_)
  obtain ⟨hq_5, hP⟩ := hY
  replace hq_5 := hq_5.symm
  subst hq_5
  refine lv_if_le (tgt := 20) hx hb dX8_canShare_4 (by decide) (fun c_6 => ?_) (fun c_6 => ?_)
  · rw [if_pos c_6] at h
    refine lv_iconst (v := 0) hx hb dX8_canShare_20 (by decide) ?_
    obtain ⟨e1, e2⟩ := gb_eq2 h
    exact W.zret (v := 0) hx hb hr (by decide) (fun t ht hW => gb_ri ht ⟨e2, by rw [← e1]; exact hP⟩ hS) hS.2.2 dX8_canShare_21
  · rw [if_neg c_6] at h
    refine lv_aload_n hx hb dX8_canShare_7 rfl (lv_at hl 0 rfl) ?_
    obtain ⟨s_7, r_8, z_9, h⟩ := gb_cd_s h
    refine gb_calli (va_runV (C := RX0) (As := []) (rest := []) ⟨hx, hb, hml, hown, hq⟩ (cc_Border_geese_B l D cT tt b1 b hb1 n s_2 p1 s_7 r_8 z_9) (cwV 0 hq (gb_gV w_889 w_477 w_478 w_4 w_479) rfl rfl rfl (by decide +kernel) ⟨Nat.le_of_ble_eq_true rfl, Nat.le_of_ble_eq_true rfl⟩) (gb_preV (r := (RX0, TX0, 1)) (ci := 0) (q0 := p1) hSt hP rfl (gb_at b (gb_cB z_1).1) hS (fun q h => Nat.le_trans hb1 h.1) hP) rfl rfl hl.1 rfl (lv_room (Nat.le_of_ble_eq_true rfl)) dX8_canShare_8 ⟨Nat.le_of_ble_eq_true rfl, Nat.le_of_ble_eq_true rfl⟩) hS (fun _ h => h) (fun _ h => h) (fun q_10 H locs hY hk hS => ?_)
    obtain ⟨hq_10, hP⟩ := hY
    replace hq_10 := hq_10.symm
    subst hq_10
    refine lv_bipush (v := 6) hx hb dX8_canShare_11 (by decide) ?_
    refine lv_icmp_gt (tgt := 20) hx hb dX8_canShare_13 (by decide) (fun c_11 => ?_) (fun c_11 => ?_)
    · rw [if_pos c_11] at h
      refine lv_iconst (v := 0) hx hb dX8_canShare_20 (by decide) ?_
      obtain ⟨e1, e2⟩ := gb_eq2 h
      exact W.zret (v := 0) hx hb hr (by decide) (fun t ht hW => gb_ri ht ⟨e2, by rw [← e1]; exact hP⟩ hS) hS.2.2 dX8_canShare_21
    · rw [if_neg c_11] at h
      refine lv_iconst (v := 1) hx hb dX8_canShare_16 (by decide) ?_
      refine lv_goto (tgt := 21) hx hb dX8_canShare_17 (by decide) ?_
      obtain ⟨e1, e2⟩ := gb_eq2 h
      exact W.zret (v := 1) hx hb hr (by decide) (fun t ht hW => gb_ri ht ⟨e2, by rw [← e1]; exact hP⟩ hS) hS.2.2 dX8_canShare_21
theorem w_887 : (Cond.code ({ cls := "GooseBorder$Sharing", name := "canShare", desc := "(LGooseBorder$Border;)Z" } : MethodName) prog_10_method_2_code (1 : Nat) (Option.some FieldType.boolean)) ∈ gb_wA := gb_t4 167 rfl rfl
theorem w_885 : (Cond.methodLink "GooseBorder" (276 : Nat) ({ cls := "GooseBorder$Sharing", name := "canShare", desc := "(LGooseBorder$Border;)Z" } : MethodName)) ∈ gb_wA := gb_t4 165 rfl rfl
theorem w_886 : (Cond.static ({ cls := "GooseBorder$Sharing", name := "canShare", desc := "(LGooseBorder$Border;)Z" } : MethodName)) ∈ gb_wA := gb_t4 166 rfl rfl
theorem dX11_even_14 : decode cX11_even 14 = .ok (.ifCond .ne 5, 3) := dc_154 (show ((cX11_even.data.toList.drop 14).take 3).map UInt8.toNat = [154, 0, 5] by decide +kernel) rfl
theorem dX11_even_19 : decode cX11_even 19 = .ok (.iload_n 2, 1) := dc_28 (show ((cX11_even.data.toList.drop 19).take 1).map UInt8.toNat = [28] by decide +kernel)
theorem dX11_even_20 : decode cX11_even 20 = .ok (.bipush 20, 2) := dc_16 (show ((cX11_even.data.toList.drop 20).take 2).map UInt8.toNat = [16, 20] by decide +kernel) rfl
theorem dX11_even_22 : decode cX11_even 22 = .ok (.if_icmp .lt 37, 3) := dc_161 (show ((cX11_even.data.toList.drop 22).take 3).map UInt8.toNat = [161, 0, 37] by decide +kernel) rfl
theorem dX11_even_59 : decode cX11_even 59 = .ok (.iload_n 2, 1) := dc_28 (show ((cX11_even.data.toList.drop 59).take 1).map UInt8.toNat = [28] by decide +kernel)
theorem dX11_even_60 : decode cX11_even 60 = .ok (.ifCond .eq 22, 3) := dc_153 (show ((cX11_even.data.toList.drop 60).take 3).map UInt8.toNat = [153, 0, 22] by decide +kernel) rfl
theorem dX11_even_82 : decode cX11_even 82 = .ok (.aload_n 0, 1) := dc_42 (show ((cX11_even.data.toList.drop 82).take 1).map UInt8.toNat = [42] by decide +kernel)
theorem dX11_even_83 : decode cX11_even 83 = .ok (.getfield 63, 3) := dc_180 (show ((cX11_even.data.toList.drop 83).take 3).map UInt8.toNat = [180, 0, 63] by decide +kernel) rfl
theorem dX11_even_86 : decode cX11_even 86 = .ok (.aload_n 3, 1) := dc_45 (show ((cX11_even.data.toList.drop 86).take 1).map UInt8.toNat = [45] by decide +kernel)
theorem dX11_even_87 : decode cX11_even 87 = .ok (.aconst_null, 1) := dc_1 (show ((cX11_even.data.toList.drop 87).take 1).map UInt8.toNat = [1] by decide +kernel)
theorem dX11_even_88 : decode cX11_even 88 = .ok (.iconst (-1), 1) := dc_2 (show ((cX11_even.data.toList.drop 88).take 1).map UInt8.toNat = [2] by decide +kernel)
theorem dX11_even_89 : decode cX11_even 89 = .ok (.invokevirtual 280, 3) := dc_182 (show ((cX11_even.data.toList.drop 89).take 3).map UInt8.toNat = [182, 1, 24] by decide +kernel) rfl
theorem dX8_solve_0 : decode cX8_solve 0 = .ok (.aload_n 0, 1) := dc_42 (show ((cX8_solve.data.toList.drop 0).take 1).map UInt8.toNat = [42] by decide +kernel)
theorem dX8_solve_1 : decode cX8_solve 1 = .ok (.aload_n 1, 1) := dc_43 (show ((cX8_solve.data.toList.drop 1).take 1).map UInt8.toNat = [43] by decide +kernel)
theorem dX8_solve_2 : decode cX8_solve 2 = .ok (.aload_n 2, 1) := dc_44 (show ((cX8_solve.data.toList.drop 2).take 1).map UInt8.toNat = [44] by decide +kernel)
theorem dX8_solve_3 : decode cX8_solve 3 = .ok (.iload_n 3, 1) := dc_29 (show ((cX8_solve.data.toList.drop 3).take 1).map UInt8.toNat = [29] by decide +kernel)
theorem dX8_solve_4 : decode cX8_solve 4 = .ok (.invokevirtual 51, 3) := dc_182 (show ((cX8_solve.data.toList.drop 4).take 3).map UInt8.toNat = [182, 0, 51] by decide +kernel) rfl
theorem dX8_begin_0 : decode cX8_begin 0 = .ok (.aload_n 0, 1) := dc_42 (show ((cX8_begin.data.toList.drop 0).take 1).map UInt8.toNat = [42] by decide +kernel)
theorem dX8_begin_1 : decode cX8_begin 1 = .ok (.aload_n 1, 1) := dc_43 (show ((cX8_begin.data.toList.drop 1).take 1).map UInt8.toNat = [43] by decide +kernel)
theorem dX8_begin_2 : decode cX8_begin 2 = .ok (.putfield 12, 3) := dc_181 (show ((cX8_begin.data.toList.drop 2).take 3).map UInt8.toNat = [181, 0, 12] by decide +kernel) rfl
theorem dX8_begin_5 : decode cX8_begin 5 = .ok (.aload_n 0, 1) := dc_42 (show ((cX8_begin.data.toList.drop 5).take 1).map UInt8.toNat = [42] by decide +kernel)
theorem dX8_begin_6 : decode cX8_begin 6 = .ok (.aload_n 2, 1) := dc_44 (show ((cX8_begin.data.toList.drop 6).take 1).map UInt8.toNat = [44] by decide +kernel)
theorem dX8_begin_7 : decode cX8_begin 7 = .ok (.putfield 58, 3) := dc_181 (show ((cX8_begin.data.toList.drop 7).take 3).map UInt8.toNat = [181, 0, 58] by decide +kernel) rfl
theorem w_252 : (Cond.fieldLink "GooseBorder$Sharing" (58 : Nat) "GooseBorder$Sharing" "law" "LGooseBorder$Law;") ∈ gb_wA := gb_t2 12 rfl rfl
theorem dX8_begin_10 : decode cX8_begin 10 = .ok (.aload_n 0, 1) := dc_42 (show ((cX8_begin.data.toList.drop 10).take 1).map UInt8.toNat = [42] by decide +kernel)
theorem dX8_begin_11 : decode cX8_begin 11 = .ok (.iconst 0, 1) := dc_3 (show ((cX8_begin.data.toList.drop 11).take 1).map UInt8.toNat = [3] by decide +kernel)
theorem dX8_begin_12 : decode cX8_begin 12 = .ok (.putfield 55, 3) := dc_181 (show ((cX8_begin.data.toList.drop 12).take 3).map UInt8.toNat = [181, 0, 55] by decide +kernel) rfl
theorem w_255 : (Cond.fieldLink "GooseBorder$Sharing" (55 : Nat) "GooseBorder$Sharing" "opened" "I") ∈ gb_wA := gb_t2 15 rfl rfl
theorem dX8_begin_15 : decode cX8_begin 15 = .ok (.iconst 0, 1) := dc_3 (show ((cX8_begin.data.toList.drop 15).take 1).map UInt8.toNat = [3] by decide +kernel)
theorem dX8_begin_16 : decode cX8_begin 16 = .ok (.istore 4, 2) := dc_54 (show ((cX8_begin.data.toList.drop 16).take 2).map UInt8.toNat = [54, 4] by decide +kernel) rfl
theorem dX8_begin_18 : decode cX8_begin 18 = .ok (.iload 4, 2) := dc_21 (show ((cX8_begin.data.toList.drop 18).take 2).map UInt8.toNat = [21, 4] by decide +kernel) rfl
theorem dX8_begin_20 : decode cX8_begin 20 = .ok (.aload_n 0, 1) := dc_42 (show ((cX8_begin.data.toList.drop 20).take 1).map UInt8.toNat = [42] by decide +kernel)
theorem dX8_begin_21 : decode cX8_begin 21 = .ok (.getfield 12, 3) := dc_180 (show ((cX8_begin.data.toList.drop 21).take 3).map UInt8.toNat = [180, 0, 12] by decide +kernel) rfl
theorem dX8_begin_24 : decode cX8_begin 24 = .ok (.invokevirtual 40, 3) := dc_182 (show ((cX8_begin.data.toList.drop 24).take 3).map UInt8.toNat = [182, 0, 40] by decide +kernel) rfl
theorem dX8_begin_27 : decode cX8_begin 27 = .ok (.if_icmp .ge 44, 3) := dc_162 (show ((cX8_begin.data.toList.drop 27).take 3).map UInt8.toNat = [162, 0, 44] by decide +kernel) rfl
theorem dX8_begin_71 : decode cX8_begin 71 = .ok (.iconst 0, 1) := dc_3 (show ((cX8_begin.data.toList.drop 71).take 1).map UInt8.toNat = [3] by decide +kernel)
theorem dX8_begin_72 : decode cX8_begin 72 = .ok (.istore 4, 2) := dc_54 (show ((cX8_begin.data.toList.drop 72).take 2).map UInt8.toNat = [54, 4] by decide +kernel) rfl
theorem dX8_begin_74 : decode cX8_begin 74 = .ok (.iload 4, 2) := dc_21 (show ((cX8_begin.data.toList.drop 74).take 2).map UInt8.toNat = [21, 4] by decide +kernel) rfl
theorem dX8_begin_76 : decode cX8_begin 76 = .ok (.aload_n 0, 1) := dc_42 (show ((cX8_begin.data.toList.drop 76).take 1).map UInt8.toNat = [42] by decide +kernel)
theorem dX8_begin_77 : decode cX8_begin 77 = .ok (.getfield 12, 3) := dc_180 (show ((cX8_begin.data.toList.drop 77).take 3).map UInt8.toNat = [180, 0, 12] by decide +kernel) rfl
theorem dX8_begin_80 : decode cX8_begin 80 = .ok (.invokevirtual 44, 3) := dc_182 (show ((cX8_begin.data.toList.drop 80).take 3).map UInt8.toNat = [182, 0, 44] by decide +kernel) rfl
theorem dX8_begin_83 : decode cX8_begin 83 = .ok (.if_icmp .ge 91, 3) := dc_162 (show ((cX8_begin.data.toList.drop 83).take 3).map UInt8.toNat = [162, 0, 91] by decide +kernel) rfl
theorem dX8_begin_174 : decode cX8_begin 174 = .ok (.iconst 0, 1) := dc_3 (show ((cX8_begin.data.toList.drop 174).take 1).map UInt8.toNat = [3] by decide +kernel)
theorem dX8_begin_175 : decode cX8_begin 175 = .ok (.istore 4, 2) := dc_54 (show ((cX8_begin.data.toList.drop 175).take 2).map UInt8.toNat = [54, 4] by decide +kernel) rfl
theorem dX8_begin_177 : decode cX8_begin 177 = .ok (.iload 4, 2) := dc_21 (show ((cX8_begin.data.toList.drop 177).take 2).map UInt8.toNat = [21, 4] by decide +kernel) rfl
theorem dX8_begin_179 : decode cX8_begin 179 = .ok (.aload_n 0, 1) := dc_42 (show ((cX8_begin.data.toList.drop 179).take 1).map UInt8.toNat = [42] by decide +kernel)
theorem dX8_begin_180 : decode cX8_begin 180 = .ok (.getfield 55, 3) := dc_180 (show ((cX8_begin.data.toList.drop 180).take 3).map UInt8.toNat = [180, 0, 55] by decide +kernel) rfl
theorem dX8_begin_183 : decode cX8_begin 183 = .ok (.if_icmp .ge 20, 3) := dc_162 (show ((cX8_begin.data.toList.drop 183).take 3).map UInt8.toNat = [162, 0, 20] by decide +kernel) rfl
theorem dX8_begin_203 : decode cX8_begin 203 = .ok (.return_, 1) := dc_177 (show ((cX8_begin.data.toList.drop 203).take 1).map UInt8.toNat = [177] by decide +kernel)
theorem dX8_begin_186 : decode cX8_begin 186 = .ok (.aload_n 0, 1) := dc_42 (show ((cX8_begin.data.toList.drop 186).take 1).map UInt8.toNat = [42] by decide +kernel)
theorem dX8_begin_187 : decode cX8_begin 187 = .ok (.aload_n 0, 1) := dc_42 (show ((cX8_begin.data.toList.drop 187).take 1).map UInt8.toNat = [42] by decide +kernel)
theorem dX8_begin_188 : decode cX8_begin 188 = .ok (.getfield 22, 3) := dc_180 (show ((cX8_begin.data.toList.drop 188).take 3).map UInt8.toNat = [180, 0, 22] by decide +kernel) rfl
theorem dX8_begin_191 : decode cX8_begin 191 = .ok (.iload 4, 2) := dc_21 (show ((cX8_begin.data.toList.drop 191).take 2).map UInt8.toNat = [21, 4] by decide +kernel) rfl
theorem dX8_begin_193 : decode cX8_begin 193 = .ok (.iaload, 1) := dc_46 (show ((cX8_begin.data.toList.drop 193).take 1).map UInt8.toNat = [46] by decide +kernel)
theorem dX8_begin_194 : decode cX8_begin 194 = .ok (.invokevirtual 78, 3) := dc_182 (show ((cX8_begin.data.toList.drop 194).take 3).map UInt8.toNat = [182, 0, 78] by decide +kernel) rfl
theorem dX8_payAnew_0 : decode cX8_payAnew 0 = .ok (.aload_n 0, 1) := dc_42 (show ((cX8_payAnew.data.toList.drop 0).take 1).map UInt8.toNat = [42] by decide +kernel)
theorem dX8_payAnew_1 : decode cX8_payAnew 1 = .ok (.getfield 31, 3) := dc_180 (show ((cX8_payAnew.data.toList.drop 1).take 3).map UInt8.toNat = [180, 0, 31] by decide +kernel) rfl
theorem dX8_payAnew_4 : decode cX8_payAnew 4 = .ok (.iload_n 1, 1) := dc_27 (show ((cX8_payAnew.data.toList.drop 4).take 1).map UInt8.toNat = [27] by decide +kernel)
theorem dX8_payAnew_5 : decode cX8_payAnew 5 = .ok (.aload_n 0, 1) := dc_42 (show ((cX8_payAnew.data.toList.drop 5).take 1).map UInt8.toNat = [42] by decide +kernel)
theorem dX8_payAnew_6 : decode cX8_payAnew 6 = .ok (.getfield 58, 3) := dc_180 (show ((cX8_payAnew.data.toList.drop 6).take 3).map UInt8.toNat = [180, 0, 58] by decide +kernel) rfl
theorem dX8_payAnew_9 : decode cX8_payAnew 9 = .ok (.ifnonnull 20, 3) := dc_199 (show ((cX8_payAnew.data.toList.drop 9).take 3).map UInt8.toNat = [199, 0, 20] by decide +kernel) rfl
theorem dX8_payAnew_12 : decode cX8_payAnew 12 = .ok (.aload_n 0, 1) := dc_42 (show ((cX8_payAnew.data.toList.drop 12).take 1).map UInt8.toNat = [42] by decide +kernel)
theorem dX8_payAnew_13 : decode cX8_payAnew 13 = .ok (.getfield 12, 3) := dc_180 (show ((cX8_payAnew.data.toList.drop 13).take 3).map UInt8.toNat = [180, 0, 12] by decide +kernel) rfl
theorem dX8_payAnew_16 : decode cX8_payAnew 16 = .ok (.iload_n 1, 1) := dc_27 (show ((cX8_payAnew.data.toList.drop 16).take 1).map UInt8.toNat = [27] by decide +kernel)
theorem dX8_payAnew_17 : decode cX8_payAnew 17 = .ok (.aload_n 0, 1) := dc_42 (show ((cX8_payAnew.data.toList.drop 17).take 1).map UInt8.toNat = [42] by decide +kernel)
theorem dX8_payAnew_18 : decode cX8_payAnew 18 = .ok (.getfield 28, 3) := dc_180 (show ((cX8_payAnew.data.toList.drop 18).take 3).map UInt8.toNat = [180, 0, 28] by decide +kernel) rfl
theorem dX8_payAnew_21 : decode cX8_payAnew 21 = .ok (.iload_n 1, 1) := dc_27 (show ((cX8_payAnew.data.toList.drop 21).take 1).map UInt8.toNat = [27] by decide +kernel)
theorem dX8_payAnew_22 : decode cX8_payAnew 22 = .ok (.iaload, 1) := dc_46 (show ((cX8_payAnew.data.toList.drop 22).take 1).map UInt8.toNat = [46] by decide +kernel)
theorem dX8_payAnew_23 : decode cX8_payAnew 23 = .ok (.invokevirtual 82, 3) := dc_182 (show ((cX8_payAnew.data.toList.drop 23).take 3).map UInt8.toNat = [182, 0, 82] by decide +kernel) rfl
theorem w_909 : (Cond.methodLink "GooseBorder$Sharing" (82 : Nat) ({ cls := "GooseBorder$Border", name := "payOf", desc := "(II)I" } : MethodName)) ∈ gb_wA := gb_t4 189 rfl rfl
theorem dX8_payAnew_26 : decode cX8_payAnew 26 = .ok (.goto 24, 3) := dc_167 (show ((cX8_payAnew.data.toList.drop 26).take 3).map UInt8.toNat = [167, 0, 24] by decide +kernel) rfl
theorem dX8_payAnew_50 : decode cX8_payAnew 50 = .ok (.iastore, 1) := dc_79 (show ((cX8_payAnew.data.toList.drop 50).take 1).map UInt8.toNat = [79] by decide +kernel)
theorem dX8_payAnew_51 : decode cX8_payAnew 51 = .ok (.return_, 1) := dc_177 (show ((cX8_payAnew.data.toList.drop 51).take 1).map UInt8.toNat = [177] by decide +kernel)
theorem dX8_payAnew_29 : decode cX8_payAnew 29 = .ok (.aload_n 0, 1) := dc_42 (show ((cX8_payAnew.data.toList.drop 29).take 1).map UInt8.toNat = [42] by decide +kernel)
theorem dX8_payAnew_30 : decode cX8_payAnew 30 = .ok (.getfield 58, 3) := dc_180 (show ((cX8_payAnew.data.toList.drop 30).take 3).map UInt8.toNat = [180, 0, 58] by decide +kernel) rfl
theorem dX8_payAnew_33 : decode cX8_payAnew 33 = .ok (.aload_n 0, 1) := dc_42 (show ((cX8_payAnew.data.toList.drop 33).take 1).map UInt8.toNat = [42] by decide +kernel)
theorem dX8_payAnew_34 : decode cX8_payAnew 34 = .ok (.getfield 12, 3) := dc_180 (show ((cX8_payAnew.data.toList.drop 34).take 3).map UInt8.toNat = [180, 0, 12] by decide +kernel) rfl
theorem dX8_payAnew_37 : decode cX8_payAnew 37 = .ok (.iload_n 1, 1) := dc_27 (show ((cX8_payAnew.data.toList.drop 37).take 1).map UInt8.toNat = [27] by decide +kernel)
theorem dX8_payAnew_38 : decode cX8_payAnew 38 = .ok (.aload_n 0, 1) := dc_42 (show ((cX8_payAnew.data.toList.drop 38).take 1).map UInt8.toNat = [42] by decide +kernel)
theorem dX8_payAnew_39 : decode cX8_payAnew 39 = .ok (.getfield 28, 3) := dc_180 (show ((cX8_payAnew.data.toList.drop 39).take 3).map UInt8.toNat = [180, 0, 28] by decide +kernel) rfl
theorem dX8_payAnew_42 : decode cX8_payAnew 42 = .ok (.iload_n 1, 1) := dc_27 (show ((cX8_payAnew.data.toList.drop 42).take 1).map UInt8.toNat = [27] by decide +kernel)
theorem dX8_payAnew_43 : decode cX8_payAnew 43 = .ok (.iaload, 1) := dc_46 (show ((cX8_payAnew.data.toList.drop 43).take 1).map UInt8.toNat = [46] by decide +kernel)
theorem dX8_payAnew_44 : decode cX8_payAnew 44 = .ok (.invokevirtual 85, 3) := dc_182 (show ((cX8_payAnew.data.toList.drop 44).take 3).map UInt8.toNat = [182, 0, 85] by decide +kernel) rfl
theorem w_910 : (Cond.methodLink "GooseBorder$Sharing" (85 : Nat) ({ cls := "GooseBorder$Border", name := "padded", desc := "(II)I" } : MethodName)) ∈ gb_wA := gb_t4 190 rfl rfl
theorem dX8_payAnew_47 : decode cX8_payAnew 47 = .ok (.invokevirtual 88, 3) := dc_182 (show ((cX8_payAnew.data.toList.drop 47).take 3).map UInt8.toNat = [182, 0, 88] by decide +kernel) rfl
theorem w_911 : (Cond.methodLink "GooseBorder$Sharing" (88 : Nat) ({ cls := "GooseBorder$Law", name := "payFor", desc := "(I)I" } : MethodName)) ∈ gb_wA := gb_t4 191 rfl rfl
def cs_Sharing_payAnew (n : Nat) (σ : gb_S) (p1 : Int32) : gb_CR Unit := (if (σ.2.1 3) = 0 then gb_kk (gb_kB (σ.2.1 2)) (gb_ck p1 5 (gb_lt ((σ.1 126) (Int32.toNatClampNeg p1)) (fun x_4 => gb_cd (cs_Border_payOf_B n σ (σ.2.1 2) p1 x_4) (fun s_5 r_6 => gb_ck p1 5 (gb_lt (gb_su s_5 127 (upd (s_5.1 127) (Int32.toNatClampNeg p1) r_6)) (fun s_10 => some (s_10, ()))))))) else gb_kk (gb_kL (σ.2.1 3)) ((if (σ.2.1 3) = 0 then gb_kk (gb_kB (σ.2.1 2)) (gb_ck p1 5 (gb_lt ((σ.1 126) (Int32.toNatClampNeg p1)) (fun x_15 => gb_cd (cs_Border_padded_B n σ (σ.2.1 2) p1 x_15) (fun s_16 r_17 => none)))) else gb_kk (gb_kL (σ.2.1 3)) (gb_kk (gb_kB (σ.2.1 2)) (gb_ck p1 5 (gb_lt ((σ.1 126) (Int32.toNatClampNeg p1)) (fun x_23 => gb_cd (cs_Border_padded_B n σ (σ.2.1 2) p1 x_23) (fun s_24 r_25 => gb_cd (cs_Law_payFor_L n s_24 (σ.2.1 3) r_25) (fun s_28 r_29 => gb_ck p1 5 (gb_lt (gb_su s_28 127 (upd (s_28.1 127) (Int32.toNatClampNeg p1) r_29)) (fun s_33 => some (s_33, ()))))))))))))
set_option maxHeartbeats 8000000 in
set_option maxRecDepth 100000 in
theorem cc_Sharing_payAnew (l : Launch) (D : va_G) (cT : Nat → ClassId) (tt : Nat → Nat) (b1 b : Nat) (hb1 : b1 ≤ b) (n : Nat) (σ : gb_S) (p1 : Int32) (σE : gb_S) (rE : Unit) (h : cs_Sharing_payAnew n σ p1 = some (σE, rE)) : Met l yX8_payAnew (.code yX8_payAnew cX8_payAnew 2 none :: gb_wA) ({ frames := 3, cells := 0, slots := 0, locals := 68 }) (gb_Pc D cT tt b1 [.ref (b + 120), .int p1] (fun h => va_P D vwCl (gb_wl b (gb_CW cT b σ)) h)) (gb_Qv (fun h => va_P D vwCl (gb_wl b (gb_CW cT b σE)) h) (gb_fr b 135)) 0 0 (gb_fr b 135) := by
  refine Met.ofW (cc := cX8_payAnew) (maxL := 2) (ret := none) (by decide) rfl ?_
  intro p e s m args below meth c s₁ B hml hv
  obtain ⟨rfl, hSt, hP⟩ := hv
  have hx := B.exec
  have hb := B.bytes
  have hr := B.returns
  have hts := atoms_spec (ws := .code yX8_payAnew cX8_payAnew 2 none :: gb_wA) B.pre
  have hq : ∀ w ∈ gb_wA, w.before _ s = true := fun w h => hts w (List.mem_cons_of_mem _ h)
  have hown : s.vm.findClass RX8 = some m.cls := findClass_of_methodNamed B.named
  have hlocks := B.notSynchronized
  clear B hts
  have hK := hSt.1
  have hS : va_S (gb_fr b 135) s.heap s.heap [] := va_S.rf
  have hl := lv_entry ([.ref (b + 120), .int p1]) (n := 2) (Nat.le_of_ble_eq_true rfl)
  rw [lg_entry_eq]
  generalize (lg_sl ([.ref (b + 120), .int p1]) ++ List.replicate (2 - (lg_sl ([.ref (b + 120), .int p1])).length) Slot.unset).toArray = ls at hl ⊢
  replace hl : lv_has ls 2 [(0, .ref (b + 120)), (1, .int p1)] := hl
  unfold cs_Sharing_payAnew at h
  refine lv_aload_n hx hb dX8_payAnew_0 rfl (lv_at hl 0 rfl) ?_
  refine va_get (ci := 7) (v := (.ref (b + 127))) (C := RX8) (T := TX8) (N := 11) hx hb hq i_X8 hown hK hP 120 (gb_at b rfl) rfl 7 (by decide) (hq _ w_258) (fun _ h9 => h9) rfl dX8_payAnew_1 ?_
  refine lv_iload_n hx hb dX8_payAnew_4 rfl (lv_at hl 1 rfl) ?_
  refine lv_aload_n hx hb dX8_payAnew_5 rfl (lv_at hl 0 rfl) ?_
  refine va_get (ci := 7) (v := (gb_nv b (σ.2.1 3))) (C := RX8) (T := TX8) (N := 11) hx hb hq i_X8 hown hK hP 120 (gb_at b rfl) rfl 1 (by decide) (hq _ w_252) (fun _ h9 => h9) rfl dX8_payAnew_6 ?_
  by_cases c_1 : (σ.2.1 3) = 0
  · rw [if_pos c_1] at h
    rw [gb_nv0 c_1]
    refine lv_ifnonnullN hx hb dX8_payAnew_9 ?_
    refine lv_aload_n hx hb dX8_payAnew_12 rfl (lv_at hl 0 rfl) ?_
    obtain ⟨z_2, h⟩ := gb_kk_s h
    refine va_get (ci := 7) (v := (.ref (b + (σ.2.1 2)))) (C := RX8) (T := TX8) (N := 11) hx hb hq i_X8 hown hK hP 120 (gb_at b rfl) rfl 0 (by decide) (hq _ w_251) (fun _ h9 => h9) rfl dX8_payAnew_13 ?_
    refine lv_iload_n hx hb dX8_payAnew_16 rfl (lv_at hl 1 rfl) ?_
    refine lv_aload_n hx hb dX8_payAnew_17 rfl (lv_at hl 0 rfl) ?_
    refine va_get (ci := 7) (v := (.ref (b + 126))) (C := RX8) (T := TX8) (N := 11) hx hb hq i_X8 hown hK hP 120 (gb_at b rfl) rfl 6 (by decide) (hq _ w_257) (fun _ h9 => h9) rfl dX8_payAnew_18 ?_
    refine lv_iload_n hx hb dX8_payAnew_21 rfl (lv_at hl 1 rfl) ?_
    obtain ⟨z_3, h⟩ := gb_ck_s h
    refine va_iald hx hb hK hP 126 0 (gb_at b rfl) rfl z_3 dX8_payAnew_22 ?_
    refine lv_topi (fun x_4 ex_4 => ?_)
    replace h := gb_lt_s ex_4 h
    obtain ⟨s_5, r_6, z_7, h⟩ := gb_cd_s h
    refine gb_calli (va_runV (C := RX0) (As := [.int p1, .int x_4]) (rest := [.int p1, .ref (b + 127)]) ⟨hx, hb, hml, hown, hq⟩ (cc_Border_payOf_B l D cT tt b1 b hb1 n σ (σ.2.1 2) p1 x_4 s_5 r_6 z_7) (cwV 2 hq (gb_gV w_909 w_784 w_785 w_4 w_786) rfl rfl rfl (by decide +kernel) ⟨Nat.le_of_ble_eq_true rfl, Nat.le_of_ble_eq_true rfl⟩) (gb_preV (r := (RX0, TX0, 1)) (ci := 0) (q0 := (σ.2.1 2)) hSt hP rfl (gb_at b (gb_cB z_2).1) hS (fun q h => Nat.le_trans hb1 h.1) hP) rfl rfl hl.1 rfl (lv_room (Nat.le_of_ble_eq_true rfl)) dX8_payAnew_23 ⟨Nat.le_of_ble_eq_true rfl, Nat.le_of_ble_eq_true rfl⟩) hS (fun _ h => h) (fun _ h => h) (fun q_8 H locs hY hk hS => ?_)
    obtain ⟨hq_8, hP⟩ := hY
    replace hq_8 := hq_8.symm
    subst hq_8
    refine lv_goto (tgt := 50) hx hb dX8_payAnew_26 (by decide) ?_
    obtain ⟨z_9, h⟩ := gb_ck_s h
    refine va_iast (x := r_6) hx hb hK hP (gb_D (fun k h => ⟨Nat.le_add_right b k, Nat.add_lt_add_left h b⟩)) hS 127 0 (gb_at b rfl) rfl z_9 dX8_payAnew_50 (fun H locs hP hD hS => ?_)
    rw [gb_set] at hP
    obtain ⟨s_10, es_10⟩ : ∃ q, q = (gb_su s_5 127 (upd (s_5.1 127) (Int32.toNatClampNeg p1) r_6)) := ⟨_, rfl⟩
    replace hP : va_P D vwCl (gb_wl b (gb_CW cT b s_10)) H := by rw [es_10]; exact hP
    replace h := gb_lt_s es_10 h
    obtain ⟨e1, -⟩ := gb_eq2 h
    exact W.vret hx hb hr (fun t ht hW => gb_rv ht (by rw [← e1]; exact hP) hS) hS.2.2 dX8_payAnew_51
  rw [if_neg c_1] at h
  rw [gb_nv1 c_1]
  obtain ⟨z_11, h⟩ := gb_kk_s h
  refine lv_ifnonnull (tgt := 29) hx hb dX8_payAnew_9 (by decide) ?_
  refine lv_aload_n hx hb dX8_payAnew_29 rfl (lv_at hl 0 rfl) ?_
  refine va_get (ci := 7) (v := (gb_nv b (σ.2.1 3))) (C := RX8) (T := TX8) (N := 11) hx hb hq i_X8 hown hK hP 120 (gb_at b rfl) rfl 1 (by decide) (hq _ w_252) (fun _ h9 => h9) rfl dX8_payAnew_30 ?_
  by_cases c_12 : (σ.2.1 3) = 0
  · rw [if_pos c_12] at h
    rw [gb_nv0 c_12]
    refine lv_aload_n hx hb dX8_payAnew_33 rfl (lv_at hl 0 rfl) ?_
    obtain ⟨z_13, h⟩ := gb_kk_s h
    refine va_get (ci := 7) (v := (.ref (b + (σ.2.1 2)))) (C := RX8) (T := TX8) (N := 11) hx hb hq i_X8 hown hK hP 120 (gb_at b rfl) rfl 0 (by decide) (hq _ w_251) (fun _ h9 => h9) rfl dX8_payAnew_34 ?_
    refine lv_iload_n hx hb dX8_payAnew_37 rfl (lv_at hl 1 rfl) ?_
    refine lv_aload_n hx hb dX8_payAnew_38 rfl (lv_at hl 0 rfl) ?_
    refine va_get (ci := 7) (v := (.ref (b + 126))) (C := RX8) (T := TX8) (N := 11) hx hb hq i_X8 hown hK hP 120 (gb_at b rfl) rfl 6 (by decide) (hq _ w_257) (fun _ h9 => h9) rfl dX8_payAnew_39 ?_
    refine lv_iload_n hx hb dX8_payAnew_42 rfl (lv_at hl 1 rfl) ?_
    obtain ⟨z_14, h⟩ := gb_ck_s h
    refine va_iald hx hb hK hP 126 0 (gb_at b rfl) rfl z_14 dX8_payAnew_43 ?_
    refine lv_topi (fun x_15 ex_15 => ?_)
    replace h := gb_lt_s ex_15 h
    obtain ⟨s_16, r_17, z_18, h⟩ := gb_cd_s h
    refine gb_calli (va_runV (C := RX0) (As := [.int p1, .int x_15]) (rest := [.null, .int p1, .ref (b + 127)]) ⟨hx, hb, hml, hown, hq⟩ (cc_Border_padded_B l D cT tt b1 b hb1 n σ (σ.2.1 2) p1 x_15 s_16 r_17 z_18) (cwV 2 hq (gb_gV w_910 w_776 w_777 w_4 w_778) rfl rfl rfl (by decide +kernel) ⟨Nat.le_of_ble_eq_true rfl, Nat.le_of_ble_eq_true rfl⟩) (gb_preV (r := (RX0, TX0, 1)) (ci := 0) (q0 := (σ.2.1 2)) hSt hP rfl (gb_at b (gb_cB z_13).1) hS (fun q h => Nat.le_trans hb1 h.1) hP) rfl rfl hl.1 rfl (lv_room (Nat.le_of_ble_eq_true rfl)) dX8_payAnew_44 ⟨Nat.le_of_ble_eq_true rfl, Nat.le_of_ble_eq_true rfl⟩) hS (fun _ h => h) (fun _ h => h) (fun q_19 H locs hY hk hS => ?_)
    obtain ⟨hq_19, hP⟩ := hY
    replace hq_19 := hq_19.symm
    subst hq_19
    cases h
  rw [if_neg c_12] at h
  rw [gb_nv1 c_12]
  obtain ⟨z_20, h⟩ := gb_kk_s h
  refine lv_aload_n hx hb dX8_payAnew_33 rfl (lv_at hl 0 rfl) ?_
  obtain ⟨z_21, h⟩ := gb_kk_s h
  refine va_get (ci := 7) (v := (.ref (b + (σ.2.1 2)))) (C := RX8) (T := TX8) (N := 11) hx hb hq i_X8 hown hK hP 120 (gb_at b rfl) rfl 0 (by decide) (hq _ w_251) (fun _ h9 => h9) rfl dX8_payAnew_34 ?_
  refine lv_iload_n hx hb dX8_payAnew_37 rfl (lv_at hl 1 rfl) ?_
  refine lv_aload_n hx hb dX8_payAnew_38 rfl (lv_at hl 0 rfl) ?_
  refine va_get (ci := 7) (v := (.ref (b + 126))) (C := RX8) (T := TX8) (N := 11) hx hb hq i_X8 hown hK hP 120 (gb_at b rfl) rfl 6 (by decide) (hq _ w_257) (fun _ h9 => h9) rfl dX8_payAnew_39 ?_
  refine lv_iload_n hx hb dX8_payAnew_42 rfl (lv_at hl 1 rfl) ?_
  obtain ⟨z_22, h⟩ := gb_ck_s h
  refine va_iald hx hb hK hP 126 0 (gb_at b rfl) rfl z_22 dX8_payAnew_43 ?_
  refine lv_topi (fun x_23 ex_23 => ?_)
  replace h := gb_lt_s ex_23 h
  obtain ⟨s_24, r_25, z_26, h⟩ := gb_cd_s h
  refine gb_calli (va_runV (C := RX0) (As := [.int p1, .int x_23]) (rest := [.ref (b + (σ.2.1 3)), .int p1, .ref (b + 127)]) ⟨hx, hb, hml, hown, hq⟩ (cc_Border_padded_B l D cT tt b1 b hb1 n σ (σ.2.1 2) p1 x_23 s_24 r_25 z_26) (cwV 2 hq (gb_gV w_910 w_776 w_777 w_4 w_778) rfl rfl rfl (by decide +kernel) ⟨Nat.le_of_ble_eq_true rfl, Nat.le_of_ble_eq_true rfl⟩) (gb_preV (r := (RX0, TX0, 1)) (ci := 0) (q0 := (σ.2.1 2)) hSt hP rfl (gb_at b (gb_cB z_21).1) hS (fun q h => Nat.le_trans hb1 h.1) hP) rfl rfl hl.1 rfl (lv_room (Nat.le_of_ble_eq_true rfl)) dX8_payAnew_44 ⟨Nat.le_of_ble_eq_true rfl, Nat.le_of_ble_eq_true rfl⟩) hS (fun _ h => h) (fun _ h => h) (fun q_27 H locs hY hk hS => ?_)
  obtain ⟨hq_27, hP⟩ := hY
  replace hq_27 := hq_27.symm
  subst hq_27
  obtain ⟨s_28, r_29, z_30, h⟩ := gb_cd_s h
  refine gb_calli (va_runV (C := RX3) (As := [.int r_25]) (rest := [.int p1, .ref (b + 127)]) ⟨hx, hb, hml, hown, hq⟩ (cc_Law_payFor_L l D cT tt b1 b hb1 n s_24 (σ.2.1 3) r_25 s_28 r_29 z_30) (cwV 1 hq (gb_gV w_911 w_676 w_677 w_8 w_678) rfl rfl rfl (by decide +kernel) ⟨Nat.le_of_ble_eq_true rfl, Nat.le_of_ble_eq_true rfl⟩) (gb_preV (r := (RX3, TX3, 4)) (ci := 3) (q0 := (σ.2.1 3)) hSt hP rfl (gb_at b (gb_cL z_20).1) hS (fun q h => Nat.le_trans hb1 h.1) hP) rfl rfl hl.1 rfl (lv_room (Nat.le_of_ble_eq_true rfl)) dX8_payAnew_47 ⟨Nat.le_of_ble_eq_true rfl, Nat.le_of_ble_eq_true rfl⟩) hS (fun _ h => h) (fun _ h => h) (fun q_31 H locs hY hk hS => ?_)
  obtain ⟨hq_31, hP⟩ := hY
  replace hq_31 := hq_31.symm
  subst hq_31
  obtain ⟨z_32, h⟩ := gb_ck_s h
  refine va_iast (x := r_29) hx hb hK hP (gb_D (fun k h => ⟨Nat.le_add_right b k, Nat.add_lt_add_left h b⟩)) hS 127 0 (gb_at b rfl) rfl z_32 dX8_payAnew_50 (fun H locs hP hD hS => ?_)
  rw [gb_set] at hP
  obtain ⟨s_33, es_33⟩ : ∃ q, q = (gb_su s_28 127 (upd (s_28.1 127) (Int32.toNatClampNeg p1) r_29)) := ⟨_, rfl⟩
  replace hP : va_P D vwCl (gb_wl b (gb_CW cT b s_33)) H := by rw [es_33]; exact hP
  replace h := gb_lt_s es_33 h
  obtain ⟨e1, -⟩ := gb_eq2 h
  exact W.vret hx hb hr (fun t ht hW => gb_rv ht (by rw [← e1]; exact hP) hS) hS.2.2 dX8_payAnew_51
theorem w_908 : (Cond.code ({ cls := "GooseBorder$Sharing", name := "payAnew", desc := "(I)V" } : MethodName) prog_10_method_7_code (2 : Nat) (Option.none : Option FieldType)) ∈ gb_wA := gb_t4 188 rfl rfl
theorem w_905 : (Cond.methodLink "GooseBorder$Sharing" (78 : Nat) ({ cls := "GooseBorder$Sharing", name := "payAnew", desc := "(I)V" } : MethodName)) ∈ gb_wA := gb_t4 185 rfl rfl
theorem w_907 : (Cond.instanceMethod ({ cls := "GooseBorder$Sharing", name := "payAnew", desc := "(I)V" } : MethodName)) ∈ gb_wA := gb_t4 187 rfl rfl
theorem s_2_5 : Cond.selects "GooseBorder$Sharing" (⟨"GooseBorder$Sharing", "payAnew", "(I)V"⟩ : MethodName) (⟨"GooseBorder$Sharing", "payAnew", "(I)V"⟩ : MethodName) ∈ gb_wA := gb_s2 5 rfl rfl
theorem dX8_begin_197 : decode cX8_begin 197 = .ok (.iinc 4 1, 3) := dc_132 (show ((cX8_begin.data.toList.drop 197).take 3).map UInt8.toNat = [132, 4, 1] by decide +kernel) rfl
theorem dX8_begin_200 : decode cX8_begin 200 = .ok (.goto (-23), 3) := dc_167 (show ((cX8_begin.data.toList.drop 200).take 3).map UInt8.toNat = [167, 255, 233] by decide +kernel) rfl
theorem dX8_begin_86 : decode cX8_begin 86 = .ok (.aload_n 0, 1) := dc_42 (show ((cX8_begin.data.toList.drop 86).take 1).map UInt8.toNat = [42] by decide +kernel)
theorem dX8_begin_87 : decode cX8_begin 87 = .ok (.getfield 25, 3) := dc_180 (show ((cX8_begin.data.toList.drop 87).take 3).map UInt8.toNat = [180, 0, 25] by decide +kernel) rfl
theorem dX8_begin_90 : decode cX8_begin 90 = .ok (.iload 4, 2) := dc_21 (show ((cX8_begin.data.toList.drop 90).take 2).map UInt8.toNat = [21, 4] by decide +kernel) rfl
theorem dX8_begin_92 : decode cX8_begin 92 = .ok (.iconst 0, 1) := dc_3 (show ((cX8_begin.data.toList.drop 92).take 1).map UInt8.toNat = [3] by decide +kernel)
theorem dX8_begin_93 : decode cX8_begin 93 = .ok (.iastore, 1) := dc_79 (show ((cX8_begin.data.toList.drop 93).take 1).map UInt8.toNat = [79] by decide +kernel)
theorem dX8_begin_94 : decode cX8_begin 94 = .ok (.iconst 0, 1) := dc_3 (show ((cX8_begin.data.toList.drop 94).take 1).map UInt8.toNat = [3] by decide +kernel)
theorem dX8_begin_95 : decode cX8_begin 95 = .ok (.istore 5, 2) := dc_54 (show ((cX8_begin.data.toList.drop 95).take 2).map UInt8.toNat = [54, 5] by decide +kernel) rfl
theorem dX8_begin_97 : decode cX8_begin 97 = .ok (.iload 5, 2) := dc_21 (show ((cX8_begin.data.toList.drop 97).take 2).map UInt8.toNat = [21, 5] by decide +kernel) rfl
theorem dX8_begin_99 : decode cX8_begin 99 = .ok (.aload_n 0, 1) := dc_42 (show ((cX8_begin.data.toList.drop 99).take 1).map UInt8.toNat = [42] by decide +kernel)
theorem dX8_begin_100 : decode cX8_begin 100 = .ok (.getfield 12, 3) := dc_180 (show ((cX8_begin.data.toList.drop 100).take 3).map UInt8.toNat = [180, 0, 12] by decide +kernel) rfl
theorem dX8_begin_103 : decode cX8_begin 103 = .ok (.invokevirtual 40, 3) := dc_182 (show ((cX8_begin.data.toList.drop 103).take 3).map UInt8.toNat = [182, 0, 40] by decide +kernel) rfl
theorem dX8_begin_106 : decode cX8_begin 106 = .ok (.if_icmp .ge 32, 3) := dc_162 (show ((cX8_begin.data.toList.drop 106).take 3).map UInt8.toNat = [162, 0, 32] by decide +kernel) rfl
theorem dX8_begin_138 : decode cX8_begin 138 = .ok (.aload_n 0, 1) := dc_42 (show ((cX8_begin.data.toList.drop 138).take 1).map UInt8.toNat = [42] by decide +kernel)
theorem dX8_begin_139 : decode cX8_begin 139 = .ok (.getfield 28, 3) := dc_180 (show ((cX8_begin.data.toList.drop 139).take 3).map UInt8.toNat = [180, 0, 28] by decide +kernel) rfl
theorem dX8_begin_142 : decode cX8_begin 142 = .ok (.aload_n 0, 1) := dc_42 (show ((cX8_begin.data.toList.drop 142).take 1).map UInt8.toNat = [42] by decide +kernel)
theorem dX8_begin_143 : decode cX8_begin 143 = .ok (.getfield 22, 3) := dc_180 (show ((cX8_begin.data.toList.drop 143).take 3).map UInt8.toNat = [180, 0, 22] by decide +kernel) rfl
theorem dX8_begin_146 : decode cX8_begin 146 = .ok (.iconst 0, 1) := dc_3 (show ((cX8_begin.data.toList.drop 146).take 1).map UInt8.toNat = [3] by decide +kernel)
theorem dX8_begin_147 : decode cX8_begin 147 = .ok (.iaload, 1) := dc_46 (show ((cX8_begin.data.toList.drop 147).take 1).map UInt8.toNat = [46] by decide +kernel)
theorem dX8_begin_148 : decode cX8_begin 148 = .ok (.dup2, 1) := dc_92 (show ((cX8_begin.data.toList.drop 148).take 1).map UInt8.toNat = [92] by decide +kernel)
theorem dX8_begin_149 : decode cX8_begin 149 = .ok (.iaload, 1) := dc_46 (show ((cX8_begin.data.toList.drop 149).take 1).map UInt8.toNat = [46] by decide +kernel)
theorem dX8_begin_150 : decode cX8_begin 150 = .ok (.aload_n 0, 1) := dc_42 (show ((cX8_begin.data.toList.drop 150).take 1).map UInt8.toNat = [42] by decide +kernel)
theorem dX8_begin_151 : decode cX8_begin 151 = .ok (.getfield 18, 3) := dc_180 (show ((cX8_begin.data.toList.drop 151).take 3).map UInt8.toNat = [180, 0, 18] by decide +kernel) rfl
theorem dX8_begin_154 : decode cX8_begin 154 = .ok (.iload 4, 2) := dc_21 (show ((cX8_begin.data.toList.drop 154).take 2).map UInt8.toNat = [21, 4] by decide +kernel) rfl
theorem dX8_begin_156 : decode cX8_begin 156 = .ok (.iconst 5, 1) := dc_8 (show ((cX8_begin.data.toList.drop 156).take 1).map UInt8.toNat = [8] by decide +kernel)
theorem dX8_begin_157 : decode cX8_begin 157 = .ok (.imul, 1) := dc_104 (show ((cX8_begin.data.toList.drop 157).take 1).map UInt8.toNat = [104] by decide +kernel)
theorem dX8_begin_158 : decode cX8_begin 158 = .ok (.aload_n 0, 1) := dc_42 (show ((cX8_begin.data.toList.drop 158).take 1).map UInt8.toNat = [42] by decide +kernel)
theorem dX8_begin_159 : decode cX8_begin 159 = .ok (.getfield 22, 3) := dc_180 (show ((cX8_begin.data.toList.drop 159).take 3).map UInt8.toNat = [180, 0, 22] by decide +kernel) rfl
theorem dX8_begin_162 : decode cX8_begin 162 = .ok (.iconst 0, 1) := dc_3 (show ((cX8_begin.data.toList.drop 162).take 1).map UInt8.toNat = [3] by decide +kernel)
theorem dX8_begin_163 : decode cX8_begin 163 = .ok (.iaload, 1) := dc_46 (show ((cX8_begin.data.toList.drop 163).take 1).map UInt8.toNat = [46] by decide +kernel)
theorem dX8_begin_164 : decode cX8_begin 164 = .ok (.iadd, 1) := dc_96 (show ((cX8_begin.data.toList.drop 164).take 1).map UInt8.toNat = [96] by decide +kernel)
theorem dX8_begin_165 : decode cX8_begin 165 = .ok (.iaload, 1) := dc_46 (show ((cX8_begin.data.toList.drop 165).take 1).map UInt8.toNat = [46] by decide +kernel)
theorem dX8_begin_166 : decode cX8_begin 166 = .ok (.iadd, 1) := dc_96 (show ((cX8_begin.data.toList.drop 166).take 1).map UInt8.toNat = [96] by decide +kernel)
theorem dX8_begin_167 : decode cX8_begin 167 = .ok (.iastore, 1) := dc_79 (show ((cX8_begin.data.toList.drop 167).take 1).map UInt8.toNat = [79] by decide +kernel)
theorem dX8_begin_168 : decode cX8_begin 168 = .ok (.iinc 4 1, 3) := dc_132 (show ((cX8_begin.data.toList.drop 168).take 3).map UInt8.toNat = [132, 4, 1] by decide +kernel) rfl
theorem dX8_begin_171 : decode cX8_begin 171 = .ok (.goto (-97), 3) := dc_167 (show ((cX8_begin.data.toList.drop 171).take 3).map UInt8.toNat = [167, 255, 159] by decide +kernel) rfl
theorem dX8_begin_109 : decode cX8_begin 109 = .ok (.aload_n 0, 1) := dc_42 (show ((cX8_begin.data.toList.drop 109).take 1).map UInt8.toNat = [42] by decide +kernel)
theorem dX8_begin_110 : decode cX8_begin 110 = .ok (.getfield 18, 3) := dc_180 (show ((cX8_begin.data.toList.drop 110).take 3).map UInt8.toNat = [180, 0, 18] by decide +kernel) rfl
theorem dX8_begin_113 : decode cX8_begin 113 = .ok (.iload 4, 2) := dc_21 (show ((cX8_begin.data.toList.drop 113).take 2).map UInt8.toNat = [21, 4] by decide +kernel) rfl
theorem dX8_begin_115 : decode cX8_begin 115 = .ok (.iconst 5, 1) := dc_8 (show ((cX8_begin.data.toList.drop 115).take 1).map UInt8.toNat = [8] by decide +kernel)
theorem dX8_begin_116 : decode cX8_begin 116 = .ok (.imul, 1) := dc_104 (show ((cX8_begin.data.toList.drop 116).take 1).map UInt8.toNat = [104] by decide +kernel)
theorem dX8_begin_117 : decode cX8_begin 117 = .ok (.iload 5, 2) := dc_21 (show ((cX8_begin.data.toList.drop 117).take 2).map UInt8.toNat = [21, 5] by decide +kernel) rfl
theorem dX8_begin_119 : decode cX8_begin 119 = .ok (.iadd, 1) := dc_96 (show ((cX8_begin.data.toList.drop 119).take 1).map UInt8.toNat = [96] by decide +kernel)
theorem dX8_begin_120 : decode cX8_begin 120 = .ok (.aload_n 0, 1) := dc_42 (show ((cX8_begin.data.toList.drop 120).take 1).map UInt8.toNat = [42] by decide +kernel)
theorem dX8_begin_121 : decode cX8_begin 121 = .ok (.getfield 12, 3) := dc_180 (show ((cX8_begin.data.toList.drop 121).take 3).map UInt8.toNat = [180, 0, 12] by decide +kernel) rfl
theorem dX8_begin_124 : decode cX8_begin 124 = .ok (.iload 4, 2) := dc_21 (show ((cX8_begin.data.toList.drop 124).take 2).map UInt8.toNat = [21, 4] by decide +kernel) rfl
theorem dX8_begin_126 : decode cX8_begin 126 = .ok (.iload 5, 2) := dc_21 (show ((cX8_begin.data.toList.drop 126).take 2).map UInt8.toNat = [21, 5] by decide +kernel) rfl
theorem dX8_begin_128 : decode cX8_begin 128 = .ok (.invokevirtual 74, 3) := dc_182 (show ((cX8_begin.data.toList.drop 128).take 3).map UInt8.toNat = [182, 0, 74] by decide +kernel) rfl
theorem w_901 : (Cond.code ({ cls := "GooseBorder$Border", name := "marksFirst", desc := "(II)I" } : MethodName) prog_2_method_20_code (3 : Nat) (Option.some FieldType.int)) ∈ gb_wA := gb_t4 181 rfl rfl
theorem w_898 : (Cond.methodLink "GooseBorder$Sharing" (74 : Nat) ({ cls := "GooseBorder$Border", name := "marksFirst", desc := "(II)I" } : MethodName)) ∈ gb_wA := gb_t4 178 rfl rfl
theorem w_899 : (Cond.instanceMethod ({ cls := "GooseBorder$Border", name := "marksFirst", desc := "(II)I" } : MethodName)) ∈ gb_wA := gb_t4 179 rfl rfl
theorem w_900 : (Cond.selects "GooseBorder$Border" ({ cls := "GooseBorder$Border", name := "marksFirst", desc := "(II)I" } : MethodName) ({ cls := "GooseBorder$Border", name := "marksFirst", desc := "(II)I" } : MethodName)) ∈ gb_wA := gb_t4 180 rfl rfl
theorem dX8_begin_131 : decode cX8_begin 131 = .ok (.iastore, 1) := dc_79 (show ((cX8_begin.data.toList.drop 131).take 1).map UInt8.toNat = [79] by decide +kernel)
theorem dX8_begin_132 : decode cX8_begin 132 = .ok (.iinc 5 1, 3) := dc_132 (show ((cX8_begin.data.toList.drop 132).take 3).map UInt8.toNat = [132, 5, 1] by decide +kernel) rfl
theorem dX8_begin_135 : decode cX8_begin 135 = .ok (.goto (-38), 3) := dc_167 (show ((cX8_begin.data.toList.drop 135).take 3).map UInt8.toNat = [167, 255, 218] by decide +kernel) rfl
theorem dX8_begin_30 : decode cX8_begin 30 = .ok (.aload_n 0, 1) := dc_42 (show ((cX8_begin.data.toList.drop 30).take 1).map UInt8.toNat = [42] by decide +kernel)
theorem dX8_begin_31 : decode cX8_begin 31 = .ok (.getfield 28, 3) := dc_180 (show ((cX8_begin.data.toList.drop 31).take 3).map UInt8.toNat = [180, 0, 28] by decide +kernel) rfl
theorem dX8_begin_34 : decode cX8_begin 34 = .ok (.iload 4, 2) := dc_21 (show ((cX8_begin.data.toList.drop 34).take 2).map UInt8.toNat = [21, 4] by decide +kernel) rfl
theorem dX8_begin_36 : decode cX8_begin 36 = .ok (.iconst 0, 1) := dc_3 (show ((cX8_begin.data.toList.drop 36).take 1).map UInt8.toNat = [3] by decide +kernel)
theorem dX8_begin_37 : decode cX8_begin 37 = .ok (.iastore, 1) := dc_79 (show ((cX8_begin.data.toList.drop 37).take 1).map UInt8.toNat = [79] by decide +kernel)
theorem dX8_begin_38 : decode cX8_begin 38 = .ok (.iload 4, 2) := dc_21 (show ((cX8_begin.data.toList.drop 38).take 2).map UInt8.toNat = [21, 4] by decide +kernel) rfl
theorem dX8_begin_40 : decode cX8_begin 40 = .ok (.iload_n 3, 1) := dc_29 (show ((cX8_begin.data.toList.drop 40).take 1).map UInt8.toNat = [29] by decide +kernel)
theorem dX8_begin_41 : decode cX8_begin 41 = .ok (.if_icmp .eq 24, 3) := dc_159 (show ((cX8_begin.data.toList.drop 41).take 3).map UInt8.toNat = [159, 0, 24] by decide +kernel) rfl
theorem dX8_begin_65 : decode cX8_begin 65 = .ok (.iinc 4 1, 3) := dc_132 (show ((cX8_begin.data.toList.drop 65).take 3).map UInt8.toNat = [132, 4, 1] by decide +kernel) rfl
theorem dX8_begin_68 : decode cX8_begin 68 = .ok (.goto (-50), 3) := dc_167 (show ((cX8_begin.data.toList.drop 68).take 3).map UInt8.toNat = [167, 255, 206] by decide +kernel) rfl
theorem dX8_begin_44 : decode cX8_begin 44 = .ok (.aload_n 0, 1) := dc_42 (show ((cX8_begin.data.toList.drop 44).take 1).map UInt8.toNat = [42] by decide +kernel)
theorem dX8_begin_45 : decode cX8_begin 45 = .ok (.getfield 22, 3) := dc_180 (show ((cX8_begin.data.toList.drop 45).take 3).map UInt8.toNat = [180, 0, 22] by decide +kernel) rfl
theorem dX8_begin_48 : decode cX8_begin 48 = .ok (.aload_n 0, 1) := dc_42 (show ((cX8_begin.data.toList.drop 48).take 1).map UInt8.toNat = [42] by decide +kernel)
theorem dX8_begin_49 : decode cX8_begin 49 = .ok (.getfield 55, 3) := dc_180 (show ((cX8_begin.data.toList.drop 49).take 3).map UInt8.toNat = [180, 0, 55] by decide +kernel) rfl
theorem dX8_begin_52 : decode cX8_begin 52 = .ok (.iload 4, 2) := dc_21 (show ((cX8_begin.data.toList.drop 52).take 2).map UInt8.toNat = [21, 4] by decide +kernel) rfl
theorem dX8_begin_54 : decode cX8_begin 54 = .ok (.iastore, 1) := dc_79 (show ((cX8_begin.data.toList.drop 54).take 1).map UInt8.toNat = [79] by decide +kernel)
theorem dX8_begin_55 : decode cX8_begin 55 = .ok (.aload_n 0, 1) := dc_42 (show ((cX8_begin.data.toList.drop 55).take 1).map UInt8.toNat = [42] by decide +kernel)
theorem dX8_begin_56 : decode cX8_begin 56 = .ok (.dup, 1) := dc_89 (show ((cX8_begin.data.toList.drop 56).take 1).map UInt8.toNat = [89] by decide +kernel)
theorem dX8_begin_57 : decode cX8_begin 57 = .ok (.getfield 55, 3) := dc_180 (show ((cX8_begin.data.toList.drop 57).take 3).map UInt8.toNat = [180, 0, 55] by decide +kernel) rfl
theorem dX8_begin_60 : decode cX8_begin 60 = .ok (.iconst 1, 1) := dc_4 (show ((cX8_begin.data.toList.drop 60).take 1).map UInt8.toNat = [4] by decide +kernel)
theorem dX8_begin_61 : decode cX8_begin 61 = .ok (.iadd, 1) := dc_96 (show ((cX8_begin.data.toList.drop 61).take 1).map UInt8.toNat = [96] by decide +kernel)
theorem dX8_begin_62 : decode cX8_begin 62 = .ok (.putfield 55, 3) := dc_181 (show ((cX8_begin.data.toList.drop 62).take 3).map UInt8.toNat = [181, 0, 55] by decide +kernel) rfl
def cs_Sharing_begin_B_n_177 (n : Nat) : Nat → gb_S → Int32 → gb_CR Unit
  | 0, _, _ => none
  | mm + 1, σ, v4 => (if (σ.1 120 4) ≤ v4 then some (σ, ()) else gb_ck v4 5 (gb_lt ((σ.1 124) (Int32.toNatClampNeg v4)) (fun x_19 => gb_cd (cs_Sharing_payAnew n σ x_19) (fun s_20 _ => gb_lt (v4 + 1) (fun x_24 => cs_Sharing_begin_B_n_177 n mm s_20 x_24)))))
def cs_Sharing_begin_B_n_97 (n : Nat) (k74 : gb_S → Int32 → gb_CR Unit) : Nat → gb_S → Int32 → Int32 → gb_CR Unit
  | 0, _, _, _ => none
  | mm + 1, σ, v4, v5 => gb_kk (gb_kB (σ.2.1 2)) (gb_cd (cs_Border_paths_B n σ (σ.2.1 2)) (fun s_28 r_29 => (if r_29 ≤ v5 then gb_lt ((s_28.1 124) (Int32.toNatClampNeg 0)) (fun x_33 => gb_ck x_33 5 (gb_lt ((s_28.1 126) (Int32.toNatClampNeg x_33)) (fun x_35 => gb_lt ((s_28.1 124) (Int32.toNatClampNeg 0)) (fun x_36 => gb_ck ((v4 * 5) + x_36) 40 (gb_lt ((s_28.1 123) (Int32.toNatClampNeg ((v4 * 5) + x_36))) (fun x_38 => gb_ck x_33 5 (gb_lt (gb_su s_28 126 (upd (s_28.1 126) (Int32.toNatClampNeg x_33) (x_35 + x_38))) (fun s_40 => gb_lt (v4 + 1) (fun x_41 => k74 s_40 x_41))))))))) else gb_kk (gb_kB (s_28.2.1 2)) (gb_cd (cs_Border_marksFirst_B n s_28 (s_28.2.1 2) v4 v5) (fun s_43 r_44 => gb_ck ((v4 * 5) + v5) 40 (gb_lt (gb_su s_43 123 (upd (s_43.1 123) (Int32.toNatClampNeg ((v4 * 5) + v5)) r_44)) (fun s_48 => gb_lt (v5 + 1) (fun x_49 => cs_Sharing_begin_B_n_97 n k74 mm s_48 v4 x_49))))))))
def cs_Sharing_begin_B_n_74 (n : Nat) : Nat → gb_S → Int32 → gb_CR Unit
  | 0, _, _ => none
  | mm + 1, σ, v4 => gb_kk (gb_kB (σ.2.1 2)) (gb_cd (cs_Border_geese_B n σ (σ.2.1 2)) (fun s_12 r_13 => (if r_13 ≤ v4 then cs_Sharing_begin_B_n_177 n n s_12 0 else gb_ck v4 8 (gb_lt (gb_su s_12 125 (upd (s_12.1 125) (Int32.toNatClampNeg v4) 0)) (fun s_26 => cs_Sharing_begin_B_n_97 n (fun σ v4 => cs_Sharing_begin_B_n_74 n mm σ v4) n s_26 v4 0)))))
def cs_Sharing_begin_B_n_18 (n : Nat) : Nat → gb_S → Int32 → Int32 → gb_CR Unit
  | 0, _, _, _ => none
  | mm + 1, σ, v3, v4 => gb_kk (gb_kB (σ.2.1 2)) (gb_cd (cs_Border_paths_B n σ (σ.2.1 2)) (fun s_6 r_7 => (if r_7 ≤ v4 then cs_Sharing_begin_B_n_74 n n s_6 0 else gb_ck v4 5 (gb_lt (gb_su s_6 126 (upd (s_6.1 126) (Int32.toNatClampNeg v4) 0)) (fun s_51 => (if v4 = v3 then gb_lt (v4 + 1) (fun x_53 => cs_Sharing_begin_B_n_18 n mm s_51 v3 x_53) else gb_ck (s_51.1 120 4) 5 (gb_lt (gb_su s_51 124 (upd (s_51.1 124) (Int32.toNatClampNeg (s_51.1 120 4)) v4)) (fun s_55 => gb_lt (gb_su s_55 120 (upd (s_55.1 120) 4 ((s_55.1 120 4) + 1))) (fun s_56 => gb_lt (v4 + 1) (fun x_57 => cs_Sharing_begin_B_n_18 n mm s_56 v3 x_57))))))))))
def cs_Sharing_begin_B_n (n : Nat) (σ : gb_S) (p1 : Nat) (p3 : Int32) : gb_CR Unit := gb_kk (gb_kB p1) (gb_lt (gb_sq σ 2 p1) (fun s_2 => gb_lt (gb_sq s_2 3 0) (fun s_3 => gb_lt (gb_su s_3 120 (upd (s_3.1 120) 4 0)) (fun s_4 => cs_Sharing_begin_B_n_18 n n s_4 p3 0))))
set_option maxHeartbeats 8000000 in
set_option maxRecDepth 100000 in
theorem cc_Sharing_begin_B_n (l : Launch) (D : va_G) (cT : Nat → ClassId) (tt : Nat → Nat) (b1 b : Nat) (hb1 : b1 ≤ b) (n : Nat) (σ : gb_S) (p1 : Nat) (p3 : Int32) (σE : gb_S) (rE : Unit) (h : cs_Sharing_begin_B_n n σ p1 p3 = some (σE, rE)) : Met l yX8_begin (.code yX8_begin cX8_begin 6 none :: gb_wA) ({ frames := 4, cells := 0, slots := 0, locals := 89 }) (gb_Pc D cT tt b1 [.ref (b + 120), .ref (b + p1), .null, .int p3] (fun h => va_P D vwCl (gb_wl b (gb_CW cT b σ)) h)) (gb_Qv (fun h => va_P D vwCl (gb_wl b (gb_CW cT b σE)) h) (gb_fr b 135)) 0 0 (gb_fr b 135) := by
  refine Met.ofW (cc := cX8_begin) (maxL := 6) (ret := none) (by decide) rfl ?_
  intro p e s m args below meth c s₁ B hml hv
  obtain ⟨rfl, hSt, hP⟩ := hv
  have hx := B.exec
  have hb := B.bytes
  have hr := B.returns
  have hts := atoms_spec (ws := .code yX8_begin cX8_begin 6 none :: gb_wA) B.pre
  have hq : ∀ w ∈ gb_wA, w.before _ s = true := fun w h => hts w (List.mem_cons_of_mem _ h)
  have hown : s.vm.findClass RX8 = some m.cls := findClass_of_methodNamed B.named
  have hlocks := B.notSynchronized
  clear B hts
  have hK := hSt.1
  have hS : va_S (gb_fr b 135) s.heap s.heap [] := va_S.rf
  have hl := lv_entry ([.ref (b + 120), .ref (b + p1), .null, .int p3]) (n := 6) (Nat.le_of_ble_eq_true rfl)
  rw [lg_entry_eq]
  generalize (lg_sl ([.ref (b + 120), .ref (b + p1), .null, .int p3]) ++ List.replicate (6 - (lg_sl ([.ref (b + 120), .ref (b + p1), .null, .int p3])).length) Slot.unset).toArray = ls at hl ⊢
  replace hl : lv_has ls 6 [(0, .ref (b + 120)), (1, .ref (b + p1)), (2, .null), (3, .int p3)] := hl
  have L177_3 : ∀ (mm : Nat) (σ : gb_S) (v4 : Int32) (H : Heap) (locs : List Loc) (ls : Array Slot), cs_Sharing_begin_B_n_177 n mm σ v4 = some (σE, rE) → va_P D vwCl (gb_wl b (gb_CW cT b σ)) H → va_S (gb_fr b 135) s.heap H locs → lv_has ls 6 [(0, .ref (b + 120)), (4, .int v4)] → W p l e (headSpec (.code yX8_begin cX8_begin 6 none :: gb_wA) ({ frames := 4, cells := 0, slots := 0, locals := 89 })).room s m ([.ref (b + 120), .ref (b + p1), .null, .int p3]).toArray below meth c H locs 0 0 (MQ below (gb_Qv (fun h => va_P D vwCl (gb_wl b (gb_CW cT b σE)) h) (gb_fr b 135)) ([.ref (b + 120), .ref (b + p1), .null, .int p3]).toArray s 0 0 (gb_fr b 135)) (F0 m 177 ls []) := by
    clear h hP hS hl ls
    intro mm
    induction mm with
    | zero =>
      intro σ v4 H locs ls h
      cases h
    | succ mm ih =>
      intro σ v4 H locs ls h hP hS hl
      rw [cs_Sharing_begin_B_n_177] at h
      refine lv_iload hx hb dX8_begin_177 (lv_at hl 1 rfl) ?_
      refine lv_aload_n hx hb dX8_begin_179 rfl (lv_at hl 0 rfl) ?_
      refine va_get (ci := 7) (v := (.int (σ.1 120 4))) (C := RX8) (T := TX8) (N := 11) hx hb hq i_X8 hown hK hP 120 (gb_at b rfl) rfl 4 (by decide) (hq _ w_255) (fun _ h9 => h9) rfl dX8_begin_180 ?_
      refine lv_icmp_ge (tgt := 203) hx hb dX8_begin_183 (by decide) (fun c_17 => ?_) (fun c_17 => ?_)
      · rw [if_pos c_17] at h
        obtain ⟨e1, -⟩ := gb_eq2 h
        exact W.vret hx hb hr (fun t ht hW => gb_rv ht (by rw [← e1]; exact hP) hS) hS.2.2 dX8_begin_203
      · rw [if_neg c_17] at h
        refine lv_aload_n hx hb dX8_begin_186 rfl (lv_at hl 0 rfl) ?_
        refine lv_aload_n hx hb dX8_begin_187 rfl (lv_at hl 0 rfl) ?_
        refine va_get (ci := 7) (v := (.ref (b + 124))) (C := RX8) (T := TX8) (N := 11) hx hb hq i_X8 hown hK hP 120 (gb_at b rfl) rfl 3 (by decide) (hq _ w_254) (fun _ h9 => h9) rfl dX8_begin_188 ?_
        refine lv_iload hx hb dX8_begin_191 (lv_at hl 1 rfl) ?_
        obtain ⟨z_18, h⟩ := gb_ck_s h
        refine va_iald hx hb hK hP 124 0 (gb_at b rfl) rfl z_18 dX8_begin_193 ?_
        refine lv_topi (fun x_19 ex_19 => ?_)
        replace h := gb_lt_s ex_19 h
        obtain ⟨s_20, r_21, z_22, h⟩ := gb_cd_s h
        refine gb_callv (va_runV (C := RX8) (As := [.int x_19]) (rest := []) ⟨hx, hb, hml, hown, hq⟩ (cc_Sharing_payAnew l D cT tt b1 b hb1 n σ x_19 s_20 r_21 z_22) (cwV 1 hq (gb_gV w_905 w_907 s_2_5 w_12 w_908) rfl rfl rfl (by decide +kernel) ⟨Nat.le_of_ble_eq_true rfl, Nat.le_of_ble_eq_true rfl⟩) (gb_preV (r := (RX8, TX8, 11)) (ci := 7) (q0 := 120) hSt hP rfl (gb_at b rfl) hS (fun q h => Nat.le_trans hb1 h.1) hP) rfl rfl hl.1 rfl (lv_room (Nat.le_of_ble_eq_true rfl)) dX8_begin_194 ⟨Nat.le_of_ble_eq_true rfl, Nat.le_of_ble_eq_true rfl⟩) hS (fun _ h => h) (fun _ h => h) (fun H locs hY hk hS => ?_)
        have hP := hY
        obtain ⟨x_24, ex_24⟩ : ∃ q, q = (v4 + 1) := ⟨_, rfl⟩
        replace h := gb_lt_s ex_24 h
        refine lv_iinc (v := x_24) (lv' := [(4, .int x_24), (0, .ref (b + 120))]) hx hb dX8_begin_197 hl (k := 1) rfl (by rw [ex_24]; rfl) (by decide) rfl (fun ls hl => ?_)
        refine lv_goto (tgt := 177) hx hb dX8_begin_200 (by decide) ?_
        exact ih _ _ _ _ _ h hP hS (lv_sub hl [1, 0] rfl)
  have L97_4 : ∀ (k74 : gb_S → Int32 → gb_CR Unit) (hk74 : ∀ (σ : gb_S) (v4 : Int32) (H : Heap) (locs : List Loc) (ls : Array Slot), k74 σ v4 = some (σE, rE) → va_P D vwCl (gb_wl b (gb_CW cT b σ)) H → va_S (gb_fr b 135) s.heap H locs → lv_has ls 6 [(0, .ref (b + 120)), (4, .int v4)] → W p l e (headSpec (.code yX8_begin cX8_begin 6 none :: gb_wA) ({ frames := 4, cells := 0, slots := 0, locals := 89 })).room s m ([.ref (b + 120), .ref (b + p1), .null, .int p3]).toArray below meth c H locs 0 0 (MQ below (gb_Qv (fun h => va_P D vwCl (gb_wl b (gb_CW cT b σE)) h) (gb_fr b 135)) ([.ref (b + 120), .ref (b + p1), .null, .int p3]).toArray s 0 0 (gb_fr b 135)) (F0 m 74 ls [])) (mm : Nat) (σ : gb_S) (v4 : Int32) (v5 : Int32) (H : Heap) (locs : List Loc) (ls : Array Slot), cs_Sharing_begin_B_n_97 n k74 mm σ v4 v5 = some (σE, rE) → va_P D vwCl (gb_wl b (gb_CW cT b σ)) H → va_S (gb_fr b 135) s.heap H locs → lv_has ls 6 [(0, .ref (b + 120)), (4, .int v4), (5, .int v5)] → W p l e (headSpec (.code yX8_begin cX8_begin 6 none :: gb_wA) ({ frames := 4, cells := 0, slots := 0, locals := 89 })).room s m ([.ref (b + 120), .ref (b + p1), .null, .int p3]).toArray below meth c H locs 0 0 (MQ below (gb_Qv (fun h => va_P D vwCl (gb_wl b (gb_CW cT b σE)) h) (gb_fr b 135)) ([.ref (b + 120), .ref (b + p1), .null, .int p3]).toArray s 0 0 (gb_fr b 135)) (F0 m 97 ls []) := by
    clear h hP hS hl ls
    intro k74 hk74 mm
    induction mm with
    | zero =>
      intro σ v4 v5 H locs ls h
      cases h
    | succ mm ih =>
      intro σ v4 v5 H locs ls h hP hS hl
      rw [cs_Sharing_begin_B_n_97] at h
      refine lv_iload hx hb dX8_begin_97 (lv_at hl 2 rfl) ?_
      refine lv_aload_n hx hb dX8_begin_99 rfl (lv_at hl 0 rfl) ?_
      obtain ⟨z_27, h⟩ := gb_kk_s h
      refine va_get (ci := 7) (v := (.ref (b + (σ.2.1 2)))) (C := RX8) (T := TX8) (N := 11) hx hb hq i_X8 hown hK hP 120 (gb_at b rfl) rfl 0 (by decide) (hq _ w_251) (fun _ h9 => h9) rfl dX8_begin_100 ?_
      obtain ⟨s_28, r_29, z_30, h⟩ := gb_cd_s h
      refine gb_calli (va_runV (C := RX0) (As := []) (rest := [.int v5]) ⟨hx, hb, hml, hown, hq⟩ (cc_Border_paths_B l D cT tt b1 b hb1 n σ (σ.2.1 2) s_28 r_29 z_30) (cwV 0 hq (gb_gV w_888 w_473 w_474 w_4 w_475) rfl rfl rfl (by decide +kernel) ⟨Nat.le_of_ble_eq_true rfl, Nat.le_of_ble_eq_true rfl⟩) (gb_preV (r := (RX0, TX0, 1)) (ci := 0) (q0 := (σ.2.1 2)) hSt hP rfl (gb_at b (gb_cB z_27).1) hS (fun q h => Nat.le_trans hb1 h.1) hP) rfl rfl hl.1 rfl (lv_room (Nat.le_of_ble_eq_true rfl)) dX8_begin_103 ⟨Nat.le_of_ble_eq_true rfl, Nat.le_of_ble_eq_true rfl⟩) hS (fun _ h => h) (fun _ h => h) (fun q_31 H locs hY hk hS => ?_)
      obtain ⟨hq_31, hP⟩ := hY
      replace hq_31 := hq_31.symm
      subst hq_31
      refine lv_icmp_ge (tgt := 138) hx hb dX8_begin_106 (by decide) (fun c_32 => ?_) (fun c_32 => ?_)
      · rw [if_pos c_32] at h
        refine lv_aload_n hx hb dX8_begin_138 rfl (lv_at hl 0 rfl) ?_
        refine va_get (ci := 7) (v := (.ref (b + 126))) (C := RX8) (T := TX8) (N := 11) hx hb hq i_X8 hown hK hP 120 (gb_at b rfl) rfl 6 (by decide) (hq _ w_257) (fun _ h9 => h9) rfl dX8_begin_139 ?_
        refine lv_aload_n hx hb dX8_begin_142 rfl (lv_at hl 0 rfl) ?_
        refine va_get (ci := 7) (v := (.ref (b + 124))) (C := RX8) (T := TX8) (N := 11) hx hb hq i_X8 hown hK hP 120 (gb_at b rfl) rfl 3 (by decide) (hq _ w_254) (fun _ h9 => h9) rfl dX8_begin_143 ?_
        refine lv_iconst (v := 0) hx hb dX8_begin_146 (by decide) ?_
        refine va_iald hx hb hK hP 124 0 (gb_at b rfl) rfl (gb_in rfl) dX8_begin_147 ?_
        refine lv_topi (fun x_33 ex_33 => ?_)
        replace h := gb_lt_s ex_33 h
        refine lv_dup2_11 hx hb dX8_begin_148 rfl rfl ?_
        obtain ⟨z_34, h⟩ := gb_ck_s h
        refine va_iald hx hb hK hP 126 0 (gb_at b rfl) rfl z_34 dX8_begin_149 ?_
        refine lv_topi (fun x_35 ex_35 => ?_)
        replace h := gb_lt_s ex_35 h
        refine lv_aload_n hx hb dX8_begin_150 rfl (lv_at hl 0 rfl) ?_
        refine va_get (ci := 7) (v := (.ref (b + 123))) (C := RX8) (T := TX8) (N := 11) hx hb hq i_X8 hown hK hP 120 (gb_at b rfl) rfl 2 (by decide) (hq _ w_253) (fun _ h9 => h9) rfl dX8_begin_151 ?_
        refine lv_iload hx hb dX8_begin_154 (lv_at hl 1 rfl) ?_
        refine lv_iconst (v := 5) hx hb dX8_begin_156 (by decide) ?_
        refine lv_imul hx hb dX8_begin_157 ?_
        refine lv_aload_n hx hb dX8_begin_158 rfl (lv_at hl 0 rfl) ?_
        refine va_get (ci := 7) (v := (.ref (b + 124))) (C := RX8) (T := TX8) (N := 11) hx hb hq i_X8 hown hK hP 120 (gb_at b rfl) rfl 3 (by decide) (hq _ w_254) (fun _ h9 => h9) rfl dX8_begin_159 ?_
        refine lv_iconst (v := 0) hx hb dX8_begin_162 (by decide) ?_
        refine va_iald hx hb hK hP 124 0 (gb_at b rfl) rfl (gb_in rfl) dX8_begin_163 ?_
        refine lv_topi (fun x_36 ex_36 => ?_)
        replace h := gb_lt_s ex_36 h
        refine lv_iadd hx hb dX8_begin_164 ?_
        obtain ⟨z_37, h⟩ := gb_ck_s h
        refine va_iald hx hb hK hP 123 0 (gb_at b rfl) rfl z_37 dX8_begin_165 ?_
        refine lv_topi (fun x_38 ex_38 => ?_)
        replace h := gb_lt_s ex_38 h
        refine lv_iadd hx hb dX8_begin_166 ?_
        obtain ⟨z_39, h⟩ := gb_ck_s h
        refine va_iast (x := (x_35 + x_38)) hx hb hK hP (gb_D (fun k h => ⟨Nat.le_add_right b k, Nat.add_lt_add_left h b⟩)) hS 126 0 (gb_at b rfl) rfl z_39 dX8_begin_167 (fun H locs hP hD hS => ?_)
        rw [gb_set] at hP
        obtain ⟨s_40, es_40⟩ : ∃ q, q = (gb_su s_28 126 (upd (s_28.1 126) (Int32.toNatClampNeg x_33) (x_35 + x_38))) := ⟨_, rfl⟩
        replace hP : va_P D vwCl (gb_wl b (gb_CW cT b s_40)) H := by rw [es_40]; exact hP
        replace h := gb_lt_s es_40 h
        obtain ⟨x_41, ex_41⟩ : ∃ q, q = (v4 + 1) := ⟨_, rfl⟩
        replace h := gb_lt_s ex_41 h
        refine lv_iinc (v := x_41) (lv' := [(4, .int x_41), (0, .ref (b + 120)), (5, .int v5)]) hx hb dX8_begin_168 hl (k := 1) rfl (by rw [ex_41]; rfl) (by decide) rfl (fun ls hl => ?_)
        refine lv_goto (tgt := 74) hx hb dX8_begin_171 (by decide) ?_
        exact hk74 _ _ _ _ _ h hP hS (lv_sub hl [1, 0] rfl)
      · rw [if_neg c_32] at h
        refine lv_aload_n hx hb dX8_begin_109 rfl (lv_at hl 0 rfl) ?_
        refine va_get (ci := 7) (v := (.ref (b + 123))) (C := RX8) (T := TX8) (N := 11) hx hb hq i_X8 hown hK hP 120 (gb_at b rfl) rfl 2 (by decide) (hq _ w_253) (fun _ h9 => h9) rfl dX8_begin_110 ?_
        refine lv_iload hx hb dX8_begin_113 (lv_at hl 1 rfl) ?_
        refine lv_iconst (v := 5) hx hb dX8_begin_115 (by decide) ?_
        refine lv_imul hx hb dX8_begin_116 ?_
        refine lv_iload hx hb dX8_begin_117 (lv_at hl 2 rfl) ?_
        refine lv_iadd hx hb dX8_begin_119 ?_
        refine lv_aload_n hx hb dX8_begin_120 rfl (lv_at hl 0 rfl) ?_
        obtain ⟨z_42, h⟩ := gb_kk_s h
        refine va_get (ci := 7) (v := (.ref (b + (s_28.2.1 2)))) (C := RX8) (T := TX8) (N := 11) hx hb hq i_X8 hown hK hP 120 (gb_at b rfl) rfl 0 (by decide) (hq _ w_251) (fun _ h9 => h9) rfl dX8_begin_121 ?_
        refine lv_iload hx hb dX8_begin_124 (lv_at hl 1 rfl) ?_
        refine lv_iload hx hb dX8_begin_126 (lv_at hl 2 rfl) ?_
        obtain ⟨s_43, r_44, z_45, h⟩ := gb_cd_s h
        refine gb_calli (va_runV (C := RX0) (As := [.int v4, .int v5]) (rest := [.int ((v4 * 5) + v5), .ref (b + 123)]) ⟨hx, hb, hml, hown, hq⟩ (cc_Border_marksFirst_B l D cT tt b1 b hb1 n s_28 (s_28.2.1 2) v4 v5 s_43 r_44 z_45) (cwV 2 hq (gb_gV w_898 w_899 w_900 w_4 w_901) rfl rfl rfl (by decide +kernel) ⟨Nat.le_of_ble_eq_true rfl, Nat.le_of_ble_eq_true rfl⟩) (gb_preV (r := (RX0, TX0, 1)) (ci := 0) (q0 := (s_28.2.1 2)) hSt hP rfl (gb_at b (gb_cB z_42).1) hS (fun q h => Nat.le_trans hb1 h.1) hP) rfl rfl hl.1 rfl (lv_room (Nat.le_of_ble_eq_true rfl)) dX8_begin_128 ⟨Nat.le_of_ble_eq_true rfl, Nat.le_of_ble_eq_true rfl⟩) hS (fun _ h => h) (fun _ h => h) (fun q_46 H locs hY hk hS => ?_)
        obtain ⟨hq_46, hP⟩ := hY
        replace hq_46 := hq_46.symm
        subst hq_46
        obtain ⟨z_47, h⟩ := gb_ck_s h
        refine va_iast (x := r_44) hx hb hK hP (gb_D (fun k h => ⟨Nat.le_add_right b k, Nat.add_lt_add_left h b⟩)) hS 123 0 (gb_at b rfl) rfl z_47 dX8_begin_131 (fun H locs hP hD hS => ?_)
        rw [gb_set] at hP
        obtain ⟨s_48, es_48⟩ : ∃ q, q = (gb_su s_43 123 (upd (s_43.1 123) (Int32.toNatClampNeg ((v4 * 5) + v5)) r_44)) := ⟨_, rfl⟩
        replace hP : va_P D vwCl (gb_wl b (gb_CW cT b s_48)) H := by rw [es_48]; exact hP
        replace h := gb_lt_s es_48 h
        obtain ⟨x_49, ex_49⟩ : ∃ q, q = (v5 + 1) := ⟨_, rfl⟩
        replace h := gb_lt_s ex_49 h
        refine lv_iinc (v := x_49) (lv' := [(5, .int x_49), (0, .ref (b + 120)), (4, .int v4)]) hx hb dX8_begin_132 hl (k := 2) rfl (by rw [ex_49]; rfl) (by decide) rfl (fun ls hl => ?_)
        refine lv_goto (tgt := 97) hx hb dX8_begin_135 (by decide) ?_
        exact ih _ _ _ _ _ _ h hP hS (lv_sub hl [1, 2, 0] rfl)
  have L74_2 : ∀ (mm : Nat) (σ : gb_S) (v4 : Int32) (H : Heap) (locs : List Loc) (ls : Array Slot), cs_Sharing_begin_B_n_74 n mm σ v4 = some (σE, rE) → va_P D vwCl (gb_wl b (gb_CW cT b σ)) H → va_S (gb_fr b 135) s.heap H locs → lv_has ls 6 [(0, .ref (b + 120)), (4, .int v4)] → W p l e (headSpec (.code yX8_begin cX8_begin 6 none :: gb_wA) ({ frames := 4, cells := 0, slots := 0, locals := 89 })).room s m ([.ref (b + 120), .ref (b + p1), .null, .int p3]).toArray below meth c H locs 0 0 (MQ below (gb_Qv (fun h => va_P D vwCl (gb_wl b (gb_CW cT b σE)) h) (gb_fr b 135)) ([.ref (b + 120), .ref (b + p1), .null, .int p3]).toArray s 0 0 (gb_fr b 135)) (F0 m 74 ls []) := by
    clear h hP hS hl ls
    intro mm
    induction mm with
    | zero =>
      intro σ v4 H locs ls h
      cases h
    | succ mm ih =>
      intro σ v4 H locs ls h hP hS hl
      rw [cs_Sharing_begin_B_n_74] at h
      refine lv_iload hx hb dX8_begin_74 (lv_at hl 1 rfl) ?_
      refine lv_aload_n hx hb dX8_begin_76 rfl (lv_at hl 0 rfl) ?_
      obtain ⟨z_11, h⟩ := gb_kk_s h
      refine va_get (ci := 7) (v := (.ref (b + (σ.2.1 2)))) (C := RX8) (T := TX8) (N := 11) hx hb hq i_X8 hown hK hP 120 (gb_at b rfl) rfl 0 (by decide) (hq _ w_251) (fun _ h9 => h9) rfl dX8_begin_77 ?_
      obtain ⟨s_12, r_13, z_14, h⟩ := gb_cd_s h
      refine gb_calli (va_runV (C := RX0) (As := []) (rest := [.int v4]) ⟨hx, hb, hml, hown, hq⟩ (cc_Border_geese_B l D cT tt b1 b hb1 n σ (σ.2.1 2) s_12 r_13 z_14) (cwV 0 hq (gb_gV w_889 w_477 w_478 w_4 w_479) rfl rfl rfl (by decide +kernel) ⟨Nat.le_of_ble_eq_true rfl, Nat.le_of_ble_eq_true rfl⟩) (gb_preV (r := (RX0, TX0, 1)) (ci := 0) (q0 := (σ.2.1 2)) hSt hP rfl (gb_at b (gb_cB z_11).1) hS (fun q h => Nat.le_trans hb1 h.1) hP) rfl rfl hl.1 rfl (lv_room (Nat.le_of_ble_eq_true rfl)) dX8_begin_80 ⟨Nat.le_of_ble_eq_true rfl, Nat.le_of_ble_eq_true rfl⟩) hS (fun _ h => h) (fun _ h => h) (fun q_15 H locs hY hk hS => ?_)
      obtain ⟨hq_15, hP⟩ := hY
      replace hq_15 := hq_15.symm
      subst hq_15
      refine lv_icmp_ge (tgt := 174) hx hb dX8_begin_83 (by decide) (fun c_16 => ?_) (fun c_16 => ?_)
      · rw [if_pos c_16] at h
        refine lv_iconst (v := 0) hx hb dX8_begin_174 (by decide) ?_
        refine lv_istore (lv' := [(4, .int 0), (0, .ref (b + 120))]) hx hb dX8_begin_175 hl (by decide) rfl (fun ls hl => ?_)
        exact L177_3 n _ _ _ _ _ h hP hS (lv_sub hl [1, 0] rfl)
      · rw [if_neg c_16] at h
        refine lv_aload_n hx hb dX8_begin_86 rfl (lv_at hl 0 rfl) ?_
        refine va_get (ci := 7) (v := (.ref (b + 125))) (C := RX8) (T := TX8) (N := 11) hx hb hq i_X8 hown hK hP 120 (gb_at b rfl) rfl 5 (by decide) (hq _ w_256) (fun _ h9 => h9) rfl dX8_begin_87 ?_
        refine lv_iload hx hb dX8_begin_90 (lv_at hl 1 rfl) ?_
        refine lv_iconst (v := 0) hx hb dX8_begin_92 (by decide) ?_
        obtain ⟨z_25, h⟩ := gb_ck_s h
        refine va_iast (x := 0) hx hb hK hP (gb_D (fun k h => ⟨Nat.le_add_right b k, Nat.add_lt_add_left h b⟩)) hS 125 0 (gb_at b rfl) rfl z_25 dX8_begin_93 (fun H locs hP hD hS => ?_)
        rw [gb_set] at hP
        obtain ⟨s_26, es_26⟩ : ∃ q, q = (gb_su s_12 125 (upd (s_12.1 125) (Int32.toNatClampNeg v4) 0)) := ⟨_, rfl⟩
        replace hP : va_P D vwCl (gb_wl b (gb_CW cT b s_26)) H := by rw [es_26]; exact hP
        replace h := gb_lt_s es_26 h
        refine lv_iconst (v := 0) hx hb dX8_begin_94 (by decide) ?_
        refine lv_istore (lv' := [(5, .int 0), (0, .ref (b + 120)), (4, .int v4)]) hx hb dX8_begin_95 hl (by decide) rfl (fun ls hl => ?_)
        exact L97_4 _ ih n _ _ _ _ _ _ h hP hS (lv_sub hl [1, 2, 0] rfl)
  have L18_1 : ∀ (mm : Nat) (σ : gb_S) (v3 : Int32) (v4 : Int32) (H : Heap) (locs : List Loc) (ls : Array Slot), cs_Sharing_begin_B_n_18 n mm σ v3 v4 = some (σE, rE) → va_P D vwCl (gb_wl b (gb_CW cT b σ)) H → va_S (gb_fr b 135) s.heap H locs → lv_has ls 6 [(0, .ref (b + 120)), (3, .int v3), (4, .int v4)] → W p l e (headSpec (.code yX8_begin cX8_begin 6 none :: gb_wA) ({ frames := 4, cells := 0, slots := 0, locals := 89 })).room s m ([.ref (b + 120), .ref (b + p1), .null, .int p3]).toArray below meth c H locs 0 0 (MQ below (gb_Qv (fun h => va_P D vwCl (gb_wl b (gb_CW cT b σE)) h) (gb_fr b 135)) ([.ref (b + 120), .ref (b + p1), .null, .int p3]).toArray s 0 0 (gb_fr b 135)) (F0 m 18 ls []) := by
    clear h hP hS hl ls
    intro mm
    induction mm with
    | zero =>
      intro σ v3 v4 H locs ls h
      cases h
    | succ mm ih =>
      intro σ v3 v4 H locs ls h hP hS hl
      rw [cs_Sharing_begin_B_n_18] at h
      refine lv_iload hx hb dX8_begin_18 (lv_at hl 2 rfl) ?_
      refine lv_aload_n hx hb dX8_begin_20 rfl (lv_at hl 0 rfl) ?_
      obtain ⟨z_5, h⟩ := gb_kk_s h
      refine va_get (ci := 7) (v := (.ref (b + (σ.2.1 2)))) (C := RX8) (T := TX8) (N := 11) hx hb hq i_X8 hown hK hP 120 (gb_at b rfl) rfl 0 (by decide) (hq _ w_251) (fun _ h9 => h9) rfl dX8_begin_21 ?_
      obtain ⟨s_6, r_7, z_8, h⟩ := gb_cd_s h
      refine gb_calli (va_runV (C := RX0) (As := []) (rest := [.int v4]) ⟨hx, hb, hml, hown, hq⟩ (cc_Border_paths_B l D cT tt b1 b hb1 n σ (σ.2.1 2) s_6 r_7 z_8) (cwV 0 hq (gb_gV w_888 w_473 w_474 w_4 w_475) rfl rfl rfl (by decide +kernel) ⟨Nat.le_of_ble_eq_true rfl, Nat.le_of_ble_eq_true rfl⟩) (gb_preV (r := (RX0, TX0, 1)) (ci := 0) (q0 := (σ.2.1 2)) hSt hP rfl (gb_at b (gb_cB z_5).1) hS (fun q h => Nat.le_trans hb1 h.1) hP) rfl rfl hl.1 rfl (lv_room (Nat.le_of_ble_eq_true rfl)) dX8_begin_24 ⟨Nat.le_of_ble_eq_true rfl, Nat.le_of_ble_eq_true rfl⟩) hS (fun _ h => h) (fun _ h => h) (fun q_9 H locs hY hk hS => ?_)
      obtain ⟨hq_9, hP⟩ := hY
      replace hq_9 := hq_9.symm
      subst hq_9
      refine lv_icmp_ge (tgt := 71) hx hb dX8_begin_27 (by decide) (fun c_10 => ?_) (fun c_10 => ?_)
      · rw [if_pos c_10] at h
        refine lv_iconst (v := 0) hx hb dX8_begin_71 (by decide) ?_
        refine lv_istore (lv' := [(4, .int 0), (0, .ref (b + 120)), (3, .int v3)]) hx hb dX8_begin_72 hl (by decide) rfl (fun ls hl => ?_)
        exact L74_2 n _ _ _ _ _ h hP hS (lv_sub hl [1, 0] rfl)
      · rw [if_neg c_10] at h
        refine lv_aload_n hx hb dX8_begin_30 rfl (lv_at hl 0 rfl) ?_
        refine va_get (ci := 7) (v := (.ref (b + 126))) (C := RX8) (T := TX8) (N := 11) hx hb hq i_X8 hown hK hP 120 (gb_at b rfl) rfl 6 (by decide) (hq _ w_257) (fun _ h9 => h9) rfl dX8_begin_31 ?_
        refine lv_iload hx hb dX8_begin_34 (lv_at hl 2 rfl) ?_
        refine lv_iconst (v := 0) hx hb dX8_begin_36 (by decide) ?_
        obtain ⟨z_50, h⟩ := gb_ck_s h
        refine va_iast (x := 0) hx hb hK hP (gb_D (fun k h => ⟨Nat.le_add_right b k, Nat.add_lt_add_left h b⟩)) hS 126 0 (gb_at b rfl) rfl z_50 dX8_begin_37 (fun H locs hP hD hS => ?_)
        rw [gb_set] at hP
        obtain ⟨s_51, es_51⟩ : ∃ q, q = (gb_su s_6 126 (upd (s_6.1 126) (Int32.toNatClampNeg v4) 0)) := ⟨_, rfl⟩
        replace hP : va_P D vwCl (gb_wl b (gb_CW cT b s_51)) H := by rw [es_51]; exact hP
        replace h := gb_lt_s es_51 h
        refine lv_iload hx hb dX8_begin_38 (lv_at hl 2 rfl) ?_
        refine lv_iload_n hx hb dX8_begin_40 rfl (lv_at hl 1 rfl) ?_
        refine lv_icmp_eq (tgt := 65) hx hb dX8_begin_41 (by decide) (fun c_52 => ?_) (fun c_52 => ?_)
        · rw [if_pos c_52] at h
          obtain ⟨x_53, ex_53⟩ : ∃ q, q = (v4 + 1) := ⟨_, rfl⟩
          replace h := gb_lt_s ex_53 h
          refine lv_iinc (v := x_53) (lv' := [(4, .int x_53), (0, .ref (b + 120)), (3, .int v3)]) hx hb dX8_begin_65 hl (k := 2) rfl (by rw [ex_53]; rfl) (by decide) rfl (fun ls hl => ?_)
          refine lv_goto (tgt := 18) hx hb dX8_begin_68 (by decide) ?_
          exact ih _ _ _ _ _ _ h hP hS (lv_sub hl [1, 2, 0] rfl)
        · rw [if_neg c_52] at h
          refine lv_aload_n hx hb dX8_begin_44 rfl (lv_at hl 0 rfl) ?_
          refine va_get (ci := 7) (v := (.ref (b + 124))) (C := RX8) (T := TX8) (N := 11) hx hb hq i_X8 hown hK hP 120 (gb_at b rfl) rfl 3 (by decide) (hq _ w_254) (fun _ h9 => h9) rfl dX8_begin_45 ?_
          refine lv_aload_n hx hb dX8_begin_48 rfl (lv_at hl 0 rfl) ?_
          refine va_get (ci := 7) (v := (.int (s_51.1 120 4))) (C := RX8) (T := TX8) (N := 11) hx hb hq i_X8 hown hK hP 120 (gb_at b rfl) rfl 4 (by decide) (hq _ w_255) (fun _ h9 => h9) rfl dX8_begin_49 ?_
          refine lv_iload hx hb dX8_begin_52 (lv_at hl 2 rfl) ?_
          obtain ⟨z_54, h⟩ := gb_ck_s h
          refine va_iast (x := v4) hx hb hK hP (gb_D (fun k h => ⟨Nat.le_add_right b k, Nat.add_lt_add_left h b⟩)) hS 124 0 (gb_at b rfl) rfl z_54 dX8_begin_54 (fun H locs hP hD hS => ?_)
          rw [gb_set] at hP
          obtain ⟨s_55, es_55⟩ : ∃ q, q = (gb_su s_51 124 (upd (s_51.1 124) (Int32.toNatClampNeg (s_51.1 120 4)) v4)) := ⟨_, rfl⟩
          replace hP : va_P D vwCl (gb_wl b (gb_CW cT b s_55)) H := by rw [es_55]; exact hP
          replace h := gb_lt_s es_55 h
          refine lv_aload_n hx hb dX8_begin_55 rfl (lv_at hl 0 rfl) ?_
          refine lv_dup hx hb dX8_begin_56 rfl ?_
          refine va_get (ci := 7) (v := (.int (s_55.1 120 4))) (C := RX8) (T := TX8) (N := 11) hx hb hq i_X8 hown hK hP 120 (gb_at b rfl) rfl 4 (by decide) (hq _ w_255) (fun _ h9 => h9) rfl dX8_begin_57 ?_
          refine lv_iconst (v := 1) hx hb dX8_begin_60 (by decide) ?_
          refine lv_iadd hx hb dX8_begin_61 ?_
          refine gb_put (ci := 7) (v := (.int ((s_55.1 120 4) + 1))) (ty := .int) (C := RX8) (T := TX8) (N := 11) hx hb hq i_X8 tyX8 tyX8_ok nmX8 hown hK hP (fun k h => ⟨Nat.le_add_right b k, Nat.add_lt_add_left h b⟩) hS rfl 120 rfl rfl 4 (by decide) (hq _ w_255) (fun _ h9 => h9) rfl (by decide +kernel) rfl rfl (Nat.le_of_ble_eq_true rfl) dX8_begin_62 (fun H locs hP hz_ hS => ?_)
          obtain ⟨s_56, es_56⟩ : ∃ q, q = (gb_su s_55 120 (upd (s_55.1 120) 4 ((s_55.1 120 4) + 1))) := ⟨_, rfl⟩
          replace hP : va_P D vwCl (gb_wl b (gb_CW cT b s_56)) H := by rw [es_56]; exact hP
          replace h := gb_lt_s es_56 h
          obtain ⟨x_57, ex_57⟩ : ∃ q, q = (v4 + 1) := ⟨_, rfl⟩
          replace h := gb_lt_s ex_57 h
          refine lv_iinc (v := x_57) (lv' := [(4, .int x_57), (0, .ref (b + 120)), (3, .int v3)]) hx hb dX8_begin_65 hl (k := 2) rfl (by rw [ex_57]; rfl) (by decide) rfl (fun ls hl => ?_)
          refine lv_goto (tgt := 18) hx hb dX8_begin_68 (by decide) ?_
          exact ih _ _ _ _ _ _ h hP hS (lv_sub hl [1, 2, 0] rfl)
  unfold cs_Sharing_begin_B_n at h
  obtain ⟨z_1, h⟩ := gb_kk_s h
  refine lv_aload_n hx hb dX8_begin_0 rfl (lv_at hl 0 rfl) ?_
  refine lv_aload_n hx hb dX8_begin_1 rfl (lv_at hl 1 rfl) ?_
  refine gb_put (ci := 7) (v := (.ref (b + p1))) (ty := .object "GooseBorder$Border") (C := RX8) (T := TX8) (N := 11) hx hb hq i_X8 tyX8 tyX8_ok nmX8 hown hK hP (fun k h => ⟨Nat.le_add_right b k, Nat.add_lt_add_left h b⟩) hS rfl 120 rfl rfl 0 (by decide) (hq _ w_251) (fun _ h9 => h9) rfl (by decide +kernel) rfl rfl (Nat.le_of_ble_eq_true rfl) dX8_begin_2 (fun H locs hP hz_ hS => ?_)
  obtain ⟨s_2, es_2⟩ : ∃ q, q = (gb_sq σ 2 p1) := ⟨_, rfl⟩
  replace hP : va_P D vwCl (gb_wl b (gb_CW cT b s_2)) H := by rw [es_2]; exact hP
  replace h := gb_lt_s es_2 h
  refine lv_aload_n hx hb dX8_begin_5 rfl (lv_at hl 0 rfl) ?_
  refine lv_aload_nN hx hb dX8_begin_6 rfl (lv_at hl 2 rfl) ?_
  refine gb_put (ci := 7) (v := (.null)) (ty := .object "GooseBorder$Law") (C := RX8) (T := TX8) (N := 11) hx hb hq i_X8 tyX8 tyX8_ok nmX8 hown hK hP (fun k h => ⟨Nat.le_add_right b k, Nat.add_lt_add_left h b⟩) hS rfl 120 rfl rfl 1 (by decide) (hq _ w_252) (fun _ h9 => h9) rfl (by decide +kernel) rfl rfl (Nat.le_of_ble_eq_true rfl) dX8_begin_7 (fun H locs hP hz_ hS => ?_)
  obtain ⟨s_3, es_3⟩ : ∃ q, q = (gb_sq s_2 3 0) := ⟨_, rfl⟩
  replace hP : va_P D vwCl (gb_wl b (gb_CW cT b s_3)) H := by rw [es_3]; exact hP
  replace h := gb_lt_s es_3 h
  refine lv_aload_n hx hb dX8_begin_10 rfl (lv_at hl 0 rfl) ?_
  refine lv_iconst (v := 0) hx hb dX8_begin_11 (by decide) ?_
  refine gb_put (ci := 7) (v := (.int 0)) (ty := .int) (C := RX8) (T := TX8) (N := 11) hx hb hq i_X8 tyX8 tyX8_ok nmX8 hown hK hP (fun k h => ⟨Nat.le_add_right b k, Nat.add_lt_add_left h b⟩) hS rfl 120 rfl rfl 4 (by decide) (hq _ w_255) (fun _ h9 => h9) rfl (by decide +kernel) rfl rfl (Nat.le_of_ble_eq_true rfl) dX8_begin_12 (fun H locs hP hz_ hS => ?_)
  obtain ⟨s_4, es_4⟩ : ∃ q, q = (gb_su s_3 120 (upd (s_3.1 120) 4 0)) := ⟨_, rfl⟩
  replace hP : va_P D vwCl (gb_wl b (gb_CW cT b s_4)) H := by rw [es_4]; exact hP
  replace h := gb_lt_s es_4 h
  refine lv_iconst (v := 0) hx hb dX8_begin_15 (by decide) ?_
  refine lv_istore (lv' := [(4, .int 0), (0, .ref (b + 120)), (1, .ref (b + p1)), (2, .null), (3, .int p3)]) hx hb dX8_begin_16 hl (by decide) rfl (fun ls hl => ?_)
  exact L18_1 n _ _ _ _ _ _ h hP hS (lv_sub hl [1, 4, 0] rfl)
theorem w_897 : (Cond.code ({ cls := "GooseBorder$Sharing", name := "begin", desc := "(LGooseBorder$Border;LGooseBorder$Law;I)V" } : MethodName) prog_10_method_5_code (6 : Nat) (Option.none : Option FieldType)) ∈ gb_wA := gb_t4 177 rfl rfl
theorem w_894 : (Cond.methodLink "GooseBorder$Sharing" (51 : Nat) ({ cls := "GooseBorder$Sharing", name := "begin", desc := "(LGooseBorder$Border;LGooseBorder$Law;I)V" } : MethodName)) ∈ gb_wA := gb_t4 174 rfl rfl
theorem w_896 : (Cond.instanceMethod ({ cls := "GooseBorder$Sharing", name := "begin", desc := "(LGooseBorder$Border;LGooseBorder$Law;I)V" } : MethodName)) ∈ gb_wA := gb_t4 176 rfl rfl
theorem s_2_4 : Cond.selects "GooseBorder$Sharing" (⟨"GooseBorder$Sharing", "begin", "(LGooseBorder$Border;LGooseBorder$Law;I)V"⟩ : MethodName) (⟨"GooseBorder$Sharing", "begin", "(LGooseBorder$Border;LGooseBorder$Law;I)V"⟩ : MethodName) ∈ gb_wA := gb_s2 4 rfl rfl
theorem dX8_solve_7 : decode cX8_solve 7 = .ok (.aload_n 0, 1) := dc_42 (show ((cX8_solve.data.toList.drop 7).take 1).map UInt8.toNat = [42] by decide +kernel)
theorem dX8_solve_8 : decode cX8_solve 8 = .ok (.iconst 0, 1) := dc_3 (show ((cX8_solve.data.toList.drop 8).take 1).map UInt8.toNat = [3] by decide +kernel)
theorem dX8_solve_9 : decode cX8_solve 9 = .ok (.putfield 47, 3) := dc_181 (show ((cX8_solve.data.toList.drop 9).take 3).map UInt8.toNat = [181, 0, 47] by decide +kernel) rfl
theorem w_263 : (Cond.fieldLink "GooseBorder$Sharing" (47 : Nat) "GooseBorder$Sharing" "bestValue" "I") ∈ gb_wA := gb_t2 23 rfl rfl
theorem dX8_solve_12 : decode cX8_solve 12 = .ok (.iconst 1, 1) := dc_4 (show ((cX8_solve.data.toList.drop 12).take 1).map UInt8.toNat = [4] by decide +kernel)
theorem dX8_solve_13 : decode cX8_solve 13 = .ok (.istore 4, 2) := dc_54 (show ((cX8_solve.data.toList.drop 13).take 2).map UInt8.toNat = [54, 4] by decide +kernel) rfl
theorem dX8_solve_15 : decode cX8_solve 15 = .ok (.iconst 0, 1) := dc_3 (show ((cX8_solve.data.toList.drop 15).take 1).map UInt8.toNat = [3] by decide +kernel)
theorem dX8_solve_16 : decode cX8_solve 16 = .ok (.istore 5, 2) := dc_54 (show ((cX8_solve.data.toList.drop 16).take 2).map UInt8.toNat = [54, 5] by decide +kernel) rfl
theorem dX8_solve_18 : decode cX8_solve 18 = .ok (.iload 5, 2) := dc_21 (show ((cX8_solve.data.toList.drop 18).take 2).map UInt8.toNat = [21, 5] by decide +kernel) rfl
theorem dX8_solve_20 : decode cX8_solve 20 = .ok (.aload_n 0, 1) := dc_42 (show ((cX8_solve.data.toList.drop 20).take 1).map UInt8.toNat = [42] by decide +kernel)
theorem dX8_solve_21 : decode cX8_solve 21 = .ok (.getfield 12, 3) := dc_180 (show ((cX8_solve.data.toList.drop 21).take 3).map UInt8.toNat = [180, 0, 12] by decide +kernel) rfl
theorem dX8_solve_24 : decode cX8_solve 24 = .ok (.invokevirtual 44, 3) := dc_182 (show ((cX8_solve.data.toList.drop 24).take 3).map UInt8.toNat = [182, 0, 44] by decide +kernel) rfl
theorem dX8_solve_27 : decode cX8_solve 27 = .ok (.if_icmp .ge 18, 3) := dc_162 (show ((cX8_solve.data.toList.drop 27).take 3).map UInt8.toNat = [162, 0, 18] by decide +kernel) rfl
theorem dX8_solve_45 : decode cX8_solve 45 = .ok (.iconst 0, 1) := dc_3 (show ((cX8_solve.data.toList.drop 45).take 1).map UInt8.toNat = [3] by decide +kernel)
theorem dX8_solve_46 : decode cX8_solve 46 = .ok (.istore 5, 2) := dc_54 (show ((cX8_solve.data.toList.drop 46).take 2).map UInt8.toNat = [54, 5] by decide +kernel) rfl
theorem dX8_solve_48 : decode cX8_solve 48 = .ok (.iload 5, 2) := dc_21 (show ((cX8_solve.data.toList.drop 48).take 2).map UInt8.toNat = [21, 5] by decide +kernel) rfl
theorem dX8_solve_50 : decode cX8_solve 50 = .ok (.iload 4, 2) := dc_21 (show ((cX8_solve.data.toList.drop 50).take 2).map UInt8.toNat = [21, 4] by decide +kernel) rfl
theorem dX8_solve_52 : decode cX8_solve 52 = .ok (.if_icmp .ge 58, 3) := dc_162 (show ((cX8_solve.data.toList.drop 52).take 3).map UInt8.toNat = [162, 0, 58] by decide +kernel) rfl
theorem dX8_solve_110 : decode cX8_solve 110 = .ok (.return_, 1) := dc_177 (show ((cX8_solve.data.toList.drop 110).take 1).map UInt8.toNat = [177] by decide +kernel)
theorem dX8_solve_55 : decode cX8_solve 55 = .ok (.aload_n 0, 1) := dc_42 (show ((cX8_solve.data.toList.drop 55).take 1).map UInt8.toNat = [42] by decide +kernel)
theorem dX8_solve_56 : decode cX8_solve 56 = .ok (.getfield 58, 3) := dc_180 (show ((cX8_solve.data.toList.drop 56).take 3).map UInt8.toNat = [180, 0, 58] by decide +kernel) rfl
theorem dX8_solve_59 : decode cX8_solve 59 = .ok (.ifnonnull 11, 3) := dc_199 (show ((cX8_solve.data.toList.drop 59).take 3).map UInt8.toNat = [199, 0, 11] by decide +kernel) rfl
theorem dX8_solve_62 : decode cX8_solve 62 = .ok (.aload_n 0, 1) := dc_42 (show ((cX8_solve.data.toList.drop 62).take 1).map UInt8.toNat = [42] by decide +kernel)
theorem dX8_solve_63 : decode cX8_solve 63 = .ok (.invokevirtual 62, 3) := dc_182 (show ((cX8_solve.data.toList.drop 63).take 3).map UInt8.toNat = [182, 0, 62] by decide +kernel) rfl
theorem dX8_spread_0 : decode cX8_spread 0 = .ok (.aload_n 0, 1) := dc_42 (show ((cX8_spread.data.toList.drop 0).take 1).map UInt8.toNat = [42] by decide +kernel)
theorem dX8_spread_1 : decode cX8_spread 1 = .ok (.getfield 31, 3) := dc_180 (show ((cX8_spread.data.toList.drop 1).take 3).map UInt8.toNat = [180, 0, 31] by decide +kernel) rfl
theorem dX8_spread_4 : decode cX8_spread 4 = .ok (.aload_n 0, 1) := dc_42 (show ((cX8_spread.data.toList.drop 4).take 1).map UInt8.toNat = [42] by decide +kernel)
theorem dX8_spread_5 : decode cX8_spread 5 = .ok (.getfield 22, 3) := dc_180 (show ((cX8_spread.data.toList.drop 5).take 3).map UInt8.toNat = [180, 0, 22] by decide +kernel) rfl
theorem dX8_spread_8 : decode cX8_spread 8 = .ok (.iconst 0, 1) := dc_3 (show ((cX8_spread.data.toList.drop 8).take 1).map UInt8.toNat = [3] by decide +kernel)
theorem dX8_spread_9 : decode cX8_spread 9 = .ok (.iaload, 1) := dc_46 (show ((cX8_spread.data.toList.drop 9).take 1).map UInt8.toNat = [46] by decide +kernel)
theorem dX8_spread_10 : decode cX8_spread 10 = .ok (.iaload, 1) := dc_46 (show ((cX8_spread.data.toList.drop 10).take 1).map UInt8.toNat = [46] by decide +kernel)
theorem dX8_spread_11 : decode cX8_spread 11 = .ok (.istore_n 1, 1) := dc_60 (show ((cX8_spread.data.toList.drop 11).take 1).map UInt8.toNat = [60] by decide +kernel)
theorem dX8_spread_12 : decode cX8_spread 12 = .ok (.iload_n 1, 1) := dc_27 (show ((cX8_spread.data.toList.drop 12).take 1).map UInt8.toNat = [27] by decide +kernel)
theorem dX8_spread_13 : decode cX8_spread 13 = .ok (.istore_n 2, 1) := dc_61 (show ((cX8_spread.data.toList.drop 13).take 1).map UInt8.toNat = [61] by decide +kernel)
theorem dX8_spread_14 : decode cX8_spread 14 = .ok (.iconst 1, 1) := dc_4 (show ((cX8_spread.data.toList.drop 14).take 1).map UInt8.toNat = [4] by decide +kernel)
theorem dX8_spread_15 : decode cX8_spread 15 = .ok (.istore_n 3, 1) := dc_62 (show ((cX8_spread.data.toList.drop 15).take 1).map UInt8.toNat = [62] by decide +kernel)
theorem dX8_spread_16 : decode cX8_spread 16 = .ok (.iload_n 3, 1) := dc_29 (show ((cX8_spread.data.toList.drop 16).take 1).map UInt8.toNat = [29] by decide +kernel)
theorem dX8_spread_17 : decode cX8_spread 17 = .ok (.aload_n 0, 1) := dc_42 (show ((cX8_spread.data.toList.drop 17).take 1).map UInt8.toNat = [42] by decide +kernel)
theorem dX8_spread_18 : decode cX8_spread 18 = .ok (.getfield 55, 3) := dc_180 (show ((cX8_spread.data.toList.drop 18).take 3).map UInt8.toNat = [180, 0, 55] by decide +kernel) rfl
theorem dX8_spread_21 : decode cX8_spread 21 = .ok (.if_icmp .ge 41, 3) := dc_162 (show ((cX8_spread.data.toList.drop 21).take 3).map UInt8.toNat = [162, 0, 41] by decide +kernel) rfl
theorem dX8_spread_62 : decode cX8_spread 62 = .ok (.iload_n 1, 1) := dc_27 (show ((cX8_spread.data.toList.drop 62).take 1).map UInt8.toNat = [27] by decide +kernel)
theorem dX8_spread_63 : decode cX8_spread 63 = .ok (.iload_n 2, 1) := dc_28 (show ((cX8_spread.data.toList.drop 63).take 1).map UInt8.toNat = [28] by decide +kernel)
theorem dX8_spread_64 : decode cX8_spread 64 = .ok (.isub, 1) := dc_100 (show ((cX8_spread.data.toList.drop 64).take 1).map UInt8.toNat = [100] by decide +kernel)
theorem dX8_spread_65 : decode cX8_spread 65 = .ok (.ireturn, 1) := dc_172 (show ((cX8_spread.data.toList.drop 65).take 1).map UInt8.toNat = [172] by decide +kernel)
theorem dX8_spread_24 : decode cX8_spread 24 = .ok (.iload_n 1, 1) := dc_27 (show ((cX8_spread.data.toList.drop 24).take 1).map UInt8.toNat = [27] by decide +kernel)
theorem dX8_spread_25 : decode cX8_spread 25 = .ok (.aload_n 0, 1) := dc_42 (show ((cX8_spread.data.toList.drop 25).take 1).map UInt8.toNat = [42] by decide +kernel)
theorem dX8_spread_26 : decode cX8_spread 26 = .ok (.getfield 31, 3) := dc_180 (show ((cX8_spread.data.toList.drop 26).take 3).map UInt8.toNat = [180, 0, 31] by decide +kernel) rfl
theorem dX8_spread_29 : decode cX8_spread 29 = .ok (.aload_n 0, 1) := dc_42 (show ((cX8_spread.data.toList.drop 29).take 1).map UInt8.toNat = [42] by decide +kernel)
theorem dX8_spread_30 : decode cX8_spread 30 = .ok (.getfield 22, 3) := dc_180 (show ((cX8_spread.data.toList.drop 30).take 3).map UInt8.toNat = [180, 0, 22] by decide +kernel) rfl
theorem dX8_spread_33 : decode cX8_spread 33 = .ok (.iload_n 3, 1) := dc_29 (show ((cX8_spread.data.toList.drop 33).take 1).map UInt8.toNat = [29] by decide +kernel)
theorem dX8_spread_34 : decode cX8_spread 34 = .ok (.iaload, 1) := dc_46 (show ((cX8_spread.data.toList.drop 34).take 1).map UInt8.toNat = [46] by decide +kernel)
theorem dX8_spread_35 : decode cX8_spread 35 = .ok (.iaload, 1) := dc_46 (show ((cX8_spread.data.toList.drop 35).take 1).map UInt8.toNat = [46] by decide +kernel)
theorem dX8_spread_36 : decode cX8_spread 36 = .ok (.invokestatic 94, 3) := dc_184 (show ((cX8_spread.data.toList.drop 36).take 3).map UInt8.toNat = [184, 0, 94] by decide +kernel) rfl
theorem w_916 : (Cond.methodLink "GooseBorder$Sharing" (94 : Nat) ({ cls := "java/lang/Math", name := "max", desc := "(II)I" } : MethodName)) ∈ gb_wA := gb_t4 196 rfl rfl
theorem dX8_spread_39 : decode cX8_spread 39 = .ok (.istore_n 1, 1) := dc_60 (show ((cX8_spread.data.toList.drop 39).take 1).map UInt8.toNat = [60] by decide +kernel)
theorem dX8_spread_40 : decode cX8_spread 40 = .ok (.iload_n 2, 1) := dc_28 (show ((cX8_spread.data.toList.drop 40).take 1).map UInt8.toNat = [28] by decide +kernel)
theorem dX8_spread_41 : decode cX8_spread 41 = .ok (.aload_n 0, 1) := dc_42 (show ((cX8_spread.data.toList.drop 41).take 1).map UInt8.toNat = [42] by decide +kernel)
theorem dX8_spread_42 : decode cX8_spread 42 = .ok (.getfield 31, 3) := dc_180 (show ((cX8_spread.data.toList.drop 42).take 3).map UInt8.toNat = [180, 0, 31] by decide +kernel) rfl
theorem dX8_spread_45 : decode cX8_spread 45 = .ok (.aload_n 0, 1) := dc_42 (show ((cX8_spread.data.toList.drop 45).take 1).map UInt8.toNat = [42] by decide +kernel)
theorem dX8_spread_46 : decode cX8_spread 46 = .ok (.getfield 22, 3) := dc_180 (show ((cX8_spread.data.toList.drop 46).take 3).map UInt8.toNat = [180, 0, 22] by decide +kernel) rfl
theorem dX8_spread_49 : decode cX8_spread 49 = .ok (.iload_n 3, 1) := dc_29 (show ((cX8_spread.data.toList.drop 49).take 1).map UInt8.toNat = [29] by decide +kernel)
theorem dX8_spread_50 : decode cX8_spread 50 = .ok (.iaload, 1) := dc_46 (show ((cX8_spread.data.toList.drop 50).take 1).map UInt8.toNat = [46] by decide +kernel)
theorem dX8_spread_51 : decode cX8_spread 51 = .ok (.iaload, 1) := dc_46 (show ((cX8_spread.data.toList.drop 51).take 1).map UInt8.toNat = [46] by decide +kernel)
theorem dX8_spread_52 : decode cX8_spread 52 = .ok (.invokestatic 99, 3) := dc_184 (show ((cX8_spread.data.toList.drop 52).take 3).map UInt8.toNat = [184, 0, 99] by decide +kernel) rfl
theorem w_917 : (Cond.methodLink "GooseBorder$Sharing" (99 : Nat) ({ cls := "java/lang/Math", name := "min", desc := "(II)I" } : MethodName)) ∈ gb_wA := gb_t4 197 rfl rfl
theorem dX8_spread_55 : decode cX8_spread 55 = .ok (.istore_n 2, 1) := dc_61 (show ((cX8_spread.data.toList.drop 55).take 1).map UInt8.toNat = [61] by decide +kernel)
theorem dX8_spread_56 : decode cX8_spread 56 = .ok (.iinc 3 1, 3) := dc_132 (show ((cX8_spread.data.toList.drop 56).take 3).map UInt8.toNat = [132, 3, 1] by decide +kernel) rfl
theorem dX8_spread_59 : decode cX8_spread 59 = .ok (.goto (-43), 3) := dc_167 (show ((cX8_spread.data.toList.drop 59).take 3).map UInt8.toNat = [167, 255, 213] by decide +kernel) rfl
def cs_Sharing_spread_16 (n : Nat) : Nat → gb_S → Int32 → Int32 → Int32 → gb_CR Int32
  | 0, _, _, _, _ => none
  | mm + 1, σ, v1, v2, v3 => (if (σ.1 120 4) ≤ v3 then some (σ, (v1 - v2)) else gb_ck v3 5 (gb_lt ((σ.1 124) (Int32.toNatClampNeg v3)) (fun x_6 => gb_ck x_6 5 (gb_lt ((σ.1 127) (Int32.toNatClampNeg x_6)) (fun x_8 => gb_lt (if v1 < x_8 then x_8 else v1) (fun x_9 => gb_ck v3 5 (gb_lt ((σ.1 124) (Int32.toNatClampNeg v3)) (fun x_11 => gb_ck x_11 5 (gb_lt ((σ.1 127) (Int32.toNatClampNeg x_11)) (fun x_13 => gb_lt (if x_13 < v2 then x_13 else v2) (fun x_14 => gb_lt (v3 + 1) (fun x_15 => cs_Sharing_spread_16 n mm σ x_9 x_14 x_15))))))))))))
def cs_Sharing_spread (n : Nat) (σ : gb_S) : gb_CR Int32 := gb_lt ((σ.1 124) (Int32.toNatClampNeg 0)) (fun x_1 => gb_ck x_1 5 (gb_lt ((σ.1 127) (Int32.toNatClampNeg x_1)) (fun x_3 => cs_Sharing_spread_16 n n σ x_3 x_3 1)))
set_option maxHeartbeats 8000000 in
set_option maxRecDepth 100000 in
theorem cc_Sharing_spread (l : Launch) (D : va_G) (cT : Nat → ClassId) (tt : Nat → Nat) (b1 b : Nat) (hb1 : b1 ≤ b) (n : Nat) (σ : gb_S) (σE : gb_S) (rE : Int32) (h : cs_Sharing_spread n σ = some (σE, rE)) : Met l yX8_spread (.code yX8_spread cX8_spread 4 (some FieldType.int) :: gb_wA) ({ frames := 1, cells := 0, slots := 0, locals := 13 }) (gb_Pc D cT tt b1 [.ref (b + 120)] (fun h => va_P D vwCl (gb_wl b (gb_CW cT b σ)) h)) (gb_Qi (fun r h => r = rE ∧ va_P D vwCl (gb_wl b (gb_CW cT b σE)) h) (gb_fr b 135)) 0 0 (gb_fr b 135) := by
  refine Met.ofW (cc := cX8_spread) (maxL := 4) (ret := (some FieldType.int)) (by decide) rfl ?_
  intro p e s m args below meth c s₁ B hml hv
  obtain ⟨rfl, hSt, hP⟩ := hv
  have hx := B.exec
  have hb := B.bytes
  have hr := B.returns
  have hts := atoms_spec (ws := .code yX8_spread cX8_spread 4 (some FieldType.int) :: gb_wA) B.pre
  have hq : ∀ w ∈ gb_wA, w.before _ s = true := fun w h => hts w (List.mem_cons_of_mem _ h)
  have hown : s.vm.findClass RX8 = some m.cls := findClass_of_methodNamed B.named
  have hlocks := B.notSynchronized
  clear B hts
  have hK := hSt.1
  have hS : va_S (gb_fr b 135) s.heap s.heap [] := va_S.rf
  have hl := lv_entry ([.ref (b + 120)]) (n := 4) (Nat.le_of_ble_eq_true rfl)
  rw [lg_entry_eq]
  generalize (lg_sl ([.ref (b + 120)]) ++ List.replicate (4 - (lg_sl ([.ref (b + 120)])).length) Slot.unset).toArray = ls at hl ⊢
  replace hl : lv_has ls 4 [(0, .ref (b + 120))] := hl
  have L16_1 : ∀ (mm : Nat) (σ : gb_S) (v1 : Int32) (v2 : Int32) (v3 : Int32) (H : Heap) (locs : List Loc) (ls : Array Slot), cs_Sharing_spread_16 n mm σ v1 v2 v3 = some (σE, rE) → va_P D vwCl (gb_wl b (gb_CW cT b σ)) H → va_S (gb_fr b 135) s.heap H locs → lv_has ls 4 [(0, .ref (b + 120)), (1, .int v1), (2, .int v2), (3, .int v3)] → W p l e (headSpec (.code yX8_spread cX8_spread 4 (some FieldType.int) :: gb_wA) ({ frames := 1, cells := 0, slots := 0, locals := 13 })).room s m ([.ref (b + 120)]).toArray below meth c H locs 0 0 (MQ below (gb_Qi (fun r h => r = rE ∧ va_P D vwCl (gb_wl b (gb_CW cT b σE)) h) (gb_fr b 135)) ([.ref (b + 120)]).toArray s 0 0 (gb_fr b 135)) (F0 m 16 ls []) := by
    clear h hP hS hl ls
    intro mm
    induction mm with
    | zero =>
      intro σ v1 v2 v3 H locs ls h
      cases h
    | succ mm ih =>
      intro σ v1 v2 v3 H locs ls h hP hS hl
      rw [cs_Sharing_spread_16] at h
      refine lv_iload_n hx hb dX8_spread_16 rfl (lv_at hl 3 rfl) ?_
      refine lv_aload_n hx hb dX8_spread_17 rfl (lv_at hl 0 rfl) ?_
      refine va_get (ci := 7) (v := (.int (σ.1 120 4))) (C := RX8) (T := TX8) (N := 11) hx hb hq i_X8 hown hK hP 120 (gb_at b rfl) rfl 4 (by decide) (hq _ w_255) (fun _ h9 => h9) rfl dX8_spread_18 ?_
      refine lv_icmp_ge (tgt := 62) hx hb dX8_spread_21 (by decide) (fun c_4 => ?_) (fun c_4 => ?_)
      · rw [if_pos c_4] at h
        refine lv_iload_n hx hb dX8_spread_62 rfl (lv_at hl 1 rfl) ?_
        refine lv_iload_n hx hb dX8_spread_63 rfl (lv_at hl 2 rfl) ?_
        refine lv_isub hx hb dX8_spread_64 ?_
        obtain ⟨e1, e2⟩ := gb_eq2 h
        exact W.iret (v := (v1 - v2)) hx hb hr (fun t ht hW => gb_ri ht ⟨e2, by rw [← e1]; exact hP⟩ hS) hS.2.2 dX8_spread_65
      · rw [if_neg c_4] at h
        refine lv_iload_n hx hb dX8_spread_24 rfl (lv_at hl 1 rfl) ?_
        refine lv_aload_n hx hb dX8_spread_25 rfl (lv_at hl 0 rfl) ?_
        refine va_get (ci := 7) (v := (.ref (b + 127))) (C := RX8) (T := TX8) (N := 11) hx hb hq i_X8 hown hK hP 120 (gb_at b rfl) rfl 7 (by decide) (hq _ w_258) (fun _ h9 => h9) rfl dX8_spread_26 ?_
        refine lv_aload_n hx hb dX8_spread_29 rfl (lv_at hl 0 rfl) ?_
        refine va_get (ci := 7) (v := (.ref (b + 124))) (C := RX8) (T := TX8) (N := 11) hx hb hq i_X8 hown hK hP 120 (gb_at b rfl) rfl 3 (by decide) (hq _ w_254) (fun _ h9 => h9) rfl dX8_spread_30 ?_
        refine lv_iload_n hx hb dX8_spread_33 rfl (lv_at hl 3 rfl) ?_
        obtain ⟨z_5, h⟩ := gb_ck_s h
        refine va_iald hx hb hK hP 124 0 (gb_at b rfl) rfl z_5 dX8_spread_34 ?_
        refine lv_topi (fun x_6 ex_6 => ?_)
        replace h := gb_lt_s ex_6 h
        obtain ⟨z_7, h⟩ := gb_ck_s h
        refine va_iald hx hb hK hP 127 0 (gb_at b rfl) rfl z_7 dX8_spread_35 ?_
        refine lv_topi (fun x_8 ex_8 => ?_)
        replace h := gb_lt_s ex_8 h
        refine va_mmax hx hb (hml.trans hl.1.symm) hown (hq _ w_916) (hq _ w_47) (hq _ w_5) (hq _ w_48) (Nat.le_of_ble_eq_true rfl) (Nat.le_of_ble_eq_true rfl) (Nat.le_of_ble_eq_true rfl) (Nat.le_of_ble_eq_true rfl) dX8_spread_36 ?_
        refine lv_topi (fun x_9 ex_9 => ?_)
        replace h := gb_lt_s ex_9 h
        refine lv_istore_n (lv' := [(1, .int x_9), (0, .ref (b + 120)), (2, .int v2), (3, .int v3)]) hx hb dX8_spread_39 rfl hl (by decide) rfl (fun ls hl => ?_)
        refine lv_iload_n hx hb dX8_spread_40 rfl (lv_at hl 2 rfl) ?_
        refine lv_aload_n hx hb dX8_spread_41 rfl (lv_at hl 1 rfl) ?_
        refine va_get (ci := 7) (v := (.ref (b + 127))) (C := RX8) (T := TX8) (N := 11) hx hb hq i_X8 hown hK hP 120 (gb_at b rfl) rfl 7 (by decide) (hq _ w_258) (fun _ h9 => h9) rfl dX8_spread_42 ?_
        refine lv_aload_n hx hb dX8_spread_45 rfl (lv_at hl 1 rfl) ?_
        refine va_get (ci := 7) (v := (.ref (b + 124))) (C := RX8) (T := TX8) (N := 11) hx hb hq i_X8 hown hK hP 120 (gb_at b rfl) rfl 3 (by decide) (hq _ w_254) (fun _ h9 => h9) rfl dX8_spread_46 ?_
        refine lv_iload_n hx hb dX8_spread_49 rfl (lv_at hl 3 rfl) ?_
        obtain ⟨z_10, h⟩ := gb_ck_s h
        refine va_iald hx hb hK hP 124 0 (gb_at b rfl) rfl z_10 dX8_spread_50 ?_
        refine lv_topi (fun x_11 ex_11 => ?_)
        replace h := gb_lt_s ex_11 h
        obtain ⟨z_12, h⟩ := gb_ck_s h
        refine va_iald hx hb hK hP 127 0 (gb_at b rfl) rfl z_12 dX8_spread_51 ?_
        refine lv_topi (fun x_13 ex_13 => ?_)
        replace h := gb_lt_s ex_13 h
        refine va_mmin hx hb (hml.trans hl.1.symm) hown (hq _ w_917) (hq _ w_367) (hq _ w_5) (hq _ w_368) (Nat.le_of_ble_eq_true rfl) (Nat.le_of_ble_eq_true rfl) (Nat.le_of_ble_eq_true rfl) (Nat.le_of_ble_eq_true rfl) dX8_spread_52 ?_
        refine lv_topi (fun x_14 ex_14 => ?_)
        replace h := gb_lt_s ex_14 h
        refine lv_istore_n (lv' := [(2, .int x_14), (1, .int x_9), (0, .ref (b + 120)), (3, .int v3)]) hx hb dX8_spread_55 rfl hl (by decide) rfl (fun ls hl => ?_)
        obtain ⟨x_15, ex_15⟩ : ∃ q, q = (v3 + 1) := ⟨_, rfl⟩
        replace h := gb_lt_s ex_15 h
        refine lv_iinc (v := x_15) (lv' := [(3, .int x_15), (2, .int x_14), (1, .int x_9), (0, .ref (b + 120))]) hx hb dX8_spread_56 hl (k := 3) rfl (by rw [ex_15]; rfl) (by decide) rfl (fun ls hl => ?_)
        refine lv_goto (tgt := 16) hx hb dX8_spread_59 (by decide) ?_
        exact ih _ _ _ _ _ _ _ h hP hS (lv_sub hl [3, 2, 1, 0] rfl)
  unfold cs_Sharing_spread at h
  refine lv_aload_n hx hb dX8_spread_0 rfl (lv_at hl 0 rfl) ?_
  refine va_get (ci := 7) (v := (.ref (b + 127))) (C := RX8) (T := TX8) (N := 11) hx hb hq i_X8 hown hK hP 120 (gb_at b rfl) rfl 7 (by decide) (hq _ w_258) (fun _ h9 => h9) rfl dX8_spread_1 ?_
  refine lv_aload_n hx hb dX8_spread_4 rfl (lv_at hl 0 rfl) ?_
  refine va_get (ci := 7) (v := (.ref (b + 124))) (C := RX8) (T := TX8) (N := 11) hx hb hq i_X8 hown hK hP 120 (gb_at b rfl) rfl 3 (by decide) (hq _ w_254) (fun _ h9 => h9) rfl dX8_spread_5 ?_
  refine lv_iconst (v := 0) hx hb dX8_spread_8 (by decide) ?_
  refine va_iald hx hb hK hP 124 0 (gb_at b rfl) rfl (gb_in rfl) dX8_spread_9 ?_
  refine lv_topi (fun x_1 ex_1 => ?_)
  replace h := gb_lt_s ex_1 h
  obtain ⟨z_2, h⟩ := gb_ck_s h
  refine va_iald hx hb hK hP 127 0 (gb_at b rfl) rfl z_2 dX8_spread_10 ?_
  refine lv_topi (fun x_3 ex_3 => ?_)
  replace h := gb_lt_s ex_3 h
  refine lv_istore_n (lv' := [(1, .int x_3), (0, .ref (b + 120))]) hx hb dX8_spread_11 rfl hl (by decide) rfl (fun ls hl => ?_)
  refine lv_iload_n hx hb dX8_spread_12 rfl (lv_at hl 0 rfl) ?_
  refine lv_istore_n (lv' := [(2, .int x_3), (1, .int x_3), (0, .ref (b + 120))]) hx hb dX8_spread_13 rfl hl (by decide) rfl (fun ls hl => ?_)
  refine lv_iconst (v := 1) hx hb dX8_spread_14 (by decide) ?_
  refine lv_istore_n (lv' := [(3, .int 1), (2, .int x_3), (1, .int x_3), (0, .ref (b + 120))]) hx hb dX8_spread_15 rfl hl (by decide) rfl (fun ls hl => ?_)
  exact L16_1 n _ _ _ _ _ _ _ h hP hS (lv_sub hl [3, 2, 1, 0] rfl)
theorem w_915 : (Cond.code ({ cls := "GooseBorder$Sharing", name := "spread", desc := "()I" } : MethodName) prog_10_method_8_code (4 : Nat) (Option.some FieldType.int)) ∈ gb_wA := gb_t4 195 rfl rfl
theorem w_912 : (Cond.methodLink "GooseBorder$Sharing" (62 : Nat) ({ cls := "GooseBorder$Sharing", name := "spread", desc := "()I" } : MethodName)) ∈ gb_wA := gb_t4 192 rfl rfl
theorem w_914 : (Cond.instanceMethod ({ cls := "GooseBorder$Sharing", name := "spread", desc := "()I" } : MethodName)) ∈ gb_wA := gb_t4 194 rfl rfl
theorem s_2_6 : Cond.selects "GooseBorder$Sharing" (⟨"GooseBorder$Sharing", "spread", "()I"⟩ : MethodName) (⟨"GooseBorder$Sharing", "spread", "()I"⟩ : MethodName) ∈ gb_wA := gb_s2 6 rfl rfl
theorem dX8_solve_66 : decode cX8_solve 66 = .ok (.ineg, 1) := dc_116 (show ((cX8_solve.data.toList.drop 66).take 1).map UInt8.toNat = [116] by decide +kernel)
theorem dX8_solve_67 : decode cX8_solve 67 = .ok (.goto 7, 3) := dc_167 (show ((cX8_solve.data.toList.drop 67).take 3).map UInt8.toNat = [167, 0, 7] by decide +kernel) rfl
theorem dX8_solve_74 : decode cX8_solve 74 = .ok (.istore 6, 2) := dc_54 (show ((cX8_solve.data.toList.drop 74).take 2).map UInt8.toNat = [54, 6] by decide +kernel) rfl
theorem dX8_solve_76 : decode cX8_solve 76 = .ok (.iload 5, 2) := dc_21 (show ((cX8_solve.data.toList.drop 76).take 2).map UInt8.toNat = [21, 5] by decide +kernel) rfl
theorem dX8_solve_78 : decode cX8_solve 78 = .ok (.ifCond .eq 12, 3) := dc_153 (show ((cX8_solve.data.toList.drop 78).take 3).map UInt8.toNat = [153, 0, 12] by decide +kernel) rfl
theorem dX8_solve_90 : decode cX8_solve 90 = .ok (.aload_n 0, 1) := dc_42 (show ((cX8_solve.data.toList.drop 90).take 1).map UInt8.toNat = [42] by decide +kernel)
theorem dX8_solve_91 : decode cX8_solve 91 = .ok (.iload 6, 2) := dc_21 (show ((cX8_solve.data.toList.drop 91).take 2).map UInt8.toNat = [21, 6] by decide +kernel) rfl
theorem dX8_solve_93 : decode cX8_solve 93 = .ok (.putfield 47, 3) := dc_181 (show ((cX8_solve.data.toList.drop 93).take 3).map UInt8.toNat = [181, 0, 47] by decide +kernel) rfl
theorem dX8_solve_96 : decode cX8_solve 96 = .ok (.aload_n 0, 1) := dc_42 (show ((cX8_solve.data.toList.drop 96).take 1).map UInt8.toNat = [42] by decide +kernel)
theorem dX8_solve_97 : decode cX8_solve 97 = .ok (.invokevirtual 68, 3) := dc_182 (show ((cX8_solve.data.toList.drop 97).take 3).map UInt8.toNat = [182, 0, 68] by decide +kernel) rfl
theorem dX8_keepRow_0 : decode cX8_keepRow 0 = .ok (.iconst 0, 1) := dc_3 (show ((cX8_keepRow.data.toList.drop 0).take 1).map UInt8.toNat = [3] by decide +kernel)
theorem dX8_keepRow_1 : decode cX8_keepRow 1 = .ok (.istore_n 1, 1) := dc_60 (show ((cX8_keepRow.data.toList.drop 1).take 1).map UInt8.toNat = [60] by decide +kernel)
theorem dX8_keepRow_2 : decode cX8_keepRow 2 = .ok (.iload_n 1, 1) := dc_27 (show ((cX8_keepRow.data.toList.drop 2).take 1).map UInt8.toNat = [27] by decide +kernel)
theorem dX8_keepRow_3 : decode cX8_keepRow 3 = .ok (.aload_n 0, 1) := dc_42 (show ((cX8_keepRow.data.toList.drop 3).take 1).map UInt8.toNat = [42] by decide +kernel)
theorem dX8_keepRow_4 : decode cX8_keepRow 4 = .ok (.getfield 12, 3) := dc_180 (show ((cX8_keepRow.data.toList.drop 4).take 3).map UInt8.toNat = [180, 0, 12] by decide +kernel) rfl
theorem dX8_keepRow_7 : decode cX8_keepRow 7 = .ok (.invokevirtual 44, 3) := dc_182 (show ((cX8_keepRow.data.toList.drop 7).take 3).map UInt8.toNat = [182, 0, 44] by decide +kernel) rfl
theorem dX8_keepRow_10 : decode cX8_keepRow 10 = .ok (.if_icmp .ge 26, 3) := dc_162 (show ((cX8_keepRow.data.toList.drop 10).take 3).map UInt8.toNat = [162, 0, 26] by decide +kernel) rfl
theorem dX8_keepRow_36 : decode cX8_keepRow 36 = .ok (.aload_n 0, 1) := dc_42 (show ((cX8_keepRow.data.toList.drop 36).take 1).map UInt8.toNat = [42] by decide +kernel)
theorem dX8_keepRow_37 : decode cX8_keepRow 37 = .ok (.getfield 31, 3) := dc_180 (show ((cX8_keepRow.data.toList.drop 37).take 3).map UInt8.toNat = [180, 0, 31] by decide +kernel) rfl
theorem dX8_keepRow_40 : decode cX8_keepRow 40 = .ok (.iconst 0, 1) := dc_3 (show ((cX8_keepRow.data.toList.drop 40).take 1).map UInt8.toNat = [3] by decide +kernel)
theorem dX8_keepRow_41 : decode cX8_keepRow 41 = .ok (.aload_n 0, 1) := dc_42 (show ((cX8_keepRow.data.toList.drop 41).take 1).map UInt8.toNat = [42] by decide +kernel)
theorem dX8_keepRow_42 : decode cX8_keepRow 42 = .ok (.getfield 37, 3) := dc_180 (show ((cX8_keepRow.data.toList.drop 42).take 3).map UInt8.toNat = [180, 0, 37] by decide +kernel) rfl
theorem dX8_keepRow_45 : decode cX8_keepRow 45 = .ok (.iconst 0, 1) := dc_3 (show ((cX8_keepRow.data.toList.drop 45).take 1).map UInt8.toNat = [3] by decide +kernel)
theorem dX8_keepRow_46 : decode cX8_keepRow 46 = .ok (.iconst 5, 1) := dc_8 (show ((cX8_keepRow.data.toList.drop 46).take 1).map UInt8.toNat = [8] by decide +kernel)
theorem dX8_keepRow_47 : decode cX8_keepRow 47 = .ok (.invokestatic 102, 3) := dc_184 (show ((cX8_keepRow.data.toList.drop 47).take 3).map UInt8.toNat = [184, 0, 102] by decide +kernel) rfl
theorem w_926 : (Cond.methodLink "GooseBorder$Sharing" (102 : Nat) ({ cls := "java/lang/System", name := "arraycopy", desc := "(Ljava/lang/Object;ILjava/lang/Object;II)V" } : MethodName)) ∈ gb_wA := gb_t4 206 rfl rfl
theorem dX8_keepRow_50 : decode cX8_keepRow 50 = .ok (.return_, 1) := dc_177 (show ((cX8_keepRow.data.toList.drop 50).take 1).map UInt8.toNat = [177] by decide +kernel)
theorem dX8_keepRow_13 : decode cX8_keepRow 13 = .ok (.aload_n 0, 1) := dc_42 (show ((cX8_keepRow.data.toList.drop 13).take 1).map UInt8.toNat = [42] by decide +kernel)
theorem dX8_keepRow_14 : decode cX8_keepRow 14 = .ok (.getfield 34, 3) := dc_180 (show ((cX8_keepRow.data.toList.drop 14).take 3).map UInt8.toNat = [180, 0, 34] by decide +kernel) rfl
theorem dX8_keepRow_17 : decode cX8_keepRow 17 = .ok (.iload_n 1, 1) := dc_27 (show ((cX8_keepRow.data.toList.drop 17).take 1).map UInt8.toNat = [27] by decide +kernel)
theorem dX8_keepRow_18 : decode cX8_keepRow 18 = .ok (.aload_n 0, 1) := dc_42 (show ((cX8_keepRow.data.toList.drop 18).take 1).map UInt8.toNat = [42] by decide +kernel)
theorem dX8_keepRow_19 : decode cX8_keepRow 19 = .ok (.getfield 22, 3) := dc_180 (show ((cX8_keepRow.data.toList.drop 19).take 3).map UInt8.toNat = [180, 0, 22] by decide +kernel) rfl
theorem dX8_keepRow_22 : decode cX8_keepRow 22 = .ok (.aload_n 0, 1) := dc_42 (show ((cX8_keepRow.data.toList.drop 22).take 1).map UInt8.toNat = [42] by decide +kernel)
theorem dX8_keepRow_23 : decode cX8_keepRow 23 = .ok (.getfield 25, 3) := dc_180 (show ((cX8_keepRow.data.toList.drop 23).take 3).map UInt8.toNat = [180, 0, 25] by decide +kernel) rfl
theorem dX8_keepRow_26 : decode cX8_keepRow 26 = .ok (.iload_n 1, 1) := dc_27 (show ((cX8_keepRow.data.toList.drop 26).take 1).map UInt8.toNat = [27] by decide +kernel)
theorem dX8_keepRow_27 : decode cX8_keepRow 27 = .ok (.iaload, 1) := dc_46 (show ((cX8_keepRow.data.toList.drop 27).take 1).map UInt8.toNat = [46] by decide +kernel)
theorem dX8_keepRow_28 : decode cX8_keepRow 28 = .ok (.iaload, 1) := dc_46 (show ((cX8_keepRow.data.toList.drop 28).take 1).map UInt8.toNat = [46] by decide +kernel)
theorem dX8_keepRow_29 : decode cX8_keepRow 29 = .ok (.iastore, 1) := dc_79 (show ((cX8_keepRow.data.toList.drop 29).take 1).map UInt8.toNat = [79] by decide +kernel)
theorem dX8_keepRow_30 : decode cX8_keepRow 30 = .ok (.iinc 1 1, 3) := dc_132 (show ((cX8_keepRow.data.toList.drop 30).take 3).map UInt8.toNat = [132, 1, 1] by decide +kernel) rfl
theorem dX8_keepRow_33 : decode cX8_keepRow 33 = .ok (.goto (-31), 3) := dc_167 (show ((cX8_keepRow.data.toList.drop 33).take 3).map UInt8.toNat = [167, 255, 225] by decide +kernel) rfl
def cs_Sharing_keepRow_2 (n : Nat) : Nat → gb_S → Int32 → gb_CR Unit
  | 0, _, _ => none
  | mm + 1, σ, v1 => gb_kk (gb_kB (σ.2.1 2)) (gb_cd (cs_Border_geese_B n σ (σ.2.1 2)) (fun s_2 r_3 => (if r_3 ≤ v1 then gb_ac 0 0 5 5 5 (gb_lt (gb_su s_2 129 (va_cpy (s_2.1 127) (s_2.1 129) (Int32.toNatClampNeg 0) (Int32.toNatClampNeg 0) (Int32.toNatClampNeg 5))) (fun s_8 => some (s_8, ()))) else gb_ck v1 8 (gb_lt ((s_2.1 125) (Int32.toNatClampNeg v1)) (fun x_10 => gb_ck x_10 5 (gb_lt ((s_2.1 124) (Int32.toNatClampNeg x_10)) (fun x_12 => gb_ck v1 8 (gb_lt (gb_su s_2 128 (upd (s_2.1 128) (Int32.toNatClampNeg v1) x_12)) (fun s_14 => gb_lt (v1 + 1) (fun x_15 => cs_Sharing_keepRow_2 n mm s_14 x_15))))))))))
def cs_Sharing_keepRow (n : Nat) (σ : gb_S) : gb_CR Unit := cs_Sharing_keepRow_2 n n σ 0
set_option maxHeartbeats 8000000 in
set_option maxRecDepth 100000 in
theorem cc_Sharing_keepRow (l : Launch) (D : va_G) (cT : Nat → ClassId) (tt : Nat → Nat) (b1 b : Nat) (hb1 : b1 ≤ b) (n : Nat) (σ : gb_S) (σE : gb_S) (rE : Unit) (h : cs_Sharing_keepRow n σ = some (σE, rE)) : Met l yX8_keepRow (.code yX8_keepRow cX8_keepRow 2 none :: gb_wA) ({ frames := 1, cells := 0, slots := 0, locals := 40 }) (gb_Pc D cT tt b1 [.ref (b + 120)] (fun h => va_P D vwCl (gb_wl b (gb_CW cT b σ)) h)) (gb_Qv (fun h => va_P D vwCl (gb_wl b (gb_CW cT b σE)) h) (gb_fr b 135)) 0 0 (gb_fr b 135) := by
  refine Met.ofW (cc := cX8_keepRow) (maxL := 2) (ret := none) (by decide) rfl ?_
  intro p e s m args below meth c s₁ B hml hv
  obtain ⟨rfl, hSt, hP⟩ := hv
  have hx := B.exec
  have hb := B.bytes
  have hr := B.returns
  have hts := atoms_spec (ws := .code yX8_keepRow cX8_keepRow 2 none :: gb_wA) B.pre
  have hq : ∀ w ∈ gb_wA, w.before _ s = true := fun w h => hts w (List.mem_cons_of_mem _ h)
  have hown : s.vm.findClass RX8 = some m.cls := findClass_of_methodNamed B.named
  have hlocks := B.notSynchronized
  clear B hts
  have hK := hSt.1
  have hS : va_S (gb_fr b 135) s.heap s.heap [] := va_S.rf
  have hl := lv_entry ([.ref (b + 120)]) (n := 2) (Nat.le_of_ble_eq_true rfl)
  rw [lg_entry_eq]
  generalize (lg_sl ([.ref (b + 120)]) ++ List.replicate (2 - (lg_sl ([.ref (b + 120)])).length) Slot.unset).toArray = ls at hl ⊢
  replace hl : lv_has ls 2 [(0, .ref (b + 120))] := hl
  have L2_1 : ∀ (mm : Nat) (σ : gb_S) (v1 : Int32) (H : Heap) (locs : List Loc) (ls : Array Slot), cs_Sharing_keepRow_2 n mm σ v1 = some (σE, rE) → va_P D vwCl (gb_wl b (gb_CW cT b σ)) H → va_S (gb_fr b 135) s.heap H locs → lv_has ls 2 [(0, .ref (b + 120)), (1, .int v1)] → W p l e (headSpec (.code yX8_keepRow cX8_keepRow 2 none :: gb_wA) ({ frames := 1, cells := 0, slots := 0, locals := 40 })).room s m ([.ref (b + 120)]).toArray below meth c H locs 0 0 (MQ below (gb_Qv (fun h => va_P D vwCl (gb_wl b (gb_CW cT b σE)) h) (gb_fr b 135)) ([.ref (b + 120)]).toArray s 0 0 (gb_fr b 135)) (F0 m 2 ls []) := by
    clear h hP hS hl ls
    intro mm
    induction mm with
    | zero =>
      intro σ v1 H locs ls h
      cases h
    | succ mm ih =>
      intro σ v1 H locs ls h hP hS hl
      rw [cs_Sharing_keepRow_2] at h
      refine lv_iload_n hx hb dX8_keepRow_2 rfl (lv_at hl 1 rfl) ?_
      refine lv_aload_n hx hb dX8_keepRow_3 rfl (lv_at hl 0 rfl) ?_
      obtain ⟨z_1, h⟩ := gb_kk_s h
      refine va_get (ci := 7) (v := (.ref (b + (σ.2.1 2)))) (C := RX8) (T := TX8) (N := 11) hx hb hq i_X8 hown hK hP 120 (gb_at b rfl) rfl 0 (by decide) (hq _ w_251) (fun _ h9 => h9) rfl dX8_keepRow_4 ?_
      obtain ⟨s_2, r_3, z_4, h⟩ := gb_cd_s h
      refine gb_calli (va_runV (C := RX0) (As := []) (rest := [.int v1]) ⟨hx, hb, hml, hown, hq⟩ (cc_Border_geese_B l D cT tt b1 b hb1 n σ (σ.2.1 2) s_2 r_3 z_4) (cwV 0 hq (gb_gV w_889 w_477 w_478 w_4 w_479) rfl rfl rfl (by decide +kernel) ⟨Nat.le_of_ble_eq_true rfl, Nat.le_of_ble_eq_true rfl⟩) (gb_preV (r := (RX0, TX0, 1)) (ci := 0) (q0 := (σ.2.1 2)) hSt hP rfl (gb_at b (gb_cB z_1).1) hS (fun q h => Nat.le_trans hb1 h.1) hP) rfl rfl hl.1 rfl (lv_room (Nat.le_of_ble_eq_true rfl)) dX8_keepRow_7 ⟨Nat.le_of_ble_eq_true rfl, Nat.le_of_ble_eq_true rfl⟩) hS (fun _ h => h) (fun _ h => h) (fun q_5 H locs hY hk hS => ?_)
      obtain ⟨hq_5, hP⟩ := hY
      replace hq_5 := hq_5.symm
      subst hq_5
      refine lv_icmp_ge (tgt := 36) hx hb dX8_keepRow_10 (by decide) (fun c_6 => ?_) (fun c_6 => ?_)
      · rw [if_pos c_6] at h
        refine lv_aload_n hx hb dX8_keepRow_36 rfl (lv_at hl 0 rfl) ?_
        refine va_get (ci := 7) (v := (.ref (b + 127))) (C := RX8) (T := TX8) (N := 11) hx hb hq i_X8 hown hK hP 120 (gb_at b rfl) rfl 7 (by decide) (hq _ w_258) (fun _ h9 => h9) rfl dX8_keepRow_37 ?_
        refine lv_iconst (v := 0) hx hb dX8_keepRow_40 (by decide) ?_
        refine lv_aload_n hx hb dX8_keepRow_41 rfl (lv_at hl 0 rfl) ?_
        refine va_get (ci := 7) (v := (.ref (b + 129))) (C := RX8) (T := TX8) (N := 11) hx hb hq i_X8 hown hK hP 120 (gb_at b rfl) rfl 9 (by decide) (hq _ w_261) (fun _ h9 => h9) rfl dX8_keepRow_42 ?_
        refine lv_iconst (v := 0) hx hb dX8_keepRow_45 (by decide) ?_
        refine lv_iconst (v := 5) hx hb dX8_keepRow_46 (by decide) ?_
        obtain ⟨z_7, h⟩ := gb_ac_s h
        refine va_copyi (ty := .int) hx hb (hml.trans hl.1.symm) hown (hq _ w_926) (hq _ w_517) (hq _ w_516) (hq _ w_19) hK hP (gb_D (fun k h => ⟨Nat.le_add_right b k, Nat.add_lt_add_left h b⟩)) hS 127 129 0 0 (gb_at b rfl) (gb_at b rfl) rfl rfl rfl z_7.1 z_7.2.1 z_7.2.2.1 z_7.2.2.2.1 z_7.2.2.2.2 (fun _ _ => rfl) (Nat.le_of_ble_eq_true rfl) (Nat.le_of_ble_eq_true rfl) dX8_keepRow_47 (fun H locs hP hD hS => ?_)
        rw [gb_set] at hP
        obtain ⟨s_8, es_8⟩ : ∃ q, q = (gb_su s_2 129 (va_cpy (s_2.1 127) (s_2.1 129) (Int32.toNatClampNeg 0) (Int32.toNatClampNeg 0) (Int32.toNatClampNeg 5))) := ⟨_, rfl⟩
        replace hP : va_P D vwCl (gb_wl b (gb_CW cT b s_8)) H := by rw [es_8]; exact hP
        replace h := gb_lt_s es_8 h
        obtain ⟨e1, -⟩ := gb_eq2 h
        exact W.vret hx hb hr (fun t ht hW => gb_rv ht (by rw [← e1]; exact hP) hS) hS.2.2 dX8_keepRow_50
      · rw [if_neg c_6] at h
        refine lv_aload_n hx hb dX8_keepRow_13 rfl (lv_at hl 0 rfl) ?_
        refine va_get (ci := 7) (v := (.ref (b + 128))) (C := RX8) (T := TX8) (N := 11) hx hb hq i_X8 hown hK hP 120 (gb_at b rfl) rfl 8 (by decide) (hq _ w_259) (fun _ h9 => h9) rfl dX8_keepRow_14 ?_
        refine lv_iload_n hx hb dX8_keepRow_17 rfl (lv_at hl 1 rfl) ?_
        refine lv_aload_n hx hb dX8_keepRow_18 rfl (lv_at hl 0 rfl) ?_
        refine va_get (ci := 7) (v := (.ref (b + 124))) (C := RX8) (T := TX8) (N := 11) hx hb hq i_X8 hown hK hP 120 (gb_at b rfl) rfl 3 (by decide) (hq _ w_254) (fun _ h9 => h9) rfl dX8_keepRow_19 ?_
        refine lv_aload_n hx hb dX8_keepRow_22 rfl (lv_at hl 0 rfl) ?_
        refine va_get (ci := 7) (v := (.ref (b + 125))) (C := RX8) (T := TX8) (N := 11) hx hb hq i_X8 hown hK hP 120 (gb_at b rfl) rfl 5 (by decide) (hq _ w_256) (fun _ h9 => h9) rfl dX8_keepRow_23 ?_
        refine lv_iload_n hx hb dX8_keepRow_26 rfl (lv_at hl 1 rfl) ?_
        obtain ⟨z_9, h⟩ := gb_ck_s h
        refine va_iald hx hb hK hP 125 0 (gb_at b rfl) rfl z_9 dX8_keepRow_27 ?_
        refine lv_topi (fun x_10 ex_10 => ?_)
        replace h := gb_lt_s ex_10 h
        obtain ⟨z_11, h⟩ := gb_ck_s h
        refine va_iald hx hb hK hP 124 0 (gb_at b rfl) rfl z_11 dX8_keepRow_28 ?_
        refine lv_topi (fun x_12 ex_12 => ?_)
        replace h := gb_lt_s ex_12 h
        obtain ⟨z_13, h⟩ := gb_ck_s h
        refine va_iast (x := x_12) hx hb hK hP (gb_D (fun k h => ⟨Nat.le_add_right b k, Nat.add_lt_add_left h b⟩)) hS 128 0 (gb_at b rfl) rfl z_13 dX8_keepRow_29 (fun H locs hP hD hS => ?_)
        rw [gb_set] at hP
        obtain ⟨s_14, es_14⟩ : ∃ q, q = (gb_su s_2 128 (upd (s_2.1 128) (Int32.toNatClampNeg v1) x_12)) := ⟨_, rfl⟩
        replace hP : va_P D vwCl (gb_wl b (gb_CW cT b s_14)) H := by rw [es_14]; exact hP
        replace h := gb_lt_s es_14 h
        obtain ⟨x_15, ex_15⟩ : ∃ q, q = (v1 + 1) := ⟨_, rfl⟩
        replace h := gb_lt_s ex_15 h
        refine lv_iinc (v := x_15) (lv' := [(1, .int x_15), (0, .ref (b + 120))]) hx hb dX8_keepRow_30 hl (k := 1) rfl (by rw [ex_15]; rfl) (by decide) rfl (fun ls hl => ?_)
        refine lv_goto (tgt := 2) hx hb dX8_keepRow_33 (by decide) ?_
        exact ih _ _ _ _ _ h hP hS (lv_sub hl [1, 0] rfl)
  unfold cs_Sharing_keepRow at h
  refine lv_iconst (v := 0) hx hb dX8_keepRow_0 (by decide) ?_
  refine lv_istore_n (lv' := [(1, .int 0), (0, .ref (b + 120))]) hx hb dX8_keepRow_1 rfl hl (by decide) rfl (fun ls hl => ?_)
  exact L2_1 n _ _ _ _ _ h hP hS (lv_sub hl [1, 0] rfl)
theorem w_925 : (Cond.code ({ cls := "GooseBorder$Sharing", name := "keepRow", desc := "()V" } : MethodName) prog_10_method_10_code (2 : Nat) (Option.none : Option FieldType)) ∈ gb_wA := gb_t4 205 rfl rfl
theorem w_922 : (Cond.methodLink "GooseBorder$Sharing" (68 : Nat) ({ cls := "GooseBorder$Sharing", name := "keepRow", desc := "()V" } : MethodName)) ∈ gb_wA := gb_t4 202 rfl rfl
theorem w_924 : (Cond.instanceMethod ({ cls := "GooseBorder$Sharing", name := "keepRow", desc := "()V" } : MethodName)) ∈ gb_wA := gb_t4 204 rfl rfl
theorem s_2_8 : Cond.selects "GooseBorder$Sharing" (⟨"GooseBorder$Sharing", "keepRow", "()V"⟩ : MethodName) (⟨"GooseBorder$Sharing", "keepRow", "()V"⟩ : MethodName) ∈ gb_wA := gb_s2 8 rfl rfl
theorem dX8_solve_100 : decode cX8_solve 100 = .ok (.aload_n 0, 1) := dc_42 (show ((cX8_solve.data.toList.drop 100).take 1).map UInt8.toNat = [42] by decide +kernel)
theorem dX8_solve_101 : decode cX8_solve 101 = .ok (.invokevirtual 71, 3) := dc_182 (show ((cX8_solve.data.toList.drop 101).take 3).map UInt8.toNat = [182, 0, 71] by decide +kernel) rfl
theorem dX8_advance_0 : decode cX8_advance 0 = .ok (.aload_n 0, 1) := dc_42 (show ((cX8_advance.data.toList.drop 0).take 1).map UInt8.toNat = [42] by decide +kernel)
theorem dX8_advance_1 : decode cX8_advance 1 = .ok (.getfield 12, 3) := dc_180 (show ((cX8_advance.data.toList.drop 1).take 3).map UInt8.toNat = [180, 0, 12] by decide +kernel) rfl
theorem dX8_advance_4 : decode cX8_advance 4 = .ok (.invokevirtual 44, 3) := dc_182 (show ((cX8_advance.data.toList.drop 4).take 3).map UInt8.toNat = [182, 0, 44] by decide +kernel) rfl
theorem dX8_advance_7 : decode cX8_advance 7 = .ok (.iconst 1, 1) := dc_4 (show ((cX8_advance.data.toList.drop 7).take 1).map UInt8.toNat = [4] by decide +kernel)
theorem dX8_advance_8 : decode cX8_advance 8 = .ok (.isub, 1) := dc_100 (show ((cX8_advance.data.toList.drop 8).take 1).map UInt8.toNat = [100] by decide +kernel)
theorem dX8_advance_9 : decode cX8_advance 9 = .ok (.istore_n 1, 1) := dc_60 (show ((cX8_advance.data.toList.drop 9).take 1).map UInt8.toNat = [60] by decide +kernel)
theorem dX8_advance_10 : decode cX8_advance 10 = .ok (.iload_n 1, 1) := dc_27 (show ((cX8_advance.data.toList.drop 10).take 1).map UInt8.toNat = [27] by decide +kernel)
theorem dX8_advance_11 : decode cX8_advance 11 = .ok (.ifCond .lt 133, 3) := dc_155 (show ((cX8_advance.data.toList.drop 11).take 3).map UInt8.toNat = [155, 0, 133] by decide +kernel) rfl
theorem dX8_advance_144 : decode cX8_advance 144 = .ok (.return_, 1) := dc_177 (show ((cX8_advance.data.toList.drop 144).take 1).map UInt8.toNat = [177] by decide +kernel)
theorem dX8_advance_14 : decode cX8_advance 14 = .ok (.aload_n 0, 1) := dc_42 (show ((cX8_advance.data.toList.drop 14).take 1).map UInt8.toNat = [42] by decide +kernel)
theorem dX8_advance_15 : decode cX8_advance 15 = .ok (.getfield 22, 3) := dc_180 (show ((cX8_advance.data.toList.drop 15).take 3).map UInt8.toNat = [180, 0, 22] by decide +kernel) rfl
theorem dX8_advance_18 : decode cX8_advance 18 = .ok (.aload_n 0, 1) := dc_42 (show ((cX8_advance.data.toList.drop 18).take 1).map UInt8.toNat = [42] by decide +kernel)
theorem dX8_advance_19 : decode cX8_advance 19 = .ok (.getfield 25, 3) := dc_180 (show ((cX8_advance.data.toList.drop 19).take 3).map UInt8.toNat = [180, 0, 25] by decide +kernel) rfl
theorem dX8_advance_22 : decode cX8_advance 22 = .ok (.iload_n 1, 1) := dc_27 (show ((cX8_advance.data.toList.drop 22).take 1).map UInt8.toNat = [27] by decide +kernel)
theorem dX8_advance_23 : decode cX8_advance 23 = .ok (.iaload, 1) := dc_46 (show ((cX8_advance.data.toList.drop 23).take 1).map UInt8.toNat = [46] by decide +kernel)
theorem dX8_advance_24 : decode cX8_advance 24 = .ok (.iaload, 1) := dc_46 (show ((cX8_advance.data.toList.drop 24).take 1).map UInt8.toNat = [46] by decide +kernel)
theorem dX8_advance_25 : decode cX8_advance 25 = .ok (.istore_n 2, 1) := dc_61 (show ((cX8_advance.data.toList.drop 25).take 1).map UInt8.toNat = [61] by decide +kernel)
theorem dX8_advance_26 : decode cX8_advance 26 = .ok (.aload_n 0, 1) := dc_42 (show ((cX8_advance.data.toList.drop 26).take 1).map UInt8.toNat = [42] by decide +kernel)
theorem dX8_advance_27 : decode cX8_advance 27 = .ok (.getfield 25, 3) := dc_180 (show ((cX8_advance.data.toList.drop 27).take 3).map UInt8.toNat = [180, 0, 25] by decide +kernel) rfl
theorem dX8_advance_30 : decode cX8_advance 30 = .ok (.iload_n 1, 1) := dc_27 (show ((cX8_advance.data.toList.drop 30).take 1).map UInt8.toNat = [27] by decide +kernel)
theorem dX8_advance_31 : decode cX8_advance 31 = .ok (.iaload, 1) := dc_46 (show ((cX8_advance.data.toList.drop 31).take 1).map UInt8.toNat = [46] by decide +kernel)
theorem dX8_advance_32 : decode cX8_advance 32 = .ok (.iconst 1, 1) := dc_4 (show ((cX8_advance.data.toList.drop 32).take 1).map UInt8.toNat = [4] by decide +kernel)
theorem dX8_advance_33 : decode cX8_advance 33 = .ok (.iadd, 1) := dc_96 (show ((cX8_advance.data.toList.drop 33).take 1).map UInt8.toNat = [96] by decide +kernel)
theorem dX8_advance_34 : decode cX8_advance 34 = .ok (.aload_n 0, 1) := dc_42 (show ((cX8_advance.data.toList.drop 34).take 1).map UInt8.toNat = [42] by decide +kernel)
theorem dX8_advance_35 : decode cX8_advance 35 = .ok (.getfield 55, 3) := dc_180 (show ((cX8_advance.data.toList.drop 35).take 3).map UInt8.toNat = [180, 0, 55] by decide +kernel) rfl
theorem dX8_advance_38 : decode cX8_advance 38 = .ok (.if_icmp .lt 7, 3) := dc_161 (show ((cX8_advance.data.toList.drop 38).take 3).map UInt8.toNat = [161, 0, 7] by decide +kernel) rfl
theorem dX8_advance_45 : decode cX8_advance 45 = .ok (.iconst 0, 1) := dc_3 (show ((cX8_advance.data.toList.drop 45).take 1).map UInt8.toNat = [3] by decide +kernel)
theorem dX8_advance_46 : decode cX8_advance 46 = .ok (.istore_n 3, 1) := dc_62 (show ((cX8_advance.data.toList.drop 46).take 1).map UInt8.toNat = [62] by decide +kernel)
theorem dX8_advance_47 : decode cX8_advance 47 = .ok (.aload_n 0, 1) := dc_42 (show ((cX8_advance.data.toList.drop 47).take 1).map UInt8.toNat = [42] by decide +kernel)
theorem dX8_advance_48 : decode cX8_advance 48 = .ok (.getfield 25, 3) := dc_180 (show ((cX8_advance.data.toList.drop 48).take 3).map UInt8.toNat = [180, 0, 25] by decide +kernel) rfl
theorem dX8_advance_51 : decode cX8_advance 51 = .ok (.iload_n 1, 1) := dc_27 (show ((cX8_advance.data.toList.drop 51).take 1).map UInt8.toNat = [27] by decide +kernel)
theorem dX8_advance_52 : decode cX8_advance 52 = .ok (.iload_n 3, 1) := dc_29 (show ((cX8_advance.data.toList.drop 52).take 1).map UInt8.toNat = [29] by decide +kernel)
theorem dX8_advance_53 : decode cX8_advance 53 = .ok (.ifCond .eq 7, 3) := dc_153 (show ((cX8_advance.data.toList.drop 53).take 3).map UInt8.toNat = [153, 0, 7] by decide +kernel) rfl
theorem dX8_advance_60 : decode cX8_advance 60 = .ok (.aload_n 0, 1) := dc_42 (show ((cX8_advance.data.toList.drop 60).take 1).map UInt8.toNat = [42] by decide +kernel)
theorem dX8_advance_61 : decode cX8_advance 61 = .ok (.getfield 25, 3) := dc_180 (show ((cX8_advance.data.toList.drop 61).take 3).map UInt8.toNat = [180, 0, 25] by decide +kernel) rfl
theorem dX8_advance_64 : decode cX8_advance 64 = .ok (.iload_n 1, 1) := dc_27 (show ((cX8_advance.data.toList.drop 64).take 1).map UInt8.toNat = [27] by decide +kernel)
theorem dX8_advance_65 : decode cX8_advance 65 = .ok (.iaload, 1) := dc_46 (show ((cX8_advance.data.toList.drop 65).take 1).map UInt8.toNat = [46] by decide +kernel)
theorem dX8_advance_66 : decode cX8_advance 66 = .ok (.iconst 1, 1) := dc_4 (show ((cX8_advance.data.toList.drop 66).take 1).map UInt8.toNat = [4] by decide +kernel)
theorem dX8_advance_67 : decode cX8_advance 67 = .ok (.iadd, 1) := dc_96 (show ((cX8_advance.data.toList.drop 67).take 1).map UInt8.toNat = [96] by decide +kernel)
theorem dX8_advance_68 : decode cX8_advance 68 = .ok (.iastore, 1) := dc_79 (show ((cX8_advance.data.toList.drop 68).take 1).map UInt8.toNat = [79] by decide +kernel)
theorem dX8_advance_69 : decode cX8_advance 69 = .ok (.aload_n 0, 1) := dc_42 (show ((cX8_advance.data.toList.drop 69).take 1).map UInt8.toNat = [42] by decide +kernel)
theorem dX8_advance_70 : decode cX8_advance 70 = .ok (.getfield 22, 3) := dc_180 (show ((cX8_advance.data.toList.drop 70).take 3).map UInt8.toNat = [180, 0, 22] by decide +kernel) rfl
theorem dX8_advance_73 : decode cX8_advance 73 = .ok (.aload_n 0, 1) := dc_42 (show ((cX8_advance.data.toList.drop 73).take 1).map UInt8.toNat = [42] by decide +kernel)
theorem dX8_advance_74 : decode cX8_advance 74 = .ok (.getfield 25, 3) := dc_180 (show ((cX8_advance.data.toList.drop 74).take 3).map UInt8.toNat = [180, 0, 25] by decide +kernel) rfl
theorem dX8_advance_77 : decode cX8_advance 77 = .ok (.iload_n 1, 1) := dc_27 (show ((cX8_advance.data.toList.drop 77).take 1).map UInt8.toNat = [27] by decide +kernel)
theorem dX8_advance_78 : decode cX8_advance 78 = .ok (.iaload, 1) := dc_46 (show ((cX8_advance.data.toList.drop 78).take 1).map UInt8.toNat = [46] by decide +kernel)
theorem dX8_advance_79 : decode cX8_advance 79 = .ok (.iaload, 1) := dc_46 (show ((cX8_advance.data.toList.drop 79).take 1).map UInt8.toNat = [46] by decide +kernel)
theorem dX8_advance_80 : decode cX8_advance 80 = .ok (.istore 4, 2) := dc_54 (show ((cX8_advance.data.toList.drop 80).take 2).map UInt8.toNat = [54, 4] by decide +kernel) rfl
theorem dX8_advance_82 : decode cX8_advance 82 = .ok (.aload_n 0, 1) := dc_42 (show ((cX8_advance.data.toList.drop 82).take 1).map UInt8.toNat = [42] by decide +kernel)
theorem dX8_advance_83 : decode cX8_advance 83 = .ok (.getfield 28, 3) := dc_180 (show ((cX8_advance.data.toList.drop 83).take 3).map UInt8.toNat = [180, 0, 28] by decide +kernel) rfl
theorem dX8_advance_86 : decode cX8_advance 86 = .ok (.iload_n 2, 1) := dc_28 (show ((cX8_advance.data.toList.drop 86).take 1).map UInt8.toNat = [28] by decide +kernel)
theorem dX8_advance_87 : decode cX8_advance 87 = .ok (.dup2, 1) := dc_92 (show ((cX8_advance.data.toList.drop 87).take 1).map UInt8.toNat = [92] by decide +kernel)
theorem dX8_advance_88 : decode cX8_advance 88 = .ok (.iaload, 1) := dc_46 (show ((cX8_advance.data.toList.drop 88).take 1).map UInt8.toNat = [46] by decide +kernel)
theorem dX8_advance_89 : decode cX8_advance 89 = .ok (.aload_n 0, 1) := dc_42 (show ((cX8_advance.data.toList.drop 89).take 1).map UInt8.toNat = [42] by decide +kernel)
theorem dX8_advance_90 : decode cX8_advance 90 = .ok (.getfield 18, 3) := dc_180 (show ((cX8_advance.data.toList.drop 90).take 3).map UInt8.toNat = [180, 0, 18] by decide +kernel) rfl
theorem dX8_advance_93 : decode cX8_advance 93 = .ok (.iload_n 1, 1) := dc_27 (show ((cX8_advance.data.toList.drop 93).take 1).map UInt8.toNat = [27] by decide +kernel)
theorem dX8_advance_94 : decode cX8_advance 94 = .ok (.iconst 5, 1) := dc_8 (show ((cX8_advance.data.toList.drop 94).take 1).map UInt8.toNat = [8] by decide +kernel)
theorem dX8_advance_95 : decode cX8_advance 95 = .ok (.imul, 1) := dc_104 (show ((cX8_advance.data.toList.drop 95).take 1).map UInt8.toNat = [104] by decide +kernel)
theorem dX8_advance_96 : decode cX8_advance 96 = .ok (.iload_n 2, 1) := dc_28 (show ((cX8_advance.data.toList.drop 96).take 1).map UInt8.toNat = [28] by decide +kernel)
theorem dX8_advance_97 : decode cX8_advance 97 = .ok (.iadd, 1) := dc_96 (show ((cX8_advance.data.toList.drop 97).take 1).map UInt8.toNat = [96] by decide +kernel)
theorem dX8_advance_98 : decode cX8_advance 98 = .ok (.iaload, 1) := dc_46 (show ((cX8_advance.data.toList.drop 98).take 1).map UInt8.toNat = [46] by decide +kernel)
theorem dX8_advance_99 : decode cX8_advance 99 = .ok (.isub, 1) := dc_100 (show ((cX8_advance.data.toList.drop 99).take 1).map UInt8.toNat = [100] by decide +kernel)
theorem dX8_advance_100 : decode cX8_advance 100 = .ok (.iastore, 1) := dc_79 (show ((cX8_advance.data.toList.drop 100).take 1).map UInt8.toNat = [79] by decide +kernel)
theorem dX8_advance_101 : decode cX8_advance 101 = .ok (.aload_n 0, 1) := dc_42 (show ((cX8_advance.data.toList.drop 101).take 1).map UInt8.toNat = [42] by decide +kernel)
theorem dX8_advance_102 : decode cX8_advance 102 = .ok (.getfield 28, 3) := dc_180 (show ((cX8_advance.data.toList.drop 102).take 3).map UInt8.toNat = [180, 0, 28] by decide +kernel) rfl
theorem dX8_advance_105 : decode cX8_advance 105 = .ok (.iload 4, 2) := dc_21 (show ((cX8_advance.data.toList.drop 105).take 2).map UInt8.toNat = [21, 4] by decide +kernel) rfl
theorem dX8_advance_107 : decode cX8_advance 107 = .ok (.dup2, 1) := dc_92 (show ((cX8_advance.data.toList.drop 107).take 1).map UInt8.toNat = [92] by decide +kernel)
theorem dX8_advance_108 : decode cX8_advance 108 = .ok (.iaload, 1) := dc_46 (show ((cX8_advance.data.toList.drop 108).take 1).map UInt8.toNat = [46] by decide +kernel)
theorem dX8_advance_109 : decode cX8_advance 109 = .ok (.aload_n 0, 1) := dc_42 (show ((cX8_advance.data.toList.drop 109).take 1).map UInt8.toNat = [42] by decide +kernel)
theorem dX8_advance_110 : decode cX8_advance 110 = .ok (.getfield 18, 3) := dc_180 (show ((cX8_advance.data.toList.drop 110).take 3).map UInt8.toNat = [180, 0, 18] by decide +kernel) rfl
theorem dX8_advance_113 : decode cX8_advance 113 = .ok (.iload_n 1, 1) := dc_27 (show ((cX8_advance.data.toList.drop 113).take 1).map UInt8.toNat = [27] by decide +kernel)
theorem dX8_advance_114 : decode cX8_advance 114 = .ok (.iconst 5, 1) := dc_8 (show ((cX8_advance.data.toList.drop 114).take 1).map UInt8.toNat = [8] by decide +kernel)
theorem dX8_advance_115 : decode cX8_advance 115 = .ok (.imul, 1) := dc_104 (show ((cX8_advance.data.toList.drop 115).take 1).map UInt8.toNat = [104] by decide +kernel)
theorem dX8_advance_116 : decode cX8_advance 116 = .ok (.iload 4, 2) := dc_21 (show ((cX8_advance.data.toList.drop 116).take 2).map UInt8.toNat = [21, 4] by decide +kernel) rfl
theorem dX8_advance_118 : decode cX8_advance 118 = .ok (.iadd, 1) := dc_96 (show ((cX8_advance.data.toList.drop 118).take 1).map UInt8.toNat = [96] by decide +kernel)
theorem dX8_advance_119 : decode cX8_advance 119 = .ok (.iaload, 1) := dc_46 (show ((cX8_advance.data.toList.drop 119).take 1).map UInt8.toNat = [46] by decide +kernel)
theorem dX8_advance_120 : decode cX8_advance 120 = .ok (.iadd, 1) := dc_96 (show ((cX8_advance.data.toList.drop 120).take 1).map UInt8.toNat = [96] by decide +kernel)
theorem dX8_advance_121 : decode cX8_advance 121 = .ok (.iastore, 1) := dc_79 (show ((cX8_advance.data.toList.drop 121).take 1).map UInt8.toNat = [79] by decide +kernel)
theorem dX8_advance_122 : decode cX8_advance 122 = .ok (.aload_n 0, 1) := dc_42 (show ((cX8_advance.data.toList.drop 122).take 1).map UInt8.toNat = [42] by decide +kernel)
theorem dX8_advance_123 : decode cX8_advance 123 = .ok (.iload_n 2, 1) := dc_28 (show ((cX8_advance.data.toList.drop 123).take 1).map UInt8.toNat = [28] by decide +kernel)
theorem dX8_advance_124 : decode cX8_advance 124 = .ok (.invokevirtual 78, 3) := dc_182 (show ((cX8_advance.data.toList.drop 124).take 3).map UInt8.toNat = [182, 0, 78] by decide +kernel) rfl
theorem dX8_advance_127 : decode cX8_advance 127 = .ok (.aload_n 0, 1) := dc_42 (show ((cX8_advance.data.toList.drop 127).take 1).map UInt8.toNat = [42] by decide +kernel)
theorem dX8_advance_128 : decode cX8_advance 128 = .ok (.iload 4, 2) := dc_21 (show ((cX8_advance.data.toList.drop 128).take 2).map UInt8.toNat = [21, 4] by decide +kernel) rfl
theorem dX8_advance_130 : decode cX8_advance 130 = .ok (.invokevirtual 78, 3) := dc_182 (show ((cX8_advance.data.toList.drop 130).take 3).map UInt8.toNat = [182, 0, 78] by decide +kernel) rfl
theorem dX8_advance_133 : decode cX8_advance 133 = .ok (.iload_n 3, 1) := dc_29 (show ((cX8_advance.data.toList.drop 133).take 1).map UInt8.toNat = [29] by decide +kernel)
theorem dX8_advance_134 : decode cX8_advance 134 = .ok (.ifCond .ne 4, 3) := dc_154 (show ((cX8_advance.data.toList.drop 134).take 3).map UInt8.toNat = [154, 0, 4] by decide +kernel) rfl
theorem dX8_advance_138 : decode cX8_advance 138 = .ok (.iinc 1 (-1), 3) := dc_132 (show ((cX8_advance.data.toList.drop 138).take 3).map UInt8.toNat = [132, 1, 255] by decide +kernel) rfl
theorem dX8_advance_141 : decode cX8_advance 141 = .ok (.goto (-131), 3) := dc_167 (show ((cX8_advance.data.toList.drop 141).take 3).map UInt8.toNat = [167, 255, 125] by decide +kernel) rfl
theorem dX8_advance_137 : decode cX8_advance 137 = .ok (.return_, 1) := dc_177 (show ((cX8_advance.data.toList.drop 137).take 1).map UInt8.toNat = [177] by decide +kernel)
theorem dX8_advance_56 : decode cX8_advance 56 = .ok (.iconst 0, 1) := dc_3 (show ((cX8_advance.data.toList.drop 56).take 1).map UInt8.toNat = [3] by decide +kernel)
theorem dX8_advance_57 : decode cX8_advance 57 = .ok (.goto 11, 3) := dc_167 (show ((cX8_advance.data.toList.drop 57).take 3).map UInt8.toNat = [167, 0, 11] by decide +kernel) rfl
theorem dX8_advance_41 : decode cX8_advance 41 = .ok (.iconst 1, 1) := dc_4 (show ((cX8_advance.data.toList.drop 41).take 1).map UInt8.toNat = [4] by decide +kernel)
theorem dX8_advance_42 : decode cX8_advance 42 = .ok (.goto 4, 3) := dc_167 (show ((cX8_advance.data.toList.drop 42).take 3).map UInt8.toNat = [167, 0, 4] by decide +kernel) rfl
def cs_Sharing_advance_68 (n : Nat) (k10 : gb_S → Int32 → gb_CR Unit) (σ : gb_S) (v1 : Int32) (v2 : Int32) (v3 : Int32) (t0 : Int32) (t1 : Int32) : gb_CR Unit := gb_ck t1 8 (gb_lt (gb_su σ 125 (upd (σ.1 125) (Int32.toNatClampNeg t1) t0)) (fun s_19 => gb_ck v1 8 (gb_lt ((s_19.1 125) (Int32.toNatClampNeg v1)) (fun x_21 => gb_ck x_21 5 (gb_lt ((s_19.1 124) (Int32.toNatClampNeg x_21)) (fun x_23 => gb_ck v2 5 (gb_lt ((s_19.1 126) (Int32.toNatClampNeg v2)) (fun x_25 => gb_ck ((v1 * 5) + v2) 40 (gb_lt ((s_19.1 123) (Int32.toNatClampNeg ((v1 * 5) + v2))) (fun x_27 => gb_ck v2 5 (gb_lt (gb_su s_19 126 (upd (s_19.1 126) (Int32.toNatClampNeg v2) (x_25 - x_27))) (fun s_29 => gb_ck x_23 5 (gb_lt ((s_29.1 126) (Int32.toNatClampNeg x_23)) (fun x_31 => gb_ck ((v1 * 5) + x_23) 40 (gb_lt ((s_29.1 123) (Int32.toNatClampNeg ((v1 * 5) + x_23))) (fun x_33 => gb_ck x_23 5 (gb_lt (gb_su s_29 126 (upd (s_29.1 126) (Int32.toNatClampNeg x_23) (x_31 + x_33))) (fun s_35 => gb_cd (cs_Sharing_payAnew n s_35 v2) (fun s_36 _ => gb_cd (cs_Sharing_payAnew n s_36 x_23) (fun s_40 _ => (if v3 = 0 then some (s_40, ()) else gb_lt (v1 + (-1)) (fun x_45 => k10 s_40 x_45))))))))))))))))))))))
def cs_Sharing_advance_46 (n : Nat) (k10 : gb_S → Int32 → gb_CR Unit) (σ : gb_S) (v1 : Int32) (v2 : Int32) (t0 : Int32) : gb_CR Unit := (if t0 = 0 then gb_ck v1 8 (gb_lt ((σ.1 125) (Int32.toNatClampNeg v1)) (fun x_17 => cs_Sharing_advance_68 n k10 σ v1 v2 t0 (x_17 + 1) v1)) else cs_Sharing_advance_68 n k10 σ v1 v2 t0 0 v1)
def cs_Sharing_advance_10 (n : Nat) : Nat → gb_S → Int32 → gb_CR Unit
  | 0, _, _ => none
  | mm + 1, σ, v1 => (if v1 < 0 then some (σ, ()) else gb_ck v1 8 (gb_lt ((σ.1 125) (Int32.toNatClampNeg v1)) (fun x_9 => gb_ck x_9 5 (gb_lt ((σ.1 124) (Int32.toNatClampNeg x_9)) (fun x_11 => gb_ck v1 8 (gb_lt ((σ.1 125) (Int32.toNatClampNeg v1)) (fun x_13 => (if (x_13 + 1) < (σ.1 120 4) then cs_Sharing_advance_46 n (fun σ v1 => cs_Sharing_advance_10 n mm σ v1) σ v1 x_11 0 else cs_Sharing_advance_46 n (fun σ v1 => cs_Sharing_advance_10 n mm σ v1) σ v1 x_11 1))))))))
def cs_Sharing_advance (n : Nat) (σ : gb_S) : gb_CR Unit := gb_kk (gb_kB (σ.2.1 2)) (gb_cd (cs_Border_geese_B n σ (σ.2.1 2)) (fun s_2 r_3 => gb_lt (r_3 - 1) (fun x_6 => cs_Sharing_advance_10 n n s_2 x_6)))
set_option maxHeartbeats 8000000 in
set_option maxRecDepth 100000 in
theorem cc_Sharing_advance (l : Launch) (D : va_G) (cT : Nat → ClassId) (tt : Nat → Nat) (b1 b : Nat) (hb1 : b1 ≤ b) (n : Nat) (σ : gb_S) (σE : gb_S) (rE : Unit) (h : cs_Sharing_advance n σ = some (σE, rE)) : Met l yX8_advance (.code yX8_advance cX8_advance 5 none :: gb_wA) ({ frames := 4, cells := 0, slots := 0, locals := 89 }) (gb_Pc D cT tt b1 [.ref (b + 120)] (fun h => va_P D vwCl (gb_wl b (gb_CW cT b σ)) h)) (gb_Qv (fun h => va_P D vwCl (gb_wl b (gb_CW cT b σE)) h) (gb_fr b 135)) 0 0 (gb_fr b 135) := by
  refine Met.ofW (cc := cX8_advance) (maxL := 5) (ret := none) (by decide) rfl ?_
  intro p e s m args below meth c s₁ B hml hv
  obtain ⟨rfl, hSt, hP⟩ := hv
  have hx := B.exec
  have hb := B.bytes
  have hr := B.returns
  have hts := atoms_spec (ws := .code yX8_advance cX8_advance 5 none :: gb_wA) B.pre
  have hq : ∀ w ∈ gb_wA, w.before _ s = true := fun w h => hts w (List.mem_cons_of_mem _ h)
  have hown : s.vm.findClass RX8 = some m.cls := findClass_of_methodNamed B.named
  have hlocks := B.notSynchronized
  clear B hts
  have hK := hSt.1
  have hS : va_S (gb_fr b 135) s.heap s.heap [] := va_S.rf
  have hl := lv_entry ([.ref (b + 120)]) (n := 5) (Nat.le_of_ble_eq_true rfl)
  rw [lg_entry_eq]
  generalize (lg_sl ([.ref (b + 120)]) ++ List.replicate (5 - (lg_sl ([.ref (b + 120)])).length) Slot.unset).toArray = ls at hl ⊢
  replace hl : lv_has ls 5 [(0, .ref (b + 120))] := hl
  have L68_3 : ∀ (k10 : gb_S → Int32 → gb_CR Unit) (hk10 : ∀ (σ : gb_S) (v1 : Int32) (H : Heap) (locs : List Loc) (ls : Array Slot), k10 σ v1 = some (σE, rE) → va_P D vwCl (gb_wl b (gb_CW cT b σ)) H → va_S (gb_fr b 135) s.heap H locs → lv_has ls 5 [(0, .ref (b + 120)), (1, .int v1)] → W p l e (headSpec (.code yX8_advance cX8_advance 5 none :: gb_wA) ({ frames := 4, cells := 0, slots := 0, locals := 89 })).room s m ([.ref (b + 120)]).toArray below meth c H locs 0 0 (MQ below (gb_Qv (fun h => va_P D vwCl (gb_wl b (gb_CW cT b σE)) h) (gb_fr b 135)) ([.ref (b + 120)]).toArray s 0 0 (gb_fr b 135)) (F0 m 10 ls [])) (σ : gb_S) (v1 : Int32) (v2 : Int32) (v3 : Int32) (t0 : Int32) (t1 : Int32) (H : Heap) (locs : List Loc) (ls : Array Slot), cs_Sharing_advance_68 n k10 σ v1 v2 v3 t0 t1 = some (σE, rE) → va_P D vwCl (gb_wl b (gb_CW cT b σ)) H → va_S (gb_fr b 135) s.heap H locs → lv_has ls 5 [(0, .ref (b + 120)), (1, .int v1), (2, .int v2), (3, .int v3)] → W p l e (headSpec (.code yX8_advance cX8_advance 5 none :: gb_wA) ({ frames := 4, cells := 0, slots := 0, locals := 89 })).room s m ([.ref (b + 120)]).toArray below meth c H locs 0 0 (MQ below (gb_Qv (fun h => va_P D vwCl (gb_wl b (gb_CW cT b σE)) h) (gb_fr b 135)) ([.ref (b + 120)]).toArray s 0 0 (gb_fr b 135)) (F0 m 68 ls [.int t0, .int t1, .ref (b + 125)]) := by
    clear h hP hS hl ls
    intro k10 hk10 σ v1 v2 v3 t0 t1 H locs ls h hP hS hl
    unfold cs_Sharing_advance_68 at h
    obtain ⟨z_18, h⟩ := gb_ck_s h
    refine va_iast (x := t0) hx hb hK hP (gb_D (fun k h => ⟨Nat.le_add_right b k, Nat.add_lt_add_left h b⟩)) hS 125 0 (gb_at b rfl) rfl z_18 dX8_advance_68 (fun H locs hP hD hS => ?_)
    rw [gb_set] at hP
    obtain ⟨s_19, es_19⟩ : ∃ q, q = (gb_su σ 125 (upd (σ.1 125) (Int32.toNatClampNeg t1) t0)) := ⟨_, rfl⟩
    replace hP : va_P D vwCl (gb_wl b (gb_CW cT b s_19)) H := by rw [es_19]; exact hP
    replace h := gb_lt_s es_19 h
    refine lv_aload_n hx hb dX8_advance_69 rfl (lv_at hl 0 rfl) ?_
    refine va_get (ci := 7) (v := (.ref (b + 124))) (C := RX8) (T := TX8) (N := 11) hx hb hq i_X8 hown hK hP 120 (gb_at b rfl) rfl 3 (by decide) (hq _ w_254) (fun _ h9 => h9) rfl dX8_advance_70 ?_
    refine lv_aload_n hx hb dX8_advance_73 rfl (lv_at hl 0 rfl) ?_
    refine va_get (ci := 7) (v := (.ref (b + 125))) (C := RX8) (T := TX8) (N := 11) hx hb hq i_X8 hown hK hP 120 (gb_at b rfl) rfl 5 (by decide) (hq _ w_256) (fun _ h9 => h9) rfl dX8_advance_74 ?_
    refine lv_iload_n hx hb dX8_advance_77 rfl (lv_at hl 1 rfl) ?_
    obtain ⟨z_20, h⟩ := gb_ck_s h
    refine va_iald hx hb hK hP 125 0 (gb_at b rfl) rfl z_20 dX8_advance_78 ?_
    refine lv_topi (fun x_21 ex_21 => ?_)
    replace h := gb_lt_s ex_21 h
    obtain ⟨z_22, h⟩ := gb_ck_s h
    refine va_iald hx hb hK hP 124 0 (gb_at b rfl) rfl z_22 dX8_advance_79 ?_
    refine lv_topi (fun x_23 ex_23 => ?_)
    replace h := gb_lt_s ex_23 h
    refine lv_istore (lv' := [(4, .int x_23), (0, .ref (b + 120)), (1, .int v1), (2, .int v2), (3, .int v3)]) hx hb dX8_advance_80 hl (by decide) rfl (fun ls hl => ?_)
    refine lv_aload_n hx hb dX8_advance_82 rfl (lv_at hl 1 rfl) ?_
    refine va_get (ci := 7) (v := (.ref (b + 126))) (C := RX8) (T := TX8) (N := 11) hx hb hq i_X8 hown hK hP 120 (gb_at b rfl) rfl 6 (by decide) (hq _ w_257) (fun _ h9 => h9) rfl dX8_advance_83 ?_
    refine lv_iload_n hx hb dX8_advance_86 rfl (lv_at hl 3 rfl) ?_
    refine lv_dup2_11 hx hb dX8_advance_87 rfl rfl ?_
    obtain ⟨z_24, h⟩ := gb_ck_s h
    refine va_iald hx hb hK hP 126 0 (gb_at b rfl) rfl z_24 dX8_advance_88 ?_
    refine lv_topi (fun x_25 ex_25 => ?_)
    replace h := gb_lt_s ex_25 h
    refine lv_aload_n hx hb dX8_advance_89 rfl (lv_at hl 1 rfl) ?_
    refine va_get (ci := 7) (v := (.ref (b + 123))) (C := RX8) (T := TX8) (N := 11) hx hb hq i_X8 hown hK hP 120 (gb_at b rfl) rfl 2 (by decide) (hq _ w_253) (fun _ h9 => h9) rfl dX8_advance_90 ?_
    refine lv_iload_n hx hb dX8_advance_93 rfl (lv_at hl 2 rfl) ?_
    refine lv_iconst (v := 5) hx hb dX8_advance_94 (by decide) ?_
    refine lv_imul hx hb dX8_advance_95 ?_
    refine lv_iload_n hx hb dX8_advance_96 rfl (lv_at hl 3 rfl) ?_
    refine lv_iadd hx hb dX8_advance_97 ?_
    obtain ⟨z_26, h⟩ := gb_ck_s h
    refine va_iald hx hb hK hP 123 0 (gb_at b rfl) rfl z_26 dX8_advance_98 ?_
    refine lv_topi (fun x_27 ex_27 => ?_)
    replace h := gb_lt_s ex_27 h
    refine lv_isub hx hb dX8_advance_99 ?_
    obtain ⟨z_28, h⟩ := gb_ck_s h
    refine va_iast (x := (x_25 - x_27)) hx hb hK hP (gb_D (fun k h => ⟨Nat.le_add_right b k, Nat.add_lt_add_left h b⟩)) hS 126 0 (gb_at b rfl) rfl z_28 dX8_advance_100 (fun H locs hP hD hS => ?_)
    rw [gb_set] at hP
    obtain ⟨s_29, es_29⟩ : ∃ q, q = (gb_su s_19 126 (upd (s_19.1 126) (Int32.toNatClampNeg v2) (x_25 - x_27))) := ⟨_, rfl⟩
    replace hP : va_P D vwCl (gb_wl b (gb_CW cT b s_29)) H := by rw [es_29]; exact hP
    replace h := gb_lt_s es_29 h
    refine lv_aload_n hx hb dX8_advance_101 rfl (lv_at hl 1 rfl) ?_
    refine va_get (ci := 7) (v := (.ref (b + 126))) (C := RX8) (T := TX8) (N := 11) hx hb hq i_X8 hown hK hP 120 (gb_at b rfl) rfl 6 (by decide) (hq _ w_257) (fun _ h9 => h9) rfl dX8_advance_102 ?_
    refine lv_iload hx hb dX8_advance_105 (lv_at hl 0 rfl) ?_
    refine lv_dup2_11 hx hb dX8_advance_107 rfl rfl ?_
    obtain ⟨z_30, h⟩ := gb_ck_s h
    refine va_iald hx hb hK hP 126 0 (gb_at b rfl) rfl z_30 dX8_advance_108 ?_
    refine lv_topi (fun x_31 ex_31 => ?_)
    replace h := gb_lt_s ex_31 h
    refine lv_aload_n hx hb dX8_advance_109 rfl (lv_at hl 1 rfl) ?_
    refine va_get (ci := 7) (v := (.ref (b + 123))) (C := RX8) (T := TX8) (N := 11) hx hb hq i_X8 hown hK hP 120 (gb_at b rfl) rfl 2 (by decide) (hq _ w_253) (fun _ h9 => h9) rfl dX8_advance_110 ?_
    refine lv_iload_n hx hb dX8_advance_113 rfl (lv_at hl 2 rfl) ?_
    refine lv_iconst (v := 5) hx hb dX8_advance_114 (by decide) ?_
    refine lv_imul hx hb dX8_advance_115 ?_
    refine lv_iload hx hb dX8_advance_116 (lv_at hl 0 rfl) ?_
    refine lv_iadd hx hb dX8_advance_118 ?_
    obtain ⟨z_32, h⟩ := gb_ck_s h
    refine va_iald hx hb hK hP 123 0 (gb_at b rfl) rfl z_32 dX8_advance_119 ?_
    refine lv_topi (fun x_33 ex_33 => ?_)
    replace h := gb_lt_s ex_33 h
    refine lv_iadd hx hb dX8_advance_120 ?_
    obtain ⟨z_34, h⟩ := gb_ck_s h
    refine va_iast (x := (x_31 + x_33)) hx hb hK hP (gb_D (fun k h => ⟨Nat.le_add_right b k, Nat.add_lt_add_left h b⟩)) hS 126 0 (gb_at b rfl) rfl z_34 dX8_advance_121 (fun H locs hP hD hS => ?_)
    rw [gb_set] at hP
    obtain ⟨s_35, es_35⟩ : ∃ q, q = (gb_su s_29 126 (upd (s_29.1 126) (Int32.toNatClampNeg x_23) (x_31 + x_33))) := ⟨_, rfl⟩
    replace hP : va_P D vwCl (gb_wl b (gb_CW cT b s_35)) H := by rw [es_35]; exact hP
    replace h := gb_lt_s es_35 h
    refine lv_aload_n hx hb dX8_advance_122 rfl (lv_at hl 1 rfl) ?_
    refine lv_iload_n hx hb dX8_advance_123 rfl (lv_at hl 3 rfl) ?_
    obtain ⟨s_36, r_37, z_38, h⟩ := gb_cd_s h
    refine gb_callv (va_runV (C := RX8) (As := [.int v2]) (rest := []) ⟨hx, hb, hml, hown, hq⟩ (cc_Sharing_payAnew l D cT tt b1 b hb1 n s_35 v2 s_36 r_37 z_38) (cwV 1 hq (gb_gV w_905 w_907 s_2_5 w_12 w_908) rfl rfl rfl (by decide +kernel) ⟨Nat.le_of_ble_eq_true rfl, Nat.le_of_ble_eq_true rfl⟩) (gb_preV (r := (RX8, TX8, 11)) (ci := 7) (q0 := 120) hSt hP rfl (gb_at b rfl) hS (fun q h => Nat.le_trans hb1 h.1) hP) rfl rfl hl.1 rfl (lv_room (Nat.le_of_ble_eq_true rfl)) dX8_advance_124 ⟨Nat.le_of_ble_eq_true rfl, Nat.le_of_ble_eq_true rfl⟩) hS (fun _ h => h) (fun _ h => h) (fun H locs hY hk hS => ?_)
    have hP := hY
    refine lv_aload_n hx hb dX8_advance_127 rfl (lv_at hl 1 rfl) ?_
    refine lv_iload hx hb dX8_advance_128 (lv_at hl 0 rfl) ?_
    obtain ⟨s_40, r_41, z_42, h⟩ := gb_cd_s h
    refine gb_callv (va_runV (C := RX8) (As := [.int x_23]) (rest := []) ⟨hx, hb, hml, hown, hq⟩ (cc_Sharing_payAnew l D cT tt b1 b hb1 n s_36 x_23 s_40 r_41 z_42) (cwV 1 hq (gb_gV w_905 w_907 s_2_5 w_12 w_908) rfl rfl rfl (by decide +kernel) ⟨Nat.le_of_ble_eq_true rfl, Nat.le_of_ble_eq_true rfl⟩) (gb_preV (r := (RX8, TX8, 11)) (ci := 7) (q0 := 120) hSt hP rfl (gb_at b rfl) hS (fun q h => Nat.le_trans hb1 h.1) hP) rfl rfl hl.1 rfl (lv_room (Nat.le_of_ble_eq_true rfl)) dX8_advance_130 ⟨Nat.le_of_ble_eq_true rfl, Nat.le_of_ble_eq_true rfl⟩) hS (fun _ h => h) (fun _ h => h) (fun H locs hY hk hS => ?_)
    have hP := hY
    refine lv_iload_n hx hb dX8_advance_133 rfl (lv_at hl 4 rfl) ?_
    refine lv_if_ne (tgt := 138) hx hb dX8_advance_134 (by decide) (fun c_44 => ?_) (fun c_44 => ?_)
    · rw [if_neg c_44] at h
      obtain ⟨x_45, ex_45⟩ : ∃ q, q = (v1 + (-1)) := ⟨_, rfl⟩
      replace h := gb_lt_s ex_45 h
      refine lv_iinc (v := x_45) (lv' := [(1, .int x_45), (4, .int x_23), (0, .ref (b + 120)), (2, .int v2), (3, .int v3)]) hx hb dX8_advance_138 hl (k := 2) rfl (by rw [ex_45]; rfl) (by decide) rfl (fun ls hl => ?_)
      refine lv_goto (tgt := 10) hx hb dX8_advance_141 (by decide) ?_
      exact hk10 _ _ _ _ _ h hP hS (lv_sub hl [2, 0] rfl)
    · rw [if_pos c_44] at h
      obtain ⟨e1, -⟩ := gb_eq2 h
      exact W.vret hx hb hr (fun t ht hW => gb_rv ht (by rw [← e1]; exact hP) hS) hS.2.2 dX8_advance_137
  have L46_2 : ∀ (k10 : gb_S → Int32 → gb_CR Unit) (hk10 : ∀ (σ : gb_S) (v1 : Int32) (H : Heap) (locs : List Loc) (ls : Array Slot), k10 σ v1 = some (σE, rE) → va_P D vwCl (gb_wl b (gb_CW cT b σ)) H → va_S (gb_fr b 135) s.heap H locs → lv_has ls 5 [(0, .ref (b + 120)), (1, .int v1)] → W p l e (headSpec (.code yX8_advance cX8_advance 5 none :: gb_wA) ({ frames := 4, cells := 0, slots := 0, locals := 89 })).room s m ([.ref (b + 120)]).toArray below meth c H locs 0 0 (MQ below (gb_Qv (fun h => va_P D vwCl (gb_wl b (gb_CW cT b σE)) h) (gb_fr b 135)) ([.ref (b + 120)]).toArray s 0 0 (gb_fr b 135)) (F0 m 10 ls [])) (σ : gb_S) (v1 : Int32) (v2 : Int32) (t0 : Int32) (H : Heap) (locs : List Loc) (ls : Array Slot), cs_Sharing_advance_46 n k10 σ v1 v2 t0 = some (σE, rE) → va_P D vwCl (gb_wl b (gb_CW cT b σ)) H → va_S (gb_fr b 135) s.heap H locs → lv_has ls 5 [(0, .ref (b + 120)), (1, .int v1), (2, .int v2)] → W p l e (headSpec (.code yX8_advance cX8_advance 5 none :: gb_wA) ({ frames := 4, cells := 0, slots := 0, locals := 89 })).room s m ([.ref (b + 120)]).toArray below meth c H locs 0 0 (MQ below (gb_Qv (fun h => va_P D vwCl (gb_wl b (gb_CW cT b σE)) h) (gb_fr b 135)) ([.ref (b + 120)]).toArray s 0 0 (gb_fr b 135)) (F0 m 46 ls [.int t0]) := by
    clear h hP hS hl ls
    intro k10 hk10 σ v1 v2 t0 H locs ls h hP hS hl
    unfold cs_Sharing_advance_46 at h
    refine lv_istore_n (lv' := [(3, .int t0), (0, .ref (b + 120)), (1, .int v1), (2, .int v2)]) hx hb dX8_advance_46 rfl hl (by decide) rfl (fun ls hl => ?_)
    refine lv_aload_n hx hb dX8_advance_47 rfl (lv_at hl 1 rfl) ?_
    refine va_get (ci := 7) (v := (.ref (b + 125))) (C := RX8) (T := TX8) (N := 11) hx hb hq i_X8 hown hK hP 120 (gb_at b rfl) rfl 5 (by decide) (hq _ w_256) (fun _ h9 => h9) rfl dX8_advance_48 ?_
    refine lv_iload_n hx hb dX8_advance_51 rfl (lv_at hl 2 rfl) ?_
    refine lv_iload_n hx hb dX8_advance_52 rfl (lv_at hl 0 rfl) ?_
    refine lv_if_eq (tgt := 60) hx hb dX8_advance_53 (by decide) (fun c_15 => ?_) (fun c_15 => ?_)
    · rw [if_pos c_15] at h
      refine lv_aload_n hx hb dX8_advance_60 rfl (lv_at hl 1 rfl) ?_
      refine va_get (ci := 7) (v := (.ref (b + 125))) (C := RX8) (T := TX8) (N := 11) hx hb hq i_X8 hown hK hP 120 (gb_at b rfl) rfl 5 (by decide) (hq _ w_256) (fun _ h9 => h9) rfl dX8_advance_61 ?_
      refine lv_iload_n hx hb dX8_advance_64 rfl (lv_at hl 2 rfl) ?_
      obtain ⟨z_16, h⟩ := gb_ck_s h
      refine va_iald hx hb hK hP 125 0 (gb_at b rfl) rfl z_16 dX8_advance_65 ?_
      refine lv_topi (fun x_17 ex_17 => ?_)
      replace h := gb_lt_s ex_17 h
      refine lv_iconst (v := 1) hx hb dX8_advance_66 (by decide) ?_
      refine lv_iadd hx hb dX8_advance_67 ?_
      exact L68_3 k10 hk10 _ _ _ _ _ _ _ _ _ h hP hS (lv_sub hl [1, 2, 3, 0] rfl)
    · rw [if_neg c_15] at h
      refine lv_iconst (v := 0) hx hb dX8_advance_56 (by decide) ?_
      refine lv_goto (tgt := 68) hx hb dX8_advance_57 (by decide) ?_
      exact L68_3 k10 hk10 _ _ _ _ _ _ _ _ _ h hP hS (lv_sub hl [1, 2, 3, 0] rfl)
  have L10_1 : ∀ (mm : Nat) (σ : gb_S) (v1 : Int32) (H : Heap) (locs : List Loc) (ls : Array Slot), cs_Sharing_advance_10 n mm σ v1 = some (σE, rE) → va_P D vwCl (gb_wl b (gb_CW cT b σ)) H → va_S (gb_fr b 135) s.heap H locs → lv_has ls 5 [(0, .ref (b + 120)), (1, .int v1)] → W p l e (headSpec (.code yX8_advance cX8_advance 5 none :: gb_wA) ({ frames := 4, cells := 0, slots := 0, locals := 89 })).room s m ([.ref (b + 120)]).toArray below meth c H locs 0 0 (MQ below (gb_Qv (fun h => va_P D vwCl (gb_wl b (gb_CW cT b σE)) h) (gb_fr b 135)) ([.ref (b + 120)]).toArray s 0 0 (gb_fr b 135)) (F0 m 10 ls []) := by
    clear h hP hS hl ls
    intro mm
    induction mm with
    | zero =>
      intro σ v1 H locs ls h
      cases h
    | succ mm ih =>
      intro σ v1 H locs ls h hP hS hl
      rw [cs_Sharing_advance_10] at h
      refine lv_iload_n hx hb dX8_advance_10 rfl (lv_at hl 1 rfl) ?_
      refine lv_if_lt (tgt := 144) hx hb dX8_advance_11 (by decide) (fun c_7 => ?_) (fun c_7 => ?_)
      · rw [if_pos c_7] at h
        obtain ⟨e1, -⟩ := gb_eq2 h
        exact W.vret hx hb hr (fun t ht hW => gb_rv ht (by rw [← e1]; exact hP) hS) hS.2.2 dX8_advance_144
      · rw [if_neg c_7] at h
        refine lv_aload_n hx hb dX8_advance_14 rfl (lv_at hl 0 rfl) ?_
        refine va_get (ci := 7) (v := (.ref (b + 124))) (C := RX8) (T := TX8) (N := 11) hx hb hq i_X8 hown hK hP 120 (gb_at b rfl) rfl 3 (by decide) (hq _ w_254) (fun _ h9 => h9) rfl dX8_advance_15 ?_
        refine lv_aload_n hx hb dX8_advance_18 rfl (lv_at hl 0 rfl) ?_
        refine va_get (ci := 7) (v := (.ref (b + 125))) (C := RX8) (T := TX8) (N := 11) hx hb hq i_X8 hown hK hP 120 (gb_at b rfl) rfl 5 (by decide) (hq _ w_256) (fun _ h9 => h9) rfl dX8_advance_19 ?_
        refine lv_iload_n hx hb dX8_advance_22 rfl (lv_at hl 1 rfl) ?_
        obtain ⟨z_8, h⟩ := gb_ck_s h
        refine va_iald hx hb hK hP 125 0 (gb_at b rfl) rfl z_8 dX8_advance_23 ?_
        refine lv_topi (fun x_9 ex_9 => ?_)
        replace h := gb_lt_s ex_9 h
        obtain ⟨z_10, h⟩ := gb_ck_s h
        refine va_iald hx hb hK hP 124 0 (gb_at b rfl) rfl z_10 dX8_advance_24 ?_
        refine lv_topi (fun x_11 ex_11 => ?_)
        replace h := gb_lt_s ex_11 h
        refine lv_istore_n (lv' := [(2, .int x_11), (0, .ref (b + 120)), (1, .int v1)]) hx hb dX8_advance_25 rfl hl (by decide) rfl (fun ls hl => ?_)
        refine lv_aload_n hx hb dX8_advance_26 rfl (lv_at hl 1 rfl) ?_
        refine va_get (ci := 7) (v := (.ref (b + 125))) (C := RX8) (T := TX8) (N := 11) hx hb hq i_X8 hown hK hP 120 (gb_at b rfl) rfl 5 (by decide) (hq _ w_256) (fun _ h9 => h9) rfl dX8_advance_27 ?_
        refine lv_iload_n hx hb dX8_advance_30 rfl (lv_at hl 2 rfl) ?_
        obtain ⟨z_12, h⟩ := gb_ck_s h
        refine va_iald hx hb hK hP 125 0 (gb_at b rfl) rfl z_12 dX8_advance_31 ?_
        refine lv_topi (fun x_13 ex_13 => ?_)
        replace h := gb_lt_s ex_13 h
        refine lv_iconst (v := 1) hx hb dX8_advance_32 (by decide) ?_
        refine lv_iadd hx hb dX8_advance_33 ?_
        refine lv_aload_n hx hb dX8_advance_34 rfl (lv_at hl 1 rfl) ?_
        refine va_get (ci := 7) (v := (.int (σ.1 120 4))) (C := RX8) (T := TX8) (N := 11) hx hb hq i_X8 hown hK hP 120 (gb_at b rfl) rfl 4 (by decide) (hq _ w_255) (fun _ h9 => h9) rfl dX8_advance_35 ?_
        refine lv_icmp_lt (tgt := 45) hx hb dX8_advance_38 (by decide) (fun c_14 => ?_) (fun c_14 => ?_)
        · rw [if_pos c_14] at h
          refine lv_iconst (v := 0) hx hb dX8_advance_45 (by decide) ?_
          exact L46_2 _ ih _ _ _ _ _ _ _ h hP hS (lv_sub hl [1, 2, 0] rfl)
        · rw [if_neg c_14] at h
          refine lv_iconst (v := 1) hx hb dX8_advance_41 (by decide) ?_
          refine lv_goto (tgt := 46) hx hb dX8_advance_42 (by decide) ?_
          exact L46_2 _ ih _ _ _ _ _ _ _ h hP hS (lv_sub hl [1, 2, 0] rfl)
  unfold cs_Sharing_advance at h
  refine lv_aload_n hx hb dX8_advance_0 rfl (lv_at hl 0 rfl) ?_
  obtain ⟨z_1, h⟩ := gb_kk_s h
  refine va_get (ci := 7) (v := (.ref (b + (σ.2.1 2)))) (C := RX8) (T := TX8) (N := 11) hx hb hq i_X8 hown hK hP 120 (gb_at b rfl) rfl 0 (by decide) (hq _ w_251) (fun _ h9 => h9) rfl dX8_advance_1 ?_
  obtain ⟨s_2, r_3, z_4, h⟩ := gb_cd_s h
  refine gb_calli (va_runV (C := RX0) (As := []) (rest := []) ⟨hx, hb, hml, hown, hq⟩ (cc_Border_geese_B l D cT tt b1 b hb1 n σ (σ.2.1 2) s_2 r_3 z_4) (cwV 0 hq (gb_gV w_889 w_477 w_478 w_4 w_479) rfl rfl rfl (by decide +kernel) ⟨Nat.le_of_ble_eq_true rfl, Nat.le_of_ble_eq_true rfl⟩) (gb_preV (r := (RX0, TX0, 1)) (ci := 0) (q0 := (σ.2.1 2)) hSt hP rfl (gb_at b (gb_cB z_1).1) hS (fun q h => Nat.le_trans hb1 h.1) hP) rfl rfl hl.1 rfl (lv_room (Nat.le_of_ble_eq_true rfl)) dX8_advance_4 ⟨Nat.le_of_ble_eq_true rfl, Nat.le_of_ble_eq_true rfl⟩) hS (fun _ h => h) (fun _ h => h) (fun q_5 H locs hY hk hS => ?_)
  obtain ⟨hq_5, hP⟩ := hY
  replace hq_5 := hq_5.symm
  subst hq_5
  refine lv_iconst (v := 1) hx hb dX8_advance_7 (by decide) ?_
  refine lv_isub hx hb dX8_advance_8 ?_
  refine lv_topi (fun x_6 ex_6 => ?_)
  replace h := gb_lt_s ex_6 h
  refine lv_istore_n (lv' := [(1, .int x_6), (0, .ref (b + 120))]) hx hb dX8_advance_9 rfl hl (by decide) rfl (fun ls hl => ?_)
  exact L10_1 n _ _ _ _ _ h hP hS (lv_sub hl [1, 0] rfl)
theorem w_930 : (Cond.code ({ cls := "GooseBorder$Sharing", name := "advance", desc := "()V" } : MethodName) prog_10_method_6_code (5 : Nat) (Option.none : Option FieldType)) ∈ gb_wA := gb_t4 210 rfl rfl
theorem w_927 : (Cond.methodLink "GooseBorder$Sharing" (71 : Nat) ({ cls := "GooseBorder$Sharing", name := "advance", desc := "()V" } : MethodName)) ∈ gb_wA := gb_t4 207 rfl rfl
theorem w_929 : (Cond.instanceMethod ({ cls := "GooseBorder$Sharing", name := "advance", desc := "()V" } : MethodName)) ∈ gb_wA := gb_t4 209 rfl rfl
theorem s_2_9 : Cond.selects "GooseBorder$Sharing" (⟨"GooseBorder$Sharing", "advance", "()V"⟩ : MethodName) (⟨"GooseBorder$Sharing", "advance", "()V"⟩ : MethodName) ∈ gb_wA := gb_s2 9 rfl rfl
theorem dX8_solve_104 : decode cX8_solve 104 = .ok (.iinc 5 1, 3) := dc_132 (show ((cX8_solve.data.toList.drop 104).take 3).map UInt8.toNat = [132, 5, 1] by decide +kernel) rfl
theorem dX8_solve_107 : decode cX8_solve 107 = .ok (.goto (-59), 3) := dc_167 (show ((cX8_solve.data.toList.drop 107).take 3).map UInt8.toNat = [167, 255, 197] by decide +kernel) rfl
theorem dX8_solve_81 : decode cX8_solve 81 = .ok (.iload 6, 2) := dc_21 (show ((cX8_solve.data.toList.drop 81).take 2).map UInt8.toNat = [21, 6] by decide +kernel) rfl
theorem dX8_solve_83 : decode cX8_solve 83 = .ok (.aload_n 0, 1) := dc_42 (show ((cX8_solve.data.toList.drop 83).take 1).map UInt8.toNat = [42] by decide +kernel)
theorem dX8_solve_84 : decode cX8_solve 84 = .ok (.getfield 47, 3) := dc_180 (show ((cX8_solve.data.toList.drop 84).take 3).map UInt8.toNat = [180, 0, 47] by decide +kernel) rfl
theorem dX8_solve_87 : decode cX8_solve 87 = .ok (.if_icmp .le 13, 3) := dc_164 (show ((cX8_solve.data.toList.drop 87).take 3).map UInt8.toNat = [164, 0, 13] by decide +kernel) rfl
theorem dX8_solve_70 : decode cX8_solve 70 = .ok (.aload_n 0, 1) := dc_42 (show ((cX8_solve.data.toList.drop 70).take 1).map UInt8.toNat = [42] by decide +kernel)
theorem dX8_solve_71 : decode cX8_solve 71 = .ok (.invokevirtual 65, 3) := dc_182 (show ((cX8_solve.data.toList.drop 71).take 3).map UInt8.toNat = [182, 0, 65] by decide +kernel) rfl
theorem dX8_together_0 : decode cX8_together 0 = .ok (.iconst 0, 1) := dc_3 (show ((cX8_together.data.toList.drop 0).take 1).map UInt8.toNat = [3] by decide +kernel)
theorem dX8_together_1 : decode cX8_together 1 = .ok (.istore_n 1, 1) := dc_60 (show ((cX8_together.data.toList.drop 1).take 1).map UInt8.toNat = [60] by decide +kernel)
theorem dX8_together_2 : decode cX8_together 2 = .ok (.iconst 0, 1) := dc_3 (show ((cX8_together.data.toList.drop 2).take 1).map UInt8.toNat = [3] by decide +kernel)
theorem dX8_together_3 : decode cX8_together 3 = .ok (.istore_n 2, 1) := dc_61 (show ((cX8_together.data.toList.drop 3).take 1).map UInt8.toNat = [61] by decide +kernel)
theorem dX8_together_4 : decode cX8_together 4 = .ok (.iload_n 2, 1) := dc_28 (show ((cX8_together.data.toList.drop 4).take 1).map UInt8.toNat = [28] by decide +kernel)
theorem dX8_together_5 : decode cX8_together 5 = .ok (.aload_n 0, 1) := dc_42 (show ((cX8_together.data.toList.drop 5).take 1).map UInt8.toNat = [42] by decide +kernel)
theorem dX8_together_6 : decode cX8_together 6 = .ok (.getfield 55, 3) := dc_180 (show ((cX8_together.data.toList.drop 6).take 3).map UInt8.toNat = [180, 0, 55] by decide +kernel) rfl
theorem dX8_together_9 : decode cX8_together 9 = .ok (.if_icmp .ge 23, 3) := dc_162 (show ((cX8_together.data.toList.drop 9).take 3).map UInt8.toNat = [162, 0, 23] by decide +kernel) rfl
theorem dX8_together_32 : decode cX8_together 32 = .ok (.iload_n 1, 1) := dc_27 (show ((cX8_together.data.toList.drop 32).take 1).map UInt8.toNat = [27] by decide +kernel)
theorem dX8_together_33 : decode cX8_together 33 = .ok (.ireturn, 1) := dc_172 (show ((cX8_together.data.toList.drop 33).take 1).map UInt8.toNat = [172] by decide +kernel)
theorem dX8_together_12 : decode cX8_together 12 = .ok (.iload_n 1, 1) := dc_27 (show ((cX8_together.data.toList.drop 12).take 1).map UInt8.toNat = [27] by decide +kernel)
theorem dX8_together_13 : decode cX8_together 13 = .ok (.aload_n 0, 1) := dc_42 (show ((cX8_together.data.toList.drop 13).take 1).map UInt8.toNat = [42] by decide +kernel)
theorem dX8_together_14 : decode cX8_together 14 = .ok (.getfield 31, 3) := dc_180 (show ((cX8_together.data.toList.drop 14).take 3).map UInt8.toNat = [180, 0, 31] by decide +kernel) rfl
theorem dX8_together_17 : decode cX8_together 17 = .ok (.aload_n 0, 1) := dc_42 (show ((cX8_together.data.toList.drop 17).take 1).map UInt8.toNat = [42] by decide +kernel)
theorem dX8_together_18 : decode cX8_together 18 = .ok (.getfield 22, 3) := dc_180 (show ((cX8_together.data.toList.drop 18).take 3).map UInt8.toNat = [180, 0, 22] by decide +kernel) rfl
theorem dX8_together_21 : decode cX8_together 21 = .ok (.iload_n 2, 1) := dc_28 (show ((cX8_together.data.toList.drop 21).take 1).map UInt8.toNat = [28] by decide +kernel)
theorem dX8_together_22 : decode cX8_together 22 = .ok (.iaload, 1) := dc_46 (show ((cX8_together.data.toList.drop 22).take 1).map UInt8.toNat = [46] by decide +kernel)
theorem dX8_together_23 : decode cX8_together 23 = .ok (.iaload, 1) := dc_46 (show ((cX8_together.data.toList.drop 23).take 1).map UInt8.toNat = [46] by decide +kernel)
theorem dX8_together_24 : decode cX8_together 24 = .ok (.iadd, 1) := dc_96 (show ((cX8_together.data.toList.drop 24).take 1).map UInt8.toNat = [96] by decide +kernel)
theorem dX8_together_25 : decode cX8_together 25 = .ok (.istore_n 1, 1) := dc_60 (show ((cX8_together.data.toList.drop 25).take 1).map UInt8.toNat = [60] by decide +kernel)
theorem dX8_together_26 : decode cX8_together 26 = .ok (.iinc 2 1, 3) := dc_132 (show ((cX8_together.data.toList.drop 26).take 3).map UInt8.toNat = [132, 2, 1] by decide +kernel) rfl
theorem dX8_together_29 : decode cX8_together 29 = .ok (.goto (-25), 3) := dc_167 (show ((cX8_together.data.toList.drop 29).take 3).map UInt8.toNat = [167, 255, 231] by decide +kernel) rfl
def cs_Sharing_together_4 (n : Nat) : Nat → gb_S → Int32 → Int32 → gb_CR Int32
  | 0, _, _, _ => none
  | mm + 1, σ, v1, v2 => (if (σ.1 120 4) ≤ v2 then some (σ, v1) else gb_ck v2 5 (gb_lt ((σ.1 124) (Int32.toNatClampNeg v2)) (fun x_3 => gb_ck x_3 5 (gb_lt ((σ.1 127) (Int32.toNatClampNeg x_3)) (fun x_5 => gb_lt (v1 + x_5) (fun x_6 => gb_lt (v2 + 1) (fun x_7 => cs_Sharing_together_4 n mm σ x_6 x_7)))))))
def cs_Sharing_together (n : Nat) (σ : gb_S) : gb_CR Int32 := cs_Sharing_together_4 n n σ 0 0
set_option maxHeartbeats 8000000 in
set_option maxRecDepth 100000 in
theorem cc_Sharing_together (l : Launch) (D : va_G) (cT : Nat → ClassId) (tt : Nat → Nat) (b1 b : Nat) (hb1 : b1 ≤ b) (n : Nat) (σ : gb_S) (σE : gb_S) (rE : Int32) (h : cs_Sharing_together n σ = some (σE, rE)) : Met l yX8_together (.code yX8_together cX8_together 3 (some FieldType.int) :: gb_wA) ({ frames := 0, cells := 0, slots := 0, locals := 0 }) (gb_Pc D cT tt b1 [.ref (b + 120)] (fun h => va_P D vwCl (gb_wl b (gb_CW cT b σ)) h)) (gb_Qi (fun r h => r = rE ∧ va_P D vwCl (gb_wl b (gb_CW cT b σE)) h) (gb_fr b 135)) 0 0 (gb_fr b 135) := by
  refine Met.ofW (cc := cX8_together) (maxL := 3) (ret := (some FieldType.int)) (by decide) rfl ?_
  intro p e s m args below meth c s₁ B hml hv
  obtain ⟨rfl, hSt, hP⟩ := hv
  have hx := B.exec
  have hb := B.bytes
  have hr := B.returns
  have hts := atoms_spec (ws := .code yX8_together cX8_together 3 (some FieldType.int) :: gb_wA) B.pre
  have hq : ∀ w ∈ gb_wA, w.before _ s = true := fun w h => hts w (List.mem_cons_of_mem _ h)
  have hown : s.vm.findClass RX8 = some m.cls := findClass_of_methodNamed B.named
  have hlocks := B.notSynchronized
  clear B hts
  have hK := hSt.1
  have hS : va_S (gb_fr b 135) s.heap s.heap [] := va_S.rf
  have hl := lv_entry ([.ref (b + 120)]) (n := 3) (Nat.le_of_ble_eq_true rfl)
  rw [lg_entry_eq]
  generalize (lg_sl ([.ref (b + 120)]) ++ List.replicate (3 - (lg_sl ([.ref (b + 120)])).length) Slot.unset).toArray = ls at hl ⊢
  replace hl : lv_has ls 3 [(0, .ref (b + 120))] := hl
  have L4_1 : ∀ (mm : Nat) (σ : gb_S) (v1 : Int32) (v2 : Int32) (H : Heap) (locs : List Loc) (ls : Array Slot), cs_Sharing_together_4 n mm σ v1 v2 = some (σE, rE) → va_P D vwCl (gb_wl b (gb_CW cT b σ)) H → va_S (gb_fr b 135) s.heap H locs → lv_has ls 3 [(0, .ref (b + 120)), (1, .int v1), (2, .int v2)] → W p l e (headSpec (.code yX8_together cX8_together 3 (some FieldType.int) :: gb_wA) ({ frames := 0, cells := 0, slots := 0, locals := 0 })).room s m ([.ref (b + 120)]).toArray below meth c H locs 0 0 (MQ below (gb_Qi (fun r h => r = rE ∧ va_P D vwCl (gb_wl b (gb_CW cT b σE)) h) (gb_fr b 135)) ([.ref (b + 120)]).toArray s 0 0 (gb_fr b 135)) (F0 m 4 ls []) := by
    clear h hP hS hl ls
    intro mm
    induction mm with
    | zero =>
      intro σ v1 v2 H locs ls h
      cases h
    | succ mm ih =>
      intro σ v1 v2 H locs ls h hP hS hl
      rw [cs_Sharing_together_4] at h
      refine lv_iload_n hx hb dX8_together_4 rfl (lv_at hl 2 rfl) ?_
      refine lv_aload_n hx hb dX8_together_5 rfl (lv_at hl 0 rfl) ?_
      refine va_get (ci := 7) (v := (.int (σ.1 120 4))) (C := RX8) (T := TX8) (N := 11) hx hb hq i_X8 hown hK hP 120 (gb_at b rfl) rfl 4 (by decide) (hq _ w_255) (fun _ h9 => h9) rfl dX8_together_6 ?_
      refine lv_icmp_ge (tgt := 32) hx hb dX8_together_9 (by decide) (fun c_1 => ?_) (fun c_1 => ?_)
      · rw [if_pos c_1] at h
        refine lv_iload_n hx hb dX8_together_32 rfl (lv_at hl 1 rfl) ?_
        obtain ⟨e1, e2⟩ := gb_eq2 h
        exact W.iret (v := v1) hx hb hr (fun t ht hW => gb_ri ht ⟨e2, by rw [← e1]; exact hP⟩ hS) hS.2.2 dX8_together_33
      · rw [if_neg c_1] at h
        refine lv_iload_n hx hb dX8_together_12 rfl (lv_at hl 1 rfl) ?_
        refine lv_aload_n hx hb dX8_together_13 rfl (lv_at hl 0 rfl) ?_
        refine va_get (ci := 7) (v := (.ref (b + 127))) (C := RX8) (T := TX8) (N := 11) hx hb hq i_X8 hown hK hP 120 (gb_at b rfl) rfl 7 (by decide) (hq _ w_258) (fun _ h9 => h9) rfl dX8_together_14 ?_
        refine lv_aload_n hx hb dX8_together_17 rfl (lv_at hl 0 rfl) ?_
        refine va_get (ci := 7) (v := (.ref (b + 124))) (C := RX8) (T := TX8) (N := 11) hx hb hq i_X8 hown hK hP 120 (gb_at b rfl) rfl 3 (by decide) (hq _ w_254) (fun _ h9 => h9) rfl dX8_together_18 ?_
        refine lv_iload_n hx hb dX8_together_21 rfl (lv_at hl 2 rfl) ?_
        obtain ⟨z_2, h⟩ := gb_ck_s h
        refine va_iald hx hb hK hP 124 0 (gb_at b rfl) rfl z_2 dX8_together_22 ?_
        refine lv_topi (fun x_3 ex_3 => ?_)
        replace h := gb_lt_s ex_3 h
        obtain ⟨z_4, h⟩ := gb_ck_s h
        refine va_iald hx hb hK hP 127 0 (gb_at b rfl) rfl z_4 dX8_together_23 ?_
        refine lv_topi (fun x_5 ex_5 => ?_)
        replace h := gb_lt_s ex_5 h
        refine lv_iadd hx hb dX8_together_24 ?_
        refine lv_topi (fun x_6 ex_6 => ?_)
        replace h := gb_lt_s ex_6 h
        refine lv_istore_n (lv' := [(1, .int x_6), (0, .ref (b + 120)), (2, .int v2)]) hx hb dX8_together_25 rfl hl (by decide) rfl (fun ls hl => ?_)
        obtain ⟨x_7, ex_7⟩ : ∃ q, q = (v2 + 1) := ⟨_, rfl⟩
        replace h := gb_lt_s ex_7 h
        refine lv_iinc (v := x_7) (lv' := [(2, .int x_7), (1, .int x_6), (0, .ref (b + 120))]) hx hb dX8_together_26 hl (k := 2) rfl (by rw [ex_7]; rfl) (by decide) rfl (fun ls hl => ?_)
        refine lv_goto (tgt := 4) hx hb dX8_together_29 (by decide) ?_
        exact ih _ _ _ _ _ _ h hP hS (lv_sub hl [2, 1, 0] rfl)
  unfold cs_Sharing_together at h
  refine lv_iconst (v := 0) hx hb dX8_together_0 (by decide) ?_
  refine lv_istore_n (lv' := [(1, .int 0), (0, .ref (b + 120))]) hx hb dX8_together_1 rfl hl (by decide) rfl (fun ls hl => ?_)
  refine lv_iconst (v := 0) hx hb dX8_together_2 (by decide) ?_
  refine lv_istore_n (lv' := [(2, .int 0), (1, .int 0), (0, .ref (b + 120))]) hx hb dX8_together_3 rfl hl (by decide) rfl (fun ls hl => ?_)
  exact L4_1 n _ _ _ _ _ _ h hP hS (lv_sub hl [2, 1, 0] rfl)
theorem w_921 : (Cond.code ({ cls := "GooseBorder$Sharing", name := "together", desc := "()I" } : MethodName) prog_10_method_9_code (3 : Nat) (Option.some FieldType.int)) ∈ gb_wA := gb_t4 201 rfl rfl
theorem w_918 : (Cond.methodLink "GooseBorder$Sharing" (65 : Nat) ({ cls := "GooseBorder$Sharing", name := "together", desc := "()I" } : MethodName)) ∈ gb_wA := gb_t4 198 rfl rfl
theorem w_920 : (Cond.instanceMethod ({ cls := "GooseBorder$Sharing", name := "together", desc := "()I" } : MethodName)) ∈ gb_wA := gb_t4 200 rfl rfl
theorem s_2_7 : Cond.selects "GooseBorder$Sharing" (⟨"GooseBorder$Sharing", "together", "()I"⟩ : MethodName) (⟨"GooseBorder$Sharing", "together", "()I"⟩ : MethodName) ∈ gb_wA := gb_s2 7 rfl rfl
theorem dX8_solve_30 : decode cX8_solve 30 = .ok (.iload 4, 2) := dc_21 (show ((cX8_solve.data.toList.drop 30).take 2).map UInt8.toNat = [21, 4] by decide +kernel) rfl
theorem dX8_solve_32 : decode cX8_solve 32 = .ok (.aload_n 0, 1) := dc_42 (show ((cX8_solve.data.toList.drop 32).take 1).map UInt8.toNat = [42] by decide +kernel)
theorem dX8_solve_33 : decode cX8_solve 33 = .ok (.getfield 55, 3) := dc_180 (show ((cX8_solve.data.toList.drop 33).take 3).map UInt8.toNat = [180, 0, 55] by decide +kernel) rfl
theorem dX8_solve_36 : decode cX8_solve 36 = .ok (.imul, 1) := dc_104 (show ((cX8_solve.data.toList.drop 36).take 1).map UInt8.toNat = [104] by decide +kernel)
theorem dX8_solve_37 : decode cX8_solve 37 = .ok (.istore 4, 2) := dc_54 (show ((cX8_solve.data.toList.drop 37).take 2).map UInt8.toNat = [54, 4] by decide +kernel) rfl
theorem dX8_solve_39 : decode cX8_solve 39 = .ok (.iinc 5 1, 3) := dc_132 (show ((cX8_solve.data.toList.drop 39).take 3).map UInt8.toNat = [132, 5, 1] by decide +kernel) rfl
theorem dX8_solve_42 : decode cX8_solve 42 = .ok (.goto (-24), 3) := dc_167 (show ((cX8_solve.data.toList.drop 42).take 3).map UInt8.toNat = [167, 255, 232] by decide +kernel) rfl
def cs_Sharing_solve_B_n_74 (n : Nat) (k48 : gb_S → Int32 → Int32 → gb_CR Unit) (σ : gb_S) (v4 : Int32) (v5 : Int32) (t0 : Int32) : gb_CR Unit := (if v5 = 0 then gb_lt (gb_su σ 120 (upd (σ.1 120) 10 t0)) (fun s_20 => gb_cd (cs_Sharing_keepRow n s_20) (fun s_21 _ => gb_cd (cs_Sharing_advance n s_21) (fun s_25 _ => gb_lt (v5 + 1) (fun x_29 => k48 s_25 v4 x_29)))) else (if t0 ≤ (σ.1 120 10) then gb_cd (cs_Sharing_advance n σ) (fun s_31 _ => gb_lt (v5 + 1) (fun x_35 => k48 s_31 v4 x_35)) else gb_lt (gb_su σ 120 (upd (σ.1 120) 10 t0)) (fun s_36 => gb_cd (cs_Sharing_keepRow n s_36) (fun s_37 _ => gb_cd (cs_Sharing_advance n s_37) (fun s_41 _ => gb_lt (v5 + 1) (fun x_45 => k48 s_41 v4 x_45))))))
def cs_Sharing_solve_B_n_48 (n : Nat) : Nat → gb_S → Int32 → Int32 → gb_CR Unit
  | 0, _, _, _ => none
  | mm + 1, σ, v4, v5 => (if v4 ≤ v5 then some (σ, ()) else (if (σ.2.1 3) = 0 then gb_cd (cs_Sharing_spread n σ) (fun s_15 r_16 => cs_Sharing_solve_B_n_74 n (fun σ v4 v5 => cs_Sharing_solve_B_n_48 n mm σ v4 v5) s_15 v4 v5 (-r_16)) else gb_kk (gb_kL (σ.2.1 3)) (gb_cd (cs_Sharing_together n σ) (fun s_47 r_48 => cs_Sharing_solve_B_n_74 n (fun σ v4 v5 => cs_Sharing_solve_B_n_48 n mm σ v4 v5) s_47 v4 v5 r_48))))
def cs_Sharing_solve_B_n_18 (n : Nat) : Nat → gb_S → Int32 → Int32 → gb_CR Unit
  | 0, _, _, _ => none
  | mm + 1, σ, v4, v5 => gb_kk (gb_kB (σ.2.1 2)) (gb_cd (cs_Border_geese_B n σ (σ.2.1 2)) (fun s_8 r_9 => (if r_9 ≤ v5 then cs_Sharing_solve_B_n_48 n n s_8 v4 0 else gb_lt (v4 * (s_8.1 120 4)) (fun x_51 => gb_lt (v5 + 1) (fun x_52 => cs_Sharing_solve_B_n_18 n mm s_8 x_51 x_52)))))
def cs_Sharing_solve_B_n (n : Nat) (σ : gb_S) (p1 : Nat) (p3 : Int32) : gb_CR Unit := gb_kk (gb_kB p1) (gb_cd (cs_Sharing_begin_B_n n σ p1 p3) (fun s_2 _ => gb_lt (gb_su s_2 120 (upd (s_2.1 120) 10 0)) (fun s_6 => cs_Sharing_solve_B_n_18 n n s_6 1 0)))
set_option maxHeartbeats 8000000 in
set_option maxRecDepth 100000 in
theorem cc_Sharing_solve_B_n (l : Launch) (D : va_G) (cT : Nat → ClassId) (tt : Nat → Nat) (b1 b : Nat) (hb1 : b1 ≤ b) (n : Nat) (σ : gb_S) (p1 : Nat) (p3 : Int32) (σE : gb_S) (rE : Unit) (h : cs_Sharing_solve_B_n n σ p1 p3 = some (σE, rE)) : Met l yX8_solve (.code yX8_solve cX8_solve 7 none :: gb_wA) ({ frames := 5, cells := 0, slots := 0, locals := 114 }) (gb_Pc D cT tt b1 [.ref (b + 120), .ref (b + p1), .null, .int p3] (fun h => va_P D vwCl (gb_wl b (gb_CW cT b σ)) h)) (gb_Qv (fun h => va_P D vwCl (gb_wl b (gb_CW cT b σE)) h) (gb_fr b 135)) 0 0 (gb_fr b 135) := by
  refine Met.ofW (cc := cX8_solve) (maxL := 7) (ret := none) (by decide) rfl ?_
  intro p e s m args below meth c s₁ B hml hv
  obtain ⟨rfl, hSt, hP⟩ := hv
  have hx := B.exec
  have hb := B.bytes
  have hr := B.returns
  have hts := atoms_spec (ws := .code yX8_solve cX8_solve 7 none :: gb_wA) B.pre
  have hq : ∀ w ∈ gb_wA, w.before _ s = true := fun w h => hts w (List.mem_cons_of_mem _ h)
  have hown : s.vm.findClass RX8 = some m.cls := findClass_of_methodNamed B.named
  have hlocks := B.notSynchronized
  clear B hts
  have hK := hSt.1
  have hS : va_S (gb_fr b 135) s.heap s.heap [] := va_S.rf
  have hl := lv_entry ([.ref (b + 120), .ref (b + p1), .null, .int p3]) (n := 7) (Nat.le_of_ble_eq_true rfl)
  rw [lg_entry_eq]
  generalize (lg_sl ([.ref (b + 120), .ref (b + p1), .null, .int p3]) ++ List.replicate (7 - (lg_sl ([.ref (b + 120), .ref (b + p1), .null, .int p3])).length) Slot.unset).toArray = ls at hl ⊢
  replace hl : lv_has ls 7 [(0, .ref (b + 120)), (1, .ref (b + p1)), (2, .null), (3, .int p3)] := hl
  have L74_3 : ∀ (k48 : gb_S → Int32 → Int32 → gb_CR Unit) (hk48 : ∀ (σ : gb_S) (v4 : Int32) (v5 : Int32) (H : Heap) (locs : List Loc) (ls : Array Slot), k48 σ v4 v5 = some (σE, rE) → va_P D vwCl (gb_wl b (gb_CW cT b σ)) H → va_S (gb_fr b 135) s.heap H locs → lv_has ls 7 [(0, .ref (b + 120)), (4, .int v4), (5, .int v5)] → W p l e (headSpec (.code yX8_solve cX8_solve 7 none :: gb_wA) ({ frames := 5, cells := 0, slots := 0, locals := 114 })).room s m ([.ref (b + 120), .ref (b + p1), .null, .int p3]).toArray below meth c H locs 0 0 (MQ below (gb_Qv (fun h => va_P D vwCl (gb_wl b (gb_CW cT b σE)) h) (gb_fr b 135)) ([.ref (b + 120), .ref (b + p1), .null, .int p3]).toArray s 0 0 (gb_fr b 135)) (F0 m 48 ls [])) (σ : gb_S) (v4 : Int32) (v5 : Int32) (t0 : Int32) (H : Heap) (locs : List Loc) (ls : Array Slot), cs_Sharing_solve_B_n_74 n k48 σ v4 v5 t0 = some (σE, rE) → va_P D vwCl (gb_wl b (gb_CW cT b σ)) H → va_S (gb_fr b 135) s.heap H locs → lv_has ls 7 [(0, .ref (b + 120)), (4, .int v4), (5, .int v5)] → W p l e (headSpec (.code yX8_solve cX8_solve 7 none :: gb_wA) ({ frames := 5, cells := 0, slots := 0, locals := 114 })).room s m ([.ref (b + 120), .ref (b + p1), .null, .int p3]).toArray below meth c H locs 0 0 (MQ below (gb_Qv (fun h => va_P D vwCl (gb_wl b (gb_CW cT b σE)) h) (gb_fr b 135)) ([.ref (b + 120), .ref (b + p1), .null, .int p3]).toArray s 0 0 (gb_fr b 135)) (F0 m 74 ls [.int t0]) := by
    clear h hP hS hl ls
    intro k48 hk48 σ v4 v5 t0 H locs ls h hP hS hl
    unfold cs_Sharing_solve_B_n_74 at h
    refine lv_istore (lv' := [(6, .int t0), (0, .ref (b + 120)), (4, .int v4), (5, .int v5)]) hx hb dX8_solve_74 hl (by decide) rfl (fun ls hl => ?_)
    refine lv_iload hx hb dX8_solve_76 (lv_at hl 3 rfl) ?_
    refine lv_if_eq (tgt := 90) hx hb dX8_solve_78 (by decide) (fun c_19 => ?_) (fun c_19 => ?_)
    · rw [if_pos c_19] at h
      refine lv_aload_n hx hb dX8_solve_90 rfl (lv_at hl 1 rfl) ?_
      refine lv_iload hx hb dX8_solve_91 (lv_at hl 0 rfl) ?_
      refine gb_put (ci := 7) (v := (.int t0)) (ty := .int) (C := RX8) (T := TX8) (N := 11) hx hb hq i_X8 tyX8 tyX8_ok nmX8 hown hK hP (fun k h => ⟨Nat.le_add_right b k, Nat.add_lt_add_left h b⟩) hS rfl 120 rfl rfl 10 (by decide) (hq _ w_263) (fun _ h9 => h9) rfl (by decide +kernel) rfl rfl (Nat.le_of_ble_eq_true rfl) dX8_solve_93 (fun H locs hP hz_ hS => ?_)
      obtain ⟨s_20, es_20⟩ : ∃ q, q = (gb_su σ 120 (upd (σ.1 120) 10 t0)) := ⟨_, rfl⟩
      replace hP : va_P D vwCl (gb_wl b (gb_CW cT b s_20)) H := by rw [es_20]; exact hP
      replace h := gb_lt_s es_20 h
      refine lv_aload_n hx hb dX8_solve_96 rfl (lv_at hl 1 rfl) ?_
      obtain ⟨s_21, r_22, z_23, h⟩ := gb_cd_s h
      refine gb_callv (va_runV (C := RX8) (As := []) (rest := []) ⟨hx, hb, hml, hown, hq⟩ (cc_Sharing_keepRow l D cT tt b1 b hb1 n s_20 s_21 r_22 z_23) (cwV 0 hq (gb_gV w_922 w_924 s_2_8 w_12 w_925) rfl rfl rfl (by decide +kernel) ⟨Nat.le_of_ble_eq_true rfl, Nat.le_of_ble_eq_true rfl⟩) (gb_preV (r := (RX8, TX8, 11)) (ci := 7) (q0 := 120) hSt hP rfl (gb_at b rfl) hS (fun q h => Nat.le_trans hb1 h.1) hP) rfl rfl hl.1 rfl (lv_room (Nat.le_of_ble_eq_true rfl)) dX8_solve_97 ⟨Nat.le_of_ble_eq_true rfl, Nat.le_of_ble_eq_true rfl⟩) hS (fun _ h => h) (fun _ h => h) (fun H locs hY hk hS => ?_)
      have hP := hY
      refine lv_aload_n hx hb dX8_solve_100 rfl (lv_at hl 1 rfl) ?_
      obtain ⟨s_25, r_26, z_27, h⟩ := gb_cd_s h
      refine gb_callv (va_runV (C := RX8) (As := []) (rest := []) ⟨hx, hb, hml, hown, hq⟩ (cc_Sharing_advance l D cT tt b1 b hb1 n s_21 s_25 r_26 z_27) (cwV 0 hq (gb_gV w_927 w_929 s_2_9 w_12 w_930) rfl rfl rfl (by decide +kernel) ⟨Nat.le_of_ble_eq_true rfl, Nat.le_of_ble_eq_true rfl⟩) (gb_preV (r := (RX8, TX8, 11)) (ci := 7) (q0 := 120) hSt hP rfl (gb_at b rfl) hS (fun q h => Nat.le_trans hb1 h.1) hP) rfl rfl hl.1 rfl (lv_room (Nat.le_of_ble_eq_true rfl)) dX8_solve_101 ⟨Nat.le_of_ble_eq_true rfl, Nat.le_of_ble_eq_true rfl⟩) hS (fun _ h => h) (fun _ h => h) (fun H locs hY hk hS => ?_)
      have hP := hY
      obtain ⟨x_29, ex_29⟩ : ∃ q, q = (v5 + 1) := ⟨_, rfl⟩
      replace h := gb_lt_s ex_29 h
      refine lv_iinc (v := x_29) (lv' := [(5, .int x_29), (6, .int t0), (0, .ref (b + 120)), (4, .int v4)]) hx hb dX8_solve_104 hl (k := 3) rfl (by rw [ex_29]; rfl) (by decide) rfl (fun ls hl => ?_)
      refine lv_goto (tgt := 48) hx hb dX8_solve_107 (by decide) ?_
      exact hk48 _ _ _ _ _ _ h hP hS (lv_sub hl [2, 3, 0] rfl)
    · rw [if_neg c_19] at h
      refine lv_iload hx hb dX8_solve_81 (lv_at hl 0 rfl) ?_
      refine lv_aload_n hx hb dX8_solve_83 rfl (lv_at hl 1 rfl) ?_
      refine va_get (ci := 7) (v := (.int (σ.1 120 10))) (C := RX8) (T := TX8) (N := 11) hx hb hq i_X8 hown hK hP 120 (gb_at b rfl) rfl 10 (by decide) (hq _ w_263) (fun _ h9 => h9) rfl dX8_solve_84 ?_
      refine lv_icmp_le (tgt := 100) hx hb dX8_solve_87 (by decide) (fun c_30 => ?_) (fun c_30 => ?_)
      · rw [if_pos c_30] at h
        refine lv_aload_n hx hb dX8_solve_100 rfl (lv_at hl 1 rfl) ?_
        obtain ⟨s_31, r_32, z_33, h⟩ := gb_cd_s h
        refine gb_callv (va_runV (C := RX8) (As := []) (rest := []) ⟨hx, hb, hml, hown, hq⟩ (cc_Sharing_advance l D cT tt b1 b hb1 n σ s_31 r_32 z_33) (cwV 0 hq (gb_gV w_927 w_929 s_2_9 w_12 w_930) rfl rfl rfl (by decide +kernel) ⟨Nat.le_of_ble_eq_true rfl, Nat.le_of_ble_eq_true rfl⟩) (gb_preV (r := (RX8, TX8, 11)) (ci := 7) (q0 := 120) hSt hP rfl (gb_at b rfl) hS (fun q h => Nat.le_trans hb1 h.1) hP) rfl rfl hl.1 rfl (lv_room (Nat.le_of_ble_eq_true rfl)) dX8_solve_101 ⟨Nat.le_of_ble_eq_true rfl, Nat.le_of_ble_eq_true rfl⟩) hS (fun _ h => h) (fun _ h => h) (fun H locs hY hk hS => ?_)
        have hP := hY
        obtain ⟨x_35, ex_35⟩ : ∃ q, q = (v5 + 1) := ⟨_, rfl⟩
        replace h := gb_lt_s ex_35 h
        refine lv_iinc (v := x_35) (lv' := [(5, .int x_35), (6, .int t0), (0, .ref (b + 120)), (4, .int v4)]) hx hb dX8_solve_104 hl (k := 3) rfl (by rw [ex_35]; rfl) (by decide) rfl (fun ls hl => ?_)
        refine lv_goto (tgt := 48) hx hb dX8_solve_107 (by decide) ?_
        exact hk48 _ _ _ _ _ _ h hP hS (lv_sub hl [2, 3, 0] rfl)
      · rw [if_neg c_30] at h
        refine lv_aload_n hx hb dX8_solve_90 rfl (lv_at hl 1 rfl) ?_
        refine lv_iload hx hb dX8_solve_91 (lv_at hl 0 rfl) ?_
        refine gb_put (ci := 7) (v := (.int t0)) (ty := .int) (C := RX8) (T := TX8) (N := 11) hx hb hq i_X8 tyX8 tyX8_ok nmX8 hown hK hP (fun k h => ⟨Nat.le_add_right b k, Nat.add_lt_add_left h b⟩) hS rfl 120 rfl rfl 10 (by decide) (hq _ w_263) (fun _ h9 => h9) rfl (by decide +kernel) rfl rfl (Nat.le_of_ble_eq_true rfl) dX8_solve_93 (fun H locs hP hz_ hS => ?_)
        obtain ⟨s_36, es_36⟩ : ∃ q, q = (gb_su σ 120 (upd (σ.1 120) 10 t0)) := ⟨_, rfl⟩
        replace hP : va_P D vwCl (gb_wl b (gb_CW cT b s_36)) H := by rw [es_36]; exact hP
        replace h := gb_lt_s es_36 h
        refine lv_aload_n hx hb dX8_solve_96 rfl (lv_at hl 1 rfl) ?_
        obtain ⟨s_37, r_38, z_39, h⟩ := gb_cd_s h
        refine gb_callv (va_runV (C := RX8) (As := []) (rest := []) ⟨hx, hb, hml, hown, hq⟩ (cc_Sharing_keepRow l D cT tt b1 b hb1 n s_36 s_37 r_38 z_39) (cwV 0 hq (gb_gV w_922 w_924 s_2_8 w_12 w_925) rfl rfl rfl (by decide +kernel) ⟨Nat.le_of_ble_eq_true rfl, Nat.le_of_ble_eq_true rfl⟩) (gb_preV (r := (RX8, TX8, 11)) (ci := 7) (q0 := 120) hSt hP rfl (gb_at b rfl) hS (fun q h => Nat.le_trans hb1 h.1) hP) rfl rfl hl.1 rfl (lv_room (Nat.le_of_ble_eq_true rfl)) dX8_solve_97 ⟨Nat.le_of_ble_eq_true rfl, Nat.le_of_ble_eq_true rfl⟩) hS (fun _ h => h) (fun _ h => h) (fun H locs hY hk hS => ?_)
        have hP := hY
        refine lv_aload_n hx hb dX8_solve_100 rfl (lv_at hl 1 rfl) ?_
        obtain ⟨s_41, r_42, z_43, h⟩ := gb_cd_s h
        refine gb_callv (va_runV (C := RX8) (As := []) (rest := []) ⟨hx, hb, hml, hown, hq⟩ (cc_Sharing_advance l D cT tt b1 b hb1 n s_37 s_41 r_42 z_43) (cwV 0 hq (gb_gV w_927 w_929 s_2_9 w_12 w_930) rfl rfl rfl (by decide +kernel) ⟨Nat.le_of_ble_eq_true rfl, Nat.le_of_ble_eq_true rfl⟩) (gb_preV (r := (RX8, TX8, 11)) (ci := 7) (q0 := 120) hSt hP rfl (gb_at b rfl) hS (fun q h => Nat.le_trans hb1 h.1) hP) rfl rfl hl.1 rfl (lv_room (Nat.le_of_ble_eq_true rfl)) dX8_solve_101 ⟨Nat.le_of_ble_eq_true rfl, Nat.le_of_ble_eq_true rfl⟩) hS (fun _ h => h) (fun _ h => h) (fun H locs hY hk hS => ?_)
        have hP := hY
        obtain ⟨x_45, ex_45⟩ : ∃ q, q = (v5 + 1) := ⟨_, rfl⟩
        replace h := gb_lt_s ex_45 h
        refine lv_iinc (v := x_45) (lv' := [(5, .int x_45), (6, .int t0), (0, .ref (b + 120)), (4, .int v4)]) hx hb dX8_solve_104 hl (k := 3) rfl (by rw [ex_45]; rfl) (by decide) rfl (fun ls hl => ?_)
        refine lv_goto (tgt := 48) hx hb dX8_solve_107 (by decide) ?_
        exact hk48 _ _ _ _ _ _ h hP hS (lv_sub hl [2, 3, 0] rfl)
  have L48_2 : ∀ (mm : Nat) (σ : gb_S) (v4 : Int32) (v5 : Int32) (H : Heap) (locs : List Loc) (ls : Array Slot), cs_Sharing_solve_B_n_48 n mm σ v4 v5 = some (σE, rE) → va_P D vwCl (gb_wl b (gb_CW cT b σ)) H → va_S (gb_fr b 135) s.heap H locs → lv_has ls 7 [(0, .ref (b + 120)), (4, .int v4), (5, .int v5)] → W p l e (headSpec (.code yX8_solve cX8_solve 7 none :: gb_wA) ({ frames := 5, cells := 0, slots := 0, locals := 114 })).room s m ([.ref (b + 120), .ref (b + p1), .null, .int p3]).toArray below meth c H locs 0 0 (MQ below (gb_Qv (fun h => va_P D vwCl (gb_wl b (gb_CW cT b σE)) h) (gb_fr b 135)) ([.ref (b + 120), .ref (b + p1), .null, .int p3]).toArray s 0 0 (gb_fr b 135)) (F0 m 48 ls []) := by
    clear h hP hS hl ls
    intro mm
    induction mm with
    | zero =>
      intro σ v4 v5 H locs ls h
      cases h
    | succ mm ih =>
      intro σ v4 v5 H locs ls h hP hS hl
      rw [cs_Sharing_solve_B_n_48] at h
      refine lv_iload hx hb dX8_solve_48 (lv_at hl 2 rfl) ?_
      refine lv_iload hx hb dX8_solve_50 (lv_at hl 1 rfl) ?_
      refine lv_icmp_ge (tgt := 110) hx hb dX8_solve_52 (by decide) (fun c_13 => ?_) (fun c_13 => ?_)
      · rw [if_pos c_13] at h
        obtain ⟨e1, -⟩ := gb_eq2 h
        exact W.vret hx hb hr (fun t ht hW => gb_rv ht (by rw [← e1]; exact hP) hS) hS.2.2 dX8_solve_110
      · rw [if_neg c_13] at h
        refine lv_aload_n hx hb dX8_solve_55 rfl (lv_at hl 0 rfl) ?_
        refine va_get (ci := 7) (v := (gb_nv b (σ.2.1 3))) (C := RX8) (T := TX8) (N := 11) hx hb hq i_X8 hown hK hP 120 (gb_at b rfl) rfl 1 (by decide) (hq _ w_252) (fun _ h9 => h9) rfl dX8_solve_56 ?_
        by_cases c_14 : (σ.2.1 3) = 0
        · rw [if_pos c_14] at h
          rw [gb_nv0 c_14]
          refine lv_ifnonnullN hx hb dX8_solve_59 ?_
          refine lv_aload_n hx hb dX8_solve_62 rfl (lv_at hl 0 rfl) ?_
          obtain ⟨s_15, r_16, z_17, h⟩ := gb_cd_s h
          refine gb_calli (va_runV (C := RX8) (As := []) (rest := []) ⟨hx, hb, hml, hown, hq⟩ (cc_Sharing_spread l D cT tt b1 b hb1 n σ s_15 r_16 z_17) (cwV 0 hq (gb_gV w_912 w_914 s_2_6 w_12 w_915) rfl rfl rfl (by decide +kernel) ⟨Nat.le_of_ble_eq_true rfl, Nat.le_of_ble_eq_true rfl⟩) (gb_preV (r := (RX8, TX8, 11)) (ci := 7) (q0 := 120) hSt hP rfl (gb_at b rfl) hS (fun q h => Nat.le_trans hb1 h.1) hP) rfl rfl hl.1 rfl (lv_room (Nat.le_of_ble_eq_true rfl)) dX8_solve_63 ⟨Nat.le_of_ble_eq_true rfl, Nat.le_of_ble_eq_true rfl⟩) hS (fun _ h => h) (fun _ h => h) (fun q_18 H locs hY hk hS => ?_)
          obtain ⟨hq_18, hP⟩ := hY
          replace hq_18 := hq_18.symm
          subst hq_18
          refine lv_ineg hx hb dX8_solve_66 ?_
          refine lv_goto (tgt := 74) hx hb dX8_solve_67 (by decide) ?_
          exact L74_3 _ ih _ _ _ _ _ _ _ h hP hS (lv_sub hl [0, 1, 2] rfl)
        rw [if_neg c_14] at h
        rw [gb_nv1 c_14]
        obtain ⟨z_46, h⟩ := gb_kk_s h
        refine lv_ifnonnull (tgt := 70) hx hb dX8_solve_59 (by decide) ?_
        refine lv_aload_n hx hb dX8_solve_70 rfl (lv_at hl 0 rfl) ?_
        obtain ⟨s_47, r_48, z_49, h⟩ := gb_cd_s h
        refine gb_calli (va_runV (C := RX8) (As := []) (rest := []) ⟨hx, hb, hml, hown, hq⟩ (cc_Sharing_together l D cT tt b1 b hb1 n σ s_47 r_48 z_49) (cwV 0 hq (gb_gV w_918 w_920 s_2_7 w_12 w_921) rfl rfl rfl (by decide +kernel) ⟨Nat.le_of_ble_eq_true rfl, Nat.le_of_ble_eq_true rfl⟩) (gb_preV (r := (RX8, TX8, 11)) (ci := 7) (q0 := 120) hSt hP rfl (gb_at b rfl) hS (fun q h => Nat.le_trans hb1 h.1) hP) rfl rfl hl.1 rfl (lv_room (Nat.le_of_ble_eq_true rfl)) dX8_solve_71 ⟨Nat.le_of_ble_eq_true rfl, Nat.le_of_ble_eq_true rfl⟩) hS (fun _ h => h) (fun _ h => h) (fun q_50 H locs hY hk hS => ?_)
        obtain ⟨hq_50, hP⟩ := hY
        replace hq_50 := hq_50.symm
        subst hq_50
        exact L74_3 _ ih _ _ _ _ _ _ _ h hP hS (lv_sub hl [0, 1, 2] rfl)
  have L18_1 : ∀ (mm : Nat) (σ : gb_S) (v4 : Int32) (v5 : Int32) (H : Heap) (locs : List Loc) (ls : Array Slot), cs_Sharing_solve_B_n_18 n mm σ v4 v5 = some (σE, rE) → va_P D vwCl (gb_wl b (gb_CW cT b σ)) H → va_S (gb_fr b 135) s.heap H locs → lv_has ls 7 [(0, .ref (b + 120)), (4, .int v4), (5, .int v5)] → W p l e (headSpec (.code yX8_solve cX8_solve 7 none :: gb_wA) ({ frames := 5, cells := 0, slots := 0, locals := 114 })).room s m ([.ref (b + 120), .ref (b + p1), .null, .int p3]).toArray below meth c H locs 0 0 (MQ below (gb_Qv (fun h => va_P D vwCl (gb_wl b (gb_CW cT b σE)) h) (gb_fr b 135)) ([.ref (b + 120), .ref (b + p1), .null, .int p3]).toArray s 0 0 (gb_fr b 135)) (F0 m 18 ls []) := by
    clear h hP hS hl ls
    intro mm
    induction mm with
    | zero =>
      intro σ v4 v5 H locs ls h
      cases h
    | succ mm ih =>
      intro σ v4 v5 H locs ls h hP hS hl
      rw [cs_Sharing_solve_B_n_18] at h
      refine lv_iload hx hb dX8_solve_18 (lv_at hl 2 rfl) ?_
      refine lv_aload_n hx hb dX8_solve_20 rfl (lv_at hl 0 rfl) ?_
      obtain ⟨z_7, h⟩ := gb_kk_s h
      refine va_get (ci := 7) (v := (.ref (b + (σ.2.1 2)))) (C := RX8) (T := TX8) (N := 11) hx hb hq i_X8 hown hK hP 120 (gb_at b rfl) rfl 0 (by decide) (hq _ w_251) (fun _ h9 => h9) rfl dX8_solve_21 ?_
      obtain ⟨s_8, r_9, z_10, h⟩ := gb_cd_s h
      refine gb_calli (va_runV (C := RX0) (As := []) (rest := [.int v5]) ⟨hx, hb, hml, hown, hq⟩ (cc_Border_geese_B l D cT tt b1 b hb1 n σ (σ.2.1 2) s_8 r_9 z_10) (cwV 0 hq (gb_gV w_889 w_477 w_478 w_4 w_479) rfl rfl rfl (by decide +kernel) ⟨Nat.le_of_ble_eq_true rfl, Nat.le_of_ble_eq_true rfl⟩) (gb_preV (r := (RX0, TX0, 1)) (ci := 0) (q0 := (σ.2.1 2)) hSt hP rfl (gb_at b (gb_cB z_7).1) hS (fun q h => Nat.le_trans hb1 h.1) hP) rfl rfl hl.1 rfl (lv_room (Nat.le_of_ble_eq_true rfl)) dX8_solve_24 ⟨Nat.le_of_ble_eq_true rfl, Nat.le_of_ble_eq_true rfl⟩) hS (fun _ h => h) (fun _ h => h) (fun q_11 H locs hY hk hS => ?_)
      obtain ⟨hq_11, hP⟩ := hY
      replace hq_11 := hq_11.symm
      subst hq_11
      refine lv_icmp_ge (tgt := 45) hx hb dX8_solve_27 (by decide) (fun c_12 => ?_) (fun c_12 => ?_)
      · rw [if_pos c_12] at h
        refine lv_iconst (v := 0) hx hb dX8_solve_45 (by decide) ?_
        refine lv_istore (lv' := [(5, .int 0), (0, .ref (b + 120)), (4, .int v4)]) hx hb dX8_solve_46 hl (by decide) rfl (fun ls hl => ?_)
        exact L48_2 n _ _ _ _ _ _ h hP hS (lv_sub hl [1, 2, 0] rfl)
      · rw [if_neg c_12] at h
        refine lv_iload hx hb dX8_solve_30 (lv_at hl 1 rfl) ?_
        refine lv_aload_n hx hb dX8_solve_32 rfl (lv_at hl 0 rfl) ?_
        refine va_get (ci := 7) (v := (.int (s_8.1 120 4))) (C := RX8) (T := TX8) (N := 11) hx hb hq i_X8 hown hK hP 120 (gb_at b rfl) rfl 4 (by decide) (hq _ w_255) (fun _ h9 => h9) rfl dX8_solve_33 ?_
        refine lv_imul hx hb dX8_solve_36 ?_
        refine lv_topi (fun x_51 ex_51 => ?_)
        replace h := gb_lt_s ex_51 h
        refine lv_istore (lv' := [(4, .int x_51), (0, .ref (b + 120)), (5, .int v5)]) hx hb dX8_solve_37 hl (by decide) rfl (fun ls hl => ?_)
        obtain ⟨x_52, ex_52⟩ : ∃ q, q = (v5 + 1) := ⟨_, rfl⟩
        replace h := gb_lt_s ex_52 h
        refine lv_iinc (v := x_52) (lv' := [(5, .int x_52), (4, .int x_51), (0, .ref (b + 120))]) hx hb dX8_solve_39 hl (k := 2) rfl (by rw [ex_52]; rfl) (by decide) rfl (fun ls hl => ?_)
        refine lv_goto (tgt := 18) hx hb dX8_solve_42 (by decide) ?_
        exact ih _ _ _ _ _ _ h hP hS (lv_sub hl [2, 1, 0] rfl)
  unfold cs_Sharing_solve_B_n at h
  obtain ⟨z_1, h⟩ := gb_kk_s h
  refine lv_aload_n hx hb dX8_solve_0 rfl (lv_at hl 0 rfl) ?_
  refine lv_aload_n hx hb dX8_solve_1 rfl (lv_at hl 1 rfl) ?_
  refine lv_aload_nN hx hb dX8_solve_2 rfl (lv_at hl 2 rfl) ?_
  refine lv_iload_n hx hb dX8_solve_3 rfl (lv_at hl 3 rfl) ?_
  obtain ⟨s_2, r_3, z_4, h⟩ := gb_cd_s h
  refine gb_callv (va_runV (C := RX8) (As := [.ref (b + p1), .null, .int p3]) (rest := []) ⟨hx, hb, hml, hown, hq⟩ (cc_Sharing_begin_B_n l D cT tt b1 b hb1 n σ p1 p3 s_2 r_3 z_4) (cwV 3 hq (gb_gV w_894 w_896 s_2_4 w_12 w_897) rfl rfl rfl (by decide +kernel) ⟨Nat.le_of_ble_eq_true rfl, Nat.le_of_ble_eq_true rfl⟩) (gb_preV (r := (RX8, TX8, 11)) (ci := 7) (q0 := 120) hSt hP rfl (gb_at b rfl) hS (fun q h => Nat.le_trans hb1 h.1) hP) rfl rfl hl.1 rfl (lv_room (Nat.le_of_ble_eq_true rfl)) dX8_solve_4 ⟨Nat.le_of_ble_eq_true rfl, Nat.le_of_ble_eq_true rfl⟩) hS (fun _ h => h) (fun _ h => h) (fun H locs hY hk hS => ?_)
  have hP := hY
  refine lv_aload_n hx hb dX8_solve_7 rfl (lv_at hl 0 rfl) ?_
  refine lv_iconst (v := 0) hx hb dX8_solve_8 (by decide) ?_
  refine gb_put (ci := 7) (v := (.int 0)) (ty := .int) (C := RX8) (T := TX8) (N := 11) hx hb hq i_X8 tyX8 tyX8_ok nmX8 hown hK hP (fun k h => ⟨Nat.le_add_right b k, Nat.add_lt_add_left h b⟩) hS rfl 120 rfl rfl 10 (by decide) (hq _ w_263) (fun _ h9 => h9) rfl (by decide +kernel) rfl rfl (Nat.le_of_ble_eq_true rfl) dX8_solve_9 (fun H locs hP hz_ hS => ?_)
  obtain ⟨s_6, es_6⟩ : ∃ q, q = (gb_su s_2 120 (upd (s_2.1 120) 10 0)) := ⟨_, rfl⟩
  replace hP : va_P D vwCl (gb_wl b (gb_CW cT b s_6)) H := by rw [es_6]; exact hP
  replace h := gb_lt_s es_6 h
  refine lv_iconst (v := 1) hx hb dX8_solve_12 (by decide) ?_
  refine lv_istore (lv' := [(4, .int 1), (0, .ref (b + 120)), (1, .ref (b + p1)), (2, .null), (3, .int p3)]) hx hb dX8_solve_13 hl (by decide) rfl (fun ls hl => ?_)
  refine lv_iconst (v := 0) hx hb dX8_solve_15 (by decide) ?_
  refine lv_istore (lv' := [(5, .int 0), (4, .int 1), (0, .ref (b + 120)), (1, .ref (b + p1)), (2, .null), (3, .int p3)]) hx hb dX8_solve_16 hl (by decide) rfl (fun ls hl => ?_)
  exact L18_1 n _ _ _ _ _ _ h hP hS (lv_sub hl [2, 1, 0] rfl)
theorem w_893 : (Cond.code ({ cls := "GooseBorder$Sharing", name := "solve", desc := "(LGooseBorder$Border;LGooseBorder$Law;I)V" } : MethodName) prog_10_method_4_code (7 : Nat) (Option.none : Option FieldType)) ∈ gb_wA := gb_t4 173 rfl rfl
theorem w_890 : (Cond.methodLink "GooseBorder" (280 : Nat) ({ cls := "GooseBorder$Sharing", name := "solve", desc := "(LGooseBorder$Border;LGooseBorder$Law;I)V" } : MethodName)) ∈ gb_wA := gb_t4 170 rfl rfl
theorem w_891 : (Cond.instanceMethod ({ cls := "GooseBorder$Sharing", name := "solve", desc := "(LGooseBorder$Border;LGooseBorder$Law;I)V" } : MethodName)) ∈ gb_wA := gb_t4 171 rfl rfl
theorem w_892 : (Cond.selects "GooseBorder$Sharing" ({ cls := "GooseBorder$Sharing", name := "solve", desc := "(LGooseBorder$Border;LGooseBorder$Law;I)V" } : MethodName) ({ cls := "GooseBorder$Sharing", name := "solve", desc := "(LGooseBorder$Border;LGooseBorder$Law;I)V" } : MethodName)) ∈ gb_wA := gb_t4 172 rfl rfl
theorem dX11_even_92 : decode cX11_even 92 = .ok (.iload_n 2, 1) := dc_28 (show ((cX11_even.data.toList.drop 92).take 1).map UInt8.toNat = [28] by decide +kernel)
theorem dX11_even_93 : decode cX11_even 93 = .ok (.ifCond .ne 13, 3) := dc_154 (show ((cX11_even.data.toList.drop 93).take 3).map UInt8.toNat = [154, 0, 13] by decide +kernel) rfl
theorem dX11_even_106 : decode cX11_even 106 = .ok (.aload_n 0, 1) := dc_42 (show ((cX11_even.data.toList.drop 106).take 1).map UInt8.toNat = [42] by decide +kernel)
theorem dX11_even_107 : decode cX11_even 107 = .ok (.getfield 63, 3) := dc_180 (show ((cX11_even.data.toList.drop 107).take 3).map UInt8.toNat = [180, 0, 63] by decide +kernel) rfl
theorem dX11_even_110 : decode cX11_even 110 = .ok (.getfield 290, 3) := dc_180 (show ((cX11_even.data.toList.drop 110).take 3).map UInt8.toNat = [180, 1, 34] by decide +kernel) rfl
theorem w_260 : (Cond.fieldLink "GooseBorder" (290 : Nat) "GooseBorder$Sharing" "best" "[I") ∈ gb_wA := gb_t2 20 rfl rfl
theorem dX11_even_113 : decode cX11_even 113 = .ok (.iload_n 2, 1) := dc_28 (show ((cX11_even.data.toList.drop 113).take 1).map UInt8.toNat = [28] by decide +kernel)
theorem dX11_even_114 : decode cX11_even 114 = .ok (.bipush 10, 2) := dc_16 (show ((cX11_even.data.toList.drop 114).take 2).map UInt8.toNat = [16, 10] by decide +kernel) rfl
theorem dX11_even_116 : decode cX11_even 116 = .ok (.isub, 1) := dc_100 (show ((cX11_even.data.toList.drop 116).take 1).map UInt8.toNat = [100] by decide +kernel)
theorem dX11_even_117 : decode cX11_even 117 = .ok (.iaload, 1) := dc_46 (show ((cX11_even.data.toList.drop 117).take 1).map UInt8.toNat = [46] by decide +kernel)
theorem dX11_even_118 : decode cX11_even 118 = .ok (.ireturn, 1) := dc_172 (show ((cX11_even.data.toList.drop 118).take 1).map UInt8.toNat = [172] by decide +kernel)
theorem dX11_even_96 : decode cX11_even 96 = .ok (.aload_n 0, 1) := dc_42 (show ((cX11_even.data.toList.drop 96).take 1).map UInt8.toNat = [42] by decide +kernel)
theorem dX11_even_97 : decode cX11_even 97 = .ok (.getfield 63, 3) := dc_180 (show ((cX11_even.data.toList.drop 97).take 3).map UInt8.toNat = [180, 0, 63] by decide +kernel) rfl
theorem dX11_even_100 : decode cX11_even 100 = .ok (.invokevirtual 287, 3) := dc_182 (show ((cX11_even.data.toList.drop 100).take 3).map UInt8.toNat = [182, 1, 31] by decide +kernel) rfl
theorem dX8_difference_0 : decode cX8_difference 0 = .ok (.aload_n 0, 1) := dc_42 (show ((cX8_difference.data.toList.drop 0).take 1).map UInt8.toNat = [42] by decide +kernel)
theorem dX8_difference_1 : decode cX8_difference 1 = .ok (.getfield 47, 3) := dc_180 (show ((cX8_difference.data.toList.drop 1).take 3).map UInt8.toNat = [180, 0, 47] by decide +kernel) rfl
theorem dX8_difference_4 : decode cX8_difference 4 = .ok (.ineg, 1) := dc_116 (show ((cX8_difference.data.toList.drop 4).take 1).map UInt8.toNat = [116] by decide +kernel)
theorem dX8_difference_5 : decode cX8_difference 5 = .ok (.ireturn, 1) := dc_172 (show ((cX8_difference.data.toList.drop 5).take 1).map UInt8.toNat = [172] by decide +kernel)
def cs_Sharing_difference (n : Nat) (σ : gb_S) : gb_CR Int32 := some (σ, (-(σ.1 120 10)))
set_option maxHeartbeats 8000000 in
set_option maxRecDepth 100000 in
theorem cc_Sharing_difference (l : Launch) (D : va_G) (cT : Nat → ClassId) (tt : Nat → Nat) (b1 b : Nat) (hb1 : b1 ≤ b) (n : Nat) (σ : gb_S) (σE : gb_S) (rE : Int32) (h : cs_Sharing_difference n σ = some (σE, rE)) : Met l yX8_difference (.code yX8_difference cX8_difference 1 (some FieldType.int) :: gb_wA) ({ frames := 0, cells := 0, slots := 0, locals := 0 }) (gb_Pc D cT tt b1 [.ref (b + 120)] (fun h => va_P D vwCl (gb_wl b (gb_CW cT b σ)) h)) (gb_Qi (fun r h => r = rE ∧ va_P D vwCl (gb_wl b (gb_CW cT b σE)) h) (gb_fr b 135)) 0 0 (gb_fr b 135) := by
  refine Met.ofW (cc := cX8_difference) (maxL := 1) (ret := (some FieldType.int)) (by decide) rfl ?_
  intro p e s m args below meth c s₁ B hml hv
  obtain ⟨rfl, hSt, hP⟩ := hv
  have hx := B.exec
  have hb := B.bytes
  have hr := B.returns
  have hts := atoms_spec (ws := .code yX8_difference cX8_difference 1 (some FieldType.int) :: gb_wA) B.pre
  have hq : ∀ w ∈ gb_wA, w.before _ s = true := fun w h => hts w (List.mem_cons_of_mem _ h)
  have hown : s.vm.findClass RX8 = some m.cls := findClass_of_methodNamed B.named
  have hlocks := B.notSynchronized
  clear B hts
  have hK := hSt.1
  have hS : va_S (gb_fr b 135) s.heap s.heap [] := va_S.rf
  have hl := lv_entry ([.ref (b + 120)]) (n := 1) (Nat.le_of_ble_eq_true rfl)
  rw [lg_entry_eq]
  generalize (lg_sl ([.ref (b + 120)]) ++ List.replicate (1 - (lg_sl ([.ref (b + 120)])).length) Slot.unset).toArray = ls at hl ⊢
  replace hl : lv_has ls 1 [(0, .ref (b + 120))] := hl
  unfold cs_Sharing_difference at h
  refine lv_aload_n hx hb dX8_difference_0 rfl (lv_at hl 0 rfl) ?_
  refine va_get (ci := 7) (v := (.int (σ.1 120 10))) (C := RX8) (T := TX8) (N := 11) hx hb hq i_X8 hown hK hP 120 (gb_at b rfl) rfl 10 (by decide) (hq _ w_263) (fun _ h9 => h9) rfl dX8_difference_1 ?_
  refine lv_ineg hx hb dX8_difference_4 ?_
  obtain ⟨e1, e2⟩ := gb_eq2 h
  exact W.iret (v := (-(σ.1 120 10))) hx hb hr (fun t ht hW => gb_ri ht ⟨e2, by rw [← e1]; exact hP⟩ hS) hS.2.2 dX8_difference_5
theorem w_934 : (Cond.code ({ cls := "GooseBorder$Sharing", name := "difference", desc := "()I" } : MethodName) prog_10_method_3_code (1 : Nat) (Option.some FieldType.int)) ∈ gb_wA := gb_t4 214 rfl rfl
theorem w_931 : (Cond.methodLink "GooseBorder" (287 : Nat) ({ cls := "GooseBorder$Sharing", name := "difference", desc := "()I" } : MethodName)) ∈ gb_wA := gb_t4 211 rfl rfl
theorem w_932 : (Cond.instanceMethod ({ cls := "GooseBorder$Sharing", name := "difference", desc := "()I" } : MethodName)) ∈ gb_wA := gb_t4 212 rfl rfl
theorem w_933 : (Cond.selects "GooseBorder$Sharing" ({ cls := "GooseBorder$Sharing", name := "difference", desc := "()I" } : MethodName) ({ cls := "GooseBorder$Sharing", name := "difference", desc := "()I" } : MethodName)) ∈ gb_wA := gb_t4 213 rfl rfl
theorem dX11_even_103 : decode cX11_even 103 = .ok (.goto 15, 3) := dc_167 (show ((cX11_even.data.toList.drop 103).take 3).map UInt8.toNat = [167, 0, 15] by decide +kernel) rfl
theorem dX11_even_63 : decode cX11_even 63 = .ok (.iload_n 2, 1) := dc_28 (show ((cX11_even.data.toList.drop 63).take 1).map UInt8.toNat = [28] by decide +kernel)
theorem dX11_even_64 : decode cX11_even 64 = .ok (.bipush 10, 2) := dc_16 (show ((cX11_even.data.toList.drop 64).take 2).map UInt8.toNat = [16, 10] by decide +kernel) rfl
theorem dX11_even_66 : decode cX11_even 66 = .ok (.if_icmp .lt 14, 3) := dc_161 (show ((cX11_even.data.toList.drop 66).take 3).map UInt8.toNat = [161, 0, 14] by decide +kernel) rfl
theorem dX11_even_80 : decode cX11_even 80 = .ok (.iconst (-1), 1) := dc_2 (show ((cX11_even.data.toList.drop 80).take 1).map UInt8.toNat = [2] by decide +kernel)
theorem dX11_even_81 : decode cX11_even 81 = .ok (.ireturn, 1) := dc_172 (show ((cX11_even.data.toList.drop 81).take 1).map UInt8.toNat = [172] by decide +kernel)
theorem dX11_even_69 : decode cX11_even 69 = .ok (.iload_n 2, 1) := dc_28 (show ((cX11_even.data.toList.drop 69).take 1).map UInt8.toNat = [28] by decide +kernel)
theorem dX11_even_70 : decode cX11_even 70 = .ok (.bipush 10, 2) := dc_16 (show ((cX11_even.data.toList.drop 70).take 2).map UInt8.toNat = [16, 10] by decide +kernel) rfl
theorem dX11_even_72 : decode cX11_even 72 = .ok (.aload_n 3, 1) := dc_45 (show ((cX11_even.data.toList.drop 72).take 1).map UInt8.toNat = [45] by decide +kernel)
theorem dX11_even_73 : decode cX11_even 73 = .ok (.invokevirtual 121, 3) := dc_182 (show ((cX11_even.data.toList.drop 73).take 3).map UInt8.toNat = [182, 0, 121] by decide +kernel) rfl
theorem dX11_even_76 : decode cX11_even 76 = .ok (.iadd, 1) := dc_96 (show ((cX11_even.data.toList.drop 76).take 1).map UInt8.toNat = [96] by decide +kernel)
theorem dX11_even_77 : decode cX11_even 77 = .ok (.if_icmp .lt 5, 3) := dc_161 (show ((cX11_even.data.toList.drop 77).take 3).map UInt8.toNat = [161, 0, 5] by decide +kernel) rfl
theorem dX11_even_25 : decode cX11_even 25 = .ok (.iload_n 2, 1) := dc_28 (show ((cX11_even.data.toList.drop 25).take 1).map UInt8.toNat = [28] by decide +kernel)
theorem dX11_even_26 : decode cX11_even 26 = .ok (.bipush 20, 2) := dc_16 (show ((cX11_even.data.toList.drop 26).take 2).map UInt8.toNat = [16, 20] by decide +kernel) rfl
theorem dX11_even_28 : decode cX11_even 28 = .ok (.aload_n 3, 1) := dc_45 (show ((cX11_even.data.toList.drop 28).take 1).map UInt8.toNat = [45] by decide +kernel)
theorem dX11_even_29 : decode cX11_even 29 = .ok (.invokevirtual 117, 3) := dc_182 (show ((cX11_even.data.toList.drop 29).take 3).map UInt8.toNat = [182, 0, 117] by decide +kernel) rfl
theorem dX11_even_32 : decode cX11_even 32 = .ok (.iadd, 1) := dc_96 (show ((cX11_even.data.toList.drop 32).take 1).map UInt8.toNat = [96] by decide +kernel)
theorem dX11_even_33 : decode cX11_even 33 = .ok (.if_icmp .ge 26, 3) := dc_162 (show ((cX11_even.data.toList.drop 33).take 3).map UInt8.toNat = [162, 0, 26] by decide +kernel) rfl
theorem dX11_even_36 : decode cX11_even 36 = .ok (.aload_n 0, 1) := dc_42 (show ((cX11_even.data.toList.drop 36).take 1).map UInt8.toNat = [42] by decide +kernel)
theorem dX11_even_37 : decode cX11_even 37 = .ok (.getfield 63, 3) := dc_180 (show ((cX11_even.data.toList.drop 37).take 3).map UInt8.toNat = [180, 0, 63] by decide +kernel) rfl
theorem dX11_even_40 : decode cX11_even 40 = .ok (.aload_n 3, 1) := dc_45 (show ((cX11_even.data.toList.drop 40).take 1).map UInt8.toNat = [45] by decide +kernel)
theorem dX11_even_41 : decode cX11_even 41 = .ok (.aconst_null, 1) := dc_1 (show ((cX11_even.data.toList.drop 41).take 1).map UInt8.toNat = [1] by decide +kernel)
theorem dX11_even_42 : decode cX11_even 42 = .ok (.iconst (-1), 1) := dc_2 (show ((cX11_even.data.toList.drop 42).take 1).map UInt8.toNat = [2] by decide +kernel)
theorem dX11_even_43 : decode cX11_even 43 = .ok (.invokevirtual 280, 3) := dc_182 (show ((cX11_even.data.toList.drop 43).take 3).map UInt8.toNat = [182, 1, 24] by decide +kernel) rfl
theorem dX11_even_46 : decode cX11_even 46 = .ok (.aload_n 0, 1) := dc_42 (show ((cX11_even.data.toList.drop 46).take 1).map UInt8.toNat = [42] by decide +kernel)
theorem dX11_even_47 : decode cX11_even 47 = .ok (.getfield 63, 3) := dc_180 (show ((cX11_even.data.toList.drop 47).take 3).map UInt8.toNat = [180, 0, 63] by decide +kernel) rfl
theorem dX11_even_50 : decode cX11_even 50 = .ok (.getfield 284, 3) := dc_180 (show ((cX11_even.data.toList.drop 50).take 3).map UInt8.toNat = [180, 1, 28] by decide +kernel) rfl
theorem w_262 : (Cond.fieldLink "GooseBorder" (284 : Nat) "GooseBorder$Sharing" "bestPay" "[I") ∈ gb_wA := gb_t2 22 rfl rfl
theorem dX11_even_53 : decode cX11_even 53 = .ok (.iload_n 2, 1) := dc_28 (show ((cX11_even.data.toList.drop 53).take 1).map UInt8.toNat = [28] by decide +kernel)
theorem dX11_even_54 : decode cX11_even 54 = .ok (.bipush 20, 2) := dc_16 (show ((cX11_even.data.toList.drop 54).take 2).map UInt8.toNat = [16, 20] by decide +kernel) rfl
theorem dX11_even_56 : decode cX11_even 56 = .ok (.isub, 1) := dc_100 (show ((cX11_even.data.toList.drop 56).take 1).map UInt8.toNat = [100] by decide +kernel)
theorem dX11_even_57 : decode cX11_even 57 = .ok (.iaload, 1) := dc_46 (show ((cX11_even.data.toList.drop 57).take 1).map UInt8.toNat = [46] by decide +kernel)
theorem dX11_even_58 : decode cX11_even 58 = .ok (.ireturn, 1) := dc_172 (show ((cX11_even.data.toList.drop 58).take 1).map UInt8.toNat = [172] by decide +kernel)
def cs_Face_even_82 (n : Nat) (σ : gb_S) (v2 : Int32) (v3 : Nat) : gb_CR Int32 := gb_kk (gb_kB v3) (gb_cd (cs_Sharing_solve_B_n n σ v3 (-1)) (fun s_16 _ => (if v2 = 0 then gb_cd (cs_Sharing_difference n s_16) (fun s_23 r_24 => some (s_23, r_24)) else gb_ck (v2 - 10) 8 (gb_lt ((s_16.1 128) (Int32.toNatClampNeg (v2 - 10))) (fun x_22 => some (s_16, x_22))))))
def cs_Face_even_59 (n : Nat) (σ : gb_S) (v2 : Int32) (v3 : Nat) : gb_CR Int32 := gb_kk (gb_kB v3) ((if v2 = 0 then cs_Face_even_82 n σ v2 v3 else (if v2 < 10 then some (σ, (-1)) else gb_cd (cs_Border_geese_B n σ v3) (fun s_28 r_29 => (if v2 < ((10 : Int32) + r_29) then cs_Face_even_82 n s_28 v2 v3 else some (s_28, (-1)))))))
def cs_Face_even (n : Nat) (σ : gb_S) (p1 : Int32) (p2 : Int32) : gb_CR Int32 := gb_cd (cs_Face_borderAt n σ p1) (fun s_1 r_2 => (if r_2 = 0 then some (s_1, (-1)) else gb_kk (gb_kB r_2) (gb_cd (cs_Sharing_canShare_B n s_1 r_2) (fun s_7 r_8 => (if r_8 = 0 then some (s_7, (-1)) else (if p2 < 20 then cs_Face_even_59 n s_7 p2 r_2 else gb_cd (cs_Border_paths_B n s_7 r_2) (fun s_33 r_34 => (if ((20 : Int32) + r_34) ≤ p2 then cs_Face_even_59 n s_33 p2 r_2 else gb_cd (cs_Sharing_solve_B_n n s_33 r_2 (-1)) (fun s_38 _ => gb_ck (p2 - 20) 5 (gb_lt ((s_38.1 129) (Int32.toNatClampNeg (p2 - 20))) (fun x_43 => some (s_38, x_43))))))))))))
set_option maxHeartbeats 8000000 in
set_option maxRecDepth 100000 in
theorem cc_Face_even (l : Launch) (D : va_G) (cT : Nat → ClassId) (tt : Nat → Nat) (b1 b : Nat) (hb1 : b1 ≤ b) (n : Nat) (σ : gb_S) (p1 : Int32) (p2 : Int32) (σE : gb_S) (rE : Int32) (h : cs_Face_even n σ p1 p2 = some (σE, rE)) : Met l yX11_even (.code yX11_even cX11_even 4 (some FieldType.int) :: gb_wA) ({ frames := 6, cells := 0, slots := 0, locals := 140 }) (gb_Pc D cT tt b1 [.ref (b + 0), .int p1, .int p2] (fun h => va_P D vwCl (gb_wl b (gb_CW cT b σ)) h)) (gb_Qi (fun r h => r = rE ∧ va_P D vwCl (gb_wl b (gb_CW cT b σE)) h) (gb_fr b 135)) 0 0 (gb_fr b 135) := by
  refine Met.ofW (cc := cX11_even) (maxL := 4) (ret := (some FieldType.int)) (by decide) rfl ?_
  intro p e s m args below meth c s₁ B hml hv
  obtain ⟨rfl, hSt, hP⟩ := hv
  have hx := B.exec
  have hb := B.bytes
  have hr := B.returns
  have hts := atoms_spec (ws := .code yX11_even cX11_even 4 (some FieldType.int) :: gb_wA) B.pre
  have hq : ∀ w ∈ gb_wA, w.before _ s = true := fun w h => hts w (List.mem_cons_of_mem _ h)
  have hown : s.vm.findClass RX11 = some m.cls := findClass_of_methodNamed B.named
  have hlocks := B.notSynchronized
  clear B hts
  have hK := hSt.1
  have hS : va_S (gb_fr b 135) s.heap s.heap [] := va_S.rf
  have hl := lv_entry ([.ref (b + 0), .int p1, .int p2]) (n := 4) (Nat.le_of_ble_eq_true rfl)
  rw [lg_entry_eq]
  generalize (lg_sl ([.ref (b + 0), .int p1, .int p2]) ++ List.replicate (4 - (lg_sl ([.ref (b + 0), .int p1, .int p2])).length) Slot.unset).toArray = ls at hl ⊢
  replace hl : lv_has ls 4 [(0, .ref (b + 0)), (1, .int p1), (2, .int p2)] := hl
  have L82_2 : ∀ (σ : gb_S) (v2 : Int32) (v3 : Nat) (H : Heap) (locs : List Loc) (ls : Array Slot), cs_Face_even_82 n σ v2 v3 = some (σE, rE) → va_P D vwCl (gb_wl b (gb_CW cT b σ)) H → va_S (gb_fr b 135) s.heap H locs → lv_has ls 4 [(0, .ref (b + 0)), (2, .int v2), (3, .ref (b + v3))] → W p l e (headSpec (.code yX11_even cX11_even 4 (some FieldType.int) :: gb_wA) ({ frames := 6, cells := 0, slots := 0, locals := 140 })).room s m ([.ref (b + 0), .int p1, .int p2]).toArray below meth c H locs 0 0 (MQ below (gb_Qi (fun r h => r = rE ∧ va_P D vwCl (gb_wl b (gb_CW cT b σE)) h) (gb_fr b 135)) ([.ref (b + 0), .int p1, .int p2]).toArray s 0 0 (gb_fr b 135)) (F0 m 82 ls []) := by
    clear h hP hS hl ls
    intro σ v2 v3 H locs ls h hP hS hl
    unfold cs_Face_even_82 at h
    obtain ⟨z_15, h⟩ := gb_kk_s h
    refine lv_aload_n hx hb dX11_even_82 rfl (lv_at hl 0 rfl) ?_
    refine va_get (ci := 9) (v := (.ref (b + 120))) (C := RX11) (T := TX11) (N := 10) hx hb hq i_X11 hown hK hP 0 (gb_at b rfl) rfl 7 (by decide) (hq _ w_322) (fun _ h9 => h9) rfl dX11_even_83 ?_
    refine lv_aload_n hx hb dX11_even_86 rfl (lv_at hl 2 rfl) ?_
    refine lv_null hx hb dX11_even_87 ?_
    refine lv_iconst (v := (-1)) hx hb dX11_even_88 (by decide) ?_
    obtain ⟨s_16, r_17, z_18, h⟩ := gb_cd_s h
    refine gb_callv (va_runV (C := RX8) (As := [.ref (b + v3), .null, .int (-1)]) (rest := []) ⟨hx, hb, hml, hown, hq⟩ (cc_Sharing_solve_B_n l D cT tt b1 b hb1 n σ v3 (-1) s_16 r_17 z_18) (cwV 3 hq (gb_gV w_890 w_891 w_892 w_12 w_893) rfl rfl rfl (by decide +kernel) ⟨Nat.le_of_ble_eq_true rfl, Nat.le_of_ble_eq_true rfl⟩) (gb_preV (r := (RX8, TX8, 11)) (ci := 7) (q0 := 120) hSt hP rfl (gb_at b rfl) hS (fun q h => Nat.le_trans hb1 h.1) hP) rfl rfl hl.1 rfl (lv_room (Nat.le_of_ble_eq_true rfl)) dX11_even_89 ⟨Nat.le_of_ble_eq_true rfl, Nat.le_of_ble_eq_true rfl⟩) hS (fun _ h => h) (fun _ h => h) (fun H locs hY hk hS => ?_)
    have hP := hY
    refine lv_iload_n hx hb dX11_even_92 rfl (lv_at hl 1 rfl) ?_
    refine lv_if_ne (tgt := 106) hx hb dX11_even_93 (by decide) (fun c_20 => ?_) (fun c_20 => ?_)
    · rw [if_neg c_20] at h
      refine lv_aload_n hx hb dX11_even_106 rfl (lv_at hl 0 rfl) ?_
      refine va_get (ci := 9) (v := (.ref (b + 120))) (C := RX11) (T := TX11) (N := 10) hx hb hq i_X11 hown hK hP 0 (gb_at b rfl) rfl 7 (by decide) (hq _ w_322) (fun _ h9 => h9) rfl dX11_even_107 ?_
      refine va_get (ci := 7) (v := (.ref (b + 128))) (C := RX8) (T := TX8) (N := 11) hx hb hq i_X8 hown hK hP 120 (gb_at b rfl) rfl 8 (by decide) (hq _ w_260) (fun _ h9 => h9) rfl dX11_even_110 ?_
      refine lv_iload_n hx hb dX11_even_113 rfl (lv_at hl 1 rfl) ?_
      refine lv_bipush (v := 10) hx hb dX11_even_114 (by decide) ?_
      refine lv_isub hx hb dX11_even_116 ?_
      obtain ⟨z_21, h⟩ := gb_ck_s h
      refine va_iald hx hb hK hP 128 0 (gb_at b rfl) rfl z_21 dX11_even_117 ?_
      refine lv_topi (fun x_22 ex_22 => ?_)
      replace h := gb_lt_s ex_22 h
      obtain ⟨e1, e2⟩ := gb_eq2 h
      exact W.iret (v := x_22) hx hb hr (fun t ht hW => gb_ri ht ⟨e2, by rw [← e1]; exact hP⟩ hS) hS.2.2 dX11_even_118
    · rw [if_pos c_20] at h
      refine lv_aload_n hx hb dX11_even_96 rfl (lv_at hl 0 rfl) ?_
      refine va_get (ci := 9) (v := (.ref (b + 120))) (C := RX11) (T := TX11) (N := 10) hx hb hq i_X11 hown hK hP 0 (gb_at b rfl) rfl 7 (by decide) (hq _ w_322) (fun _ h9 => h9) rfl dX11_even_97 ?_
      obtain ⟨s_23, r_24, z_25, h⟩ := gb_cd_s h
      refine gb_calli (va_runV (C := RX8) (As := []) (rest := []) ⟨hx, hb, hml, hown, hq⟩ (cc_Sharing_difference l D cT tt b1 b hb1 n s_16 s_23 r_24 z_25) (cwV 0 hq (gb_gV w_931 w_932 w_933 w_12 w_934) rfl rfl rfl (by decide +kernel) ⟨Nat.le_of_ble_eq_true rfl, Nat.le_of_ble_eq_true rfl⟩) (gb_preV (r := (RX8, TX8, 11)) (ci := 7) (q0 := 120) hSt hP rfl (gb_at b rfl) hS (fun q h => Nat.le_trans hb1 h.1) hP) rfl rfl hl.1 rfl (lv_room (Nat.le_of_ble_eq_true rfl)) dX11_even_100 ⟨Nat.le_of_ble_eq_true rfl, Nat.le_of_ble_eq_true rfl⟩) hS (fun _ h => h) (fun _ h => h) (fun q_26 H locs hY hk hS => ?_)
      obtain ⟨hq_26, hP⟩ := hY
      replace hq_26 := hq_26.symm
      subst hq_26
      refine lv_goto (tgt := 118) hx hb dX11_even_103 (by decide) ?_
      obtain ⟨e1, e2⟩ := gb_eq2 h
      exact W.iret (v := r_24) hx hb hr (fun t ht hW => gb_ri ht ⟨e2, by rw [← e1]; exact hP⟩ hS) hS.2.2 dX11_even_118
  have L59_1 : ∀ (σ : gb_S) (v2 : Int32) (v3 : Nat) (H : Heap) (locs : List Loc) (ls : Array Slot), cs_Face_even_59 n σ v2 v3 = some (σE, rE) → va_P D vwCl (gb_wl b (gb_CW cT b σ)) H → va_S (gb_fr b 135) s.heap H locs → lv_has ls 4 [(0, .ref (b + 0)), (2, .int v2), (3, .ref (b + v3))] → W p l e (headSpec (.code yX11_even cX11_even 4 (some FieldType.int) :: gb_wA) ({ frames := 6, cells := 0, slots := 0, locals := 140 })).room s m ([.ref (b + 0), .int p1, .int p2]).toArray below meth c H locs 0 0 (MQ below (gb_Qi (fun r h => r = rE ∧ va_P D vwCl (gb_wl b (gb_CW cT b σE)) h) (gb_fr b 135)) ([.ref (b + 0), .int p1, .int p2]).toArray s 0 0 (gb_fr b 135)) (F0 m 59 ls []) := by
    clear h hP hS hl ls
    intro σ v2 v3 H locs ls h hP hS hl
    unfold cs_Face_even_59 at h
    obtain ⟨z_13, h⟩ := gb_kk_s h
    refine lv_iload_n hx hb dX11_even_59 rfl (lv_at hl 1 rfl) ?_
    refine lv_if_eq (tgt := 82) hx hb dX11_even_60 (by decide) (fun c_14 => ?_) (fun c_14 => ?_)
    · rw [if_pos c_14] at h
      exact L82_2 _ _ _ _ _ _ h hP hS (lv_sub hl [0, 1, 2] rfl)
    · rw [if_neg c_14] at h
      refine lv_iload_n hx hb dX11_even_63 rfl (lv_at hl 1 rfl) ?_
      refine lv_bipush (v := 10) hx hb dX11_even_64 (by decide) ?_
      refine lv_icmp_lt (tgt := 80) hx hb dX11_even_66 (by decide) (fun c_27 => ?_) (fun c_27 => ?_)
      · rw [if_pos c_27] at h
        refine lv_iconst (v := (-1)) hx hb dX11_even_80 (by decide) ?_
        obtain ⟨e1, e2⟩ := gb_eq2 h
        exact W.iret (v := (-1)) hx hb hr (fun t ht hW => gb_ri ht ⟨e2, by rw [← e1]; exact hP⟩ hS) hS.2.2 dX11_even_81
      · rw [if_neg c_27] at h
        refine lv_iload_n hx hb dX11_even_69 rfl (lv_at hl 1 rfl) ?_
        refine lv_bipush (v := 10) hx hb dX11_even_70 (by decide) ?_
        refine lv_aload_n hx hb dX11_even_72 rfl (lv_at hl 2 rfl) ?_
        obtain ⟨s_28, r_29, z_30, h⟩ := gb_cd_s h
        refine gb_calli (va_runV (C := RX0) (As := []) (rest := [.int 10, .int v2]) ⟨hx, hb, hml, hown, hq⟩ (cc_Border_geese_B l D cT tt b1 b hb1 n σ v3 s_28 r_29 z_30) (cwV 0 hq (gb_gV w_598 w_477 w_478 w_4 w_479) rfl rfl rfl (by decide +kernel) ⟨Nat.le_of_ble_eq_true rfl, Nat.le_of_ble_eq_true rfl⟩) (gb_preV (r := (RX0, TX0, 1)) (ci := 0) (q0 := v3) hSt hP rfl (gb_at b (gb_cB z_13).1) hS (fun q h => Nat.le_trans hb1 h.1) hP) rfl rfl hl.1 rfl (lv_room (Nat.le_of_ble_eq_true rfl)) dX11_even_73 ⟨Nat.le_of_ble_eq_true rfl, Nat.le_of_ble_eq_true rfl⟩) hS (fun _ h => h) (fun _ h => h) (fun q_31 H locs hY hk hS => ?_)
        obtain ⟨hq_31, hP⟩ := hY
        replace hq_31 := hq_31.symm
        subst hq_31
        refine lv_iadd hx hb dX11_even_76 ?_
        refine lv_icmp_lt (tgt := 82) hx hb dX11_even_77 (by decide) (fun c_32 => ?_) (fun c_32 => ?_)
        · rw [if_pos c_32] at h
          exact L82_2 _ _ _ _ _ _ h hP hS (lv_sub hl [0, 1, 2] rfl)
        · rw [if_neg c_32] at h
          refine lv_iconst (v := (-1)) hx hb dX11_even_80 (by decide) ?_
          obtain ⟨e1, e2⟩ := gb_eq2 h
          exact W.iret (v := (-1)) hx hb hr (fun t ht hW => gb_ri ht ⟨e2, by rw [← e1]; exact hP⟩ hS) hS.2.2 dX11_even_81
  unfold cs_Face_even at h
  refine lv_aload_n hx hb dX11_even_0 rfl (lv_at hl 0 rfl) ?_
  refine lv_iload_n hx hb dX11_even_1 rfl (lv_at hl 1 rfl) ?_
  obtain ⟨s_1, r_2, z_3, h⟩ := gb_cd_s h
  refine gb_callq (va_runV (C := RX11) (As := [.int p1]) (rest := []) ⟨hx, hb, hml, hown, hq⟩ (cc_Face_borderAt l D cT tt b1 b hb1 n σ p1 s_1 r_2 z_3) (cwV 1 hq (gb_gV w_593 w_595 s_1_7 w_1 w_596) rfl rfl rfl (by decide +kernel) ⟨Nat.le_of_ble_eq_true rfl, Nat.le_of_ble_eq_true rfl⟩) (gb_preV (r := (RX11, TX11, 10)) (ci := 9) (q0 := 0) hSt hP rfl (gb_at b rfl) hS (fun q h => Nat.le_trans hb1 h.1) hP) rfl rfl hl.1 rfl (lv_room (Nat.le_of_ble_eq_true rfl)) dX11_even_2 ⟨Nat.le_of_ble_eq_true rfl, Nat.le_of_ble_eq_true rfl⟩) hS (fun _ h => h) (fun _ h => h) (fun q_4 H locs hY hk hS => ?_)
  obtain ⟨hq_4, hP⟩ := hY
  subst hq_4
  rw [gb_onv]
  by_cases c_5 : r_2 = 0
  · rw [if_pos c_5] at h
    rw [gb_nv0 c_5]
    refine lv_astore_nN (lv' := [(3, .null), (0, .ref (b + 0)), (1, .int p1), (2, .int p2)]) hx hb dX11_even_5 rfl hl (by decide) rfl (fun ls hl => ?_)
    refine lv_aload_nN hx hb dX11_even_6 rfl (lv_at hl 0 rfl) ?_
    refine lv_ifnullN (tgt := 17) hx hb dX11_even_7 (by decide) ?_
    refine lv_iconst (v := (-1)) hx hb dX11_even_17 (by decide) ?_
    obtain ⟨e1, e2⟩ := gb_eq2 h
    exact W.iret (v := (-1)) hx hb hr (fun t ht hW => gb_ri ht ⟨e2, by rw [← e1]; exact hP⟩ hS) hS.2.2 dX11_even_18
  rw [if_neg c_5] at h
  rw [gb_nv1 c_5]
  obtain ⟨z_6, h⟩ := gb_kk_s h
  refine lv_astore_n (lv' := [(3, .ref (b + r_2)), (0, .ref (b + 0)), (1, .int p1), (2, .int p2)]) hx hb dX11_even_5 rfl hl (by decide) rfl (fun ls hl => ?_)
  refine lv_aload_n hx hb dX11_even_6 rfl (lv_at hl 0 rfl) ?_
  refine lv_ifnull hx hb dX11_even_7 ?_
  refine lv_aload_n hx hb dX11_even_10 rfl (lv_at hl 0 rfl) ?_
  obtain ⟨s_7, r_8, z_9, h⟩ := gb_cd_s h
  refine gb_calli (va_runS (As := [.ref (b + r_2)]) (rest := []) ⟨hx, hb, hml, hown, hq⟩ (cc_Sharing_canShare_B l D cT tt b1 b hb1 n s_1 r_2 s_7 r_8 z_9) (va_cwS 1 hq (gb_gS w_885 w_886 w_12 w_887) rfl rfl rfl (by decide +kernel) ⟨Nat.le_of_ble_eq_true rfl, Nat.le_of_ble_eq_true rfl⟩) (gb_preS hSt hS (fun q h => Nat.le_trans hb1 h.1) hP) rfl rfl hl.1 rfl (lv_room (Nat.le_of_ble_eq_true rfl)) dX11_even_11 ⟨Nat.le_of_ble_eq_true rfl, Nat.le_of_ble_eq_true rfl⟩) hS (fun _ h => h) (fun _ h => h) (fun q_10 H locs hY hk hS => ?_)
  obtain ⟨hq_10, hP⟩ := hY
  replace hq_10 := hq_10.symm
  subst hq_10
  refine lv_if_ne (tgt := 19) hx hb dX11_even_14 (by decide) (fun c_11 => ?_) (fun c_11 => ?_)
  · rw [if_neg c_11] at h
    refine lv_iload_n hx hb dX11_even_19 rfl (lv_at hl 3 rfl) ?_
    refine lv_bipush (v := 20) hx hb dX11_even_20 (by decide) ?_
    refine lv_icmp_lt (tgt := 59) hx hb dX11_even_22 (by decide) (fun c_12 => ?_) (fun c_12 => ?_)
    · rw [if_pos c_12] at h
      exact L59_1 _ _ _ _ _ _ h hP hS (lv_sub hl [1, 3, 0] rfl)
    · rw [if_neg c_12] at h
      refine lv_iload_n hx hb dX11_even_25 rfl (lv_at hl 3 rfl) ?_
      refine lv_bipush (v := 20) hx hb dX11_even_26 (by decide) ?_
      refine lv_aload_n hx hb dX11_even_28 rfl (lv_at hl 0 rfl) ?_
      obtain ⟨s_33, r_34, z_35, h⟩ := gb_cd_s h
      refine gb_calli (va_runV (C := RX0) (As := []) (rest := [.int 20, .int p2]) ⟨hx, hb, hml, hown, hq⟩ (cc_Border_paths_B l D cT tt b1 b hb1 n s_7 r_2 s_33 r_34 z_35) (cwV 0 hq (gb_gV w_597 w_473 w_474 w_4 w_475) rfl rfl rfl (by decide +kernel) ⟨Nat.le_of_ble_eq_true rfl, Nat.le_of_ble_eq_true rfl⟩) (gb_preV (r := (RX0, TX0, 1)) (ci := 0) (q0 := r_2) hSt hP rfl (gb_at b (gb_cB z_6).1) hS (fun q h => Nat.le_trans hb1 h.1) hP) rfl rfl hl.1 rfl (lv_room (Nat.le_of_ble_eq_true rfl)) dX11_even_29 ⟨Nat.le_of_ble_eq_true rfl, Nat.le_of_ble_eq_true rfl⟩) hS (fun _ h => h) (fun _ h => h) (fun q_36 H locs hY hk hS => ?_)
      obtain ⟨hq_36, hP⟩ := hY
      replace hq_36 := hq_36.symm
      subst hq_36
      refine lv_iadd hx hb dX11_even_32 ?_
      refine lv_icmp_ge (tgt := 59) hx hb dX11_even_33 (by decide) (fun c_37 => ?_) (fun c_37 => ?_)
      · rw [if_pos c_37] at h
        exact L59_1 _ _ _ _ _ _ h hP hS (lv_sub hl [1, 3, 0] rfl)
      · rw [if_neg c_37] at h
        refine lv_aload_n hx hb dX11_even_36 rfl (lv_at hl 1 rfl) ?_
        refine va_get (ci := 9) (v := (.ref (b + 120))) (C := RX11) (T := TX11) (N := 10) hx hb hq i_X11 hown hK hP 0 (gb_at b rfl) rfl 7 (by decide) (hq _ w_322) (fun _ h9 => h9) rfl dX11_even_37 ?_
        refine lv_aload_n hx hb dX11_even_40 rfl (lv_at hl 0 rfl) ?_
        refine lv_null hx hb dX11_even_41 ?_
        refine lv_iconst (v := (-1)) hx hb dX11_even_42 (by decide) ?_
        obtain ⟨s_38, r_39, z_40, h⟩ := gb_cd_s h
        refine gb_callv (va_runV (C := RX8) (As := [.ref (b + r_2), .null, .int (-1)]) (rest := []) ⟨hx, hb, hml, hown, hq⟩ (cc_Sharing_solve_B_n l D cT tt b1 b hb1 n s_33 r_2 (-1) s_38 r_39 z_40) (cwV 3 hq (gb_gV w_890 w_891 w_892 w_12 w_893) rfl rfl rfl (by decide +kernel) ⟨Nat.le_of_ble_eq_true rfl, Nat.le_of_ble_eq_true rfl⟩) (gb_preV (r := (RX8, TX8, 11)) (ci := 7) (q0 := 120) hSt hP rfl (gb_at b rfl) hS (fun q h => Nat.le_trans hb1 h.1) hP) rfl rfl hl.1 rfl (lv_room (Nat.le_of_ble_eq_true rfl)) dX11_even_43 ⟨Nat.le_of_ble_eq_true rfl, Nat.le_of_ble_eq_true rfl⟩) hS (fun _ h => h) (fun _ h => h) (fun H locs hY hk hS => ?_)
        have hP := hY
        refine lv_aload_n hx hb dX11_even_46 rfl (lv_at hl 1 rfl) ?_
        refine va_get (ci := 9) (v := (.ref (b + 120))) (C := RX11) (T := TX11) (N := 10) hx hb hq i_X11 hown hK hP 0 (gb_at b rfl) rfl 7 (by decide) (hq _ w_322) (fun _ h9 => h9) rfl dX11_even_47 ?_
        refine va_get (ci := 7) (v := (.ref (b + 129))) (C := RX8) (T := TX8) (N := 11) hx hb hq i_X8 hown hK hP 120 (gb_at b rfl) rfl 9 (by decide) (hq _ w_262) (fun _ h9 => h9) rfl dX11_even_50 ?_
        refine lv_iload_n hx hb dX11_even_53 rfl (lv_at hl 3 rfl) ?_
        refine lv_bipush (v := 20) hx hb dX11_even_54 (by decide) ?_
        refine lv_isub hx hb dX11_even_56 ?_
        obtain ⟨z_42, h⟩ := gb_ck_s h
        refine va_iald hx hb hK hP 129 0 (gb_at b rfl) rfl z_42 dX11_even_57 ?_
        refine lv_topi (fun x_43 ex_43 => ?_)
        replace h := gb_lt_s ex_43 h
        obtain ⟨e1, e2⟩ := gb_eq2 h
        exact W.iret (v := x_43) hx hb hr (fun t ht hW => gb_ri ht ⟨e2, by rw [← e1]; exact hP⟩ hS) hS.2.2 dX11_even_58
  · rw [if_pos c_11] at h
    refine lv_iconst (v := (-1)) hx hb dX11_even_17 (by decide) ?_
    obtain ⟨e1, e2⟩ := gb_eq2 h
    exact W.iret (v := (-1)) hx hb hr (fun t ht hW => gb_ri ht ⟨e2, by rw [← e1]; exact hP⟩ hS) hS.2.2 dX11_even_18
theorem dX11_richest_0 : decode cX11_richest 0 = .ok (.aload_n 0, 1) := dc_42 (show ((cX11_richest.data.toList.drop 0).take 1).map UInt8.toNat = [42] by decide +kernel)
theorem dX11_richest_1 : decode cX11_richest 1 = .ok (.iload_n 1, 1) := dc_27 (show ((cX11_richest.data.toList.drop 1).take 1).map UInt8.toNat = [27] by decide +kernel)
theorem dX11_richest_2 : decode cX11_richest 2 = .ok (.invokevirtual 113, 3) := dc_182 (show ((cX11_richest.data.toList.drop 2).take 3).map UInt8.toNat = [182, 0, 113] by decide +kernel) rfl
theorem dX11_richest_5 : decode cX11_richest 5 = .ok (.astore 4, 2) := dc_58 (show ((cX11_richest.data.toList.drop 5).take 2).map UInt8.toNat = [58, 4] by decide +kernel) rfl
theorem dX11_richest_7 : decode cX11_richest 7 = .ok (.aload_n 0, 1) := dc_42 (show ((cX11_richest.data.toList.drop 7).take 1).map UInt8.toNat = [42] by decide +kernel)
theorem dX11_richest_8 : decode cX11_richest 8 = .ok (.iload_n 2, 1) := dc_28 (show ((cX11_richest.data.toList.drop 8).take 1).map UInt8.toNat = [28] by decide +kernel)
theorem dX11_richest_9 : decode cX11_richest 9 = .ok (.invokevirtual 156, 3) := dc_182 (show ((cX11_richest.data.toList.drop 9).take 3).map UInt8.toNat = [182, 0, 156] by decide +kernel) rfl
theorem dX11_richest_12 : decode cX11_richest 12 = .ok (.astore 5, 2) := dc_58 (show ((cX11_richest.data.toList.drop 12).take 2).map UInt8.toNat = [58, 5] by decide +kernel) rfl
theorem dX11_richest_14 : decode cX11_richest 14 = .ok (.aload 4, 2) := dc_25 (show ((cX11_richest.data.toList.drop 14).take 2).map UInt8.toNat = [25, 4] by decide +kernel) rfl
theorem dX11_richest_16 : decode cX11_richest 16 = .ok (.ifnull 16, 3) := dc_198 (show ((cX11_richest.data.toList.drop 16).take 3).map UInt8.toNat = [198, 0, 16] by decide +kernel) rfl
theorem dX11_richest_32 : decode cX11_richest 32 = .ok (.iconst (-1), 1) := dc_2 (show ((cX11_richest.data.toList.drop 32).take 1).map UInt8.toNat = [2] by decide +kernel)
theorem dX11_richest_33 : decode cX11_richest 33 = .ok (.ireturn, 1) := dc_172 (show ((cX11_richest.data.toList.drop 33).take 1).map UInt8.toNat = [172] by decide +kernel)
theorem dX11_richest_19 : decode cX11_richest 19 = .ok (.aload 5, 2) := dc_25 (show ((cX11_richest.data.toList.drop 19).take 2).map UInt8.toNat = [25, 5] by decide +kernel) rfl
theorem dX11_richest_21 : decode cX11_richest 21 = .ok (.ifnull 11, 3) := dc_198 (show ((cX11_richest.data.toList.drop 21).take 3).map UInt8.toNat = [198, 0, 11] by decide +kernel) rfl
theorem dX11_richest_24 : decode cX11_richest 24 = .ok (.aload 4, 2) := dc_25 (show ((cX11_richest.data.toList.drop 24).take 2).map UInt8.toNat = [25, 4] by decide +kernel) rfl
theorem dX11_richest_26 : decode cX11_richest 26 = .ok (.invokestatic 276, 3) := dc_184 (show ((cX11_richest.data.toList.drop 26).take 3).map UInt8.toNat = [184, 1, 20] by decide +kernel) rfl
theorem dX11_richest_29 : decode cX11_richest 29 = .ok (.ifCond .ne 5, 3) := dc_154 (show ((cX11_richest.data.toList.drop 29).take 3).map UInt8.toNat = [154, 0, 5] by decide +kernel) rfl
theorem dX11_richest_34 : decode cX11_richest 34 = .ok (.iload_n 3, 1) := dc_29 (show ((cX11_richest.data.toList.drop 34).take 1).map UInt8.toNat = [29] by decide +kernel)
theorem dX11_richest_35 : decode cX11_richest 35 = .ok (.ifCond .eq 23, 3) := dc_153 (show ((cX11_richest.data.toList.drop 35).take 3).map UInt8.toNat = [153, 0, 23] by decide +kernel) rfl
theorem dX11_richest_58 : decode cX11_richest 58 = .ok (.aload_n 0, 1) := dc_42 (show ((cX11_richest.data.toList.drop 58).take 1).map UInt8.toNat = [42] by decide +kernel)
theorem dX11_richest_59 : decode cX11_richest 59 = .ok (.getfield 63, 3) := dc_180 (show ((cX11_richest.data.toList.drop 59).take 3).map UInt8.toNat = [180, 0, 63] by decide +kernel) rfl
theorem dX11_richest_62 : decode cX11_richest 62 = .ok (.aload 4, 2) := dc_25 (show ((cX11_richest.data.toList.drop 62).take 2).map UInt8.toNat = [25, 4] by decide +kernel) rfl
theorem dX11_richest_64 : decode cX11_richest 64 = .ok (.aload 5, 2) := dc_25 (show ((cX11_richest.data.toList.drop 64).take 2).map UInt8.toNat = [25, 5] by decide +kernel) rfl
theorem dX11_richest_66 : decode cX11_richest 66 = .ok (.iconst (-1), 1) := dc_2 (show ((cX11_richest.data.toList.drop 66).take 1).map UInt8.toNat = [2] by decide +kernel)
theorem dX11_richest_67 : decode cX11_richest 67 = .ok (.invokevirtual 280, 3) := dc_182 (show ((cX11_richest.data.toList.drop 67).take 3).map UInt8.toNat = [182, 1, 24] by decide +kernel) rfl
def cs_Sharing_begin_B_L_177 (n : Nat) : Nat → gb_S → Int32 → gb_CR Unit
  | 0, _, _ => none
  | mm + 1, σ, v4 => (if (σ.1 120 4) ≤ v4 then some (σ, ()) else gb_ck v4 5 (gb_lt ((σ.1 124) (Int32.toNatClampNeg v4)) (fun x_20 => gb_cd (cs_Sharing_payAnew n σ x_20) (fun s_21 _ => gb_lt (v4 + 1) (fun x_25 => cs_Sharing_begin_B_L_177 n mm s_21 x_25)))))
def cs_Sharing_begin_B_L_97 (n : Nat) (k74 : gb_S → Int32 → gb_CR Unit) : Nat → gb_S → Int32 → Int32 → gb_CR Unit
  | 0, _, _, _ => none
  | mm + 1, σ, v4, v5 => gb_kk (gb_kB (σ.2.1 2)) (gb_cd (cs_Border_paths_B n σ (σ.2.1 2)) (fun s_29 r_30 => (if r_30 ≤ v5 then gb_lt ((s_29.1 124) (Int32.toNatClampNeg 0)) (fun x_34 => gb_ck x_34 5 (gb_lt ((s_29.1 126) (Int32.toNatClampNeg x_34)) (fun x_36 => gb_lt ((s_29.1 124) (Int32.toNatClampNeg 0)) (fun x_37 => gb_ck ((v4 * 5) + x_37) 40 (gb_lt ((s_29.1 123) (Int32.toNatClampNeg ((v4 * 5) + x_37))) (fun x_39 => gb_ck x_34 5 (gb_lt (gb_su s_29 126 (upd (s_29.1 126) (Int32.toNatClampNeg x_34) (x_36 + x_39))) (fun s_41 => gb_lt (v4 + 1) (fun x_42 => k74 s_41 x_42))))))))) else gb_kk (gb_kB (s_29.2.1 2)) (gb_cd (cs_Border_marksFirst_B n s_29 (s_29.2.1 2) v4 v5) (fun s_44 r_45 => gb_ck ((v4 * 5) + v5) 40 (gb_lt (gb_su s_44 123 (upd (s_44.1 123) (Int32.toNatClampNeg ((v4 * 5) + v5)) r_45)) (fun s_49 => gb_lt (v5 + 1) (fun x_50 => cs_Sharing_begin_B_L_97 n k74 mm s_49 v4 x_50))))))))
def cs_Sharing_begin_B_L_74 (n : Nat) : Nat → gb_S → Int32 → gb_CR Unit
  | 0, _, _ => none
  | mm + 1, σ, v4 => gb_kk (gb_kB (σ.2.1 2)) (gb_cd (cs_Border_geese_B n σ (σ.2.1 2)) (fun s_13 r_14 => (if r_14 ≤ v4 then cs_Sharing_begin_B_L_177 n n s_13 0 else gb_ck v4 8 (gb_lt (gb_su s_13 125 (upd (s_13.1 125) (Int32.toNatClampNeg v4) 0)) (fun s_27 => cs_Sharing_begin_B_L_97 n (fun σ v4 => cs_Sharing_begin_B_L_74 n mm σ v4) n s_27 v4 0)))))
def cs_Sharing_begin_B_L_18 (n : Nat) : Nat → gb_S → Int32 → Int32 → gb_CR Unit
  | 0, _, _, _ => none
  | mm + 1, σ, v3, v4 => gb_kk (gb_kB (σ.2.1 2)) (gb_cd (cs_Border_paths_B n σ (σ.2.1 2)) (fun s_7 r_8 => (if r_8 ≤ v4 then cs_Sharing_begin_B_L_74 n n s_7 0 else gb_ck v4 5 (gb_lt (gb_su s_7 126 (upd (s_7.1 126) (Int32.toNatClampNeg v4) 0)) (fun s_52 => (if v4 = v3 then gb_lt (v4 + 1) (fun x_54 => cs_Sharing_begin_B_L_18 n mm s_52 v3 x_54) else gb_ck (s_52.1 120 4) 5 (gb_lt (gb_su s_52 124 (upd (s_52.1 124) (Int32.toNatClampNeg (s_52.1 120 4)) v4)) (fun s_56 => gb_lt (gb_su s_56 120 (upd (s_56.1 120) 4 ((s_56.1 120 4) + 1))) (fun s_57 => gb_lt (v4 + 1) (fun x_58 => cs_Sharing_begin_B_L_18 n mm s_57 v3 x_58))))))))))
def cs_Sharing_begin_B_L (n : Nat) (σ : gb_S) (p1 : Nat) (p2 : Nat) (p3 : Int32) : gb_CR Unit := gb_kk (gb_kB p1) (gb_kk (gb_kL p2) (gb_lt (gb_sq σ 2 p1) (fun s_3 => gb_lt (gb_sq s_3 3 p2) (fun s_4 => gb_lt (gb_su s_4 120 (upd (s_4.1 120) 4 0)) (fun s_5 => cs_Sharing_begin_B_L_18 n n s_5 p3 0)))))
set_option maxHeartbeats 8000000 in
set_option maxRecDepth 100000 in
theorem cc_Sharing_begin_B_L (l : Launch) (D : va_G) (cT : Nat → ClassId) (tt : Nat → Nat) (b1 b : Nat) (hb1 : b1 ≤ b) (n : Nat) (σ : gb_S) (p1 : Nat) (p2 : Nat) (p3 : Int32) (σE : gb_S) (rE : Unit) (h : cs_Sharing_begin_B_L n σ p1 p2 p3 = some (σE, rE)) : Met l yX8_begin (.code yX8_begin cX8_begin 6 none :: gb_wA) ({ frames := 4, cells := 0, slots := 0, locals := 89 }) (gb_Pc D cT tt b1 [.ref (b + 120), .ref (b + p1), .ref (b + p2), .int p3] (fun h => va_P D vwCl (gb_wl b (gb_CW cT b σ)) h)) (gb_Qv (fun h => va_P D vwCl (gb_wl b (gb_CW cT b σE)) h) (gb_fr b 135)) 0 0 (gb_fr b 135) := by
  refine Met.ofW (cc := cX8_begin) (maxL := 6) (ret := none) (by decide) rfl ?_
  intro p e s m args below meth c s₁ B hml hv
  obtain ⟨rfl, hSt, hP⟩ := hv
  have hx := B.exec
  have hb := B.bytes
  have hr := B.returns
  have hts := atoms_spec (ws := .code yX8_begin cX8_begin 6 none :: gb_wA) B.pre
  have hq : ∀ w ∈ gb_wA, w.before _ s = true := fun w h => hts w (List.mem_cons_of_mem _ h)
  have hown : s.vm.findClass RX8 = some m.cls := findClass_of_methodNamed B.named
  have hlocks := B.notSynchronized
  clear B hts
  have hK := hSt.1
  have hS : va_S (gb_fr b 135) s.heap s.heap [] := va_S.rf
  have hl := lv_entry ([.ref (b + 120), .ref (b + p1), .ref (b + p2), .int p3]) (n := 6) (Nat.le_of_ble_eq_true rfl)
  rw [lg_entry_eq]
  generalize (lg_sl ([.ref (b + 120), .ref (b + p1), .ref (b + p2), .int p3]) ++ List.replicate (6 - (lg_sl ([.ref (b + 120), .ref (b + p1), .ref (b + p2), .int p3])).length) Slot.unset).toArray = ls at hl ⊢
  replace hl : lv_has ls 6 [(0, .ref (b + 120)), (1, .ref (b + p1)), (2, .ref (b + p2)), (3, .int p3)] := hl
  have L177_3 : ∀ (mm : Nat) (σ : gb_S) (v4 : Int32) (H : Heap) (locs : List Loc) (ls : Array Slot), cs_Sharing_begin_B_L_177 n mm σ v4 = some (σE, rE) → va_P D vwCl (gb_wl b (gb_CW cT b σ)) H → va_S (gb_fr b 135) s.heap H locs → lv_has ls 6 [(0, .ref (b + 120)), (4, .int v4)] → W p l e (headSpec (.code yX8_begin cX8_begin 6 none :: gb_wA) ({ frames := 4, cells := 0, slots := 0, locals := 89 })).room s m ([.ref (b + 120), .ref (b + p1), .ref (b + p2), .int p3]).toArray below meth c H locs 0 0 (MQ below (gb_Qv (fun h => va_P D vwCl (gb_wl b (gb_CW cT b σE)) h) (gb_fr b 135)) ([.ref (b + 120), .ref (b + p1), .ref (b + p2), .int p3]).toArray s 0 0 (gb_fr b 135)) (F0 m 177 ls []) := by
    clear h hP hS hl ls
    intro mm
    induction mm with
    | zero =>
      intro σ v4 H locs ls h
      cases h
    | succ mm ih =>
      intro σ v4 H locs ls h hP hS hl
      rw [cs_Sharing_begin_B_L_177] at h
      refine lv_iload hx hb dX8_begin_177 (lv_at hl 1 rfl) ?_
      refine lv_aload_n hx hb dX8_begin_179 rfl (lv_at hl 0 rfl) ?_
      refine va_get (ci := 7) (v := (.int (σ.1 120 4))) (C := RX8) (T := TX8) (N := 11) hx hb hq i_X8 hown hK hP 120 (gb_at b rfl) rfl 4 (by decide) (hq _ w_255) (fun _ h9 => h9) rfl dX8_begin_180 ?_
      refine lv_icmp_ge (tgt := 203) hx hb dX8_begin_183 (by decide) (fun c_18 => ?_) (fun c_18 => ?_)
      · rw [if_pos c_18] at h
        obtain ⟨e1, -⟩ := gb_eq2 h
        exact W.vret hx hb hr (fun t ht hW => gb_rv ht (by rw [← e1]; exact hP) hS) hS.2.2 dX8_begin_203
      · rw [if_neg c_18] at h
        refine lv_aload_n hx hb dX8_begin_186 rfl (lv_at hl 0 rfl) ?_
        refine lv_aload_n hx hb dX8_begin_187 rfl (lv_at hl 0 rfl) ?_
        refine va_get (ci := 7) (v := (.ref (b + 124))) (C := RX8) (T := TX8) (N := 11) hx hb hq i_X8 hown hK hP 120 (gb_at b rfl) rfl 3 (by decide) (hq _ w_254) (fun _ h9 => h9) rfl dX8_begin_188 ?_
        refine lv_iload hx hb dX8_begin_191 (lv_at hl 1 rfl) ?_
        obtain ⟨z_19, h⟩ := gb_ck_s h
        refine va_iald hx hb hK hP 124 0 (gb_at b rfl) rfl z_19 dX8_begin_193 ?_
        refine lv_topi (fun x_20 ex_20 => ?_)
        replace h := gb_lt_s ex_20 h
        obtain ⟨s_21, r_22, z_23, h⟩ := gb_cd_s h
        refine gb_callv (va_runV (C := RX8) (As := [.int x_20]) (rest := []) ⟨hx, hb, hml, hown, hq⟩ (cc_Sharing_payAnew l D cT tt b1 b hb1 n σ x_20 s_21 r_22 z_23) (cwV 1 hq (gb_gV w_905 w_907 s_2_5 w_12 w_908) rfl rfl rfl (by decide +kernel) ⟨Nat.le_of_ble_eq_true rfl, Nat.le_of_ble_eq_true rfl⟩) (gb_preV (r := (RX8, TX8, 11)) (ci := 7) (q0 := 120) hSt hP rfl (gb_at b rfl) hS (fun q h => Nat.le_trans hb1 h.1) hP) rfl rfl hl.1 rfl (lv_room (Nat.le_of_ble_eq_true rfl)) dX8_begin_194 ⟨Nat.le_of_ble_eq_true rfl, Nat.le_of_ble_eq_true rfl⟩) hS (fun _ h => h) (fun _ h => h) (fun H locs hY hk hS => ?_)
        have hP := hY
        obtain ⟨x_25, ex_25⟩ : ∃ q, q = (v4 + 1) := ⟨_, rfl⟩
        replace h := gb_lt_s ex_25 h
        refine lv_iinc (v := x_25) (lv' := [(4, .int x_25), (0, .ref (b + 120))]) hx hb dX8_begin_197 hl (k := 1) rfl (by rw [ex_25]; rfl) (by decide) rfl (fun ls hl => ?_)
        refine lv_goto (tgt := 177) hx hb dX8_begin_200 (by decide) ?_
        exact ih _ _ _ _ _ h hP hS (lv_sub hl [1, 0] rfl)
  have L97_4 : ∀ (k74 : gb_S → Int32 → gb_CR Unit) (hk74 : ∀ (σ : gb_S) (v4 : Int32) (H : Heap) (locs : List Loc) (ls : Array Slot), k74 σ v4 = some (σE, rE) → va_P D vwCl (gb_wl b (gb_CW cT b σ)) H → va_S (gb_fr b 135) s.heap H locs → lv_has ls 6 [(0, .ref (b + 120)), (4, .int v4)] → W p l e (headSpec (.code yX8_begin cX8_begin 6 none :: gb_wA) ({ frames := 4, cells := 0, slots := 0, locals := 89 })).room s m ([.ref (b + 120), .ref (b + p1), .ref (b + p2), .int p3]).toArray below meth c H locs 0 0 (MQ below (gb_Qv (fun h => va_P D vwCl (gb_wl b (gb_CW cT b σE)) h) (gb_fr b 135)) ([.ref (b + 120), .ref (b + p1), .ref (b + p2), .int p3]).toArray s 0 0 (gb_fr b 135)) (F0 m 74 ls [])) (mm : Nat) (σ : gb_S) (v4 : Int32) (v5 : Int32) (H : Heap) (locs : List Loc) (ls : Array Slot), cs_Sharing_begin_B_L_97 n k74 mm σ v4 v5 = some (σE, rE) → va_P D vwCl (gb_wl b (gb_CW cT b σ)) H → va_S (gb_fr b 135) s.heap H locs → lv_has ls 6 [(0, .ref (b + 120)), (4, .int v4), (5, .int v5)] → W p l e (headSpec (.code yX8_begin cX8_begin 6 none :: gb_wA) ({ frames := 4, cells := 0, slots := 0, locals := 89 })).room s m ([.ref (b + 120), .ref (b + p1), .ref (b + p2), .int p3]).toArray below meth c H locs 0 0 (MQ below (gb_Qv (fun h => va_P D vwCl (gb_wl b (gb_CW cT b σE)) h) (gb_fr b 135)) ([.ref (b + 120), .ref (b + p1), .ref (b + p2), .int p3]).toArray s 0 0 (gb_fr b 135)) (F0 m 97 ls []) := by
    clear h hP hS hl ls
    intro k74 hk74 mm
    induction mm with
    | zero =>
      intro σ v4 v5 H locs ls h
      cases h
    | succ mm ih =>
      intro σ v4 v5 H locs ls h hP hS hl
      rw [cs_Sharing_begin_B_L_97] at h
      refine lv_iload hx hb dX8_begin_97 (lv_at hl 2 rfl) ?_
      refine lv_aload_n hx hb dX8_begin_99 rfl (lv_at hl 0 rfl) ?_
      obtain ⟨z_28, h⟩ := gb_kk_s h
      refine va_get (ci := 7) (v := (.ref (b + (σ.2.1 2)))) (C := RX8) (T := TX8) (N := 11) hx hb hq i_X8 hown hK hP 120 (gb_at b rfl) rfl 0 (by decide) (hq _ w_251) (fun _ h9 => h9) rfl dX8_begin_100 ?_
      obtain ⟨s_29, r_30, z_31, h⟩ := gb_cd_s h
      refine gb_calli (va_runV (C := RX0) (As := []) (rest := [.int v5]) ⟨hx, hb, hml, hown, hq⟩ (cc_Border_paths_B l D cT tt b1 b hb1 n σ (σ.2.1 2) s_29 r_30 z_31) (cwV 0 hq (gb_gV w_888 w_473 w_474 w_4 w_475) rfl rfl rfl (by decide +kernel) ⟨Nat.le_of_ble_eq_true rfl, Nat.le_of_ble_eq_true rfl⟩) (gb_preV (r := (RX0, TX0, 1)) (ci := 0) (q0 := (σ.2.1 2)) hSt hP rfl (gb_at b (gb_cB z_28).1) hS (fun q h => Nat.le_trans hb1 h.1) hP) rfl rfl hl.1 rfl (lv_room (Nat.le_of_ble_eq_true rfl)) dX8_begin_103 ⟨Nat.le_of_ble_eq_true rfl, Nat.le_of_ble_eq_true rfl⟩) hS (fun _ h => h) (fun _ h => h) (fun q_32 H locs hY hk hS => ?_)
      obtain ⟨hq_32, hP⟩ := hY
      replace hq_32 := hq_32.symm
      subst hq_32
      refine lv_icmp_ge (tgt := 138) hx hb dX8_begin_106 (by decide) (fun c_33 => ?_) (fun c_33 => ?_)
      · rw [if_pos c_33] at h
        refine lv_aload_n hx hb dX8_begin_138 rfl (lv_at hl 0 rfl) ?_
        refine va_get (ci := 7) (v := (.ref (b + 126))) (C := RX8) (T := TX8) (N := 11) hx hb hq i_X8 hown hK hP 120 (gb_at b rfl) rfl 6 (by decide) (hq _ w_257) (fun _ h9 => h9) rfl dX8_begin_139 ?_
        refine lv_aload_n hx hb dX8_begin_142 rfl (lv_at hl 0 rfl) ?_
        refine va_get (ci := 7) (v := (.ref (b + 124))) (C := RX8) (T := TX8) (N := 11) hx hb hq i_X8 hown hK hP 120 (gb_at b rfl) rfl 3 (by decide) (hq _ w_254) (fun _ h9 => h9) rfl dX8_begin_143 ?_
        refine lv_iconst (v := 0) hx hb dX8_begin_146 (by decide) ?_
        refine va_iald hx hb hK hP 124 0 (gb_at b rfl) rfl (gb_in rfl) dX8_begin_147 ?_
        refine lv_topi (fun x_34 ex_34 => ?_)
        replace h := gb_lt_s ex_34 h
        refine lv_dup2_11 hx hb dX8_begin_148 rfl rfl ?_
        obtain ⟨z_35, h⟩ := gb_ck_s h
        refine va_iald hx hb hK hP 126 0 (gb_at b rfl) rfl z_35 dX8_begin_149 ?_
        refine lv_topi (fun x_36 ex_36 => ?_)
        replace h := gb_lt_s ex_36 h
        refine lv_aload_n hx hb dX8_begin_150 rfl (lv_at hl 0 rfl) ?_
        refine va_get (ci := 7) (v := (.ref (b + 123))) (C := RX8) (T := TX8) (N := 11) hx hb hq i_X8 hown hK hP 120 (gb_at b rfl) rfl 2 (by decide) (hq _ w_253) (fun _ h9 => h9) rfl dX8_begin_151 ?_
        refine lv_iload hx hb dX8_begin_154 (lv_at hl 1 rfl) ?_
        refine lv_iconst (v := 5) hx hb dX8_begin_156 (by decide) ?_
        refine lv_imul hx hb dX8_begin_157 ?_
        refine lv_aload_n hx hb dX8_begin_158 rfl (lv_at hl 0 rfl) ?_
        refine va_get (ci := 7) (v := (.ref (b + 124))) (C := RX8) (T := TX8) (N := 11) hx hb hq i_X8 hown hK hP 120 (gb_at b rfl) rfl 3 (by decide) (hq _ w_254) (fun _ h9 => h9) rfl dX8_begin_159 ?_
        refine lv_iconst (v := 0) hx hb dX8_begin_162 (by decide) ?_
        refine va_iald hx hb hK hP 124 0 (gb_at b rfl) rfl (gb_in rfl) dX8_begin_163 ?_
        refine lv_topi (fun x_37 ex_37 => ?_)
        replace h := gb_lt_s ex_37 h
        refine lv_iadd hx hb dX8_begin_164 ?_
        obtain ⟨z_38, h⟩ := gb_ck_s h
        refine va_iald hx hb hK hP 123 0 (gb_at b rfl) rfl z_38 dX8_begin_165 ?_
        refine lv_topi (fun x_39 ex_39 => ?_)
        replace h := gb_lt_s ex_39 h
        refine lv_iadd hx hb dX8_begin_166 ?_
        obtain ⟨z_40, h⟩ := gb_ck_s h
        refine va_iast (x := (x_36 + x_39)) hx hb hK hP (gb_D (fun k h => ⟨Nat.le_add_right b k, Nat.add_lt_add_left h b⟩)) hS 126 0 (gb_at b rfl) rfl z_40 dX8_begin_167 (fun H locs hP hD hS => ?_)
        rw [gb_set] at hP
        obtain ⟨s_41, es_41⟩ : ∃ q, q = (gb_su s_29 126 (upd (s_29.1 126) (Int32.toNatClampNeg x_34) (x_36 + x_39))) := ⟨_, rfl⟩
        replace hP : va_P D vwCl (gb_wl b (gb_CW cT b s_41)) H := by rw [es_41]; exact hP
        replace h := gb_lt_s es_41 h
        obtain ⟨x_42, ex_42⟩ : ∃ q, q = (v4 + 1) := ⟨_, rfl⟩
        replace h := gb_lt_s ex_42 h
        refine lv_iinc (v := x_42) (lv' := [(4, .int x_42), (0, .ref (b + 120)), (5, .int v5)]) hx hb dX8_begin_168 hl (k := 1) rfl (by rw [ex_42]; rfl) (by decide) rfl (fun ls hl => ?_)
        refine lv_goto (tgt := 74) hx hb dX8_begin_171 (by decide) ?_
        exact hk74 _ _ _ _ _ h hP hS (lv_sub hl [1, 0] rfl)
      · rw [if_neg c_33] at h
        refine lv_aload_n hx hb dX8_begin_109 rfl (lv_at hl 0 rfl) ?_
        refine va_get (ci := 7) (v := (.ref (b + 123))) (C := RX8) (T := TX8) (N := 11) hx hb hq i_X8 hown hK hP 120 (gb_at b rfl) rfl 2 (by decide) (hq _ w_253) (fun _ h9 => h9) rfl dX8_begin_110 ?_
        refine lv_iload hx hb dX8_begin_113 (lv_at hl 1 rfl) ?_
        refine lv_iconst (v := 5) hx hb dX8_begin_115 (by decide) ?_
        refine lv_imul hx hb dX8_begin_116 ?_
        refine lv_iload hx hb dX8_begin_117 (lv_at hl 2 rfl) ?_
        refine lv_iadd hx hb dX8_begin_119 ?_
        refine lv_aload_n hx hb dX8_begin_120 rfl (lv_at hl 0 rfl) ?_
        obtain ⟨z_43, h⟩ := gb_kk_s h
        refine va_get (ci := 7) (v := (.ref (b + (s_29.2.1 2)))) (C := RX8) (T := TX8) (N := 11) hx hb hq i_X8 hown hK hP 120 (gb_at b rfl) rfl 0 (by decide) (hq _ w_251) (fun _ h9 => h9) rfl dX8_begin_121 ?_
        refine lv_iload hx hb dX8_begin_124 (lv_at hl 1 rfl) ?_
        refine lv_iload hx hb dX8_begin_126 (lv_at hl 2 rfl) ?_
        obtain ⟨s_44, r_45, z_46, h⟩ := gb_cd_s h
        refine gb_calli (va_runV (C := RX0) (As := [.int v4, .int v5]) (rest := [.int ((v4 * 5) + v5), .ref (b + 123)]) ⟨hx, hb, hml, hown, hq⟩ (cc_Border_marksFirst_B l D cT tt b1 b hb1 n s_29 (s_29.2.1 2) v4 v5 s_44 r_45 z_46) (cwV 2 hq (gb_gV w_898 w_899 w_900 w_4 w_901) rfl rfl rfl (by decide +kernel) ⟨Nat.le_of_ble_eq_true rfl, Nat.le_of_ble_eq_true rfl⟩) (gb_preV (r := (RX0, TX0, 1)) (ci := 0) (q0 := (s_29.2.1 2)) hSt hP rfl (gb_at b (gb_cB z_43).1) hS (fun q h => Nat.le_trans hb1 h.1) hP) rfl rfl hl.1 rfl (lv_room (Nat.le_of_ble_eq_true rfl)) dX8_begin_128 ⟨Nat.le_of_ble_eq_true rfl, Nat.le_of_ble_eq_true rfl⟩) hS (fun _ h => h) (fun _ h => h) (fun q_47 H locs hY hk hS => ?_)
        obtain ⟨hq_47, hP⟩ := hY
        replace hq_47 := hq_47.symm
        subst hq_47
        obtain ⟨z_48, h⟩ := gb_ck_s h
        refine va_iast (x := r_45) hx hb hK hP (gb_D (fun k h => ⟨Nat.le_add_right b k, Nat.add_lt_add_left h b⟩)) hS 123 0 (gb_at b rfl) rfl z_48 dX8_begin_131 (fun H locs hP hD hS => ?_)
        rw [gb_set] at hP
        obtain ⟨s_49, es_49⟩ : ∃ q, q = (gb_su s_44 123 (upd (s_44.1 123) (Int32.toNatClampNeg ((v4 * 5) + v5)) r_45)) := ⟨_, rfl⟩
        replace hP : va_P D vwCl (gb_wl b (gb_CW cT b s_49)) H := by rw [es_49]; exact hP
        replace h := gb_lt_s es_49 h
        obtain ⟨x_50, ex_50⟩ : ∃ q, q = (v5 + 1) := ⟨_, rfl⟩
        replace h := gb_lt_s ex_50 h
        refine lv_iinc (v := x_50) (lv' := [(5, .int x_50), (0, .ref (b + 120)), (4, .int v4)]) hx hb dX8_begin_132 hl (k := 2) rfl (by rw [ex_50]; rfl) (by decide) rfl (fun ls hl => ?_)
        refine lv_goto (tgt := 97) hx hb dX8_begin_135 (by decide) ?_
        exact ih _ _ _ _ _ _ h hP hS (lv_sub hl [1, 2, 0] rfl)
  have L74_2 : ∀ (mm : Nat) (σ : gb_S) (v4 : Int32) (H : Heap) (locs : List Loc) (ls : Array Slot), cs_Sharing_begin_B_L_74 n mm σ v4 = some (σE, rE) → va_P D vwCl (gb_wl b (gb_CW cT b σ)) H → va_S (gb_fr b 135) s.heap H locs → lv_has ls 6 [(0, .ref (b + 120)), (4, .int v4)] → W p l e (headSpec (.code yX8_begin cX8_begin 6 none :: gb_wA) ({ frames := 4, cells := 0, slots := 0, locals := 89 })).room s m ([.ref (b + 120), .ref (b + p1), .ref (b + p2), .int p3]).toArray below meth c H locs 0 0 (MQ below (gb_Qv (fun h => va_P D vwCl (gb_wl b (gb_CW cT b σE)) h) (gb_fr b 135)) ([.ref (b + 120), .ref (b + p1), .ref (b + p2), .int p3]).toArray s 0 0 (gb_fr b 135)) (F0 m 74 ls []) := by
    clear h hP hS hl ls
    intro mm
    induction mm with
    | zero =>
      intro σ v4 H locs ls h
      cases h
    | succ mm ih =>
      intro σ v4 H locs ls h hP hS hl
      rw [cs_Sharing_begin_B_L_74] at h
      refine lv_iload hx hb dX8_begin_74 (lv_at hl 1 rfl) ?_
      refine lv_aload_n hx hb dX8_begin_76 rfl (lv_at hl 0 rfl) ?_
      obtain ⟨z_12, h⟩ := gb_kk_s h
      refine va_get (ci := 7) (v := (.ref (b + (σ.2.1 2)))) (C := RX8) (T := TX8) (N := 11) hx hb hq i_X8 hown hK hP 120 (gb_at b rfl) rfl 0 (by decide) (hq _ w_251) (fun _ h9 => h9) rfl dX8_begin_77 ?_
      obtain ⟨s_13, r_14, z_15, h⟩ := gb_cd_s h
      refine gb_calli (va_runV (C := RX0) (As := []) (rest := [.int v4]) ⟨hx, hb, hml, hown, hq⟩ (cc_Border_geese_B l D cT tt b1 b hb1 n σ (σ.2.1 2) s_13 r_14 z_15) (cwV 0 hq (gb_gV w_889 w_477 w_478 w_4 w_479) rfl rfl rfl (by decide +kernel) ⟨Nat.le_of_ble_eq_true rfl, Nat.le_of_ble_eq_true rfl⟩) (gb_preV (r := (RX0, TX0, 1)) (ci := 0) (q0 := (σ.2.1 2)) hSt hP rfl (gb_at b (gb_cB z_12).1) hS (fun q h => Nat.le_trans hb1 h.1) hP) rfl rfl hl.1 rfl (lv_room (Nat.le_of_ble_eq_true rfl)) dX8_begin_80 ⟨Nat.le_of_ble_eq_true rfl, Nat.le_of_ble_eq_true rfl⟩) hS (fun _ h => h) (fun _ h => h) (fun q_16 H locs hY hk hS => ?_)
      obtain ⟨hq_16, hP⟩ := hY
      replace hq_16 := hq_16.symm
      subst hq_16
      refine lv_icmp_ge (tgt := 174) hx hb dX8_begin_83 (by decide) (fun c_17 => ?_) (fun c_17 => ?_)
      · rw [if_pos c_17] at h
        refine lv_iconst (v := 0) hx hb dX8_begin_174 (by decide) ?_
        refine lv_istore (lv' := [(4, .int 0), (0, .ref (b + 120))]) hx hb dX8_begin_175 hl (by decide) rfl (fun ls hl => ?_)
        exact L177_3 n _ _ _ _ _ h hP hS (lv_sub hl [1, 0] rfl)
      · rw [if_neg c_17] at h
        refine lv_aload_n hx hb dX8_begin_86 rfl (lv_at hl 0 rfl) ?_
        refine va_get (ci := 7) (v := (.ref (b + 125))) (C := RX8) (T := TX8) (N := 11) hx hb hq i_X8 hown hK hP 120 (gb_at b rfl) rfl 5 (by decide) (hq _ w_256) (fun _ h9 => h9) rfl dX8_begin_87 ?_
        refine lv_iload hx hb dX8_begin_90 (lv_at hl 1 rfl) ?_
        refine lv_iconst (v := 0) hx hb dX8_begin_92 (by decide) ?_
        obtain ⟨z_26, h⟩ := gb_ck_s h
        refine va_iast (x := 0) hx hb hK hP (gb_D (fun k h => ⟨Nat.le_add_right b k, Nat.add_lt_add_left h b⟩)) hS 125 0 (gb_at b rfl) rfl z_26 dX8_begin_93 (fun H locs hP hD hS => ?_)
        rw [gb_set] at hP
        obtain ⟨s_27, es_27⟩ : ∃ q, q = (gb_su s_13 125 (upd (s_13.1 125) (Int32.toNatClampNeg v4) 0)) := ⟨_, rfl⟩
        replace hP : va_P D vwCl (gb_wl b (gb_CW cT b s_27)) H := by rw [es_27]; exact hP
        replace h := gb_lt_s es_27 h
        refine lv_iconst (v := 0) hx hb dX8_begin_94 (by decide) ?_
        refine lv_istore (lv' := [(5, .int 0), (0, .ref (b + 120)), (4, .int v4)]) hx hb dX8_begin_95 hl (by decide) rfl (fun ls hl => ?_)
        exact L97_4 _ ih n _ _ _ _ _ _ h hP hS (lv_sub hl [1, 2, 0] rfl)
  have L18_1 : ∀ (mm : Nat) (σ : gb_S) (v3 : Int32) (v4 : Int32) (H : Heap) (locs : List Loc) (ls : Array Slot), cs_Sharing_begin_B_L_18 n mm σ v3 v4 = some (σE, rE) → va_P D vwCl (gb_wl b (gb_CW cT b σ)) H → va_S (gb_fr b 135) s.heap H locs → lv_has ls 6 [(0, .ref (b + 120)), (3, .int v3), (4, .int v4)] → W p l e (headSpec (.code yX8_begin cX8_begin 6 none :: gb_wA) ({ frames := 4, cells := 0, slots := 0, locals := 89 })).room s m ([.ref (b + 120), .ref (b + p1), .ref (b + p2), .int p3]).toArray below meth c H locs 0 0 (MQ below (gb_Qv (fun h => va_P D vwCl (gb_wl b (gb_CW cT b σE)) h) (gb_fr b 135)) ([.ref (b + 120), .ref (b + p1), .ref (b + p2), .int p3]).toArray s 0 0 (gb_fr b 135)) (F0 m 18 ls []) := by
    clear h hP hS hl ls
    intro mm
    induction mm with
    | zero =>
      intro σ v3 v4 H locs ls h
      cases h
    | succ mm ih =>
      intro σ v3 v4 H locs ls h hP hS hl
      rw [cs_Sharing_begin_B_L_18] at h
      refine lv_iload hx hb dX8_begin_18 (lv_at hl 2 rfl) ?_
      refine lv_aload_n hx hb dX8_begin_20 rfl (lv_at hl 0 rfl) ?_
      obtain ⟨z_6, h⟩ := gb_kk_s h
      refine va_get (ci := 7) (v := (.ref (b + (σ.2.1 2)))) (C := RX8) (T := TX8) (N := 11) hx hb hq i_X8 hown hK hP 120 (gb_at b rfl) rfl 0 (by decide) (hq _ w_251) (fun _ h9 => h9) rfl dX8_begin_21 ?_
      obtain ⟨s_7, r_8, z_9, h⟩ := gb_cd_s h
      refine gb_calli (va_runV (C := RX0) (As := []) (rest := [.int v4]) ⟨hx, hb, hml, hown, hq⟩ (cc_Border_paths_B l D cT tt b1 b hb1 n σ (σ.2.1 2) s_7 r_8 z_9) (cwV 0 hq (gb_gV w_888 w_473 w_474 w_4 w_475) rfl rfl rfl (by decide +kernel) ⟨Nat.le_of_ble_eq_true rfl, Nat.le_of_ble_eq_true rfl⟩) (gb_preV (r := (RX0, TX0, 1)) (ci := 0) (q0 := (σ.2.1 2)) hSt hP rfl (gb_at b (gb_cB z_6).1) hS (fun q h => Nat.le_trans hb1 h.1) hP) rfl rfl hl.1 rfl (lv_room (Nat.le_of_ble_eq_true rfl)) dX8_begin_24 ⟨Nat.le_of_ble_eq_true rfl, Nat.le_of_ble_eq_true rfl⟩) hS (fun _ h => h) (fun _ h => h) (fun q_10 H locs hY hk hS => ?_)
      obtain ⟨hq_10, hP⟩ := hY
      replace hq_10 := hq_10.symm
      subst hq_10
      refine lv_icmp_ge (tgt := 71) hx hb dX8_begin_27 (by decide) (fun c_11 => ?_) (fun c_11 => ?_)
      · rw [if_pos c_11] at h
        refine lv_iconst (v := 0) hx hb dX8_begin_71 (by decide) ?_
        refine lv_istore (lv' := [(4, .int 0), (0, .ref (b + 120)), (3, .int v3)]) hx hb dX8_begin_72 hl (by decide) rfl (fun ls hl => ?_)
        exact L74_2 n _ _ _ _ _ h hP hS (lv_sub hl [1, 0] rfl)
      · rw [if_neg c_11] at h
        refine lv_aload_n hx hb dX8_begin_30 rfl (lv_at hl 0 rfl) ?_
        refine va_get (ci := 7) (v := (.ref (b + 126))) (C := RX8) (T := TX8) (N := 11) hx hb hq i_X8 hown hK hP 120 (gb_at b rfl) rfl 6 (by decide) (hq _ w_257) (fun _ h9 => h9) rfl dX8_begin_31 ?_
        refine lv_iload hx hb dX8_begin_34 (lv_at hl 2 rfl) ?_
        refine lv_iconst (v := 0) hx hb dX8_begin_36 (by decide) ?_
        obtain ⟨z_51, h⟩ := gb_ck_s h
        refine va_iast (x := 0) hx hb hK hP (gb_D (fun k h => ⟨Nat.le_add_right b k, Nat.add_lt_add_left h b⟩)) hS 126 0 (gb_at b rfl) rfl z_51 dX8_begin_37 (fun H locs hP hD hS => ?_)
        rw [gb_set] at hP
        obtain ⟨s_52, es_52⟩ : ∃ q, q = (gb_su s_7 126 (upd (s_7.1 126) (Int32.toNatClampNeg v4) 0)) := ⟨_, rfl⟩
        replace hP : va_P D vwCl (gb_wl b (gb_CW cT b s_52)) H := by rw [es_52]; exact hP
        replace h := gb_lt_s es_52 h
        refine lv_iload hx hb dX8_begin_38 (lv_at hl 2 rfl) ?_
        refine lv_iload_n hx hb dX8_begin_40 rfl (lv_at hl 1 rfl) ?_
        refine lv_icmp_eq (tgt := 65) hx hb dX8_begin_41 (by decide) (fun c_53 => ?_) (fun c_53 => ?_)
        · rw [if_pos c_53] at h
          obtain ⟨x_54, ex_54⟩ : ∃ q, q = (v4 + 1) := ⟨_, rfl⟩
          replace h := gb_lt_s ex_54 h
          refine lv_iinc (v := x_54) (lv' := [(4, .int x_54), (0, .ref (b + 120)), (3, .int v3)]) hx hb dX8_begin_65 hl (k := 2) rfl (by rw [ex_54]; rfl) (by decide) rfl (fun ls hl => ?_)
          refine lv_goto (tgt := 18) hx hb dX8_begin_68 (by decide) ?_
          exact ih _ _ _ _ _ _ h hP hS (lv_sub hl [1, 2, 0] rfl)
        · rw [if_neg c_53] at h
          refine lv_aload_n hx hb dX8_begin_44 rfl (lv_at hl 0 rfl) ?_
          refine va_get (ci := 7) (v := (.ref (b + 124))) (C := RX8) (T := TX8) (N := 11) hx hb hq i_X8 hown hK hP 120 (gb_at b rfl) rfl 3 (by decide) (hq _ w_254) (fun _ h9 => h9) rfl dX8_begin_45 ?_
          refine lv_aload_n hx hb dX8_begin_48 rfl (lv_at hl 0 rfl) ?_
          refine va_get (ci := 7) (v := (.int (s_52.1 120 4))) (C := RX8) (T := TX8) (N := 11) hx hb hq i_X8 hown hK hP 120 (gb_at b rfl) rfl 4 (by decide) (hq _ w_255) (fun _ h9 => h9) rfl dX8_begin_49 ?_
          refine lv_iload hx hb dX8_begin_52 (lv_at hl 2 rfl) ?_
          obtain ⟨z_55, h⟩ := gb_ck_s h
          refine va_iast (x := v4) hx hb hK hP (gb_D (fun k h => ⟨Nat.le_add_right b k, Nat.add_lt_add_left h b⟩)) hS 124 0 (gb_at b rfl) rfl z_55 dX8_begin_54 (fun H locs hP hD hS => ?_)
          rw [gb_set] at hP
          obtain ⟨s_56, es_56⟩ : ∃ q, q = (gb_su s_52 124 (upd (s_52.1 124) (Int32.toNatClampNeg (s_52.1 120 4)) v4)) := ⟨_, rfl⟩
          replace hP : va_P D vwCl (gb_wl b (gb_CW cT b s_56)) H := by rw [es_56]; exact hP
          replace h := gb_lt_s es_56 h
          refine lv_aload_n hx hb dX8_begin_55 rfl (lv_at hl 0 rfl) ?_
          refine lv_dup hx hb dX8_begin_56 rfl ?_
          refine va_get (ci := 7) (v := (.int (s_56.1 120 4))) (C := RX8) (T := TX8) (N := 11) hx hb hq i_X8 hown hK hP 120 (gb_at b rfl) rfl 4 (by decide) (hq _ w_255) (fun _ h9 => h9) rfl dX8_begin_57 ?_
          refine lv_iconst (v := 1) hx hb dX8_begin_60 (by decide) ?_
          refine lv_iadd hx hb dX8_begin_61 ?_
          refine gb_put (ci := 7) (v := (.int ((s_56.1 120 4) + 1))) (ty := .int) (C := RX8) (T := TX8) (N := 11) hx hb hq i_X8 tyX8 tyX8_ok nmX8 hown hK hP (fun k h => ⟨Nat.le_add_right b k, Nat.add_lt_add_left h b⟩) hS rfl 120 rfl rfl 4 (by decide) (hq _ w_255) (fun _ h9 => h9) rfl (by decide +kernel) rfl rfl (Nat.le_of_ble_eq_true rfl) dX8_begin_62 (fun H locs hP hz_ hS => ?_)
          obtain ⟨s_57, es_57⟩ : ∃ q, q = (gb_su s_56 120 (upd (s_56.1 120) 4 ((s_56.1 120 4) + 1))) := ⟨_, rfl⟩
          replace hP : va_P D vwCl (gb_wl b (gb_CW cT b s_57)) H := by rw [es_57]; exact hP
          replace h := gb_lt_s es_57 h
          obtain ⟨x_58, ex_58⟩ : ∃ q, q = (v4 + 1) := ⟨_, rfl⟩
          replace h := gb_lt_s ex_58 h
          refine lv_iinc (v := x_58) (lv' := [(4, .int x_58), (0, .ref (b + 120)), (3, .int v3)]) hx hb dX8_begin_65 hl (k := 2) rfl (by rw [ex_58]; rfl) (by decide) rfl (fun ls hl => ?_)
          refine lv_goto (tgt := 18) hx hb dX8_begin_68 (by decide) ?_
          exact ih _ _ _ _ _ _ h hP hS (lv_sub hl [1, 2, 0] rfl)
  unfold cs_Sharing_begin_B_L at h
  obtain ⟨z_1, h⟩ := gb_kk_s h
  obtain ⟨z_2, h⟩ := gb_kk_s h
  refine lv_aload_n hx hb dX8_begin_0 rfl (lv_at hl 0 rfl) ?_
  refine lv_aload_n hx hb dX8_begin_1 rfl (lv_at hl 1 rfl) ?_
  refine gb_put (ci := 7) (v := (.ref (b + p1))) (ty := .object "GooseBorder$Border") (C := RX8) (T := TX8) (N := 11) hx hb hq i_X8 tyX8 tyX8_ok nmX8 hown hK hP (fun k h => ⟨Nat.le_add_right b k, Nat.add_lt_add_left h b⟩) hS rfl 120 rfl rfl 0 (by decide) (hq _ w_251) (fun _ h9 => h9) rfl (by decide +kernel) rfl rfl (Nat.le_of_ble_eq_true rfl) dX8_begin_2 (fun H locs hP hz_ hS => ?_)
  obtain ⟨s_3, es_3⟩ : ∃ q, q = (gb_sq σ 2 p1) := ⟨_, rfl⟩
  replace hP : va_P D vwCl (gb_wl b (gb_CW cT b s_3)) H := by rw [es_3]; exact hP
  replace h := gb_lt_s es_3 h
  refine lv_aload_n hx hb dX8_begin_5 rfl (lv_at hl 0 rfl) ?_
  refine lv_aload_n hx hb dX8_begin_6 rfl (lv_at hl 2 rfl) ?_
  refine gb_put (ci := 7) (v := (.ref (b + p2))) (ty := .object "GooseBorder$Law") (C := RX8) (T := TX8) (N := 11) hx hb hq i_X8 tyX8 tyX8_ok nmX8 hown hK hP (fun k h => ⟨Nat.le_add_right b k, Nat.add_lt_add_left h b⟩) hS rfl 120 rfl rfl 1 (by decide) (hq _ w_252) (fun _ h9 => h9) rfl (by decide +kernel) rfl rfl (Nat.le_of_ble_eq_true rfl) dX8_begin_7 (fun H locs hP hz_ hS => ?_)
  obtain ⟨s_4, es_4⟩ : ∃ q, q = (gb_sq s_3 3 p2) := ⟨_, rfl⟩
  replace hP : va_P D vwCl (gb_wl b (gb_CW cT b s_4)) H := by rw [← gb_nv1 (b := b) (gb_nzL z_2)] at hP; rw [es_4]; exact hP
  replace h := gb_lt_s es_4 h
  refine lv_aload_n hx hb dX8_begin_10 rfl (lv_at hl 0 rfl) ?_
  refine lv_iconst (v := 0) hx hb dX8_begin_11 (by decide) ?_
  refine gb_put (ci := 7) (v := (.int 0)) (ty := .int) (C := RX8) (T := TX8) (N := 11) hx hb hq i_X8 tyX8 tyX8_ok nmX8 hown hK hP (fun k h => ⟨Nat.le_add_right b k, Nat.add_lt_add_left h b⟩) hS rfl 120 rfl rfl 4 (by decide) (hq _ w_255) (fun _ h9 => h9) rfl (by decide +kernel) rfl rfl (Nat.le_of_ble_eq_true rfl) dX8_begin_12 (fun H locs hP hz_ hS => ?_)
  obtain ⟨s_5, es_5⟩ : ∃ q, q = (gb_su s_4 120 (upd (s_4.1 120) 4 0)) := ⟨_, rfl⟩
  replace hP : va_P D vwCl (gb_wl b (gb_CW cT b s_5)) H := by rw [es_5]; exact hP
  replace h := gb_lt_s es_5 h
  refine lv_iconst (v := 0) hx hb dX8_begin_15 (by decide) ?_
  refine lv_istore (lv' := [(4, .int 0), (0, .ref (b + 120)), (1, .ref (b + p1)), (2, .ref (b + p2)), (3, .int p3)]) hx hb dX8_begin_16 hl (by decide) rfl (fun ls hl => ?_)
  exact L18_1 n _ _ _ _ _ _ h hP hS (lv_sub hl [1, 4, 0] rfl)
def cs_Sharing_solve_B_L_74 (n : Nat) (k48 : gb_S → Int32 → Int32 → gb_CR Unit) (σ : gb_S) (v4 : Int32) (v5 : Int32) (t0 : Int32) : gb_CR Unit := (if v5 = 0 then gb_lt (gb_su σ 120 (upd (σ.1 120) 10 t0)) (fun s_21 => gb_cd (cs_Sharing_keepRow n s_21) (fun s_22 _ => gb_cd (cs_Sharing_advance n s_22) (fun s_26 _ => gb_lt (v5 + 1) (fun x_30 => k48 s_26 v4 x_30)))) else (if t0 ≤ (σ.1 120 10) then gb_cd (cs_Sharing_advance n σ) (fun s_32 _ => gb_lt (v5 + 1) (fun x_36 => k48 s_32 v4 x_36)) else gb_lt (gb_su σ 120 (upd (σ.1 120) 10 t0)) (fun s_37 => gb_cd (cs_Sharing_keepRow n s_37) (fun s_38 _ => gb_cd (cs_Sharing_advance n s_38) (fun s_42 _ => gb_lt (v5 + 1) (fun x_46 => k48 s_42 v4 x_46))))))
def cs_Sharing_solve_B_L_48 (n : Nat) : Nat → gb_S → Int32 → Int32 → gb_CR Unit
  | 0, _, _, _ => none
  | mm + 1, σ, v4, v5 => (if v4 ≤ v5 then some (σ, ()) else (if (σ.2.1 3) = 0 then gb_cd (cs_Sharing_spread n σ) (fun s_16 r_17 => cs_Sharing_solve_B_L_74 n (fun σ v4 v5 => cs_Sharing_solve_B_L_48 n mm σ v4 v5) s_16 v4 v5 (-r_17)) else gb_kk (gb_kL (σ.2.1 3)) (gb_cd (cs_Sharing_together n σ) (fun s_48 r_49 => cs_Sharing_solve_B_L_74 n (fun σ v4 v5 => cs_Sharing_solve_B_L_48 n mm σ v4 v5) s_48 v4 v5 r_49))))
def cs_Sharing_solve_B_L_18 (n : Nat) : Nat → gb_S → Int32 → Int32 → gb_CR Unit
  | 0, _, _, _ => none
  | mm + 1, σ, v4, v5 => gb_kk (gb_kB (σ.2.1 2)) (gb_cd (cs_Border_geese_B n σ (σ.2.1 2)) (fun s_9 r_10 => (if r_10 ≤ v5 then cs_Sharing_solve_B_L_48 n n s_9 v4 0 else gb_lt (v4 * (s_9.1 120 4)) (fun x_52 => gb_lt (v5 + 1) (fun x_53 => cs_Sharing_solve_B_L_18 n mm s_9 x_52 x_53)))))
def cs_Sharing_solve_B_L (n : Nat) (σ : gb_S) (p1 : Nat) (p2 : Nat) (p3 : Int32) : gb_CR Unit := gb_kk (gb_kB p1) (gb_kk (gb_kL p2) (gb_cd (cs_Sharing_begin_B_L n σ p1 p2 p3) (fun s_3 _ => gb_lt (gb_su s_3 120 (upd (s_3.1 120) 10 0)) (fun s_7 => cs_Sharing_solve_B_L_18 n n s_7 1 0))))
set_option maxHeartbeats 8000000 in
set_option maxRecDepth 100000 in
theorem cc_Sharing_solve_B_L (l : Launch) (D : va_G) (cT : Nat → ClassId) (tt : Nat → Nat) (b1 b : Nat) (hb1 : b1 ≤ b) (n : Nat) (σ : gb_S) (p1 : Nat) (p2 : Nat) (p3 : Int32) (σE : gb_S) (rE : Unit) (h : cs_Sharing_solve_B_L n σ p1 p2 p3 = some (σE, rE)) : Met l yX8_solve (.code yX8_solve cX8_solve 7 none :: gb_wA) ({ frames := 5, cells := 0, slots := 0, locals := 114 }) (gb_Pc D cT tt b1 [.ref (b + 120), .ref (b + p1), .ref (b + p2), .int p3] (fun h => va_P D vwCl (gb_wl b (gb_CW cT b σ)) h)) (gb_Qv (fun h => va_P D vwCl (gb_wl b (gb_CW cT b σE)) h) (gb_fr b 135)) 0 0 (gb_fr b 135) := by
  refine Met.ofW (cc := cX8_solve) (maxL := 7) (ret := none) (by decide) rfl ?_
  intro p e s m args below meth c s₁ B hml hv
  obtain ⟨rfl, hSt, hP⟩ := hv
  have hx := B.exec
  have hb := B.bytes
  have hr := B.returns
  have hts := atoms_spec (ws := .code yX8_solve cX8_solve 7 none :: gb_wA) B.pre
  have hq : ∀ w ∈ gb_wA, w.before _ s = true := fun w h => hts w (List.mem_cons_of_mem _ h)
  have hown : s.vm.findClass RX8 = some m.cls := findClass_of_methodNamed B.named
  have hlocks := B.notSynchronized
  clear B hts
  have hK := hSt.1
  have hS : va_S (gb_fr b 135) s.heap s.heap [] := va_S.rf
  have hl := lv_entry ([.ref (b + 120), .ref (b + p1), .ref (b + p2), .int p3]) (n := 7) (Nat.le_of_ble_eq_true rfl)
  rw [lg_entry_eq]
  generalize (lg_sl ([.ref (b + 120), .ref (b + p1), .ref (b + p2), .int p3]) ++ List.replicate (7 - (lg_sl ([.ref (b + 120), .ref (b + p1), .ref (b + p2), .int p3])).length) Slot.unset).toArray = ls at hl ⊢
  replace hl : lv_has ls 7 [(0, .ref (b + 120)), (1, .ref (b + p1)), (2, .ref (b + p2)), (3, .int p3)] := hl
  have L74_3 : ∀ (k48 : gb_S → Int32 → Int32 → gb_CR Unit) (hk48 : ∀ (σ : gb_S) (v4 : Int32) (v5 : Int32) (H : Heap) (locs : List Loc) (ls : Array Slot), k48 σ v4 v5 = some (σE, rE) → va_P D vwCl (gb_wl b (gb_CW cT b σ)) H → va_S (gb_fr b 135) s.heap H locs → lv_has ls 7 [(0, .ref (b + 120)), (4, .int v4), (5, .int v5)] → W p l e (headSpec (.code yX8_solve cX8_solve 7 none :: gb_wA) ({ frames := 5, cells := 0, slots := 0, locals := 114 })).room s m ([.ref (b + 120), .ref (b + p1), .ref (b + p2), .int p3]).toArray below meth c H locs 0 0 (MQ below (gb_Qv (fun h => va_P D vwCl (gb_wl b (gb_CW cT b σE)) h) (gb_fr b 135)) ([.ref (b + 120), .ref (b + p1), .ref (b + p2), .int p3]).toArray s 0 0 (gb_fr b 135)) (F0 m 48 ls [])) (σ : gb_S) (v4 : Int32) (v5 : Int32) (t0 : Int32) (H : Heap) (locs : List Loc) (ls : Array Slot), cs_Sharing_solve_B_L_74 n k48 σ v4 v5 t0 = some (σE, rE) → va_P D vwCl (gb_wl b (gb_CW cT b σ)) H → va_S (gb_fr b 135) s.heap H locs → lv_has ls 7 [(0, .ref (b + 120)), (4, .int v4), (5, .int v5)] → W p l e (headSpec (.code yX8_solve cX8_solve 7 none :: gb_wA) ({ frames := 5, cells := 0, slots := 0, locals := 114 })).room s m ([.ref (b + 120), .ref (b + p1), .ref (b + p2), .int p3]).toArray below meth c H locs 0 0 (MQ below (gb_Qv (fun h => va_P D vwCl (gb_wl b (gb_CW cT b σE)) h) (gb_fr b 135)) ([.ref (b + 120), .ref (b + p1), .ref (b + p2), .int p3]).toArray s 0 0 (gb_fr b 135)) (F0 m 74 ls [.int t0]) := by
    clear h hP hS hl ls
    intro k48 hk48 σ v4 v5 t0 H locs ls h hP hS hl
    unfold cs_Sharing_solve_B_L_74 at h
    refine lv_istore (lv' := [(6, .int t0), (0, .ref (b + 120)), (4, .int v4), (5, .int v5)]) hx hb dX8_solve_74 hl (by decide) rfl (fun ls hl => ?_)
    refine lv_iload hx hb dX8_solve_76 (lv_at hl 3 rfl) ?_
    refine lv_if_eq (tgt := 90) hx hb dX8_solve_78 (by decide) (fun c_20 => ?_) (fun c_20 => ?_)
    · rw [if_pos c_20] at h
      refine lv_aload_n hx hb dX8_solve_90 rfl (lv_at hl 1 rfl) ?_
      refine lv_iload hx hb dX8_solve_91 (lv_at hl 0 rfl) ?_
      refine gb_put (ci := 7) (v := (.int t0)) (ty := .int) (C := RX8) (T := TX8) (N := 11) hx hb hq i_X8 tyX8 tyX8_ok nmX8 hown hK hP (fun k h => ⟨Nat.le_add_right b k, Nat.add_lt_add_left h b⟩) hS rfl 120 rfl rfl 10 (by decide) (hq _ w_263) (fun _ h9 => h9) rfl (by decide +kernel) rfl rfl (Nat.le_of_ble_eq_true rfl) dX8_solve_93 (fun H locs hP hz_ hS => ?_)
      obtain ⟨s_21, es_21⟩ : ∃ q, q = (gb_su σ 120 (upd (σ.1 120) 10 t0)) := ⟨_, rfl⟩
      replace hP : va_P D vwCl (gb_wl b (gb_CW cT b s_21)) H := by rw [es_21]; exact hP
      replace h := gb_lt_s es_21 h
      refine lv_aload_n hx hb dX8_solve_96 rfl (lv_at hl 1 rfl) ?_
      obtain ⟨s_22, r_23, z_24, h⟩ := gb_cd_s h
      refine gb_callv (va_runV (C := RX8) (As := []) (rest := []) ⟨hx, hb, hml, hown, hq⟩ (cc_Sharing_keepRow l D cT tt b1 b hb1 n s_21 s_22 r_23 z_24) (cwV 0 hq (gb_gV w_922 w_924 s_2_8 w_12 w_925) rfl rfl rfl (by decide +kernel) ⟨Nat.le_of_ble_eq_true rfl, Nat.le_of_ble_eq_true rfl⟩) (gb_preV (r := (RX8, TX8, 11)) (ci := 7) (q0 := 120) hSt hP rfl (gb_at b rfl) hS (fun q h => Nat.le_trans hb1 h.1) hP) rfl rfl hl.1 rfl (lv_room (Nat.le_of_ble_eq_true rfl)) dX8_solve_97 ⟨Nat.le_of_ble_eq_true rfl, Nat.le_of_ble_eq_true rfl⟩) hS (fun _ h => h) (fun _ h => h) (fun H locs hY hk hS => ?_)
      have hP := hY
      refine lv_aload_n hx hb dX8_solve_100 rfl (lv_at hl 1 rfl) ?_
      obtain ⟨s_26, r_27, z_28, h⟩ := gb_cd_s h
      refine gb_callv (va_runV (C := RX8) (As := []) (rest := []) ⟨hx, hb, hml, hown, hq⟩ (cc_Sharing_advance l D cT tt b1 b hb1 n s_22 s_26 r_27 z_28) (cwV 0 hq (gb_gV w_927 w_929 s_2_9 w_12 w_930) rfl rfl rfl (by decide +kernel) ⟨Nat.le_of_ble_eq_true rfl, Nat.le_of_ble_eq_true rfl⟩) (gb_preV (r := (RX8, TX8, 11)) (ci := 7) (q0 := 120) hSt hP rfl (gb_at b rfl) hS (fun q h => Nat.le_trans hb1 h.1) hP) rfl rfl hl.1 rfl (lv_room (Nat.le_of_ble_eq_true rfl)) dX8_solve_101 ⟨Nat.le_of_ble_eq_true rfl, Nat.le_of_ble_eq_true rfl⟩) hS (fun _ h => h) (fun _ h => h) (fun H locs hY hk hS => ?_)
      have hP := hY
      obtain ⟨x_30, ex_30⟩ : ∃ q, q = (v5 + 1) := ⟨_, rfl⟩
      replace h := gb_lt_s ex_30 h
      refine lv_iinc (v := x_30) (lv' := [(5, .int x_30), (6, .int t0), (0, .ref (b + 120)), (4, .int v4)]) hx hb dX8_solve_104 hl (k := 3) rfl (by rw [ex_30]; rfl) (by decide) rfl (fun ls hl => ?_)
      refine lv_goto (tgt := 48) hx hb dX8_solve_107 (by decide) ?_
      exact hk48 _ _ _ _ _ _ h hP hS (lv_sub hl [2, 3, 0] rfl)
    · rw [if_neg c_20] at h
      refine lv_iload hx hb dX8_solve_81 (lv_at hl 0 rfl) ?_
      refine lv_aload_n hx hb dX8_solve_83 rfl (lv_at hl 1 rfl) ?_
      refine va_get (ci := 7) (v := (.int (σ.1 120 10))) (C := RX8) (T := TX8) (N := 11) hx hb hq i_X8 hown hK hP 120 (gb_at b rfl) rfl 10 (by decide) (hq _ w_263) (fun _ h9 => h9) rfl dX8_solve_84 ?_
      refine lv_icmp_le (tgt := 100) hx hb dX8_solve_87 (by decide) (fun c_31 => ?_) (fun c_31 => ?_)
      · rw [if_pos c_31] at h
        refine lv_aload_n hx hb dX8_solve_100 rfl (lv_at hl 1 rfl) ?_
        obtain ⟨s_32, r_33, z_34, h⟩ := gb_cd_s h
        refine gb_callv (va_runV (C := RX8) (As := []) (rest := []) ⟨hx, hb, hml, hown, hq⟩ (cc_Sharing_advance l D cT tt b1 b hb1 n σ s_32 r_33 z_34) (cwV 0 hq (gb_gV w_927 w_929 s_2_9 w_12 w_930) rfl rfl rfl (by decide +kernel) ⟨Nat.le_of_ble_eq_true rfl, Nat.le_of_ble_eq_true rfl⟩) (gb_preV (r := (RX8, TX8, 11)) (ci := 7) (q0 := 120) hSt hP rfl (gb_at b rfl) hS (fun q h => Nat.le_trans hb1 h.1) hP) rfl rfl hl.1 rfl (lv_room (Nat.le_of_ble_eq_true rfl)) dX8_solve_101 ⟨Nat.le_of_ble_eq_true rfl, Nat.le_of_ble_eq_true rfl⟩) hS (fun _ h => h) (fun _ h => h) (fun H locs hY hk hS => ?_)
        have hP := hY
        obtain ⟨x_36, ex_36⟩ : ∃ q, q = (v5 + 1) := ⟨_, rfl⟩
        replace h := gb_lt_s ex_36 h
        refine lv_iinc (v := x_36) (lv' := [(5, .int x_36), (6, .int t0), (0, .ref (b + 120)), (4, .int v4)]) hx hb dX8_solve_104 hl (k := 3) rfl (by rw [ex_36]; rfl) (by decide) rfl (fun ls hl => ?_)
        refine lv_goto (tgt := 48) hx hb dX8_solve_107 (by decide) ?_
        exact hk48 _ _ _ _ _ _ h hP hS (lv_sub hl [2, 3, 0] rfl)
      · rw [if_neg c_31] at h
        refine lv_aload_n hx hb dX8_solve_90 rfl (lv_at hl 1 rfl) ?_
        refine lv_iload hx hb dX8_solve_91 (lv_at hl 0 rfl) ?_
        refine gb_put (ci := 7) (v := (.int t0)) (ty := .int) (C := RX8) (T := TX8) (N := 11) hx hb hq i_X8 tyX8 tyX8_ok nmX8 hown hK hP (fun k h => ⟨Nat.le_add_right b k, Nat.add_lt_add_left h b⟩) hS rfl 120 rfl rfl 10 (by decide) (hq _ w_263) (fun _ h9 => h9) rfl (by decide +kernel) rfl rfl (Nat.le_of_ble_eq_true rfl) dX8_solve_93 (fun H locs hP hz_ hS => ?_)
        obtain ⟨s_37, es_37⟩ : ∃ q, q = (gb_su σ 120 (upd (σ.1 120) 10 t0)) := ⟨_, rfl⟩
        replace hP : va_P D vwCl (gb_wl b (gb_CW cT b s_37)) H := by rw [es_37]; exact hP
        replace h := gb_lt_s es_37 h
        refine lv_aload_n hx hb dX8_solve_96 rfl (lv_at hl 1 rfl) ?_
        obtain ⟨s_38, r_39, z_40, h⟩ := gb_cd_s h
        refine gb_callv (va_runV (C := RX8) (As := []) (rest := []) ⟨hx, hb, hml, hown, hq⟩ (cc_Sharing_keepRow l D cT tt b1 b hb1 n s_37 s_38 r_39 z_40) (cwV 0 hq (gb_gV w_922 w_924 s_2_8 w_12 w_925) rfl rfl rfl (by decide +kernel) ⟨Nat.le_of_ble_eq_true rfl, Nat.le_of_ble_eq_true rfl⟩) (gb_preV (r := (RX8, TX8, 11)) (ci := 7) (q0 := 120) hSt hP rfl (gb_at b rfl) hS (fun q h => Nat.le_trans hb1 h.1) hP) rfl rfl hl.1 rfl (lv_room (Nat.le_of_ble_eq_true rfl)) dX8_solve_97 ⟨Nat.le_of_ble_eq_true rfl, Nat.le_of_ble_eq_true rfl⟩) hS (fun _ h => h) (fun _ h => h) (fun H locs hY hk hS => ?_)
        have hP := hY
        refine lv_aload_n hx hb dX8_solve_100 rfl (lv_at hl 1 rfl) ?_
        obtain ⟨s_42, r_43, z_44, h⟩ := gb_cd_s h
        refine gb_callv (va_runV (C := RX8) (As := []) (rest := []) ⟨hx, hb, hml, hown, hq⟩ (cc_Sharing_advance l D cT tt b1 b hb1 n s_38 s_42 r_43 z_44) (cwV 0 hq (gb_gV w_927 w_929 s_2_9 w_12 w_930) rfl rfl rfl (by decide +kernel) ⟨Nat.le_of_ble_eq_true rfl, Nat.le_of_ble_eq_true rfl⟩) (gb_preV (r := (RX8, TX8, 11)) (ci := 7) (q0 := 120) hSt hP rfl (gb_at b rfl) hS (fun q h => Nat.le_trans hb1 h.1) hP) rfl rfl hl.1 rfl (lv_room (Nat.le_of_ble_eq_true rfl)) dX8_solve_101 ⟨Nat.le_of_ble_eq_true rfl, Nat.le_of_ble_eq_true rfl⟩) hS (fun _ h => h) (fun _ h => h) (fun H locs hY hk hS => ?_)
        have hP := hY
        obtain ⟨x_46, ex_46⟩ : ∃ q, q = (v5 + 1) := ⟨_, rfl⟩
        replace h := gb_lt_s ex_46 h
        refine lv_iinc (v := x_46) (lv' := [(5, .int x_46), (6, .int t0), (0, .ref (b + 120)), (4, .int v4)]) hx hb dX8_solve_104 hl (k := 3) rfl (by rw [ex_46]; rfl) (by decide) rfl (fun ls hl => ?_)
        refine lv_goto (tgt := 48) hx hb dX8_solve_107 (by decide) ?_
        exact hk48 _ _ _ _ _ _ h hP hS (lv_sub hl [2, 3, 0] rfl)
  have L48_2 : ∀ (mm : Nat) (σ : gb_S) (v4 : Int32) (v5 : Int32) (H : Heap) (locs : List Loc) (ls : Array Slot), cs_Sharing_solve_B_L_48 n mm σ v4 v5 = some (σE, rE) → va_P D vwCl (gb_wl b (gb_CW cT b σ)) H → va_S (gb_fr b 135) s.heap H locs → lv_has ls 7 [(0, .ref (b + 120)), (4, .int v4), (5, .int v5)] → W p l e (headSpec (.code yX8_solve cX8_solve 7 none :: gb_wA) ({ frames := 5, cells := 0, slots := 0, locals := 114 })).room s m ([.ref (b + 120), .ref (b + p1), .ref (b + p2), .int p3]).toArray below meth c H locs 0 0 (MQ below (gb_Qv (fun h => va_P D vwCl (gb_wl b (gb_CW cT b σE)) h) (gb_fr b 135)) ([.ref (b + 120), .ref (b + p1), .ref (b + p2), .int p3]).toArray s 0 0 (gb_fr b 135)) (F0 m 48 ls []) := by
    clear h hP hS hl ls
    intro mm
    induction mm with
    | zero =>
      intro σ v4 v5 H locs ls h
      cases h
    | succ mm ih =>
      intro σ v4 v5 H locs ls h hP hS hl
      rw [cs_Sharing_solve_B_L_48] at h
      refine lv_iload hx hb dX8_solve_48 (lv_at hl 2 rfl) ?_
      refine lv_iload hx hb dX8_solve_50 (lv_at hl 1 rfl) ?_
      refine lv_icmp_ge (tgt := 110) hx hb dX8_solve_52 (by decide) (fun c_14 => ?_) (fun c_14 => ?_)
      · rw [if_pos c_14] at h
        obtain ⟨e1, -⟩ := gb_eq2 h
        exact W.vret hx hb hr (fun t ht hW => gb_rv ht (by rw [← e1]; exact hP) hS) hS.2.2 dX8_solve_110
      · rw [if_neg c_14] at h
        refine lv_aload_n hx hb dX8_solve_55 rfl (lv_at hl 0 rfl) ?_
        refine va_get (ci := 7) (v := (gb_nv b (σ.2.1 3))) (C := RX8) (T := TX8) (N := 11) hx hb hq i_X8 hown hK hP 120 (gb_at b rfl) rfl 1 (by decide) (hq _ w_252) (fun _ h9 => h9) rfl dX8_solve_56 ?_
        by_cases c_15 : (σ.2.1 3) = 0
        · rw [if_pos c_15] at h
          rw [gb_nv0 c_15]
          refine lv_ifnonnullN hx hb dX8_solve_59 ?_
          refine lv_aload_n hx hb dX8_solve_62 rfl (lv_at hl 0 rfl) ?_
          obtain ⟨s_16, r_17, z_18, h⟩ := gb_cd_s h
          refine gb_calli (va_runV (C := RX8) (As := []) (rest := []) ⟨hx, hb, hml, hown, hq⟩ (cc_Sharing_spread l D cT tt b1 b hb1 n σ s_16 r_17 z_18) (cwV 0 hq (gb_gV w_912 w_914 s_2_6 w_12 w_915) rfl rfl rfl (by decide +kernel) ⟨Nat.le_of_ble_eq_true rfl, Nat.le_of_ble_eq_true rfl⟩) (gb_preV (r := (RX8, TX8, 11)) (ci := 7) (q0 := 120) hSt hP rfl (gb_at b rfl) hS (fun q h => Nat.le_trans hb1 h.1) hP) rfl rfl hl.1 rfl (lv_room (Nat.le_of_ble_eq_true rfl)) dX8_solve_63 ⟨Nat.le_of_ble_eq_true rfl, Nat.le_of_ble_eq_true rfl⟩) hS (fun _ h => h) (fun _ h => h) (fun q_19 H locs hY hk hS => ?_)
          obtain ⟨hq_19, hP⟩ := hY
          replace hq_19 := hq_19.symm
          subst hq_19
          refine lv_ineg hx hb dX8_solve_66 ?_
          refine lv_goto (tgt := 74) hx hb dX8_solve_67 (by decide) ?_
          exact L74_3 _ ih _ _ _ _ _ _ _ h hP hS (lv_sub hl [0, 1, 2] rfl)
        rw [if_neg c_15] at h
        rw [gb_nv1 c_15]
        obtain ⟨z_47, h⟩ := gb_kk_s h
        refine lv_ifnonnull (tgt := 70) hx hb dX8_solve_59 (by decide) ?_
        refine lv_aload_n hx hb dX8_solve_70 rfl (lv_at hl 0 rfl) ?_
        obtain ⟨s_48, r_49, z_50, h⟩ := gb_cd_s h
        refine gb_calli (va_runV (C := RX8) (As := []) (rest := []) ⟨hx, hb, hml, hown, hq⟩ (cc_Sharing_together l D cT tt b1 b hb1 n σ s_48 r_49 z_50) (cwV 0 hq (gb_gV w_918 w_920 s_2_7 w_12 w_921) rfl rfl rfl (by decide +kernel) ⟨Nat.le_of_ble_eq_true rfl, Nat.le_of_ble_eq_true rfl⟩) (gb_preV (r := (RX8, TX8, 11)) (ci := 7) (q0 := 120) hSt hP rfl (gb_at b rfl) hS (fun q h => Nat.le_trans hb1 h.1) hP) rfl rfl hl.1 rfl (lv_room (Nat.le_of_ble_eq_true rfl)) dX8_solve_71 ⟨Nat.le_of_ble_eq_true rfl, Nat.le_of_ble_eq_true rfl⟩) hS (fun _ h => h) (fun _ h => h) (fun q_51 H locs hY hk hS => ?_)
        obtain ⟨hq_51, hP⟩ := hY
        replace hq_51 := hq_51.symm
        subst hq_51
        exact L74_3 _ ih _ _ _ _ _ _ _ h hP hS (lv_sub hl [0, 1, 2] rfl)
  have L18_1 : ∀ (mm : Nat) (σ : gb_S) (v4 : Int32) (v5 : Int32) (H : Heap) (locs : List Loc) (ls : Array Slot), cs_Sharing_solve_B_L_18 n mm σ v4 v5 = some (σE, rE) → va_P D vwCl (gb_wl b (gb_CW cT b σ)) H → va_S (gb_fr b 135) s.heap H locs → lv_has ls 7 [(0, .ref (b + 120)), (4, .int v4), (5, .int v5)] → W p l e (headSpec (.code yX8_solve cX8_solve 7 none :: gb_wA) ({ frames := 5, cells := 0, slots := 0, locals := 114 })).room s m ([.ref (b + 120), .ref (b + p1), .ref (b + p2), .int p3]).toArray below meth c H locs 0 0 (MQ below (gb_Qv (fun h => va_P D vwCl (gb_wl b (gb_CW cT b σE)) h) (gb_fr b 135)) ([.ref (b + 120), .ref (b + p1), .ref (b + p2), .int p3]).toArray s 0 0 (gb_fr b 135)) (F0 m 18 ls []) := by
    clear h hP hS hl ls
    intro mm
    induction mm with
    | zero =>
      intro σ v4 v5 H locs ls h
      cases h
    | succ mm ih =>
      intro σ v4 v5 H locs ls h hP hS hl
      rw [cs_Sharing_solve_B_L_18] at h
      refine lv_iload hx hb dX8_solve_18 (lv_at hl 2 rfl) ?_
      refine lv_aload_n hx hb dX8_solve_20 rfl (lv_at hl 0 rfl) ?_
      obtain ⟨z_8, h⟩ := gb_kk_s h
      refine va_get (ci := 7) (v := (.ref (b + (σ.2.1 2)))) (C := RX8) (T := TX8) (N := 11) hx hb hq i_X8 hown hK hP 120 (gb_at b rfl) rfl 0 (by decide) (hq _ w_251) (fun _ h9 => h9) rfl dX8_solve_21 ?_
      obtain ⟨s_9, r_10, z_11, h⟩ := gb_cd_s h
      refine gb_calli (va_runV (C := RX0) (As := []) (rest := [.int v5]) ⟨hx, hb, hml, hown, hq⟩ (cc_Border_geese_B l D cT tt b1 b hb1 n σ (σ.2.1 2) s_9 r_10 z_11) (cwV 0 hq (gb_gV w_889 w_477 w_478 w_4 w_479) rfl rfl rfl (by decide +kernel) ⟨Nat.le_of_ble_eq_true rfl, Nat.le_of_ble_eq_true rfl⟩) (gb_preV (r := (RX0, TX0, 1)) (ci := 0) (q0 := (σ.2.1 2)) hSt hP rfl (gb_at b (gb_cB z_8).1) hS (fun q h => Nat.le_trans hb1 h.1) hP) rfl rfl hl.1 rfl (lv_room (Nat.le_of_ble_eq_true rfl)) dX8_solve_24 ⟨Nat.le_of_ble_eq_true rfl, Nat.le_of_ble_eq_true rfl⟩) hS (fun _ h => h) (fun _ h => h) (fun q_12 H locs hY hk hS => ?_)
      obtain ⟨hq_12, hP⟩ := hY
      replace hq_12 := hq_12.symm
      subst hq_12
      refine lv_icmp_ge (tgt := 45) hx hb dX8_solve_27 (by decide) (fun c_13 => ?_) (fun c_13 => ?_)
      · rw [if_pos c_13] at h
        refine lv_iconst (v := 0) hx hb dX8_solve_45 (by decide) ?_
        refine lv_istore (lv' := [(5, .int 0), (0, .ref (b + 120)), (4, .int v4)]) hx hb dX8_solve_46 hl (by decide) rfl (fun ls hl => ?_)
        exact L48_2 n _ _ _ _ _ _ h hP hS (lv_sub hl [1, 2, 0] rfl)
      · rw [if_neg c_13] at h
        refine lv_iload hx hb dX8_solve_30 (lv_at hl 1 rfl) ?_
        refine lv_aload_n hx hb dX8_solve_32 rfl (lv_at hl 0 rfl) ?_
        refine va_get (ci := 7) (v := (.int (s_9.1 120 4))) (C := RX8) (T := TX8) (N := 11) hx hb hq i_X8 hown hK hP 120 (gb_at b rfl) rfl 4 (by decide) (hq _ w_255) (fun _ h9 => h9) rfl dX8_solve_33 ?_
        refine lv_imul hx hb dX8_solve_36 ?_
        refine lv_topi (fun x_52 ex_52 => ?_)
        replace h := gb_lt_s ex_52 h
        refine lv_istore (lv' := [(4, .int x_52), (0, .ref (b + 120)), (5, .int v5)]) hx hb dX8_solve_37 hl (by decide) rfl (fun ls hl => ?_)
        obtain ⟨x_53, ex_53⟩ : ∃ q, q = (v5 + 1) := ⟨_, rfl⟩
        replace h := gb_lt_s ex_53 h
        refine lv_iinc (v := x_53) (lv' := [(5, .int x_53), (4, .int x_52), (0, .ref (b + 120))]) hx hb dX8_solve_39 hl (k := 2) rfl (by rw [ex_53]; rfl) (by decide) rfl (fun ls hl => ?_)
        refine lv_goto (tgt := 18) hx hb dX8_solve_42 (by decide) ?_
        exact ih _ _ _ _ _ _ h hP hS (lv_sub hl [2, 1, 0] rfl)
  unfold cs_Sharing_solve_B_L at h
  obtain ⟨z_1, h⟩ := gb_kk_s h
  obtain ⟨z_2, h⟩ := gb_kk_s h
  refine lv_aload_n hx hb dX8_solve_0 rfl (lv_at hl 0 rfl) ?_
  refine lv_aload_n hx hb dX8_solve_1 rfl (lv_at hl 1 rfl) ?_
  refine lv_aload_n hx hb dX8_solve_2 rfl (lv_at hl 2 rfl) ?_
  refine lv_iload_n hx hb dX8_solve_3 rfl (lv_at hl 3 rfl) ?_
  obtain ⟨s_3, r_4, z_5, h⟩ := gb_cd_s h
  refine gb_callv (va_runV (C := RX8) (As := [.ref (b + p1), .ref (b + p2), .int p3]) (rest := []) ⟨hx, hb, hml, hown, hq⟩ (cc_Sharing_begin_B_L l D cT tt b1 b hb1 n σ p1 p2 p3 s_3 r_4 z_5) (cwV 3 hq (gb_gV w_894 w_896 s_2_4 w_12 w_897) rfl rfl rfl (by decide +kernel) ⟨Nat.le_of_ble_eq_true rfl, Nat.le_of_ble_eq_true rfl⟩) (gb_preV (r := (RX8, TX8, 11)) (ci := 7) (q0 := 120) hSt hP rfl (gb_at b rfl) hS (fun q h => Nat.le_trans hb1 h.1) hP) rfl rfl hl.1 rfl (lv_room (Nat.le_of_ble_eq_true rfl)) dX8_solve_4 ⟨Nat.le_of_ble_eq_true rfl, Nat.le_of_ble_eq_true rfl⟩) hS (fun _ h => h) (fun _ h => h) (fun H locs hY hk hS => ?_)
  have hP := hY
  refine lv_aload_n hx hb dX8_solve_7 rfl (lv_at hl 0 rfl) ?_
  refine lv_iconst (v := 0) hx hb dX8_solve_8 (by decide) ?_
  refine gb_put (ci := 7) (v := (.int 0)) (ty := .int) (C := RX8) (T := TX8) (N := 11) hx hb hq i_X8 tyX8 tyX8_ok nmX8 hown hK hP (fun k h => ⟨Nat.le_add_right b k, Nat.add_lt_add_left h b⟩) hS rfl 120 rfl rfl 10 (by decide) (hq _ w_263) (fun _ h9 => h9) rfl (by decide +kernel) rfl rfl (Nat.le_of_ble_eq_true rfl) dX8_solve_9 (fun H locs hP hz_ hS => ?_)
  obtain ⟨s_7, es_7⟩ : ∃ q, q = (gb_su s_3 120 (upd (s_3.1 120) 10 0)) := ⟨_, rfl⟩
  replace hP : va_P D vwCl (gb_wl b (gb_CW cT b s_7)) H := by rw [es_7]; exact hP
  replace h := gb_lt_s es_7 h
  refine lv_iconst (v := 1) hx hb dX8_solve_12 (by decide) ?_
  refine lv_istore (lv' := [(4, .int 1), (0, .ref (b + 120)), (1, .ref (b + p1)), (2, .ref (b + p2)), (3, .int p3)]) hx hb dX8_solve_13 hl (by decide) rfl (fun ls hl => ?_)
  refine lv_iconst (v := 0) hx hb dX8_solve_15 (by decide) ?_
  refine lv_istore (lv' := [(5, .int 0), (4, .int 1), (0, .ref (b + 120)), (1, .ref (b + p1)), (2, .ref (b + p2)), (3, .int p3)]) hx hb dX8_solve_16 hl (by decide) rfl (fun ls hl => ?_)
  exact L18_1 n _ _ _ _ _ _ h hP hS (lv_sub hl [2, 1, 0] rfl)
theorem dX11_richest_70 : decode cX11_richest 70 = .ok (.iload_n 3, 1) := dc_29 (show ((cX11_richest.data.toList.drop 70).take 1).map UInt8.toNat = [29] by decide +kernel)
theorem dX11_richest_71 : decode cX11_richest 71 = .ok (.ifCond .ne 13, 3) := dc_154 (show ((cX11_richest.data.toList.drop 71).take 3).map UInt8.toNat = [154, 0, 13] by decide +kernel) rfl
theorem dX11_richest_84 : decode cX11_richest 84 = .ok (.aload_n 0, 1) := dc_42 (show ((cX11_richest.data.toList.drop 84).take 1).map UInt8.toNat = [42] by decide +kernel)
theorem dX11_richest_85 : decode cX11_richest 85 = .ok (.getfield 63, 3) := dc_180 (show ((cX11_richest.data.toList.drop 85).take 3).map UInt8.toNat = [180, 0, 63] by decide +kernel) rfl
theorem dX11_richest_88 : decode cX11_richest 88 = .ok (.getfield 290, 3) := dc_180 (show ((cX11_richest.data.toList.drop 88).take 3).map UInt8.toNat = [180, 1, 34] by decide +kernel) rfl
theorem dX11_richest_91 : decode cX11_richest 91 = .ok (.iload_n 3, 1) := dc_29 (show ((cX11_richest.data.toList.drop 91).take 1).map UInt8.toNat = [29] by decide +kernel)
theorem dX11_richest_92 : decode cX11_richest 92 = .ok (.bipush 10, 2) := dc_16 (show ((cX11_richest.data.toList.drop 92).take 2).map UInt8.toNat = [16, 10] by decide +kernel) rfl
theorem dX11_richest_94 : decode cX11_richest 94 = .ok (.isub, 1) := dc_100 (show ((cX11_richest.data.toList.drop 94).take 1).map UInt8.toNat = [100] by decide +kernel)
theorem dX11_richest_95 : decode cX11_richest 95 = .ok (.iaload, 1) := dc_46 (show ((cX11_richest.data.toList.drop 95).take 1).map UInt8.toNat = [46] by decide +kernel)
theorem dX11_richest_96 : decode cX11_richest 96 = .ok (.ireturn, 1) := dc_172 (show ((cX11_richest.data.toList.drop 96).take 1).map UInt8.toNat = [172] by decide +kernel)
theorem dX11_richest_74 : decode cX11_richest 74 = .ok (.aload_n 0, 1) := dc_42 (show ((cX11_richest.data.toList.drop 74).take 1).map UInt8.toNat = [42] by decide +kernel)
theorem dX11_richest_75 : decode cX11_richest 75 = .ok (.getfield 63, 3) := dc_180 (show ((cX11_richest.data.toList.drop 75).take 3).map UInt8.toNat = [180, 0, 63] by decide +kernel) rfl
theorem dX11_richest_78 : decode cX11_richest 78 = .ok (.getfield 293, 3) := dc_180 (show ((cX11_richest.data.toList.drop 78).take 3).map UInt8.toNat = [180, 1, 37] by decide +kernel) rfl
theorem w_264 : (Cond.fieldLink "GooseBorder" (293 : Nat) "GooseBorder$Sharing" "bestValue" "I") ∈ gb_wA := gb_t2 24 rfl rfl
theorem dX11_richest_81 : decode cX11_richest 81 = .ok (.goto 15, 3) := dc_167 (show ((cX11_richest.data.toList.drop 81).take 3).map UInt8.toNat = [167, 0, 15] by decide +kernel) rfl
theorem dX11_richest_38 : decode cX11_richest 38 = .ok (.iload_n 3, 1) := dc_29 (show ((cX11_richest.data.toList.drop 38).take 1).map UInt8.toNat = [29] by decide +kernel)
theorem dX11_richest_39 : decode cX11_richest 39 = .ok (.bipush 10, 2) := dc_16 (show ((cX11_richest.data.toList.drop 39).take 2).map UInt8.toNat = [16, 10] by decide +kernel) rfl
theorem dX11_richest_41 : decode cX11_richest 41 = .ok (.if_icmp .lt 15, 3) := dc_161 (show ((cX11_richest.data.toList.drop 41).take 3).map UInt8.toNat = [161, 0, 15] by decide +kernel) rfl
theorem dX11_richest_56 : decode cX11_richest 56 = .ok (.iconst (-1), 1) := dc_2 (show ((cX11_richest.data.toList.drop 56).take 1).map UInt8.toNat = [2] by decide +kernel)
theorem dX11_richest_57 : decode cX11_richest 57 = .ok (.ireturn, 1) := dc_172 (show ((cX11_richest.data.toList.drop 57).take 1).map UInt8.toNat = [172] by decide +kernel)
theorem dX11_richest_44 : decode cX11_richest 44 = .ok (.iload_n 3, 1) := dc_29 (show ((cX11_richest.data.toList.drop 44).take 1).map UInt8.toNat = [29] by decide +kernel)
theorem dX11_richest_45 : decode cX11_richest 45 = .ok (.bipush 10, 2) := dc_16 (show ((cX11_richest.data.toList.drop 45).take 2).map UInt8.toNat = [16, 10] by decide +kernel) rfl
theorem dX11_richest_47 : decode cX11_richest 47 = .ok (.aload 4, 2) := dc_25 (show ((cX11_richest.data.toList.drop 47).take 2).map UInt8.toNat = [25, 4] by decide +kernel) rfl
theorem dX11_richest_49 : decode cX11_richest 49 = .ok (.invokevirtual 121, 3) := dc_182 (show ((cX11_richest.data.toList.drop 49).take 3).map UInt8.toNat = [182, 0, 121] by decide +kernel) rfl
theorem dX11_richest_52 : decode cX11_richest 52 = .ok (.iadd, 1) := dc_96 (show ((cX11_richest.data.toList.drop 52).take 1).map UInt8.toNat = [96] by decide +kernel)
theorem dX11_richest_53 : decode cX11_richest 53 = .ok (.if_icmp .lt 5, 3) := dc_161 (show ((cX11_richest.data.toList.drop 53).take 3).map UInt8.toNat = [161, 0, 5] by decide +kernel) rfl
def cs_Face_richest_58 (n : Nat) (σ : gb_S) (v3 : Int32) (v4 : Nat) (v5 : Nat) : gb_CR Int32 := gb_kk (gb_kB v4) (gb_kk (gb_kL v5) (gb_cd (cs_Sharing_solve_B_L n σ v4 v5 (-1)) (fun s_27 _ => (if v3 = 0 then some (s_27, (s_27.1 120 10)) else gb_ck (v3 - 10) 8 (gb_lt ((s_27.1 128) (Int32.toNatClampNeg (v3 - 10))) (fun x_33 => some (s_27, x_33)))))))
def cs_Face_richest (n : Nat) (σ : gb_S) (p1 : Int32) (p2 : Int32) (p3 : Int32) : gb_CR Int32 := gb_cd (cs_Face_borderAt n σ p1) (fun s_1 r_2 => (if r_2 = 0 then gb_cd (cs_Face_lawAt n s_1 p2) (fun s_6 r_7 => (if r_7 = 0 then some (s_6, (-1)) else gb_kk (gb_kL r_7) (some (s_6, (-1))))) else gb_kk (gb_kB r_2) (gb_cd (cs_Face_lawAt n s_1 p2) (fun s_13 r_14 => (if r_14 = 0 then some (s_13, (-1)) else gb_kk (gb_kL r_14) (gb_cd (cs_Sharing_canShare_B n s_13 r_2) (fun s_19 r_20 => (if r_20 = 0 then some (s_19, (-1)) else (if p3 = 0 then cs_Face_richest_58 n s_19 p3 r_2 r_14 else (if p3 < 10 then some (s_19, (-1)) else gb_cd (cs_Border_geese_B n s_19 r_2) (fun s_35 r_36 => (if p3 < ((10 : Int32) + r_36) then cs_Face_richest_58 n s_35 p3 r_2 r_14 else some (s_35, (-1))))))))))))))
set_option maxHeartbeats 8000000 in
set_option maxRecDepth 100000 in
theorem cc_Face_richest (l : Launch) (D : va_G) (cT : Nat → ClassId) (tt : Nat → Nat) (b1 b : Nat) (hb1 : b1 ≤ b) (n : Nat) (σ : gb_S) (p1 : Int32) (p2 : Int32) (p3 : Int32) (σE : gb_S) (rE : Int32) (h : cs_Face_richest n σ p1 p2 p3 = some (σE, rE)) : Met l yX11_richest (.code yX11_richest cX11_richest 6 (some FieldType.int) :: gb_wA) ({ frames := 6, cells := 0, slots := 0, locals := 140 }) (gb_Pc D cT tt b1 [.ref (b + 0), .int p1, .int p2, .int p3] (fun h => va_P D vwCl (gb_wl b (gb_CW cT b σ)) h)) (gb_Qi (fun r h => r = rE ∧ va_P D vwCl (gb_wl b (gb_CW cT b σE)) h) (gb_fr b 135)) 0 0 (gb_fr b 135) := by
  refine Met.ofW (cc := cX11_richest) (maxL := 6) (ret := (some FieldType.int)) (by decide) rfl ?_
  intro p e s m args below meth c s₁ B hml hv
  obtain ⟨rfl, hSt, hP⟩ := hv
  have hx := B.exec
  have hb := B.bytes
  have hr := B.returns
  have hts := atoms_spec (ws := .code yX11_richest cX11_richest 6 (some FieldType.int) :: gb_wA) B.pre
  have hq : ∀ w ∈ gb_wA, w.before _ s = true := fun w h => hts w (List.mem_cons_of_mem _ h)
  have hown : s.vm.findClass RX11 = some m.cls := findClass_of_methodNamed B.named
  have hlocks := B.notSynchronized
  clear B hts
  have hK := hSt.1
  have hS : va_S (gb_fr b 135) s.heap s.heap [] := va_S.rf
  have hl := lv_entry ([.ref (b + 0), .int p1, .int p2, .int p3]) (n := 6) (Nat.le_of_ble_eq_true rfl)
  rw [lg_entry_eq]
  generalize (lg_sl ([.ref (b + 0), .int p1, .int p2, .int p3]) ++ List.replicate (6 - (lg_sl ([.ref (b + 0), .int p1, .int p2, .int p3])).length) Slot.unset).toArray = ls at hl ⊢
  replace hl : lv_has ls 6 [(0, .ref (b + 0)), (1, .int p1), (2, .int p2), (3, .int p3)] := hl
  have L58_1 : ∀ (σ : gb_S) (v3 : Int32) (v4 : Nat) (v5 : Nat) (H : Heap) (locs : List Loc) (ls : Array Slot), cs_Face_richest_58 n σ v3 v4 v5 = some (σE, rE) → va_P D vwCl (gb_wl b (gb_CW cT b σ)) H → va_S (gb_fr b 135) s.heap H locs → lv_has ls 6 [(0, .ref (b + 0)), (3, .int v3), (4, .ref (b + v4)), (5, .ref (b + v5))] → W p l e (headSpec (.code yX11_richest cX11_richest 6 (some FieldType.int) :: gb_wA) ({ frames := 6, cells := 0, slots := 0, locals := 140 })).room s m ([.ref (b + 0), .int p1, .int p2, .int p3]).toArray below meth c H locs 0 0 (MQ below (gb_Qi (fun r h => r = rE ∧ va_P D vwCl (gb_wl b (gb_CW cT b σE)) h) (gb_fr b 135)) ([.ref (b + 0), .int p1, .int p2, .int p3]).toArray s 0 0 (gb_fr b 135)) (F0 m 58 ls []) := by
    clear h hP hS hl ls
    intro σ v3 v4 v5 H locs ls h hP hS hl
    unfold cs_Face_richest_58 at h
    obtain ⟨z_25, h⟩ := gb_kk_s h
    obtain ⟨z_26, h⟩ := gb_kk_s h
    refine lv_aload_n hx hb dX11_richest_58 rfl (lv_at hl 0 rfl) ?_
    refine va_get (ci := 9) (v := (.ref (b + 120))) (C := RX11) (T := TX11) (N := 10) hx hb hq i_X11 hown hK hP 0 (gb_at b rfl) rfl 7 (by decide) (hq _ w_322) (fun _ h9 => h9) rfl dX11_richest_59 ?_
    refine lv_aload hx hb dX11_richest_62 (lv_at hl 2 rfl) ?_
    refine lv_aload hx hb dX11_richest_64 (lv_at hl 3 rfl) ?_
    refine lv_iconst (v := (-1)) hx hb dX11_richest_66 (by decide) ?_
    obtain ⟨s_27, r_28, z_29, h⟩ := gb_cd_s h
    refine gb_callv (va_runV (C := RX8) (As := [.ref (b + v4), .ref (b + v5), .int (-1)]) (rest := []) ⟨hx, hb, hml, hown, hq⟩ (cc_Sharing_solve_B_L l D cT tt b1 b hb1 n σ v4 v5 (-1) s_27 r_28 z_29) (cwV 3 hq (gb_gV w_890 w_891 w_892 w_12 w_893) rfl rfl rfl (by decide +kernel) ⟨Nat.le_of_ble_eq_true rfl, Nat.le_of_ble_eq_true rfl⟩) (gb_preV (r := (RX8, TX8, 11)) (ci := 7) (q0 := 120) hSt hP rfl (gb_at b rfl) hS (fun q h => Nat.le_trans hb1 h.1) hP) rfl rfl hl.1 rfl (lv_room (Nat.le_of_ble_eq_true rfl)) dX11_richest_67 ⟨Nat.le_of_ble_eq_true rfl, Nat.le_of_ble_eq_true rfl⟩) hS (fun _ h => h) (fun _ h => h) (fun H locs hY hk hS => ?_)
    have hP := hY
    refine lv_iload_n hx hb dX11_richest_70 rfl (lv_at hl 1 rfl) ?_
    refine lv_if_ne (tgt := 84) hx hb dX11_richest_71 (by decide) (fun c_31 => ?_) (fun c_31 => ?_)
    · rw [if_neg c_31] at h
      refine lv_aload_n hx hb dX11_richest_84 rfl (lv_at hl 0 rfl) ?_
      refine va_get (ci := 9) (v := (.ref (b + 120))) (C := RX11) (T := TX11) (N := 10) hx hb hq i_X11 hown hK hP 0 (gb_at b rfl) rfl 7 (by decide) (hq _ w_322) (fun _ h9 => h9) rfl dX11_richest_85 ?_
      refine va_get (ci := 7) (v := (.ref (b + 128))) (C := RX8) (T := TX8) (N := 11) hx hb hq i_X8 hown hK hP 120 (gb_at b rfl) rfl 8 (by decide) (hq _ w_260) (fun _ h9 => h9) rfl dX11_richest_88 ?_
      refine lv_iload_n hx hb dX11_richest_91 rfl (lv_at hl 1 rfl) ?_
      refine lv_bipush (v := 10) hx hb dX11_richest_92 (by decide) ?_
      refine lv_isub hx hb dX11_richest_94 ?_
      obtain ⟨z_32, h⟩ := gb_ck_s h
      refine va_iald hx hb hK hP 128 0 (gb_at b rfl) rfl z_32 dX11_richest_95 ?_
      refine lv_topi (fun x_33 ex_33 => ?_)
      replace h := gb_lt_s ex_33 h
      obtain ⟨e1, e2⟩ := gb_eq2 h
      exact W.iret (v := x_33) hx hb hr (fun t ht hW => gb_ri ht ⟨e2, by rw [← e1]; exact hP⟩ hS) hS.2.2 dX11_richest_96
    · rw [if_pos c_31] at h
      refine lv_aload_n hx hb dX11_richest_74 rfl (lv_at hl 0 rfl) ?_
      refine va_get (ci := 9) (v := (.ref (b + 120))) (C := RX11) (T := TX11) (N := 10) hx hb hq i_X11 hown hK hP 0 (gb_at b rfl) rfl 7 (by decide) (hq _ w_322) (fun _ h9 => h9) rfl dX11_richest_75 ?_
      refine va_get (ci := 7) (v := (.int (s_27.1 120 10))) (C := RX8) (T := TX8) (N := 11) hx hb hq i_X8 hown hK hP 120 (gb_at b rfl) rfl 10 (by decide) (hq _ w_264) (fun _ h9 => h9) rfl dX11_richest_78 ?_
      refine lv_goto (tgt := 96) hx hb dX11_richest_81 (by decide) ?_
      obtain ⟨e1, e2⟩ := gb_eq2 h
      exact W.iret (v := (s_27.1 120 10)) hx hb hr (fun t ht hW => gb_ri ht ⟨e2, by rw [← e1]; exact hP⟩ hS) hS.2.2 dX11_richest_96
  unfold cs_Face_richest at h
  refine lv_aload_n hx hb dX11_richest_0 rfl (lv_at hl 0 rfl) ?_
  refine lv_iload_n hx hb dX11_richest_1 rfl (lv_at hl 1 rfl) ?_
  obtain ⟨s_1, r_2, z_3, h⟩ := gb_cd_s h
  refine gb_callq (va_runV (C := RX11) (As := [.int p1]) (rest := []) ⟨hx, hb, hml, hown, hq⟩ (cc_Face_borderAt l D cT tt b1 b hb1 n σ p1 s_1 r_2 z_3) (cwV 1 hq (gb_gV w_593 w_595 s_1_7 w_1 w_596) rfl rfl rfl (by decide +kernel) ⟨Nat.le_of_ble_eq_true rfl, Nat.le_of_ble_eq_true rfl⟩) (gb_preV (r := (RX11, TX11, 10)) (ci := 9) (q0 := 0) hSt hP rfl (gb_at b rfl) hS (fun q h => Nat.le_trans hb1 h.1) hP) rfl rfl hl.1 rfl (lv_room (Nat.le_of_ble_eq_true rfl)) dX11_richest_2 ⟨Nat.le_of_ble_eq_true rfl, Nat.le_of_ble_eq_true rfl⟩) hS (fun _ h => h) (fun _ h => h) (fun q_4 H locs hY hk hS => ?_)
  obtain ⟨hq_4, hP⟩ := hY
  subst hq_4
  rw [gb_onv]
  by_cases c_5 : r_2 = 0
  · rw [if_pos c_5] at h
    rw [gb_nv0 c_5]
    refine lv_astoreN (lv' := [(4, .null), (0, .ref (b + 0)), (1, .int p1), (2, .int p2), (3, .int p3)]) hx hb dX11_richest_5 hl (by decide) rfl (fun ls hl => ?_)
    refine lv_aload_n hx hb dX11_richest_7 rfl (lv_at hl 1 rfl) ?_
    refine lv_iload_n hx hb dX11_richest_8 rfl (lv_at hl 3 rfl) ?_
    obtain ⟨s_6, r_7, z_8, h⟩ := gb_cd_s h
    refine gb_callq (va_runV (C := RX11) (As := [.int p2]) (rest := []) ⟨hx, hb, hml, hown, hq⟩ (cc_Face_lawAt l D cT tt b1 b hb1 n s_1 p2 s_6 r_7 z_8) (cwV 1 hq (gb_gV w_659 w_661 s_1_9 w_1 w_662) rfl rfl rfl (by decide +kernel) ⟨Nat.le_of_ble_eq_true rfl, Nat.le_of_ble_eq_true rfl⟩) (gb_preV (r := (RX11, TX11, 10)) (ci := 9) (q0 := 0) hSt hP rfl (gb_at b rfl) hS (fun q h => Nat.le_trans hb1 h.1) hP) rfl rfl hl.1 rfl (lv_room (Nat.le_of_ble_eq_true rfl)) dX11_richest_9 ⟨Nat.le_of_ble_eq_true rfl, Nat.le_of_ble_eq_true rfl⟩) hS (fun _ h => h) (fun _ h => h) (fun q_9 H locs hY hk hS => ?_)
    obtain ⟨hq_9, hP⟩ := hY
    subst hq_9
    rw [gb_onv]
    by_cases c_10 : r_7 = 0
    · rw [if_pos c_10] at h
      rw [gb_nv0 c_10]
      refine lv_astoreN (lv' := [(5, .null), (4, .null), (0, .ref (b + 0)), (1, .int p1), (2, .int p2), (3, .int p3)]) hx hb dX11_richest_12 hl (by decide) rfl (fun ls hl => ?_)
      refine lv_aloadN hx hb dX11_richest_14 (lv_at hl 1 rfl) ?_
      refine lv_ifnullN (tgt := 32) hx hb dX11_richest_16 (by decide) ?_
      refine lv_iconst (v := (-1)) hx hb dX11_richest_32 (by decide) ?_
      obtain ⟨e1, e2⟩ := gb_eq2 h
      exact W.iret (v := (-1)) hx hb hr (fun t ht hW => gb_ri ht ⟨e2, by rw [← e1]; exact hP⟩ hS) hS.2.2 dX11_richest_33
    rw [if_neg c_10] at h
    rw [gb_nv1 c_10]
    obtain ⟨z_11, h⟩ := gb_kk_s h
    refine lv_astore (lv' := [(5, .ref (b + r_7)), (4, .null), (0, .ref (b + 0)), (1, .int p1), (2, .int p2), (3, .int p3)]) hx hb dX11_richest_12 hl (by decide) rfl (fun ls hl => ?_)
    refine lv_aloadN hx hb dX11_richest_14 (lv_at hl 1 rfl) ?_
    refine lv_ifnullN (tgt := 32) hx hb dX11_richest_16 (by decide) ?_
    refine lv_iconst (v := (-1)) hx hb dX11_richest_32 (by decide) ?_
    obtain ⟨e1, e2⟩ := gb_eq2 h
    exact W.iret (v := (-1)) hx hb hr (fun t ht hW => gb_ri ht ⟨e2, by rw [← e1]; exact hP⟩ hS) hS.2.2 dX11_richest_33
  rw [if_neg c_5] at h
  rw [gb_nv1 c_5]
  obtain ⟨z_12, h⟩ := gb_kk_s h
  refine lv_astore (lv' := [(4, .ref (b + r_2)), (0, .ref (b + 0)), (1, .int p1), (2, .int p2), (3, .int p3)]) hx hb dX11_richest_5 hl (by decide) rfl (fun ls hl => ?_)
  refine lv_aload_n hx hb dX11_richest_7 rfl (lv_at hl 1 rfl) ?_
  refine lv_iload_n hx hb dX11_richest_8 rfl (lv_at hl 3 rfl) ?_
  obtain ⟨s_13, r_14, z_15, h⟩ := gb_cd_s h
  refine gb_callq (va_runV (C := RX11) (As := [.int p2]) (rest := []) ⟨hx, hb, hml, hown, hq⟩ (cc_Face_lawAt l D cT tt b1 b hb1 n s_1 p2 s_13 r_14 z_15) (cwV 1 hq (gb_gV w_659 w_661 s_1_9 w_1 w_662) rfl rfl rfl (by decide +kernel) ⟨Nat.le_of_ble_eq_true rfl, Nat.le_of_ble_eq_true rfl⟩) (gb_preV (r := (RX11, TX11, 10)) (ci := 9) (q0 := 0) hSt hP rfl (gb_at b rfl) hS (fun q h => Nat.le_trans hb1 h.1) hP) rfl rfl hl.1 rfl (lv_room (Nat.le_of_ble_eq_true rfl)) dX11_richest_9 ⟨Nat.le_of_ble_eq_true rfl, Nat.le_of_ble_eq_true rfl⟩) hS (fun _ h => h) (fun _ h => h) (fun q_16 H locs hY hk hS => ?_)
  obtain ⟨hq_16, hP⟩ := hY
  subst hq_16
  rw [gb_onv]
  by_cases c_17 : r_14 = 0
  · rw [if_pos c_17] at h
    rw [gb_nv0 c_17]
    refine lv_astoreN (lv' := [(5, .null), (4, .ref (b + r_2)), (0, .ref (b + 0)), (1, .int p1), (2, .int p2), (3, .int p3)]) hx hb dX11_richest_12 hl (by decide) rfl (fun ls hl => ?_)
    refine lv_aload hx hb dX11_richest_14 (lv_at hl 1 rfl) ?_
    refine lv_ifnull hx hb dX11_richest_16 ?_
    refine lv_aloadN hx hb dX11_richest_19 (lv_at hl 0 rfl) ?_
    refine lv_ifnullN (tgt := 32) hx hb dX11_richest_21 (by decide) ?_
    refine lv_iconst (v := (-1)) hx hb dX11_richest_32 (by decide) ?_
    obtain ⟨e1, e2⟩ := gb_eq2 h
    exact W.iret (v := (-1)) hx hb hr (fun t ht hW => gb_ri ht ⟨e2, by rw [← e1]; exact hP⟩ hS) hS.2.2 dX11_richest_33
  rw [if_neg c_17] at h
  rw [gb_nv1 c_17]
  obtain ⟨z_18, h⟩ := gb_kk_s h
  refine lv_astore (lv' := [(5, .ref (b + r_14)), (4, .ref (b + r_2)), (0, .ref (b + 0)), (1, .int p1), (2, .int p2), (3, .int p3)]) hx hb dX11_richest_12 hl (by decide) rfl (fun ls hl => ?_)
  refine lv_aload hx hb dX11_richest_14 (lv_at hl 1 rfl) ?_
  refine lv_ifnull hx hb dX11_richest_16 ?_
  refine lv_aload hx hb dX11_richest_19 (lv_at hl 0 rfl) ?_
  refine lv_ifnull hx hb dX11_richest_21 ?_
  refine lv_aload hx hb dX11_richest_24 (lv_at hl 1 rfl) ?_
  obtain ⟨s_19, r_20, z_21, h⟩ := gb_cd_s h
  refine gb_calli (va_runS (As := [.ref (b + r_2)]) (rest := []) ⟨hx, hb, hml, hown, hq⟩ (cc_Sharing_canShare_B l D cT tt b1 b hb1 n s_13 r_2 s_19 r_20 z_21) (va_cwS 1 hq (gb_gS w_885 w_886 w_12 w_887) rfl rfl rfl (by decide +kernel) ⟨Nat.le_of_ble_eq_true rfl, Nat.le_of_ble_eq_true rfl⟩) (gb_preS hSt hS (fun q h => Nat.le_trans hb1 h.1) hP) rfl rfl hl.1 rfl (lv_room (Nat.le_of_ble_eq_true rfl)) dX11_richest_26 ⟨Nat.le_of_ble_eq_true rfl, Nat.le_of_ble_eq_true rfl⟩) hS (fun _ h => h) (fun _ h => h) (fun q_22 H locs hY hk hS => ?_)
  obtain ⟨hq_22, hP⟩ := hY
  replace hq_22 := hq_22.symm
  subst hq_22
  refine lv_if_ne (tgt := 34) hx hb dX11_richest_29 (by decide) (fun c_23 => ?_) (fun c_23 => ?_)
  · rw [if_neg c_23] at h
    refine lv_iload_n hx hb dX11_richest_34 rfl (lv_at hl 5 rfl) ?_
    refine lv_if_eq (tgt := 58) hx hb dX11_richest_35 (by decide) (fun c_24 => ?_) (fun c_24 => ?_)
    · rw [if_pos c_24] at h
      exact L58_1 _ _ _ _ _ _ _ h hP hS (lv_sub hl [2, 5, 1, 0] rfl)
    · rw [if_neg c_24] at h
      refine lv_iload_n hx hb dX11_richest_38 rfl (lv_at hl 5 rfl) ?_
      refine lv_bipush (v := 10) hx hb dX11_richest_39 (by decide) ?_
      refine lv_icmp_lt (tgt := 56) hx hb dX11_richest_41 (by decide) (fun c_34 => ?_) (fun c_34 => ?_)
      · rw [if_pos c_34] at h
        refine lv_iconst (v := (-1)) hx hb dX11_richest_56 (by decide) ?_
        obtain ⟨e1, e2⟩ := gb_eq2 h
        exact W.iret (v := (-1)) hx hb hr (fun t ht hW => gb_ri ht ⟨e2, by rw [← e1]; exact hP⟩ hS) hS.2.2 dX11_richest_57
      · rw [if_neg c_34] at h
        refine lv_iload_n hx hb dX11_richest_44 rfl (lv_at hl 5 rfl) ?_
        refine lv_bipush (v := 10) hx hb dX11_richest_45 (by decide) ?_
        refine lv_aload hx hb dX11_richest_47 (lv_at hl 1 rfl) ?_
        obtain ⟨s_35, r_36, z_37, h⟩ := gb_cd_s h
        refine gb_calli (va_runV (C := RX0) (As := []) (rest := [.int 10, .int p3]) ⟨hx, hb, hml, hown, hq⟩ (cc_Border_geese_B l D cT tt b1 b hb1 n s_19 r_2 s_35 r_36 z_37) (cwV 0 hq (gb_gV w_598 w_477 w_478 w_4 w_479) rfl rfl rfl (by decide +kernel) ⟨Nat.le_of_ble_eq_true rfl, Nat.le_of_ble_eq_true rfl⟩) (gb_preV (r := (RX0, TX0, 1)) (ci := 0) (q0 := r_2) hSt hP rfl (gb_at b (gb_cB z_12).1) hS (fun q h => Nat.le_trans hb1 h.1) hP) rfl rfl hl.1 rfl (lv_room (Nat.le_of_ble_eq_true rfl)) dX11_richest_49 ⟨Nat.le_of_ble_eq_true rfl, Nat.le_of_ble_eq_true rfl⟩) hS (fun _ h => h) (fun _ h => h) (fun q_38 H locs hY hk hS => ?_)
        obtain ⟨hq_38, hP⟩ := hY
        replace hq_38 := hq_38.symm
        subst hq_38
        refine lv_iadd hx hb dX11_richest_52 ?_
        refine lv_icmp_lt (tgt := 58) hx hb dX11_richest_53 (by decide) (fun c_39 => ?_) (fun c_39 => ?_)
        · rw [if_pos c_39] at h
          exact L58_1 _ _ _ _ _ _ _ h hP hS (lv_sub hl [2, 5, 1, 0] rfl)
        · rw [if_neg c_39] at h
          refine lv_iconst (v := (-1)) hx hb dX11_richest_56 (by decide) ?_
          obtain ⟨e1, e2⟩ := gb_eq2 h
          exact W.iret (v := (-1)) hx hb hr (fun t ht hW => gb_ri ht ⟨e2, by rw [← e1]; exact hP⟩ hS) hS.2.2 dX11_richest_57
  · rw [if_pos c_23] at h
    refine lv_iconst (v := (-1)) hx hb dX11_richest_32 (by decide) ?_
    obtain ⟨e1, e2⟩ := gb_eq2 h
    exact W.iret (v := (-1)) hx hb hr (fun t ht hW => gb_ri ht ⟨e2, by rw [← e1]; exact hP⟩ hS) hS.2.2 dX11_richest_33
theorem dX11_close_0 : decode cX11_close 0 = .ok (.aload_n 0, 1) := dc_42 (show ((cX11_close.data.toList.drop 0).take 1).map UInt8.toNat = [42] by decide +kernel)
theorem dX11_close_1 : decode cX11_close 1 = .ok (.iload_n 1, 1) := dc_27 (show ((cX11_close.data.toList.drop 1).take 1).map UInt8.toNat = [27] by decide +kernel)
theorem dX11_close_2 : decode cX11_close 2 = .ok (.invokevirtual 113, 3) := dc_182 (show ((cX11_close.data.toList.drop 2).take 3).map UInt8.toNat = [182, 0, 113] by decide +kernel) rfl
theorem dX11_close_5 : decode cX11_close 5 = .ok (.astore_n 3, 1) := dc_78 (show ((cX11_close.data.toList.drop 5).take 1).map UInt8.toNat = [78] by decide +kernel)
theorem dX11_close_6 : decode cX11_close 6 = .ok (.aload_n 3, 1) := dc_45 (show ((cX11_close.data.toList.drop 6).take 1).map UInt8.toNat = [45] by decide +kernel)
theorem dX11_close_7 : decode cX11_close 7 = .ok (.ifnull 18, 3) := dc_198 (show ((cX11_close.data.toList.drop 7).take 3).map UInt8.toNat = [198, 0, 18] by decide +kernel) rfl
theorem dX11_close_25 : decode cX11_close 25 = .ok (.iconst (-1), 1) := dc_2 (show ((cX11_close.data.toList.drop 25).take 1).map UInt8.toNat = [2] by decide +kernel)
theorem dX11_close_26 : decode cX11_close 26 = .ok (.ireturn, 1) := dc_172 (show ((cX11_close.data.toList.drop 26).take 1).map UInt8.toNat = [172] by decide +kernel)
theorem dX11_close_10 : decode cX11_close 10 = .ok (.aload_n 3, 1) := dc_45 (show ((cX11_close.data.toList.drop 10).take 1).map UInt8.toNat = [45] by decide +kernel)
theorem dX11_close_11 : decode cX11_close 11 = .ok (.invokestatic 276, 3) := dc_184 (show ((cX11_close.data.toList.drop 11).take 3).map UInt8.toNat = [184, 1, 20] by decide +kernel) rfl
theorem dX11_close_14 : decode cX11_close 14 = .ok (.ifCond .eq 11, 3) := dc_153 (show ((cX11_close.data.toList.drop 14).take 3).map UInt8.toNat = [153, 0, 11] by decide +kernel) rfl
theorem dX11_close_17 : decode cX11_close 17 = .ok (.aload_n 3, 1) := dc_45 (show ((cX11_close.data.toList.drop 17).take 1).map UInt8.toNat = [45] by decide +kernel)
theorem dX11_close_18 : decode cX11_close 18 = .ok (.invokevirtual 117, 3) := dc_182 (show ((cX11_close.data.toList.drop 18).take 3).map UInt8.toNat = [182, 0, 117] by decide +kernel) rfl
theorem dX11_close_21 : decode cX11_close 21 = .ok (.iconst 2, 1) := dc_5 (show ((cX11_close.data.toList.drop 21).take 1).map UInt8.toNat = [5] by decide +kernel)
theorem dX11_close_22 : decode cX11_close 22 = .ok (.if_icmp .ge 5, 3) := dc_162 (show ((cX11_close.data.toList.drop 22).take 3).map UInt8.toNat = [162, 0, 5] by decide +kernel) rfl
theorem dX11_close_27 : decode cX11_close 27 = .ok (.iconst 0, 1) := dc_3 (show ((cX11_close.data.toList.drop 27).take 1).map UInt8.toNat = [3] by decide +kernel)
theorem dX11_close_28 : decode cX11_close 28 = .ok (.istore 4, 2) := dc_54 (show ((cX11_close.data.toList.drop 28).take 2).map UInt8.toNat = [54, 4] by decide +kernel) rfl
theorem dX11_close_30 : decode cX11_close 30 = .ok (.iconst (-1), 1) := dc_2 (show ((cX11_close.data.toList.drop 30).take 1).map UInt8.toNat = [2] by decide +kernel)
theorem dX11_close_31 : decode cX11_close 31 = .ok (.istore 5, 2) := dc_54 (show ((cX11_close.data.toList.drop 31).take 2).map UInt8.toNat = [54, 5] by decide +kernel) rfl
theorem dX11_close_33 : decode cX11_close 33 = .ok (.iconst 0, 1) := dc_3 (show ((cX11_close.data.toList.drop 33).take 1).map UInt8.toNat = [3] by decide +kernel)
theorem dX11_close_34 : decode cX11_close 34 = .ok (.istore 6, 2) := dc_54 (show ((cX11_close.data.toList.drop 34).take 2).map UInt8.toNat = [54, 6] by decide +kernel) rfl
theorem dX11_close_36 : decode cX11_close 36 = .ok (.iload 6, 2) := dc_21 (show ((cX11_close.data.toList.drop 36).take 2).map UInt8.toNat = [21, 6] by decide +kernel) rfl
theorem dX11_close_38 : decode cX11_close 38 = .ok (.aload_n 3, 1) := dc_45 (show ((cX11_close.data.toList.drop 38).take 1).map UInt8.toNat = [45] by decide +kernel)
theorem dX11_close_39 : decode cX11_close 39 = .ok (.invokevirtual 117, 3) := dc_182 (show ((cX11_close.data.toList.drop 39).take 3).map UInt8.toNat = [182, 0, 117] by decide +kernel) rfl
theorem dX11_close_42 : decode cX11_close 42 = .ok (.if_icmp .ge 51, 3) := dc_162 (show ((cX11_close.data.toList.drop 42).take 3).map UInt8.toNat = [162, 0, 51] by decide +kernel) rfl
theorem dX11_close_93 : decode cX11_close 93 = .ok (.iload_n 2, 1) := dc_28 (show ((cX11_close.data.toList.drop 93).take 1).map UInt8.toNat = [28] by decide +kernel)
theorem dX11_close_94 : decode cX11_close 94 = .ok (.ifCond .eq 8, 3) := dc_153 (show ((cX11_close.data.toList.drop 94).take 3).map UInt8.toNat = [153, 0, 8] by decide +kernel) rfl
theorem dX11_close_102 : decode cX11_close 102 = .ok (.iload 5, 2) := dc_21 (show ((cX11_close.data.toList.drop 102).take 2).map UInt8.toNat = [21, 5] by decide +kernel) rfl
theorem dX11_close_104 : decode cX11_close 104 = .ok (.ireturn, 1) := dc_172 (show ((cX11_close.data.toList.drop 104).take 1).map UInt8.toNat = [172] by decide +kernel)
theorem dX11_close_97 : decode cX11_close 97 = .ok (.iload 4, 2) := dc_21 (show ((cX11_close.data.toList.drop 97).take 2).map UInt8.toNat = [21, 4] by decide +kernel) rfl
theorem dX11_close_99 : decode cX11_close 99 = .ok (.goto 5, 3) := dc_167 (show ((cX11_close.data.toList.drop 99).take 3).map UInt8.toNat = [167, 0, 5] by decide +kernel) rfl
theorem dX11_close_45 : decode cX11_close 45 = .ok (.aload_n 0, 1) := dc_42 (show ((cX11_close.data.toList.drop 45).take 1).map UInt8.toNat = [42] by decide +kernel)
theorem dX11_close_46 : decode cX11_close 46 = .ok (.getfield 63, 3) := dc_180 (show ((cX11_close.data.toList.drop 46).take 3).map UInt8.toNat = [180, 0, 63] by decide +kernel) rfl
theorem dX11_close_49 : decode cX11_close 49 = .ok (.aload_n 3, 1) := dc_45 (show ((cX11_close.data.toList.drop 49).take 1).map UInt8.toNat = [45] by decide +kernel)
theorem dX11_close_50 : decode cX11_close 50 = .ok (.aconst_null, 1) := dc_1 (show ((cX11_close.data.toList.drop 50).take 1).map UInt8.toNat = [1] by decide +kernel)
theorem dX11_close_51 : decode cX11_close 51 = .ok (.iload 6, 2) := dc_21 (show ((cX11_close.data.toList.drop 51).take 2).map UInt8.toNat = [21, 6] by decide +kernel) rfl
theorem dX11_close_53 : decode cX11_close 53 = .ok (.invokevirtual 280, 3) := dc_182 (show ((cX11_close.data.toList.drop 53).take 3).map UInt8.toNat = [182, 1, 24] by decide +kernel) rfl
theorem dX11_close_56 : decode cX11_close 56 = .ok (.iload 5, 2) := dc_21 (show ((cX11_close.data.toList.drop 56).take 2).map UInt8.toNat = [21, 5] by decide +kernel) rfl
theorem dX11_close_58 : decode cX11_close 58 = .ok (.iconst (-1), 1) := dc_2 (show ((cX11_close.data.toList.drop 58).take 1).map UInt8.toNat = [2] by decide +kernel)
theorem dX11_close_59 : decode cX11_close 59 = .ok (.if_icmp .eq 15, 3) := dc_159 (show ((cX11_close.data.toList.drop 59).take 3).map UInt8.toNat = [159, 0, 15] by decide +kernel) rfl
theorem dX11_close_74 : decode cX11_close 74 = .ok (.aload_n 0, 1) := dc_42 (show ((cX11_close.data.toList.drop 74).take 1).map UInt8.toNat = [42] by decide +kernel)
theorem dX11_close_75 : decode cX11_close 75 = .ok (.getfield 63, 3) := dc_180 (show ((cX11_close.data.toList.drop 75).take 3).map UInt8.toNat = [180, 0, 63] by decide +kernel) rfl
theorem dX11_close_78 : decode cX11_close 78 = .ok (.invokevirtual 287, 3) := dc_182 (show ((cX11_close.data.toList.drop 78).take 3).map UInt8.toNat = [182, 1, 31] by decide +kernel) rfl
theorem dX11_close_81 : decode cX11_close 81 = .ok (.istore 4, 2) := dc_54 (show ((cX11_close.data.toList.drop 81).take 2).map UInt8.toNat = [54, 4] by decide +kernel) rfl
theorem dX11_close_83 : decode cX11_close 83 = .ok (.iload 6, 2) := dc_21 (show ((cX11_close.data.toList.drop 83).take 2).map UInt8.toNat = [21, 6] by decide +kernel) rfl
theorem dX11_close_85 : decode cX11_close 85 = .ok (.istore 5, 2) := dc_54 (show ((cX11_close.data.toList.drop 85).take 2).map UInt8.toNat = [54, 5] by decide +kernel) rfl
theorem dX11_close_87 : decode cX11_close 87 = .ok (.iinc 6 1, 3) := dc_132 (show ((cX11_close.data.toList.drop 87).take 3).map UInt8.toNat = [132, 6, 1] by decide +kernel) rfl
theorem dX11_close_90 : decode cX11_close 90 = .ok (.goto (-54), 3) := dc_167 (show ((cX11_close.data.toList.drop 90).take 3).map UInt8.toNat = [167, 255, 202] by decide +kernel) rfl
theorem dX11_close_62 : decode cX11_close 62 = .ok (.aload_n 0, 1) := dc_42 (show ((cX11_close.data.toList.drop 62).take 1).map UInt8.toNat = [42] by decide +kernel)
theorem dX11_close_63 : decode cX11_close 63 = .ok (.getfield 63, 3) := dc_180 (show ((cX11_close.data.toList.drop 63).take 3).map UInt8.toNat = [180, 0, 63] by decide +kernel) rfl
theorem dX11_close_66 : decode cX11_close 66 = .ok (.invokevirtual 287, 3) := dc_182 (show ((cX11_close.data.toList.drop 66).take 3).map UInt8.toNat = [182, 1, 31] by decide +kernel) rfl
theorem dX11_close_69 : decode cX11_close 69 = .ok (.iload 4, 2) := dc_21 (show ((cX11_close.data.toList.drop 69).take 2).map UInt8.toNat = [21, 4] by decide +kernel) rfl
theorem dX11_close_71 : decode cX11_close 71 = .ok (.if_icmp .ge 16, 3) := dc_162 (show ((cX11_close.data.toList.drop 71).take 3).map UInt8.toNat = [162, 0, 16] by decide +kernel) rfl
def cs_Face_close_36 (n : Nat) : Nat → gb_S → Int32 → Nat → Int32 → Int32 → Int32 → gb_CR Int32
  | 0, _, _, _, _, _, _ => none
  | mm + 1, σ, v2, v3, v4, v5, v6 => gb_kk (gb_kB v3) (gb_cd (cs_Border_paths_B n σ v3) (fun s_18 r_19 => (if r_19 ≤ v6 then (if v2 = 0 then some (s_18, v5) else some (s_18, v4)) else gb_cd (cs_Sharing_solve_B_n n s_18 v3 v6) (fun s_24 _ => (if v5 = (-1) then gb_cd (cs_Sharing_difference n s_24) (fun s_29 r_30 => gb_lt (v6 + 1) (fun x_33 => cs_Face_close_36 n mm s_29 v2 v3 r_30 v6 x_33)) else gb_cd (cs_Sharing_difference n s_24) (fun s_34 r_35 => (if v4 ≤ r_35 then gb_lt (v6 + 1) (fun x_39 => cs_Face_close_36 n mm s_34 v2 v3 v4 v5 x_39) else gb_cd (cs_Sharing_difference n s_34) (fun s_40 r_41 => gb_lt (v6 + 1) (fun x_44 => cs_Face_close_36 n mm s_40 v2 v3 r_41 v6 x_44)))))))))
def cs_Face_close (n : Nat) (σ : gb_S) (p1 : Int32) (p2 : Int32) : gb_CR Int32 := gb_cd (cs_Face_borderAt n σ p1) (fun s_1 r_2 => (if r_2 = 0 then some (s_1, (-1)) else gb_kk (gb_kB r_2) (gb_cd (cs_Sharing_canShare_B n s_1 r_2) (fun s_7 r_8 => (if r_8 = 0 then some (s_7, (-1)) else gb_cd (cs_Border_paths_B n s_7 r_2) (fun s_12 r_13 => (if (2 : Int32) ≤ r_13 then cs_Face_close_36 n n s_12 p2 r_2 0 (-1) 0 else some (s_12, (-1)))))))))
set_option maxHeartbeats 8000000 in
set_option maxRecDepth 100000 in
theorem cc_Face_close (l : Launch) (D : va_G) (cT : Nat → ClassId) (tt : Nat → Nat) (b1 b : Nat) (hb1 : b1 ≤ b) (n : Nat) (σ : gb_S) (p1 : Int32) (p2 : Int32) (σE : gb_S) (rE : Int32) (h : cs_Face_close n σ p1 p2 = some (σE, rE)) : Met l yX11_close (.code yX11_close cX11_close 7 (some FieldType.int) :: gb_wA) ({ frames := 6, cells := 0, slots := 0, locals := 140 }) (gb_Pc D cT tt b1 [.ref (b + 0), .int p1, .int p2] (fun h => va_P D vwCl (gb_wl b (gb_CW cT b σ)) h)) (gb_Qi (fun r h => r = rE ∧ va_P D vwCl (gb_wl b (gb_CW cT b σE)) h) (gb_fr b 135)) 0 0 (gb_fr b 135) := by
  refine Met.ofW (cc := cX11_close) (maxL := 7) (ret := (some FieldType.int)) (by decide) rfl ?_
  intro p e s m args below meth c s₁ B hml hv
  obtain ⟨rfl, hSt, hP⟩ := hv
  have hx := B.exec
  have hb := B.bytes
  have hr := B.returns
  have hts := atoms_spec (ws := .code yX11_close cX11_close 7 (some FieldType.int) :: gb_wA) B.pre
  have hq : ∀ w ∈ gb_wA, w.before _ s = true := fun w h => hts w (List.mem_cons_of_mem _ h)
  have hown : s.vm.findClass RX11 = some m.cls := findClass_of_methodNamed B.named
  have hlocks := B.notSynchronized
  clear B hts
  have hK := hSt.1
  have hS : va_S (gb_fr b 135) s.heap s.heap [] := va_S.rf
  have hl := lv_entry ([.ref (b + 0), .int p1, .int p2]) (n := 7) (Nat.le_of_ble_eq_true rfl)
  rw [lg_entry_eq]
  generalize (lg_sl ([.ref (b + 0), .int p1, .int p2]) ++ List.replicate (7 - (lg_sl ([.ref (b + 0), .int p1, .int p2])).length) Slot.unset).toArray = ls at hl ⊢
  replace hl : lv_has ls 7 [(0, .ref (b + 0)), (1, .int p1), (2, .int p2)] := hl
  have L36_1 : ∀ (mm : Nat) (σ : gb_S) (v2 : Int32) (v3 : Nat) (v4 : Int32) (v5 : Int32) (v6 : Int32) (H : Heap) (locs : List Loc) (ls : Array Slot), cs_Face_close_36 n mm σ v2 v3 v4 v5 v6 = some (σE, rE) → va_P D vwCl (gb_wl b (gb_CW cT b σ)) H → va_S (gb_fr b 135) s.heap H locs → lv_has ls 7 [(0, .ref (b + 0)), (2, .int v2), (3, .ref (b + v3)), (4, .int v4), (5, .int v5), (6, .int v6)] → W p l e (headSpec (.code yX11_close cX11_close 7 (some FieldType.int) :: gb_wA) ({ frames := 6, cells := 0, slots := 0, locals := 140 })).room s m ([.ref (b + 0), .int p1, .int p2]).toArray below meth c H locs 0 0 (MQ below (gb_Qi (fun r h => r = rE ∧ va_P D vwCl (gb_wl b (gb_CW cT b σE)) h) (gb_fr b 135)) ([.ref (b + 0), .int p1, .int p2]).toArray s 0 0 (gb_fr b 135)) (F0 m 36 ls []) := by
    clear h hP hS hl ls
    intro mm
    induction mm with
    | zero =>
      intro σ v2 v3 v4 v5 v6 H locs ls h
      cases h
    | succ mm ih =>
      intro σ v2 v3 v4 v5 v6 H locs ls h hP hS hl
      rw [cs_Face_close_36] at h
      obtain ⟨z_17, h⟩ := gb_kk_s h
      refine lv_iload hx hb dX11_close_36 (lv_at hl 5 rfl) ?_
      refine lv_aload_n hx hb dX11_close_38 rfl (lv_at hl 2 rfl) ?_
      obtain ⟨s_18, r_19, z_20, h⟩ := gb_cd_s h
      refine gb_calli (va_runV (C := RX0) (As := []) (rest := [.int v6]) ⟨hx, hb, hml, hown, hq⟩ (cc_Border_paths_B l D cT tt b1 b hb1 n σ v3 s_18 r_19 z_20) (cwV 0 hq (gb_gV w_597 w_473 w_474 w_4 w_475) rfl rfl rfl (by decide +kernel) ⟨Nat.le_of_ble_eq_true rfl, Nat.le_of_ble_eq_true rfl⟩) (gb_preV (r := (RX0, TX0, 1)) (ci := 0) (q0 := v3) hSt hP rfl (gb_at b (gb_cB z_17).1) hS (fun q h => Nat.le_trans hb1 h.1) hP) rfl rfl hl.1 rfl (lv_room (Nat.le_of_ble_eq_true rfl)) dX11_close_39 ⟨Nat.le_of_ble_eq_true rfl, Nat.le_of_ble_eq_true rfl⟩) hS (fun _ h => h) (fun _ h => h) (fun q_21 H locs hY hk hS => ?_)
      obtain ⟨hq_21, hP⟩ := hY
      replace hq_21 := hq_21.symm
      subst hq_21
      refine lv_icmp_ge (tgt := 93) hx hb dX11_close_42 (by decide) (fun c_22 => ?_) (fun c_22 => ?_)
      · rw [if_pos c_22] at h
        refine lv_iload_n hx hb dX11_close_93 rfl (lv_at hl 1 rfl) ?_
        refine lv_if_eq (tgt := 102) hx hb dX11_close_94 (by decide) (fun c_23 => ?_) (fun c_23 => ?_)
        · rw [if_pos c_23] at h
          refine lv_iload hx hb dX11_close_102 (lv_at hl 4 rfl) ?_
          obtain ⟨e1, e2⟩ := gb_eq2 h
          exact W.iret (v := v5) hx hb hr (fun t ht hW => gb_ri ht ⟨e2, by rw [← e1]; exact hP⟩ hS) hS.2.2 dX11_close_104
        · rw [if_neg c_23] at h
          refine lv_iload hx hb dX11_close_97 (lv_at hl 3 rfl) ?_
          refine lv_goto (tgt := 104) hx hb dX11_close_99 (by decide) ?_
          obtain ⟨e1, e2⟩ := gb_eq2 h
          exact W.iret (v := v4) hx hb hr (fun t ht hW => gb_ri ht ⟨e2, by rw [← e1]; exact hP⟩ hS) hS.2.2 dX11_close_104
      · rw [if_neg c_22] at h
        refine lv_aload_n hx hb dX11_close_45 rfl (lv_at hl 0 rfl) ?_
        refine va_get (ci := 9) (v := (.ref (b + 120))) (C := RX11) (T := TX11) (N := 10) hx hb hq i_X11 hown hK hP 0 (gb_at b rfl) rfl 7 (by decide) (hq _ w_322) (fun _ h9 => h9) rfl dX11_close_46 ?_
        refine lv_aload_n hx hb dX11_close_49 rfl (lv_at hl 2 rfl) ?_
        refine lv_null hx hb dX11_close_50 ?_
        refine lv_iload hx hb dX11_close_51 (lv_at hl 5 rfl) ?_
        obtain ⟨s_24, r_25, z_26, h⟩ := gb_cd_s h
        refine gb_callv (va_runV (C := RX8) (As := [.ref (b + v3), .null, .int v6]) (rest := []) ⟨hx, hb, hml, hown, hq⟩ (cc_Sharing_solve_B_n l D cT tt b1 b hb1 n s_18 v3 v6 s_24 r_25 z_26) (cwV 3 hq (gb_gV w_890 w_891 w_892 w_12 w_893) rfl rfl rfl (by decide +kernel) ⟨Nat.le_of_ble_eq_true rfl, Nat.le_of_ble_eq_true rfl⟩) (gb_preV (r := (RX8, TX8, 11)) (ci := 7) (q0 := 120) hSt hP rfl (gb_at b rfl) hS (fun q h => Nat.le_trans hb1 h.1) hP) rfl rfl hl.1 rfl (lv_room (Nat.le_of_ble_eq_true rfl)) dX11_close_53 ⟨Nat.le_of_ble_eq_true rfl, Nat.le_of_ble_eq_true rfl⟩) hS (fun _ h => h) (fun _ h => h) (fun H locs hY hk hS => ?_)
        have hP := hY
        refine lv_iload hx hb dX11_close_56 (lv_at hl 4 rfl) ?_
        refine lv_iconst (v := (-1)) hx hb dX11_close_58 (by decide) ?_
        refine lv_icmp_eq (tgt := 74) hx hb dX11_close_59 (by decide) (fun c_28 => ?_) (fun c_28 => ?_)
        · rw [if_pos c_28] at h
          refine lv_aload_n hx hb dX11_close_74 rfl (lv_at hl 0 rfl) ?_
          refine va_get (ci := 9) (v := (.ref (b + 120))) (C := RX11) (T := TX11) (N := 10) hx hb hq i_X11 hown hK hP 0 (gb_at b rfl) rfl 7 (by decide) (hq _ w_322) (fun _ h9 => h9) rfl dX11_close_75 ?_
          obtain ⟨s_29, r_30, z_31, h⟩ := gb_cd_s h
          refine gb_calli (va_runV (C := RX8) (As := []) (rest := []) ⟨hx, hb, hml, hown, hq⟩ (cc_Sharing_difference l D cT tt b1 b hb1 n s_24 s_29 r_30 z_31) (cwV 0 hq (gb_gV w_931 w_932 w_933 w_12 w_934) rfl rfl rfl (by decide +kernel) ⟨Nat.le_of_ble_eq_true rfl, Nat.le_of_ble_eq_true rfl⟩) (gb_preV (r := (RX8, TX8, 11)) (ci := 7) (q0 := 120) hSt hP rfl (gb_at b rfl) hS (fun q h => Nat.le_trans hb1 h.1) hP) rfl rfl hl.1 rfl (lv_room (Nat.le_of_ble_eq_true rfl)) dX11_close_78 ⟨Nat.le_of_ble_eq_true rfl, Nat.le_of_ble_eq_true rfl⟩) hS (fun _ h => h) (fun _ h => h) (fun q_32 H locs hY hk hS => ?_)
          obtain ⟨hq_32, hP⟩ := hY
          replace hq_32 := hq_32.symm
          subst hq_32
          refine lv_istore (lv' := [(4, .int r_30), (0, .ref (b + 0)), (2, .int v2), (3, .ref (b + v3)), (5, .int v5), (6, .int v6)]) hx hb dX11_close_81 hl (by decide) rfl (fun ls hl => ?_)
          refine lv_iload hx hb dX11_close_83 (lv_at hl 5 rfl) ?_
          refine lv_istore (lv' := [(5, .int v6), (4, .int r_30), (0, .ref (b + 0)), (2, .int v2), (3, .ref (b + v3)), (6, .int v6)]) hx hb dX11_close_85 hl (by decide) rfl (fun ls hl => ?_)
          obtain ⟨x_33, ex_33⟩ : ∃ q, q = (v6 + 1) := ⟨_, rfl⟩
          replace h := gb_lt_s ex_33 h
          refine lv_iinc (v := x_33) (lv' := [(6, .int x_33), (5, .int v6), (4, .int r_30), (0, .ref (b + 0)), (2, .int v2), (3, .ref (b + v3))]) hx hb dX11_close_87 hl (k := 5) rfl (by rw [ex_33]; rfl) (by decide) rfl (fun ls hl => ?_)
          refine lv_goto (tgt := 36) hx hb dX11_close_90 (by decide) ?_
          exact ih _ _ _ _ _ _ _ _ _ h hP hS (lv_sub hl [3, 4, 5, 2, 1, 0] rfl)
        · rw [if_neg c_28] at h
          refine lv_aload_n hx hb dX11_close_62 rfl (lv_at hl 0 rfl) ?_
          refine va_get (ci := 9) (v := (.ref (b + 120))) (C := RX11) (T := TX11) (N := 10) hx hb hq i_X11 hown hK hP 0 (gb_at b rfl) rfl 7 (by decide) (hq _ w_322) (fun _ h9 => h9) rfl dX11_close_63 ?_
          obtain ⟨s_34, r_35, z_36, h⟩ := gb_cd_s h
          refine gb_calli (va_runV (C := RX8) (As := []) (rest := []) ⟨hx, hb, hml, hown, hq⟩ (cc_Sharing_difference l D cT tt b1 b hb1 n s_24 s_34 r_35 z_36) (cwV 0 hq (gb_gV w_931 w_932 w_933 w_12 w_934) rfl rfl rfl (by decide +kernel) ⟨Nat.le_of_ble_eq_true rfl, Nat.le_of_ble_eq_true rfl⟩) (gb_preV (r := (RX8, TX8, 11)) (ci := 7) (q0 := 120) hSt hP rfl (gb_at b rfl) hS (fun q h => Nat.le_trans hb1 h.1) hP) rfl rfl hl.1 rfl (lv_room (Nat.le_of_ble_eq_true rfl)) dX11_close_66 ⟨Nat.le_of_ble_eq_true rfl, Nat.le_of_ble_eq_true rfl⟩) hS (fun _ h => h) (fun _ h => h) (fun q_37 H locs hY hk hS => ?_)
          obtain ⟨hq_37, hP⟩ := hY
          replace hq_37 := hq_37.symm
          subst hq_37
          refine lv_iload hx hb dX11_close_69 (lv_at hl 3 rfl) ?_
          refine lv_icmp_ge (tgt := 87) hx hb dX11_close_71 (by decide) (fun c_38 => ?_) (fun c_38 => ?_)
          · rw [if_pos c_38] at h
            obtain ⟨x_39, ex_39⟩ : ∃ q, q = (v6 + 1) := ⟨_, rfl⟩
            replace h := gb_lt_s ex_39 h
            refine lv_iinc (v := x_39) (lv' := [(6, .int x_39), (0, .ref (b + 0)), (2, .int v2), (3, .ref (b + v3)), (4, .int v4), (5, .int v5)]) hx hb dX11_close_87 hl (k := 5) rfl (by rw [ex_39]; rfl) (by decide) rfl (fun ls hl => ?_)
            refine lv_goto (tgt := 36) hx hb dX11_close_90 (by decide) ?_
            exact ih _ _ _ _ _ _ _ _ _ h hP hS (lv_sub hl [1, 2, 3, 4, 5, 0] rfl)
          · rw [if_neg c_38] at h
            refine lv_aload_n hx hb dX11_close_74 rfl (lv_at hl 0 rfl) ?_
            refine va_get (ci := 9) (v := (.ref (b + 120))) (C := RX11) (T := TX11) (N := 10) hx hb hq i_X11 hown hK hP 0 (gb_at b rfl) rfl 7 (by decide) (hq _ w_322) (fun _ h9 => h9) rfl dX11_close_75 ?_
            obtain ⟨s_40, r_41, z_42, h⟩ := gb_cd_s h
            refine gb_calli (va_runV (C := RX8) (As := []) (rest := []) ⟨hx, hb, hml, hown, hq⟩ (cc_Sharing_difference l D cT tt b1 b hb1 n s_34 s_40 r_41 z_42) (cwV 0 hq (gb_gV w_931 w_932 w_933 w_12 w_934) rfl rfl rfl (by decide +kernel) ⟨Nat.le_of_ble_eq_true rfl, Nat.le_of_ble_eq_true rfl⟩) (gb_preV (r := (RX8, TX8, 11)) (ci := 7) (q0 := 120) hSt hP rfl (gb_at b rfl) hS (fun q h => Nat.le_trans hb1 h.1) hP) rfl rfl hl.1 rfl (lv_room (Nat.le_of_ble_eq_true rfl)) dX11_close_78 ⟨Nat.le_of_ble_eq_true rfl, Nat.le_of_ble_eq_true rfl⟩) hS (fun _ h => h) (fun _ h => h) (fun q_43 H locs hY hk hS => ?_)
            obtain ⟨hq_43, hP⟩ := hY
            replace hq_43 := hq_43.symm
            subst hq_43
            refine lv_istore (lv' := [(4, .int r_41), (0, .ref (b + 0)), (2, .int v2), (3, .ref (b + v3)), (5, .int v5), (6, .int v6)]) hx hb dX11_close_81 hl (by decide) rfl (fun ls hl => ?_)
            refine lv_iload hx hb dX11_close_83 (lv_at hl 5 rfl) ?_
            refine lv_istore (lv' := [(5, .int v6), (4, .int r_41), (0, .ref (b + 0)), (2, .int v2), (3, .ref (b + v3)), (6, .int v6)]) hx hb dX11_close_85 hl (by decide) rfl (fun ls hl => ?_)
            obtain ⟨x_44, ex_44⟩ : ∃ q, q = (v6 + 1) := ⟨_, rfl⟩
            replace h := gb_lt_s ex_44 h
            refine lv_iinc (v := x_44) (lv' := [(6, .int x_44), (5, .int v6), (4, .int r_41), (0, .ref (b + 0)), (2, .int v2), (3, .ref (b + v3))]) hx hb dX11_close_87 hl (k := 5) rfl (by rw [ex_44]; rfl) (by decide) rfl (fun ls hl => ?_)
            refine lv_goto (tgt := 36) hx hb dX11_close_90 (by decide) ?_
            exact ih _ _ _ _ _ _ _ _ _ h hP hS (lv_sub hl [3, 4, 5, 2, 1, 0] rfl)
  unfold cs_Face_close at h
  refine lv_aload_n hx hb dX11_close_0 rfl (lv_at hl 0 rfl) ?_
  refine lv_iload_n hx hb dX11_close_1 rfl (lv_at hl 1 rfl) ?_
  obtain ⟨s_1, r_2, z_3, h⟩ := gb_cd_s h
  refine gb_callq (va_runV (C := RX11) (As := [.int p1]) (rest := []) ⟨hx, hb, hml, hown, hq⟩ (cc_Face_borderAt l D cT tt b1 b hb1 n σ p1 s_1 r_2 z_3) (cwV 1 hq (gb_gV w_593 w_595 s_1_7 w_1 w_596) rfl rfl rfl (by decide +kernel) ⟨Nat.le_of_ble_eq_true rfl, Nat.le_of_ble_eq_true rfl⟩) (gb_preV (r := (RX11, TX11, 10)) (ci := 9) (q0 := 0) hSt hP rfl (gb_at b rfl) hS (fun q h => Nat.le_trans hb1 h.1) hP) rfl rfl hl.1 rfl (lv_room (Nat.le_of_ble_eq_true rfl)) dX11_close_2 ⟨Nat.le_of_ble_eq_true rfl, Nat.le_of_ble_eq_true rfl⟩) hS (fun _ h => h) (fun _ h => h) (fun q_4 H locs hY hk hS => ?_)
  obtain ⟨hq_4, hP⟩ := hY
  subst hq_4
  rw [gb_onv]
  by_cases c_5 : r_2 = 0
  · rw [if_pos c_5] at h
    rw [gb_nv0 c_5]
    refine lv_astore_nN (lv' := [(3, .null), (0, .ref (b + 0)), (1, .int p1), (2, .int p2)]) hx hb dX11_close_5 rfl hl (by decide) rfl (fun ls hl => ?_)
    refine lv_aload_nN hx hb dX11_close_6 rfl (lv_at hl 0 rfl) ?_
    refine lv_ifnullN (tgt := 25) hx hb dX11_close_7 (by decide) ?_
    refine lv_iconst (v := (-1)) hx hb dX11_close_25 (by decide) ?_
    obtain ⟨e1, e2⟩ := gb_eq2 h
    exact W.iret (v := (-1)) hx hb hr (fun t ht hW => gb_ri ht ⟨e2, by rw [← e1]; exact hP⟩ hS) hS.2.2 dX11_close_26
  rw [if_neg c_5] at h
  rw [gb_nv1 c_5]
  obtain ⟨z_6, h⟩ := gb_kk_s h
  refine lv_astore_n (lv' := [(3, .ref (b + r_2)), (0, .ref (b + 0)), (1, .int p1), (2, .int p2)]) hx hb dX11_close_5 rfl hl (by decide) rfl (fun ls hl => ?_)
  refine lv_aload_n hx hb dX11_close_6 rfl (lv_at hl 0 rfl) ?_
  refine lv_ifnull hx hb dX11_close_7 ?_
  refine lv_aload_n hx hb dX11_close_10 rfl (lv_at hl 0 rfl) ?_
  obtain ⟨s_7, r_8, z_9, h⟩ := gb_cd_s h
  refine gb_calli (va_runS (As := [.ref (b + r_2)]) (rest := []) ⟨hx, hb, hml, hown, hq⟩ (cc_Sharing_canShare_B l D cT tt b1 b hb1 n s_1 r_2 s_7 r_8 z_9) (va_cwS 1 hq (gb_gS w_885 w_886 w_12 w_887) rfl rfl rfl (by decide +kernel) ⟨Nat.le_of_ble_eq_true rfl, Nat.le_of_ble_eq_true rfl⟩) (gb_preS hSt hS (fun q h => Nat.le_trans hb1 h.1) hP) rfl rfl hl.1 rfl (lv_room (Nat.le_of_ble_eq_true rfl)) dX11_close_11 ⟨Nat.le_of_ble_eq_true rfl, Nat.le_of_ble_eq_true rfl⟩) hS (fun _ h => h) (fun _ h => h) (fun q_10 H locs hY hk hS => ?_)
  obtain ⟨hq_10, hP⟩ := hY
  replace hq_10 := hq_10.symm
  subst hq_10
  refine lv_if_eq (tgt := 25) hx hb dX11_close_14 (by decide) (fun c_11 => ?_) (fun c_11 => ?_)
  · rw [if_pos c_11] at h
    refine lv_iconst (v := (-1)) hx hb dX11_close_25 (by decide) ?_
    obtain ⟨e1, e2⟩ := gb_eq2 h
    exact W.iret (v := (-1)) hx hb hr (fun t ht hW => gb_ri ht ⟨e2, by rw [← e1]; exact hP⟩ hS) hS.2.2 dX11_close_26
  · rw [if_neg c_11] at h
    refine lv_aload_n hx hb dX11_close_17 rfl (lv_at hl 0 rfl) ?_
    obtain ⟨s_12, r_13, z_14, h⟩ := gb_cd_s h
    refine gb_calli (va_runV (C := RX0) (As := []) (rest := []) ⟨hx, hb, hml, hown, hq⟩ (cc_Border_paths_B l D cT tt b1 b hb1 n s_7 r_2 s_12 r_13 z_14) (cwV 0 hq (gb_gV w_597 w_473 w_474 w_4 w_475) rfl rfl rfl (by decide +kernel) ⟨Nat.le_of_ble_eq_true rfl, Nat.le_of_ble_eq_true rfl⟩) (gb_preV (r := (RX0, TX0, 1)) (ci := 0) (q0 := r_2) hSt hP rfl (gb_at b (gb_cB z_6).1) hS (fun q h => Nat.le_trans hb1 h.1) hP) rfl rfl hl.1 rfl (lv_room (Nat.le_of_ble_eq_true rfl)) dX11_close_18 ⟨Nat.le_of_ble_eq_true rfl, Nat.le_of_ble_eq_true rfl⟩) hS (fun _ h => h) (fun _ h => h) (fun q_15 H locs hY hk hS => ?_)
    obtain ⟨hq_15, hP⟩ := hY
    replace hq_15 := hq_15.symm
    subst hq_15
    refine lv_iconst (v := 2) hx hb dX11_close_21 (by decide) ?_
    refine lv_icmp_ge (tgt := 27) hx hb dX11_close_22 (by decide) (fun c_16 => ?_) (fun c_16 => ?_)
    · rw [if_pos c_16] at h
      refine lv_iconst (v := 0) hx hb dX11_close_27 (by decide) ?_
      refine lv_istore (lv' := [(4, .int 0), (3, .ref (b + r_2)), (0, .ref (b + 0)), (1, .int p1), (2, .int p2)]) hx hb dX11_close_28 hl (by decide) rfl (fun ls hl => ?_)
      refine lv_iconst (v := (-1)) hx hb dX11_close_30 (by decide) ?_
      refine lv_istore (lv' := [(5, .int (-1)), (4, .int 0), (3, .ref (b + r_2)), (0, .ref (b + 0)), (1, .int p1), (2, .int p2)]) hx hb dX11_close_31 hl (by decide) rfl (fun ls hl => ?_)
      refine lv_iconst (v := 0) hx hb dX11_close_33 (by decide) ?_
      refine lv_istore (lv' := [(6, .int 0), (5, .int (-1)), (4, .int 0), (3, .ref (b + r_2)), (0, .ref (b + 0)), (1, .int p1), (2, .int p2)]) hx hb dX11_close_34 hl (by decide) rfl (fun ls hl => ?_)
      exact L36_1 n _ _ _ _ _ _ _ _ _ h hP hS (lv_sub hl [4, 6, 3, 2, 1, 0] rfl)
    · rw [if_neg c_16] at h
      refine lv_iconst (v := (-1)) hx hb dX11_close_25 (by decide) ?_
      obtain ⟨e1, e2⟩ := gb_eq2 h
      exact W.iret (v := (-1)) hx hb hr (fun t ht hW => gb_ri ht ⟨e2, by rw [← e1]; exact hP⟩ hS) hS.2.2 dX11_close_26
theorem dX11_tar_0 : decode cX11_tar 0 = .ok (.aload_n 0, 1) := dc_42 (show ((cX11_tar.data.toList.drop 0).take 1).map UInt8.toNat = [42] by decide +kernel)
theorem dX11_tar_1 : decode cX11_tar 1 = .ok (.iload_n 1, 1) := dc_27 (show ((cX11_tar.data.toList.drop 1).take 1).map UInt8.toNat = [27] by decide +kernel)
theorem dX11_tar_2 : decode cX11_tar 2 = .ok (.invokevirtual 113, 3) := dc_182 (show ((cX11_tar.data.toList.drop 2).take 3).map UInt8.toNat = [182, 0, 113] by decide +kernel) rfl
theorem dX11_tar_5 : decode cX11_tar 5 = .ok (.astore 4, 2) := dc_58 (show ((cX11_tar.data.toList.drop 5).take 2).map UInt8.toNat = [58, 4] by decide +kernel) rfl
theorem dX11_tar_7 : decode cX11_tar 7 = .ok (.aload 4, 2) := dc_25 (show ((cX11_tar.data.toList.drop 7).take 2).map UInt8.toNat = [25, 4] by decide +kernel) rfl
theorem dX11_tar_9 : decode cX11_tar 9 = .ok (.ifnull 23, 3) := dc_198 (show ((cX11_tar.data.toList.drop 9).take 3).map UInt8.toNat = [198, 0, 23] by decide +kernel) rfl
theorem dX11_tar_32 : decode cX11_tar 32 = .ok (.iconst (-1), 1) := dc_2 (show ((cX11_tar.data.toList.drop 32).take 1).map UInt8.toNat = [2] by decide +kernel)
theorem dX11_tar_33 : decode cX11_tar 33 = .ok (.ireturn, 1) := dc_172 (show ((cX11_tar.data.toList.drop 33).take 1).map UInt8.toNat = [172] by decide +kernel)
theorem dX11_tar_12 : decode cX11_tar 12 = .ok (.aload 4, 2) := dc_25 (show ((cX11_tar.data.toList.drop 12).take 2).map UInt8.toNat = [25, 4] by decide +kernel) rfl
theorem dX11_tar_14 : decode cX11_tar 14 = .ok (.iload_n 2, 1) := dc_28 (show ((cX11_tar.data.toList.drop 14).take 1).map UInt8.toNat = [28] by decide +kernel)
theorem dX11_tar_15 : decode cX11_tar 15 = .ok (.invokevirtual 135, 3) := dc_182 (show ((cX11_tar.data.toList.drop 15).take 3).map UInt8.toNat = [182, 0, 135] by decide +kernel) rfl
theorem dX11_tar_18 : decode cX11_tar 18 = .ok (.ifCond .eq 14, 3) := dc_153 (show ((cX11_tar.data.toList.drop 18).take 3).map UInt8.toNat = [153, 0, 14] by decide +kernel) rfl
theorem dX11_tar_21 : decode cX11_tar 21 = .ok (.iload_n 3, 1) := dc_29 (show ((cX11_tar.data.toList.drop 21).take 1).map UInt8.toNat = [29] by decide +kernel)
theorem dX11_tar_22 : decode cX11_tar 22 = .ok (.ifCond .lt 10, 3) := dc_155 (show ((cX11_tar.data.toList.drop 22).take 3).map UInt8.toNat = [155, 0, 10] by decide +kernel) rfl
theorem dX11_tar_25 : decode cX11_tar 25 = .ok (.iload_n 3, 1) := dc_29 (show ((cX11_tar.data.toList.drop 25).take 1).map UInt8.toNat = [29] by decide +kernel)
theorem dX11_tar_26 : decode cX11_tar 26 = .ok (.sipush 9999, 3) := dc_17 (show ((cX11_tar.data.toList.drop 26).take 3).map UInt8.toNat = [17, 39, 15] by decide +kernel) rfl
theorem dX11_tar_29 : decode cX11_tar 29 = .ok (.if_icmp .le 5, 3) := dc_164 (show ((cX11_tar.data.toList.drop 29).take 3).map UInt8.toNat = [164, 0, 5] by decide +kernel) rfl
theorem dX11_tar_34 : decode cX11_tar 34 = .ok (.aload 4, 2) := dc_25 (show ((cX11_tar.data.toList.drop 34).take 2).map UInt8.toNat = [25, 4] by decide +kernel) rfl
theorem dX11_tar_36 : decode cX11_tar 36 = .ok (.iload_n 2, 1) := dc_28 (show ((cX11_tar.data.toList.drop 36).take 1).map UInt8.toNat = [28] by decide +kernel)
theorem dX11_tar_37 : decode cX11_tar 37 = .ok (.invokevirtual 296, 3) := dc_182 (show ((cX11_tar.data.toList.drop 37).take 3).map UInt8.toNat = [182, 1, 40] by decide +kernel) rfl
theorem w_950 : (Cond.code ({ cls := "GooseBorder$Border", name := "barefoot", desc := "(I)I" } : MethodName) prog_2_method_24_code (4 : Nat) (Option.some FieldType.int)) ∈ gb_wA := gb_t4 230 rfl rfl
theorem w_947 : (Cond.methodLink "GooseBorder" (296 : Nat) ({ cls := "GooseBorder$Border", name := "barefoot", desc := "(I)I" } : MethodName)) ∈ gb_wA := gb_t4 227 rfl rfl
theorem w_948 : (Cond.instanceMethod ({ cls := "GooseBorder$Border", name := "barefoot", desc := "(I)I" } : MethodName)) ∈ gb_wA := gb_t4 228 rfl rfl
theorem w_949 : (Cond.selects "GooseBorder$Border" ({ cls := "GooseBorder$Border", name := "barefoot", desc := "(I)I" } : MethodName) ({ cls := "GooseBorder$Border", name := "barefoot", desc := "(I)I" } : MethodName)) ∈ gb_wA := gb_t4 229 rfl rfl
theorem dX11_tar_40 : decode cX11_tar 40 = .ok (.iload_n 3, 1) := dc_29 (show ((cX11_tar.data.toList.drop 40).take 1).map UInt8.toNat = [29] by decide +kernel)
theorem dX11_tar_41 : decode cX11_tar 41 = .ok (.isub, 1) := dc_100 (show ((cX11_tar.data.toList.drop 41).take 1).map UInt8.toNat = [100] by decide +kernel)
theorem dX11_tar_42 : decode cX11_tar 42 = .ok (.istore 5, 2) := dc_54 (show ((cX11_tar.data.toList.drop 42).take 2).map UInt8.toNat = [54, 5] by decide +kernel) rfl
theorem dX11_tar_44 : decode cX11_tar 44 = .ok (.iconst 0, 1) := dc_3 (show ((cX11_tar.data.toList.drop 44).take 1).map UInt8.toNat = [3] by decide +kernel)
theorem dX11_tar_45 : decode cX11_tar 45 = .ok (.istore 6, 2) := dc_54 (show ((cX11_tar.data.toList.drop 45).take 2).map UInt8.toNat = [54, 6] by decide +kernel) rfl
theorem dX11_tar_47 : decode cX11_tar 47 = .ok (.bipush 12, 2) := dc_16 (show ((cX11_tar.data.toList.drop 47).take 2).map UInt8.toNat = [16, 12] by decide +kernel) rfl
theorem dX11_tar_49 : decode cX11_tar 49 = .ok (.istore 7, 2) := dc_54 (show ((cX11_tar.data.toList.drop 49).take 2).map UInt8.toNat = [54, 7] by decide +kernel) rfl
theorem dX11_tar_51 : decode cX11_tar 51 = .ok (.iload 7, 2) := dc_21 (show ((cX11_tar.data.toList.drop 51).take 2).map UInt8.toNat = [21, 7] by decide +kernel) rfl
theorem dX11_tar_53 : decode cX11_tar 53 = .ok (.ifCond .le 54, 3) := dc_158 (show ((cX11_tar.data.toList.drop 53).take 3).map UInt8.toNat = [158, 0, 54] by decide +kernel) rfl
theorem dX11_tar_107 : decode cX11_tar 107 = .ok (.iload 5, 2) := dc_21 (show ((cX11_tar.data.toList.drop 107).take 2).map UInt8.toNat = [21, 5] by decide +kernel) rfl
theorem dX11_tar_109 : decode cX11_tar 109 = .ok (.ifCond .le 7, 3) := dc_158 (show ((cX11_tar.data.toList.drop 109).take 3).map UInt8.toNat = [158, 0, 7] by decide +kernel) rfl
theorem dX11_tar_116 : decode cX11_tar 116 = .ok (.iload 6, 2) := dc_21 (show ((cX11_tar.data.toList.drop 116).take 2).map UInt8.toNat = [21, 6] by decide +kernel) rfl
theorem dX11_tar_118 : decode cX11_tar 118 = .ok (.ireturn, 1) := dc_172 (show ((cX11_tar.data.toList.drop 118).take 1).map UInt8.toNat = [172] by decide +kernel)
theorem dX11_tar_112 : decode cX11_tar 112 = .ok (.iconst (-1), 1) := dc_2 (show ((cX11_tar.data.toList.drop 112).take 1).map UInt8.toNat = [2] by decide +kernel)
theorem dX11_tar_113 : decode cX11_tar 113 = .ok (.goto 5, 3) := dc_167 (show ((cX11_tar.data.toList.drop 113).take 3).map UInt8.toNat = [167, 0, 5] by decide +kernel) rfl
theorem dX11_tar_56 : decode cX11_tar 56 = .ok (.iload 5, 2) := dc_21 (show ((cX11_tar.data.toList.drop 56).take 2).map UInt8.toNat = [21, 5] by decide +kernel) rfl
theorem dX11_tar_58 : decode cX11_tar 58 = .ok (.ifCond .le 49, 3) := dc_158 (show ((cX11_tar.data.toList.drop 58).take 3).map UInt8.toNat = [158, 0, 49] by decide +kernel) rfl
theorem dX11_tar_61 : decode cX11_tar 61 = .ok (.aload 4, 2) := dc_25 (show ((cX11_tar.data.toList.drop 61).take 2).map UInt8.toNat = [25, 4] by decide +kernel) rfl
theorem dX11_tar_63 : decode cX11_tar 63 = .ok (.iload_n 2, 1) := dc_28 (show ((cX11_tar.data.toList.drop 63).take 1).map UInt8.toNat = [28] by decide +kernel)
theorem dX11_tar_64 : decode cX11_tar 64 = .ok (.iload 7, 2) := dc_21 (show ((cX11_tar.data.toList.drop 64).take 2).map UInt8.toNat = [21, 7] by decide +kernel) rfl
theorem dX11_tar_66 : decode cX11_tar 66 = .ok (.invokevirtual 299, 3) := dc_182 (show ((cX11_tar.data.toList.drop 66).take 3).map UInt8.toNat = [182, 1, 43] by decide +kernel) rfl
theorem w_954 : (Cond.code ({ cls := "GooseBorder$Border", name := "milesThatSpare", desc := "(II)I" } : MethodName) prog_2_method_25_code (6 : Nat) (Option.some FieldType.int)) ∈ gb_wA := gb_t4 234 rfl rfl
theorem w_951 : (Cond.methodLink "GooseBorder" (299 : Nat) ({ cls := "GooseBorder$Border", name := "milesThatSpare", desc := "(II)I" } : MethodName)) ∈ gb_wA := gb_t4 231 rfl rfl
theorem w_952 : (Cond.instanceMethod ({ cls := "GooseBorder$Border", name := "milesThatSpare", desc := "(II)I" } : MethodName)) ∈ gb_wA := gb_t4 232 rfl rfl
theorem w_953 : (Cond.selects "GooseBorder$Border" ({ cls := "GooseBorder$Border", name := "milesThatSpare", desc := "(II)I" } : MethodName) ({ cls := "GooseBorder$Border", name := "milesThatSpare", desc := "(II)I" } : MethodName)) ∈ gb_wA := gb_t4 233 rfl rfl
theorem dX11_tar_69 : decode cX11_tar 69 = .ok (.iload 5, 2) := dc_21 (show ((cX11_tar.data.toList.drop 69).take 2).map UInt8.toNat = [21, 5] by decide +kernel) rfl
theorem dX11_tar_71 : decode cX11_tar 71 = .ok (.iload 7, 2) := dc_21 (show ((cX11_tar.data.toList.drop 71).take 2).map UInt8.toNat = [21, 7] by decide +kernel) rfl
theorem dX11_tar_73 : decode cX11_tar 73 = .ok (.iadd, 1) := dc_96 (show ((cX11_tar.data.toList.drop 73).take 1).map UInt8.toNat = [96] by decide +kernel)
theorem dX11_tar_74 : decode cX11_tar 74 = .ok (.iconst 1, 1) := dc_4 (show ((cX11_tar.data.toList.drop 74).take 1).map UInt8.toNat = [4] by decide +kernel)
theorem dX11_tar_75 : decode cX11_tar 75 = .ok (.isub, 1) := dc_100 (show ((cX11_tar.data.toList.drop 75).take 1).map UInt8.toNat = [100] by decide +kernel)
theorem dX11_tar_76 : decode cX11_tar 76 = .ok (.iload 7, 2) := dc_21 (show ((cX11_tar.data.toList.drop 76).take 2).map UInt8.toNat = [21, 7] by decide +kernel) rfl
theorem dX11_tar_78 : decode cX11_tar 78 = .ok (.idiv, 1) := dc_108 (show ((cX11_tar.data.toList.drop 78).take 1).map UInt8.toNat = [108] by decide +kernel)
theorem dX11_tar_79 : decode cX11_tar 79 = .ok (.invokestatic 302, 3) := dc_184 (show ((cX11_tar.data.toList.drop 79).take 3).map UInt8.toNat = [184, 1, 46] by decide +kernel) rfl
theorem w_955 : (Cond.methodLink "GooseBorder" (302 : Nat) ({ cls := "java/lang/Math", name := "min", desc := "(II)I" } : MethodName)) ∈ gb_wA := gb_t4 235 rfl rfl
theorem dX11_tar_82 : decode cX11_tar 82 = .ok (.istore 8, 2) := dc_54 (show ((cX11_tar.data.toList.drop 82).take 2).map UInt8.toNat = [54, 8] by decide +kernel) rfl
theorem dX11_tar_84 : decode cX11_tar 84 = .ok (.iload 5, 2) := dc_21 (show ((cX11_tar.data.toList.drop 84).take 2).map UInt8.toNat = [21, 5] by decide +kernel) rfl
theorem dX11_tar_86 : decode cX11_tar 86 = .ok (.iload 8, 2) := dc_21 (show ((cX11_tar.data.toList.drop 86).take 2).map UInt8.toNat = [21, 8] by decide +kernel) rfl
theorem dX11_tar_88 : decode cX11_tar 88 = .ok (.iload 7, 2) := dc_21 (show ((cX11_tar.data.toList.drop 88).take 2).map UInt8.toNat = [21, 7] by decide +kernel) rfl
theorem dX11_tar_90 : decode cX11_tar 90 = .ok (.imul, 1) := dc_104 (show ((cX11_tar.data.toList.drop 90).take 1).map UInt8.toNat = [104] by decide +kernel)
theorem dX11_tar_91 : decode cX11_tar 91 = .ok (.isub, 1) := dc_100 (show ((cX11_tar.data.toList.drop 91).take 1).map UInt8.toNat = [100] by decide +kernel)
theorem dX11_tar_92 : decode cX11_tar 92 = .ok (.istore 5, 2) := dc_54 (show ((cX11_tar.data.toList.drop 92).take 2).map UInt8.toNat = [54, 5] by decide +kernel) rfl
theorem dX11_tar_94 : decode cX11_tar 94 = .ok (.iload 6, 2) := dc_21 (show ((cX11_tar.data.toList.drop 94).take 2).map UInt8.toNat = [21, 6] by decide +kernel) rfl
theorem dX11_tar_96 : decode cX11_tar 96 = .ok (.iload 8, 2) := dc_21 (show ((cX11_tar.data.toList.drop 96).take 2).map UInt8.toNat = [21, 8] by decide +kernel) rfl
theorem dX11_tar_98 : decode cX11_tar 98 = .ok (.iadd, 1) := dc_96 (show ((cX11_tar.data.toList.drop 98).take 1).map UInt8.toNat = [96] by decide +kernel)
theorem dX11_tar_99 : decode cX11_tar 99 = .ok (.istore 6, 2) := dc_54 (show ((cX11_tar.data.toList.drop 99).take 2).map UInt8.toNat = [54, 6] by decide +kernel) rfl
theorem dX11_tar_101 : decode cX11_tar 101 = .ok (.iinc 7 (-1), 3) := dc_132 (show ((cX11_tar.data.toList.drop 101).take 3).map UInt8.toNat = [132, 7, 255] by decide +kernel) rfl
theorem dX11_tar_104 : decode cX11_tar 104 = .ok (.goto (-53), 3) := dc_167 (show ((cX11_tar.data.toList.drop 104).take 3).map UInt8.toNat = [167, 255, 203] by decide +kernel) rfl
def cs_Face_tar_51 (n : Nat) : Nat → gb_S → Int32 → Nat → Int32 → Int32 → Int32 → gb_CR Int32
  | 0, _, _, _, _, _, _ => none
  | mm + 1, σ, v2, v4, v5, v6, v7 => gb_kk (gb_kB v4) ((if v7 ≤ 0 then (if v5 ≤ 0 then some (σ, v6) else some (σ, (-1))) else (if v5 ≤ 0 then (if v5 ≤ 0 then some (σ, v6) else some (σ, (-1))) else gb_cd (cs_Border_milesThatSpare_B n σ v4 v2 v7) (fun s_24 r_25 => gb_nz v7 (gb_lt (((v5 + v7) - 1) / v7) (fun x_29 => gb_lt (if x_29 < r_25 then x_29 else r_25) (fun x_30 => gb_lt (v5 - (x_30 * v7)) (fun x_31 => gb_lt (v6 + x_30) (fun x_32 => gb_lt (v7 + (-1)) (fun x_33 => cs_Face_tar_51 n mm s_24 v2 v4 x_31 x_32 x_33))))))))))
def cs_Face_tar (n : Nat) (σ : gb_S) (p1 : Int32) (p2 : Int32) (p3 : Int32) : gb_CR Int32 := gb_cd (cs_Face_borderAt n σ p1) (fun s_1 r_2 => (if r_2 = 0 then some (s_1, (-1)) else gb_kk (gb_kB r_2) (gb_cd (cs_Border_hasPath_B n s_1 r_2 p2) (fun s_7 r_8 => (if r_8 = 0 then some (s_7, (-1)) else (if p3 < 0 then some (s_7, (-1)) else (if p3 ≤ 9999 then gb_cd (cs_Border_barefoot_B n s_7 r_2 p2) (fun s_14 r_15 => gb_lt (r_15 - p3) (fun x_18 => cs_Face_tar_51 n n s_14 p2 r_2 x_18 0 12)) else some (s_7, (-1)))))))))
set_option maxHeartbeats 8000000 in
set_option maxRecDepth 100000 in
theorem cc_Face_tar (l : Launch) (D : va_G) (cT : Nat → ClassId) (tt : Nat → Nat) (b1 b : Nat) (hb1 : b1 ≤ b) (n : Nat) (σ : gb_S) (p1 : Int32) (p2 : Int32) (p3 : Int32) (σE : gb_S) (rE : Int32) (h : cs_Face_tar n σ p1 p2 p3 = some (σE, rE)) : Met l yX11_tar (.code yX11_tar cX11_tar 9 (some FieldType.int) :: gb_wA) ({ frames := 3, cells := 0, slots := 0, locals := 71 }) (gb_Pc D cT tt b1 [.ref (b + 0), .int p1, .int p2, .int p3] (fun h => va_P D vwCl (gb_wl b (gb_CW cT b σ)) h)) (gb_Qi (fun r h => r = rE ∧ va_P D vwCl (gb_wl b (gb_CW cT b σE)) h) (gb_fr b 135)) 0 0 (gb_fr b 135) := by
  refine Met.ofW (cc := cX11_tar) (maxL := 9) (ret := (some FieldType.int)) (by decide) rfl ?_
  intro p e s m args below meth c s₁ B hml hv
  obtain ⟨rfl, hSt, hP⟩ := hv
  have hx := B.exec
  have hb := B.bytes
  have hr := B.returns
  have hts := atoms_spec (ws := .code yX11_tar cX11_tar 9 (some FieldType.int) :: gb_wA) B.pre
  have hq : ∀ w ∈ gb_wA, w.before _ s = true := fun w h => hts w (List.mem_cons_of_mem _ h)
  have hown : s.vm.findClass RX11 = some m.cls := findClass_of_methodNamed B.named
  have hlocks := B.notSynchronized
  clear B hts
  have hK := hSt.1
  have hS : va_S (gb_fr b 135) s.heap s.heap [] := va_S.rf
  have hl := lv_entry ([.ref (b + 0), .int p1, .int p2, .int p3]) (n := 9) (Nat.le_of_ble_eq_true rfl)
  rw [lg_entry_eq]
  generalize (lg_sl ([.ref (b + 0), .int p1, .int p2, .int p3]) ++ List.replicate (9 - (lg_sl ([.ref (b + 0), .int p1, .int p2, .int p3])).length) Slot.unset).toArray = ls at hl ⊢
  replace hl : lv_has ls 9 [(0, .ref (b + 0)), (1, .int p1), (2, .int p2), (3, .int p3)] := hl
  have L51_1 : ∀ (mm : Nat) (σ : gb_S) (v2 : Int32) (v4 : Nat) (v5 : Int32) (v6 : Int32) (v7 : Int32) (H : Heap) (locs : List Loc) (ls : Array Slot), cs_Face_tar_51 n mm σ v2 v4 v5 v6 v7 = some (σE, rE) → va_P D vwCl (gb_wl b (gb_CW cT b σ)) H → va_S (gb_fr b 135) s.heap H locs → lv_has ls 9 [(2, .int v2), (4, .ref (b + v4)), (5, .int v5), (6, .int v6), (7, .int v7)] → W p l e (headSpec (.code yX11_tar cX11_tar 9 (some FieldType.int) :: gb_wA) ({ frames := 3, cells := 0, slots := 0, locals := 71 })).room s m ([.ref (b + 0), .int p1, .int p2, .int p3]).toArray below meth c H locs 0 0 (MQ below (gb_Qi (fun r h => r = rE ∧ va_P D vwCl (gb_wl b (gb_CW cT b σE)) h) (gb_fr b 135)) ([.ref (b + 0), .int p1, .int p2, .int p3]).toArray s 0 0 (gb_fr b 135)) (F0 m 51 ls []) := by
    clear h hP hS hl ls
    intro mm
    induction mm with
    | zero =>
      intro σ v2 v4 v5 v6 v7 H locs ls h
      cases h
    | succ mm ih =>
      intro σ v2 v4 v5 v6 v7 H locs ls h hP hS hl
      rw [cs_Face_tar_51] at h
      obtain ⟨z_19, h⟩ := gb_kk_s h
      refine lv_iload hx hb dX11_tar_51 (lv_at hl 4 rfl) ?_
      refine lv_if_le (tgt := 107) hx hb dX11_tar_53 (by decide) (fun c_20 => ?_) (fun c_20 => ?_)
      · rw [if_pos c_20] at h
        refine lv_iload hx hb dX11_tar_107 (lv_at hl 2 rfl) ?_
        refine lv_if_le (tgt := 116) hx hb dX11_tar_109 (by decide) (fun c_21 => ?_) (fun c_21 => ?_)
        · rw [if_pos c_21] at h
          refine lv_iload hx hb dX11_tar_116 (lv_at hl 3 rfl) ?_
          obtain ⟨e1, e2⟩ := gb_eq2 h
          exact W.iret (v := v6) hx hb hr (fun t ht hW => gb_ri ht ⟨e2, by rw [← e1]; exact hP⟩ hS) hS.2.2 dX11_tar_118
        · rw [if_neg c_21] at h
          refine lv_iconst (v := (-1)) hx hb dX11_tar_112 (by decide) ?_
          refine lv_goto (tgt := 118) hx hb dX11_tar_113 (by decide) ?_
          obtain ⟨e1, e2⟩ := gb_eq2 h
          exact W.iret (v := (-1)) hx hb hr (fun t ht hW => gb_ri ht ⟨e2, by rw [← e1]; exact hP⟩ hS) hS.2.2 dX11_tar_118
      · rw [if_neg c_20] at h
        refine lv_iload hx hb dX11_tar_56 (lv_at hl 2 rfl) ?_
        refine lv_if_le (tgt := 107) hx hb dX11_tar_58 (by decide) (fun c_22 => ?_) (fun c_22 => ?_)
        · rw [if_pos c_22] at h
          refine lv_iload hx hb dX11_tar_107 (lv_at hl 2 rfl) ?_
          refine lv_if_le (tgt := 116) hx hb dX11_tar_109 (by decide) (fun c_23 => ?_) (fun c_23 => ?_)
          · rw [if_pos c_23] at h
            refine lv_iload hx hb dX11_tar_116 (lv_at hl 3 rfl) ?_
            obtain ⟨e1, e2⟩ := gb_eq2 h
            exact W.iret (v := v6) hx hb hr (fun t ht hW => gb_ri ht ⟨e2, by rw [← e1]; exact hP⟩ hS) hS.2.2 dX11_tar_118
          · rw [if_neg c_23] at h
            refine lv_iconst (v := (-1)) hx hb dX11_tar_112 (by decide) ?_
            refine lv_goto (tgt := 118) hx hb dX11_tar_113 (by decide) ?_
            obtain ⟨e1, e2⟩ := gb_eq2 h
            exact W.iret (v := (-1)) hx hb hr (fun t ht hW => gb_ri ht ⟨e2, by rw [← e1]; exact hP⟩ hS) hS.2.2 dX11_tar_118
        · rw [if_neg c_22] at h
          refine lv_aload hx hb dX11_tar_61 (lv_at hl 1 rfl) ?_
          refine lv_iload_n hx hb dX11_tar_63 rfl (lv_at hl 0 rfl) ?_
          refine lv_iload hx hb dX11_tar_64 (lv_at hl 4 rfl) ?_
          obtain ⟨s_24, r_25, z_26, h⟩ := gb_cd_s h
          refine gb_calli (va_runV (C := RX0) (As := [.int v2, .int v7]) (rest := []) ⟨hx, hb, hml, hown, hq⟩ (cc_Border_milesThatSpare_B l D cT tt b1 b hb1 n σ v4 v2 v7 s_24 r_25 z_26) (cwV 2 hq (gb_gV w_951 w_952 w_953 w_4 w_954) rfl rfl rfl (by decide +kernel) ⟨Nat.le_of_ble_eq_true rfl, Nat.le_of_ble_eq_true rfl⟩) (gb_preV (r := (RX0, TX0, 1)) (ci := 0) (q0 := v4) hSt hP rfl (gb_at b (gb_cB z_19).1) hS (fun q h => Nat.le_trans hb1 h.1) hP) rfl rfl hl.1 rfl (lv_room (Nat.le_of_ble_eq_true rfl)) dX11_tar_66 ⟨Nat.le_of_ble_eq_true rfl, Nat.le_of_ble_eq_true rfl⟩) hS (fun _ h => h) (fun _ h => h) (fun q_27 H locs hY hk hS => ?_)
          obtain ⟨hq_27, hP⟩ := hY
          replace hq_27 := hq_27.symm
          subst hq_27
          refine lv_iload hx hb dX11_tar_69 (lv_at hl 2 rfl) ?_
          refine lv_iload hx hb dX11_tar_71 (lv_at hl 4 rfl) ?_
          refine lv_iadd hx hb dX11_tar_73 ?_
          refine lv_iconst (v := 1) hx hb dX11_tar_74 (by decide) ?_
          refine lv_isub hx hb dX11_tar_75 ?_
          refine lv_iload hx hb dX11_tar_76 (lv_at hl 4 rfl) ?_
          obtain ⟨z_28, h⟩ := gb_nz_s h
          refine lv_idiv hx hb dX11_tar_78 z_28 ?_
          refine lv_topi (fun x_29 ex_29 => ?_)
          replace h := gb_lt_s ex_29 h
          refine va_mmin hx hb (hml.trans hl.1.symm) hown (hq _ w_955) (hq _ w_367) (hq _ w_5) (hq _ w_368) (Nat.le_of_ble_eq_true rfl) (Nat.le_of_ble_eq_true rfl) (Nat.le_of_ble_eq_true rfl) (Nat.le_of_ble_eq_true rfl) dX11_tar_79 ?_
          refine lv_topi (fun x_30 ex_30 => ?_)
          replace h := gb_lt_s ex_30 h
          refine lv_istore (lv' := [(8, .int x_30), (2, .int v2), (4, .ref (b + v4)), (5, .int v5), (6, .int v6), (7, .int v7)]) hx hb dX11_tar_82 hl (by decide) rfl (fun ls hl => ?_)
          refine lv_iload hx hb dX11_tar_84 (lv_at hl 3 rfl) ?_
          refine lv_iload hx hb dX11_tar_86 (lv_at hl 0 rfl) ?_
          refine lv_iload hx hb dX11_tar_88 (lv_at hl 5 rfl) ?_
          refine lv_imul hx hb dX11_tar_90 ?_
          refine lv_isub hx hb dX11_tar_91 ?_
          refine lv_topi (fun x_31 ex_31 => ?_)
          replace h := gb_lt_s ex_31 h
          refine lv_istore (lv' := [(5, .int x_31), (8, .int x_30), (2, .int v2), (4, .ref (b + v4)), (6, .int v6), (7, .int v7)]) hx hb dX11_tar_92 hl (by decide) rfl (fun ls hl => ?_)
          refine lv_iload hx hb dX11_tar_94 (lv_at hl 4 rfl) ?_
          refine lv_iload hx hb dX11_tar_96 (lv_at hl 1 rfl) ?_
          refine lv_iadd hx hb dX11_tar_98 ?_
          refine lv_topi (fun x_32 ex_32 => ?_)
          replace h := gb_lt_s ex_32 h
          refine lv_istore (lv' := [(6, .int x_32), (5, .int x_31), (8, .int x_30), (2, .int v2), (4, .ref (b + v4)), (7, .int v7)]) hx hb dX11_tar_99 hl (by decide) rfl (fun ls hl => ?_)
          obtain ⟨x_33, ex_33⟩ : ∃ q, q = (v7 + (-1)) := ⟨_, rfl⟩
          replace h := gb_lt_s ex_33 h
          refine lv_iinc (v := x_33) (lv' := [(7, .int x_33), (6, .int x_32), (5, .int x_31), (8, .int x_30), (2, .int v2), (4, .ref (b + v4))]) hx hb dX11_tar_101 hl (k := 5) rfl (by rw [ex_33]; rfl) (by decide) rfl (fun ls hl => ?_)
          refine lv_goto (tgt := 51) hx hb dX11_tar_104 (by decide) ?_
          exact ih _ _ _ _ _ _ _ _ _ h hP hS (lv_sub hl [4, 5, 2, 1, 0] rfl)
  unfold cs_Face_tar at h
  refine lv_aload_n hx hb dX11_tar_0 rfl (lv_at hl 0 rfl) ?_
  refine lv_iload_n hx hb dX11_tar_1 rfl (lv_at hl 1 rfl) ?_
  obtain ⟨s_1, r_2, z_3, h⟩ := gb_cd_s h
  refine gb_callq (va_runV (C := RX11) (As := [.int p1]) (rest := []) ⟨hx, hb, hml, hown, hq⟩ (cc_Face_borderAt l D cT tt b1 b hb1 n σ p1 s_1 r_2 z_3) (cwV 1 hq (gb_gV w_593 w_595 s_1_7 w_1 w_596) rfl rfl rfl (by decide +kernel) ⟨Nat.le_of_ble_eq_true rfl, Nat.le_of_ble_eq_true rfl⟩) (gb_preV (r := (RX11, TX11, 10)) (ci := 9) (q0 := 0) hSt hP rfl (gb_at b rfl) hS (fun q h => Nat.le_trans hb1 h.1) hP) rfl rfl hl.1 rfl (lv_room (Nat.le_of_ble_eq_true rfl)) dX11_tar_2 ⟨Nat.le_of_ble_eq_true rfl, Nat.le_of_ble_eq_true rfl⟩) hS (fun _ h => h) (fun _ h => h) (fun q_4 H locs hY hk hS => ?_)
  obtain ⟨hq_4, hP⟩ := hY
  subst hq_4
  rw [gb_onv]
  by_cases c_5 : r_2 = 0
  · rw [if_pos c_5] at h
    rw [gb_nv0 c_5]
    refine lv_astoreN (lv' := [(4, .null), (0, .ref (b + 0)), (1, .int p1), (2, .int p2), (3, .int p3)]) hx hb dX11_tar_5 hl (by decide) rfl (fun ls hl => ?_)
    refine lv_aloadN hx hb dX11_tar_7 (lv_at hl 0 rfl) ?_
    refine lv_ifnullN (tgt := 32) hx hb dX11_tar_9 (by decide) ?_
    refine lv_iconst (v := (-1)) hx hb dX11_tar_32 (by decide) ?_
    obtain ⟨e1, e2⟩ := gb_eq2 h
    exact W.iret (v := (-1)) hx hb hr (fun t ht hW => gb_ri ht ⟨e2, by rw [← e1]; exact hP⟩ hS) hS.2.2 dX11_tar_33
  rw [if_neg c_5] at h
  rw [gb_nv1 c_5]
  obtain ⟨z_6, h⟩ := gb_kk_s h
  refine lv_astore (lv' := [(4, .ref (b + r_2)), (0, .ref (b + 0)), (1, .int p1), (2, .int p2), (3, .int p3)]) hx hb dX11_tar_5 hl (by decide) rfl (fun ls hl => ?_)
  refine lv_aload hx hb dX11_tar_7 (lv_at hl 0 rfl) ?_
  refine lv_ifnull hx hb dX11_tar_9 ?_
  refine lv_aload hx hb dX11_tar_12 (lv_at hl 0 rfl) ?_
  refine lv_iload_n hx hb dX11_tar_14 rfl (lv_at hl 3 rfl) ?_
  obtain ⟨s_7, r_8, z_9, h⟩ := gb_cd_s h
  refine gb_calli (va_runV (C := RX0) (As := [.int p2]) (rest := []) ⟨hx, hb, hml, hown, hq⟩ (cc_Border_hasPath_B l D cT tt b1 b hb1 n s_1 r_2 p2 s_7 r_8 z_9) (cwV 1 hq (gb_gV w_620 w_608 w_609 w_4 w_610) rfl rfl rfl (by decide +kernel) ⟨Nat.le_of_ble_eq_true rfl, Nat.le_of_ble_eq_true rfl⟩) (gb_preV (r := (RX0, TX0, 1)) (ci := 0) (q0 := r_2) hSt hP rfl (gb_at b (gb_cB z_6).1) hS (fun q h => Nat.le_trans hb1 h.1) hP) rfl rfl hl.1 rfl (lv_room (Nat.le_of_ble_eq_true rfl)) dX11_tar_15 ⟨Nat.le_of_ble_eq_true rfl, Nat.le_of_ble_eq_true rfl⟩) hS (fun _ h => h) (fun _ h => h) (fun q_10 H locs hY hk hS => ?_)
  obtain ⟨hq_10, hP⟩ := hY
  replace hq_10 := hq_10.symm
  subst hq_10
  refine lv_if_eq (tgt := 32) hx hb dX11_tar_18 (by decide) (fun c_11 => ?_) (fun c_11 => ?_)
  · rw [if_pos c_11] at h
    refine lv_iconst (v := (-1)) hx hb dX11_tar_32 (by decide) ?_
    obtain ⟨e1, e2⟩ := gb_eq2 h
    exact W.iret (v := (-1)) hx hb hr (fun t ht hW => gb_ri ht ⟨e2, by rw [← e1]; exact hP⟩ hS) hS.2.2 dX11_tar_33
  · rw [if_neg c_11] at h
    refine lv_iload_n hx hb dX11_tar_21 rfl (lv_at hl 4 rfl) ?_
    refine lv_if_lt (tgt := 32) hx hb dX11_tar_22 (by decide) (fun c_12 => ?_) (fun c_12 => ?_)
    · rw [if_pos c_12] at h
      refine lv_iconst (v := (-1)) hx hb dX11_tar_32 (by decide) ?_
      obtain ⟨e1, e2⟩ := gb_eq2 h
      exact W.iret (v := (-1)) hx hb hr (fun t ht hW => gb_ri ht ⟨e2, by rw [← e1]; exact hP⟩ hS) hS.2.2 dX11_tar_33
    · rw [if_neg c_12] at h
      refine lv_iload_n hx hb dX11_tar_25 rfl (lv_at hl 4 rfl) ?_
      refine lv_sipush (v := 9999) hx hb dX11_tar_26 (by decide) ?_
      refine lv_icmp_le (tgt := 34) hx hb dX11_tar_29 (by decide) (fun c_13 => ?_) (fun c_13 => ?_)
      · rw [if_pos c_13] at h
        refine lv_aload hx hb dX11_tar_34 (lv_at hl 0 rfl) ?_
        refine lv_iload_n hx hb dX11_tar_36 rfl (lv_at hl 3 rfl) ?_
        obtain ⟨s_14, r_15, z_16, h⟩ := gb_cd_s h
        refine gb_calli (va_runV (C := RX0) (As := [.int p2]) (rest := []) ⟨hx, hb, hml, hown, hq⟩ (cc_Border_barefoot_B l D cT tt b1 b hb1 n s_7 r_2 p2 s_14 r_15 z_16) (cwV 1 hq (gb_gV w_947 w_948 w_949 w_4 w_950) rfl rfl rfl (by decide +kernel) ⟨Nat.le_of_ble_eq_true rfl, Nat.le_of_ble_eq_true rfl⟩) (gb_preV (r := (RX0, TX0, 1)) (ci := 0) (q0 := r_2) hSt hP rfl (gb_at b (gb_cB z_6).1) hS (fun q h => Nat.le_trans hb1 h.1) hP) rfl rfl hl.1 rfl (lv_room (Nat.le_of_ble_eq_true rfl)) dX11_tar_37 ⟨Nat.le_of_ble_eq_true rfl, Nat.le_of_ble_eq_true rfl⟩) hS (fun _ h => h) (fun _ h => h) (fun q_17 H locs hY hk hS => ?_)
        obtain ⟨hq_17, hP⟩ := hY
        replace hq_17 := hq_17.symm
        subst hq_17
        refine lv_iload_n hx hb dX11_tar_40 rfl (lv_at hl 4 rfl) ?_
        refine lv_isub hx hb dX11_tar_41 ?_
        refine lv_topi (fun x_18 ex_18 => ?_)
        replace h := gb_lt_s ex_18 h
        refine lv_istore (lv' := [(5, .int x_18), (4, .ref (b + r_2)), (0, .ref (b + 0)), (1, .int p1), (2, .int p2), (3, .int p3)]) hx hb dX11_tar_42 hl (by decide) rfl (fun ls hl => ?_)
        refine lv_iconst (v := 0) hx hb dX11_tar_44 (by decide) ?_
        refine lv_istore (lv' := [(6, .int 0), (5, .int x_18), (4, .ref (b + r_2)), (0, .ref (b + 0)), (1, .int p1), (2, .int p2), (3, .int p3)]) hx hb dX11_tar_45 hl (by decide) rfl (fun ls hl => ?_)
        refine lv_bipush (v := 12) hx hb dX11_tar_47 (by decide) ?_
        refine lv_istore (lv' := [(7, .int 12), (6, .int 0), (5, .int x_18), (4, .ref (b + r_2)), (0, .ref (b + 0)), (1, .int p1), (2, .int p2), (3, .int p3)]) hx hb dX11_tar_49 hl (by decide) rfl (fun ls hl => ?_)
        exact L51_1 n _ _ _ _ _ _ _ _ _ h hP hS (lv_sub hl [6, 3, 2, 1, 0] rfl)
      · rw [if_neg c_13] at h
        refine lv_iconst (v := (-1)) hx hb dX11_tar_32 (by decide) ?_
        obtain ⟨e1, e2⟩ := gb_eq2 h
        exact W.iret (v := (-1)) hx hb hr (fun t ht hW => gb_ri ht ⟨e2, by rw [← e1]; exact hP⟩ hS) hS.2.2 dX11_tar_33
theorem dX11_lame_0 : decode cX11_lame 0 = .ok (.aload_n 0, 1) := dc_42 (show ((cX11_lame.data.toList.drop 0).take 1).map UInt8.toNat = [42] by decide +kernel)
theorem dX11_lame_1 : decode cX11_lame 1 = .ok (.iload_n 1, 1) := dc_27 (show ((cX11_lame.data.toList.drop 1).take 1).map UInt8.toNat = [27] by decide +kernel)
theorem dX11_lame_2 : decode cX11_lame 2 = .ok (.invokevirtual 113, 3) := dc_182 (show ((cX11_lame.data.toList.drop 2).take 3).map UInt8.toNat = [182, 0, 113] by decide +kernel) rfl
theorem dX11_lame_5 : decode cX11_lame 5 = .ok (.astore 4, 2) := dc_58 (show ((cX11_lame.data.toList.drop 5).take 2).map UInt8.toNat = [58, 4] by decide +kernel) rfl
theorem dX11_lame_7 : decode cX11_lame 7 = .ok (.aload 4, 2) := dc_25 (show ((cX11_lame.data.toList.drop 7).take 2).map UInt8.toNat = [25, 4] by decide +kernel) rfl
theorem dX11_lame_9 : decode cX11_lame 9 = .ok (.ifnonnull 5, 3) := dc_199 (show ((cX11_lame.data.toList.drop 9).take 3).map UInt8.toNat = [199, 0, 5] by decide +kernel) rfl
theorem dX11_lame_12 : decode cX11_lame 12 = .ok (.iconst (-1), 1) := dc_2 (show ((cX11_lame.data.toList.drop 12).take 1).map UInt8.toNat = [2] by decide +kernel)
theorem dX11_lame_13 : decode cX11_lame 13 = .ok (.ireturn, 1) := dc_172 (show ((cX11_lame.data.toList.drop 13).take 1).map UInt8.toNat = [172] by decide +kernel)
theorem dX11_lame_14 : decode cX11_lame 14 = .ok (.iload_n 3, 1) := dc_29 (show ((cX11_lame.data.toList.drop 14).take 1).map UInt8.toNat = [29] by decide +kernel)
theorem dX11_lame_15 : decode cX11_lame 15 = .ok (.ifCond .lt 29, 3) := dc_155 (show ((cX11_lame.data.toList.drop 15).take 3).map UInt8.toNat = [155, 0, 29] by decide +kernel) rfl
theorem dX11_lame_44 : decode cX11_lame 44 = .ok (.aload 4, 2) := dc_25 (show ((cX11_lame.data.toList.drop 44).take 2).map UInt8.toNat = [25, 4] by decide +kernel) rfl
theorem dX11_lame_46 : decode cX11_lame 46 = .ok (.iload_n 2, 1) := dc_28 (show ((cX11_lame.data.toList.drop 46).take 1).map UInt8.toNat = [28] by decide +kernel)
theorem dX11_lame_47 : decode cX11_lame 47 = .ok (.invokevirtual 135, 3) := dc_182 (show ((cX11_lame.data.toList.drop 47).take 3).map UInt8.toNat = [182, 0, 135] by decide +kernel) rfl
theorem dX11_lame_50 : decode cX11_lame 50 = .ok (.ifCond .ne 5, 3) := dc_154 (show ((cX11_lame.data.toList.drop 50).take 3).map UInt8.toNat = [154, 0, 5] by decide +kernel) rfl
theorem dX11_lame_55 : decode cX11_lame 55 = .ok (.iconst 0, 1) := dc_3 (show ((cX11_lame.data.toList.drop 55).take 1).map UInt8.toNat = [3] by decide +kernel)
theorem dX11_lame_56 : decode cX11_lame 56 = .ok (.istore 5, 2) := dc_54 (show ((cX11_lame.data.toList.drop 56).take 2).map UInt8.toNat = [54, 5] by decide +kernel) rfl
theorem dX11_lame_58 : decode cX11_lame 58 = .ok (.iconst 0, 1) := dc_3 (show ((cX11_lame.data.toList.drop 58).take 1).map UInt8.toNat = [3] by decide +kernel)
theorem dX11_lame_59 : decode cX11_lame 59 = .ok (.istore 6, 2) := dc_54 (show ((cX11_lame.data.toList.drop 59).take 2).map UInt8.toNat = [54, 6] by decide +kernel) rfl
theorem dX11_lame_61 : decode cX11_lame 61 = .ok (.iconst 0, 1) := dc_3 (show ((cX11_lame.data.toList.drop 61).take 1).map UInt8.toNat = [3] by decide +kernel)
theorem dX11_lame_62 : decode cX11_lame 62 = .ok (.istore 7, 2) := dc_54 (show ((cX11_lame.data.toList.drop 62).take 2).map UInt8.toNat = [54, 7] by decide +kernel) rfl
theorem dX11_lame_64 : decode cX11_lame 64 = .ok (.iload 7, 2) := dc_21 (show ((cX11_lame.data.toList.drop 64).take 2).map UInt8.toNat = [21, 7] by decide +kernel) rfl
theorem dX11_lame_66 : decode cX11_lame 66 = .ok (.aload 4, 2) := dc_25 (show ((cX11_lame.data.toList.drop 66).take 2).map UInt8.toNat = [25, 4] by decide +kernel) rfl
theorem dX11_lame_68 : decode cX11_lame 68 = .ok (.invokevirtual 121, 3) := dc_182 (show ((cX11_lame.data.toList.drop 68).take 3).map UInt8.toNat = [182, 0, 121] by decide +kernel) rfl
theorem dX11_lame_71 : decode cX11_lame 71 = .ok (.if_icmp .ge 50, 3) := dc_162 (show ((cX11_lame.data.toList.drop 71).take 3).map UInt8.toNat = [162, 0, 50] by decide +kernel) rfl
theorem dX11_lame_121 : decode cX11_lame 121 = .ok (.aload 4, 2) := dc_25 (show ((cX11_lame.data.toList.drop 121).take 2).map UInt8.toNat = [25, 4] by decide +kernel) rfl
theorem dX11_lame_123 : decode cX11_lame 123 = .ok (.iload_n 2, 1) := dc_28 (show ((cX11_lame.data.toList.drop 123).take 1).map UInt8.toNat = [28] by decide +kernel)
theorem dX11_lame_124 : decode cX11_lame 124 = .ok (.iload 5, 2) := dc_21 (show ((cX11_lame.data.toList.drop 124).take 2).map UInt8.toNat = [21, 5] by decide +kernel) rfl
theorem dX11_lame_126 : decode cX11_lame 126 = .ok (.invokevirtual 229, 3) := dc_182 (show ((cX11_lame.data.toList.drop 126).take 3).map UInt8.toNat = [182, 0, 229] by decide +kernel) rfl
theorem dX11_lame_129 : decode cX11_lame 129 = .ok (.aload 4, 2) := dc_25 (show ((cX11_lame.data.toList.drop 129).take 2).map UInt8.toNat = [25, 4] by decide +kernel) rfl
theorem dX11_lame_131 : decode cX11_lame 131 = .ok (.iload_n 2, 1) := dc_28 (show ((cX11_lame.data.toList.drop 131).take 1).map UInt8.toNat = [28] by decide +kernel)
theorem dX11_lame_132 : decode cX11_lame 132 = .ok (.iload 6, 2) := dc_21 (show ((cX11_lame.data.toList.drop 132).take 2).map UInt8.toNat = [21, 6] by decide +kernel) rfl
theorem dX11_lame_134 : decode cX11_lame 134 = .ok (.invokevirtual 229, 3) := dc_182 (show ((cX11_lame.data.toList.drop 134).take 3).map UInt8.toNat = [182, 0, 229] by decide +kernel) rfl
theorem dX11_lame_137 : decode cX11_lame 137 = .ok (.isub, 1) := dc_100 (show ((cX11_lame.data.toList.drop 137).take 1).map UInt8.toNat = [100] by decide +kernel)
theorem dX11_lame_138 : decode cX11_lame 138 = .ok (.ireturn, 1) := dc_172 (show ((cX11_lame.data.toList.drop 138).take 1).map UInt8.toNat = [172] by decide +kernel)
theorem dX11_lame_74 : decode cX11_lame 74 = .ok (.aload 4, 2) := dc_25 (show ((cX11_lame.data.toList.drop 74).take 2).map UInt8.toNat = [25, 4] by decide +kernel) rfl
theorem dX11_lame_76 : decode cX11_lame 76 = .ok (.iload 7, 2) := dc_21 (show ((cX11_lame.data.toList.drop 76).take 2).map UInt8.toNat = [21, 7] by decide +kernel) rfl
theorem dX11_lame_78 : decode cX11_lame 78 = .ok (.iload_n 2, 1) := dc_28 (show ((cX11_lame.data.toList.drop 78).take 1).map UInt8.toNat = [28] by decide +kernel)
theorem dX11_lame_79 : decode cX11_lame 79 = .ok (.invokevirtual 311, 3) := dc_182 (show ((cX11_lame.data.toList.drop 79).take 3).map UInt8.toNat = [182, 1, 55] by decide +kernel) rfl
theorem w_963 : (Cond.methodLink "GooseBorder" (311 : Nat) ({ cls := "GooseBorder$Border", name := "marksFirst", desc := "(II)I" } : MethodName)) ∈ gb_wA := gb_t5 3 rfl rfl
theorem dX11_lame_82 : decode cX11_lame 82 = .ok (.istore 8, 2) := dc_54 (show ((cX11_lame.data.toList.drop 82).take 2).map UInt8.toNat = [54, 8] by decide +kernel) rfl
theorem dX11_lame_84 : decode cX11_lame 84 = .ok (.iload 5, 2) := dc_21 (show ((cX11_lame.data.toList.drop 84).take 2).map UInt8.toNat = [21, 5] by decide +kernel) rfl
theorem dX11_lame_86 : decode cX11_lame 86 = .ok (.iload 8, 2) := dc_21 (show ((cX11_lame.data.toList.drop 86).take 2).map UInt8.toNat = [21, 8] by decide +kernel) rfl
theorem dX11_lame_88 : decode cX11_lame 88 = .ok (.iadd, 1) := dc_96 (show ((cX11_lame.data.toList.drop 88).take 1).map UInt8.toNat = [96] by decide +kernel)
theorem dX11_lame_89 : decode cX11_lame 89 = .ok (.istore 5, 2) := dc_54 (show ((cX11_lame.data.toList.drop 89).take 2).map UInt8.toNat = [54, 5] by decide +kernel) rfl
theorem dX11_lame_91 : decode cX11_lame 91 = .ok (.iload 6, 2) := dc_21 (show ((cX11_lame.data.toList.drop 91).take 2).map UInt8.toNat = [21, 6] by decide +kernel) rfl
theorem dX11_lame_93 : decode cX11_lame 93 = .ok (.aload 4, 2) := dc_25 (show ((cX11_lame.data.toList.drop 93).take 2).map UInt8.toNat = [25, 4] by decide +kernel) rfl
theorem dX11_lame_95 : decode cX11_lame 95 = .ok (.iload 7, 2) := dc_21 (show ((cX11_lame.data.toList.drop 95).take 2).map UInt8.toNat = [21, 7] by decide +kernel) rfl
theorem dX11_lame_97 : decode cX11_lame 97 = .ok (.invokevirtual 314, 3) := dc_182 (show ((cX11_lame.data.toList.drop 97).take 3).map UInt8.toNat = [182, 1, 58] by decide +kernel) rfl
theorem w_964 : (Cond.methodLink "GooseBorder" (314 : Nat) ({ cls := "GooseBorder$Border", name := "limps", desc := "(I)Z" } : MethodName)) ∈ gb_wA := gb_t5 4 rfl rfl
theorem dX11_lame_100 : decode cX11_lame 100 = .ok (.ifCond .eq 10, 3) := dc_153 (show ((cX11_lame.data.toList.drop 100).take 3).map UInt8.toNat = [153, 0, 10] by decide +kernel) rfl
theorem dX11_lame_110 : decode cX11_lame 110 = .ok (.iload 8, 2) := dc_21 (show ((cX11_lame.data.toList.drop 110).take 2).map UInt8.toNat = [21, 8] by decide +kernel) rfl
theorem dX11_lame_112 : decode cX11_lame 112 = .ok (.iadd, 1) := dc_96 (show ((cX11_lame.data.toList.drop 112).take 1).map UInt8.toNat = [96] by decide +kernel)
theorem dX11_lame_113 : decode cX11_lame 113 = .ok (.istore 6, 2) := dc_54 (show ((cX11_lame.data.toList.drop 113).take 2).map UInt8.toNat = [54, 6] by decide +kernel) rfl
theorem dX11_lame_115 : decode cX11_lame 115 = .ok (.iinc 7 1, 3) := dc_132 (show ((cX11_lame.data.toList.drop 115).take 3).map UInt8.toNat = [132, 7, 1] by decide +kernel) rfl
theorem dX11_lame_118 : decode cX11_lame 118 = .ok (.goto (-54), 3) := dc_167 (show ((cX11_lame.data.toList.drop 118).take 3).map UInt8.toNat = [167, 255, 202] by decide +kernel) rfl
theorem dX11_lame_103 : decode cX11_lame 103 = .ok (.iload 8, 2) := dc_21 (show ((cX11_lame.data.toList.drop 103).take 2).map UInt8.toNat = [21, 8] by decide +kernel) rfl
theorem dX11_lame_105 : decode cX11_lame 105 = .ok (.iconst 2, 1) := dc_5 (show ((cX11_lame.data.toList.drop 105).take 1).map UInt8.toNat = [5] by decide +kernel)
theorem dX11_lame_106 : decode cX11_lame 106 = .ok (.idiv, 1) := dc_108 (show ((cX11_lame.data.toList.drop 106).take 1).map UInt8.toNat = [108] by decide +kernel)
theorem dX11_lame_107 : decode cX11_lame 107 = .ok (.goto 5, 3) := dc_167 (show ((cX11_lame.data.toList.drop 107).take 3).map UInt8.toNat = [167, 0, 5] by decide +kernel) rfl
theorem dX11_lame_53 : decode cX11_lame 53 = .ok (.iconst (-1), 1) := dc_2 (show ((cX11_lame.data.toList.drop 53).take 1).map UInt8.toNat = [2] by decide +kernel)
theorem dX11_lame_54 : decode cX11_lame 54 = .ok (.ireturn, 1) := dc_172 (show ((cX11_lame.data.toList.drop 54).take 1).map UInt8.toNat = [172] by decide +kernel)
theorem dX11_lame_18 : decode cX11_lame 18 = .ok (.iload_n 3, 1) := dc_29 (show ((cX11_lame.data.toList.drop 18).take 1).map UInt8.toNat = [29] by decide +kernel)
theorem dX11_lame_19 : decode cX11_lame 19 = .ok (.bipush 8, 2) := dc_16 (show ((cX11_lame.data.toList.drop 19).take 2).map UInt8.toNat = [16, 8] by decide +kernel) rfl
theorem dX11_lame_21 : decode cX11_lame 21 = .ok (.if_icmp .ge 23, 3) := dc_162 (show ((cX11_lame.data.toList.drop 21).take 3).map UInt8.toNat = [162, 0, 23] by decide +kernel) rfl
theorem dX11_lame_24 : decode cX11_lame 24 = .ok (.aload 4, 2) := dc_25 (show ((cX11_lame.data.toList.drop 24).take 2).map UInt8.toNat = [25, 4] by decide +kernel) rfl
theorem dX11_lame_26 : decode cX11_lame 26 = .ok (.iload_n 3, 1) := dc_29 (show ((cX11_lame.data.toList.drop 26).take 1).map UInt8.toNat = [29] by decide +kernel)
theorem dX11_lame_27 : decode cX11_lame 27 = .ok (.invokevirtual 131, 3) := dc_182 (show ((cX11_lame.data.toList.drop 27).take 3).map UInt8.toNat = [182, 0, 131] by decide +kernel) rfl
theorem dX11_lame_30 : decode cX11_lame 30 = .ok (.ifCond .eq 12, 3) := dc_153 (show ((cX11_lame.data.toList.drop 30).take 3).map UInt8.toNat = [153, 0, 12] by decide +kernel) rfl
theorem dX11_lame_42 : decode cX11_lame 42 = .ok (.iconst (-1), 1) := dc_2 (show ((cX11_lame.data.toList.drop 42).take 1).map UInt8.toNat = [2] by decide +kernel)
theorem dX11_lame_43 : decode cX11_lame 43 = .ok (.ireturn, 1) := dc_172 (show ((cX11_lame.data.toList.drop 43).take 1).map UInt8.toNat = [172] by decide +kernel)
theorem dX11_lame_33 : decode cX11_lame 33 = .ok (.aload 4, 2) := dc_25 (show ((cX11_lame.data.toList.drop 33).take 2).map UInt8.toNat = [25, 4] by decide +kernel) rfl
theorem dX11_lame_35 : decode cX11_lame 35 = .ok (.iload_n 3, 1) := dc_29 (show ((cX11_lame.data.toList.drop 35).take 1).map UInt8.toNat = [29] by decide +kernel)
theorem dX11_lame_36 : decode cX11_lame 36 = .ok (.invokestatic 307, 3) := dc_184 (show ((cX11_lame.data.toList.drop 36).take 3).map UInt8.toNat = [184, 1, 51] by decide +kernel) rfl
theorem dX11_bestPath_0 : decode cX11_bestPath 0 = .ok (.iconst (-1), 1) := dc_2 (show ((cX11_bestPath.data.toList.drop 0).take 1).map UInt8.toNat = [2] by decide +kernel)
theorem dX11_bestPath_1 : decode cX11_bestPath 1 = .ok (.istore_n 2, 1) := dc_61 (show ((cX11_bestPath.data.toList.drop 1).take 1).map UInt8.toNat = [61] by decide +kernel)
theorem dX11_bestPath_2 : decode cX11_bestPath 2 = .ok (.iconst (-1), 1) := dc_2 (show ((cX11_bestPath.data.toList.drop 2).take 1).map UInt8.toNat = [2] by decide +kernel)
theorem dX11_bestPath_3 : decode cX11_bestPath 3 = .ok (.istore_n 3, 1) := dc_62 (show ((cX11_bestPath.data.toList.drop 3).take 1).map UInt8.toNat = [62] by decide +kernel)
theorem dX11_bestPath_4 : decode cX11_bestPath 4 = .ok (.iconst 0, 1) := dc_3 (show ((cX11_bestPath.data.toList.drop 4).take 1).map UInt8.toNat = [3] by decide +kernel)
theorem dX11_bestPath_5 : decode cX11_bestPath 5 = .ok (.istore 4, 2) := dc_54 (show ((cX11_bestPath.data.toList.drop 5).take 2).map UInt8.toNat = [54, 4] by decide +kernel) rfl
theorem dX11_bestPath_7 : decode cX11_bestPath 7 = .ok (.iload 4, 2) := dc_21 (show ((cX11_bestPath.data.toList.drop 7).take 2).map UInt8.toNat = [21, 4] by decide +kernel) rfl
theorem dX11_bestPath_9 : decode cX11_bestPath 9 = .ok (.aload_n 0, 1) := dc_42 (show ((cX11_bestPath.data.toList.drop 9).take 1).map UInt8.toNat = [42] by decide +kernel)
theorem dX11_bestPath_10 : decode cX11_bestPath 10 = .ok (.invokevirtual 117, 3) := dc_182 (show ((cX11_bestPath.data.toList.drop 10).take 3).map UInt8.toNat = [182, 0, 117] by decide +kernel) rfl
theorem dX11_bestPath_13 : decode cX11_bestPath 13 = .ok (.if_icmp .ge 36, 3) := dc_162 (show ((cX11_bestPath.data.toList.drop 13).take 3).map UInt8.toNat = [162, 0, 36] by decide +kernel) rfl
theorem dX11_bestPath_49 : decode cX11_bestPath 49 = .ok (.iload_n 3, 1) := dc_29 (show ((cX11_bestPath.data.toList.drop 49).take 1).map UInt8.toNat = [29] by decide +kernel)
theorem dX11_bestPath_50 : decode cX11_bestPath 50 = .ok (.ireturn, 1) := dc_172 (show ((cX11_bestPath.data.toList.drop 50).take 1).map UInt8.toNat = [172] by decide +kernel)
theorem dX11_bestPath_16 : decode cX11_bestPath 16 = .ok (.aload_n 0, 1) := dc_42 (show ((cX11_bestPath.data.toList.drop 16).take 1).map UInt8.toNat = [42] by decide +kernel)
theorem dX11_bestPath_17 : decode cX11_bestPath 17 = .ok (.iload 4, 2) := dc_21 (show ((cX11_bestPath.data.toList.drop 17).take 2).map UInt8.toNat = [21, 4] by decide +kernel) rfl
theorem dX11_bestPath_19 : decode cX11_bestPath 19 = .ok (.aload_n 0, 1) := dc_42 (show ((cX11_bestPath.data.toList.drop 19).take 1).map UInt8.toNat = [42] by decide +kernel)
theorem dX11_bestPath_20 : decode cX11_bestPath 20 = .ok (.iload_n 1, 1) := dc_27 (show ((cX11_bestPath.data.toList.drop 20).take 1).map UInt8.toNat = [27] by decide +kernel)
theorem dX11_bestPath_21 : decode cX11_bestPath 21 = .ok (.iload 4, 2) := dc_21 (show ((cX11_bestPath.data.toList.drop 21).take 2).map UInt8.toNat = [21, 4] by decide +kernel) rfl
theorem dX11_bestPath_23 : decode cX11_bestPath 23 = .ok (.invokevirtual 311, 3) := dc_182 (show ((cX11_bestPath.data.toList.drop 23).take 3).map UInt8.toNat = [182, 1, 55] by decide +kernel) rfl
theorem dX11_bestPath_26 : decode cX11_bestPath 26 = .ok (.invokevirtual 229, 3) := dc_182 (show ((cX11_bestPath.data.toList.drop 26).take 3).map UInt8.toNat = [182, 0, 229] by decide +kernel) rfl
theorem dX11_bestPath_29 : decode cX11_bestPath 29 = .ok (.istore 5, 2) := dc_54 (show ((cX11_bestPath.data.toList.drop 29).take 2).map UInt8.toNat = [54, 5] by decide +kernel) rfl
theorem dX11_bestPath_31 : decode cX11_bestPath 31 = .ok (.iload 5, 2) := dc_21 (show ((cX11_bestPath.data.toList.drop 31).take 2).map UInt8.toNat = [21, 5] by decide +kernel) rfl
theorem dX11_bestPath_33 : decode cX11_bestPath 33 = .ok (.iload_n 2, 1) := dc_28 (show ((cX11_bestPath.data.toList.drop 33).take 1).map UInt8.toNat = [28] by decide +kernel)
theorem dX11_bestPath_34 : decode cX11_bestPath 34 = .ok (.if_icmp .le 9, 3) := dc_164 (show ((cX11_bestPath.data.toList.drop 34).take 3).map UInt8.toNat = [164, 0, 9] by decide +kernel) rfl
theorem dX11_bestPath_43 : decode cX11_bestPath 43 = .ok (.iinc 4 1, 3) := dc_132 (show ((cX11_bestPath.data.toList.drop 43).take 3).map UInt8.toNat = [132, 4, 1] by decide +kernel) rfl
theorem dX11_bestPath_46 : decode cX11_bestPath 46 = .ok (.goto (-39), 3) := dc_167 (show ((cX11_bestPath.data.toList.drop 46).take 3).map UInt8.toNat = [167, 255, 217] by decide +kernel) rfl
theorem dX11_bestPath_37 : decode cX11_bestPath 37 = .ok (.iload 5, 2) := dc_21 (show ((cX11_bestPath.data.toList.drop 37).take 2).map UInt8.toNat = [21, 5] by decide +kernel) rfl
theorem dX11_bestPath_39 : decode cX11_bestPath 39 = .ok (.istore_n 2, 1) := dc_61 (show ((cX11_bestPath.data.toList.drop 39).take 1).map UInt8.toNat = [61] by decide +kernel)
theorem dX11_bestPath_40 : decode cX11_bestPath 40 = .ok (.iload 4, 2) := dc_21 (show ((cX11_bestPath.data.toList.drop 40).take 2).map UInt8.toNat = [21, 4] by decide +kernel) rfl
theorem dX11_bestPath_42 : decode cX11_bestPath 42 = .ok (.istore_n 3, 1) := dc_62 (show ((cX11_bestPath.data.toList.drop 42).take 1).map UInt8.toNat = [62] by decide +kernel)
def cs_Face_bestPath_B_7 (n : Nat) : Nat → gb_S → Nat → Int32 → Int32 → Int32 → Int32 → gb_CR Int32
  | 0, _, _, _, _, _, _ => none
  | mm + 1, σ, v0, v1, v2, v3, v4 => gb_kk (gb_kB v0) (gb_cd (cs_Border_paths_B n σ v0) (fun s_3 r_4 => (if r_4 ≤ v4 then some (s_3, v3) else gb_cd (cs_Border_marksFirst_B n s_3 v0 v1 v4) (fun s_8 r_9 => gb_cd (cs_Border_payOf_B n s_8 v0 v4 r_9) (fun s_12 r_13 => (if r_13 ≤ v2 then gb_lt (v4 + 1) (fun x_17 => cs_Face_bestPath_B_7 n mm s_12 v0 v1 v2 v3 x_17) else gb_lt (v4 + 1) (fun x_18 => cs_Face_bestPath_B_7 n mm s_12 v0 v1 r_13 v4 x_18)))))))
def cs_Face_bestPath_B (n : Nat) (σ : gb_S) (p1 : Nat) (p2 : Int32) : gb_CR Int32 := gb_kk (gb_kB p1) (cs_Face_bestPath_B_7 n n σ p1 p2 (-1) (-1) 0)
set_option maxHeartbeats 8000000 in
set_option maxRecDepth 100000 in
theorem cc_Face_bestPath_B (l : Launch) (D : va_G) (cT : Nat → ClassId) (tt : Nat → Nat) (b1 b : Nat) (hb1 : b1 ≤ b) (n : Nat) (σ : gb_S) (p1 : Nat) (p2 : Int32) (σE : gb_S) (rE : Int32) (h : cs_Face_bestPath_B n σ p1 p2 = some (σE, rE)) : Met l yX11_bestPath (.code yX11_bestPath cX11_bestPath 6 (some FieldType.int) :: gb_wA) ({ frames := 3, cells := 0, slots := 0, locals := 70 }) (gb_Pc D cT tt b1 [.ref (b + p1), .int p2] (fun h => va_P D vwCl (gb_wl b (gb_CW cT b σ)) h)) (gb_Qi (fun r h => r = rE ∧ va_P D vwCl (gb_wl b (gb_CW cT b σE)) h) (gb_fr b 135)) 0 0 (gb_fr b 135) := by
  refine Met.ofW (cc := cX11_bestPath) (maxL := 6) (ret := (some FieldType.int)) (by decide) rfl ?_
  intro p e s m args below meth c s₁ B hml hv
  obtain ⟨rfl, hSt, hP⟩ := hv
  have hx := B.exec
  have hb := B.bytes
  have hr := B.returns
  have hts := atoms_spec (ws := .code yX11_bestPath cX11_bestPath 6 (some FieldType.int) :: gb_wA) B.pre
  have hq : ∀ w ∈ gb_wA, w.before _ s = true := fun w h => hts w (List.mem_cons_of_mem _ h)
  have hown : s.vm.findClass RX11 = some m.cls := findClass_of_methodNamed B.named
  have hlocks := B.notSynchronized
  clear B hts
  have hK := hSt.1
  have hS : va_S (gb_fr b 135) s.heap s.heap [] := va_S.rf
  have hl := lv_entry ([.ref (b + p1), .int p2]) (n := 6) (Nat.le_of_ble_eq_true rfl)
  rw [lg_entry_eq]
  generalize (lg_sl ([.ref (b + p1), .int p2]) ++ List.replicate (6 - (lg_sl ([.ref (b + p1), .int p2])).length) Slot.unset).toArray = ls at hl ⊢
  replace hl : lv_has ls 6 [(0, .ref (b + p1)), (1, .int p2)] := hl
  have L7_1 : ∀ (mm : Nat) (σ : gb_S) (v0 : Nat) (v1 : Int32) (v2 : Int32) (v3 : Int32) (v4 : Int32) (H : Heap) (locs : List Loc) (ls : Array Slot), cs_Face_bestPath_B_7 n mm σ v0 v1 v2 v3 v4 = some (σE, rE) → va_P D vwCl (gb_wl b (gb_CW cT b σ)) H → va_S (gb_fr b 135) s.heap H locs → lv_has ls 6 [(0, .ref (b + v0)), (1, .int v1), (2, .int v2), (3, .int v3), (4, .int v4)] → W p l e (headSpec (.code yX11_bestPath cX11_bestPath 6 (some FieldType.int) :: gb_wA) ({ frames := 3, cells := 0, slots := 0, locals := 70 })).room s m ([.ref (b + p1), .int p2]).toArray below meth c H locs 0 0 (MQ below (gb_Qi (fun r h => r = rE ∧ va_P D vwCl (gb_wl b (gb_CW cT b σE)) h) (gb_fr b 135)) ([.ref (b + p1), .int p2]).toArray s 0 0 (gb_fr b 135)) (F0 m 7 ls []) := by
    clear h hP hS hl ls
    intro mm
    induction mm with
    | zero =>
      intro σ v0 v1 v2 v3 v4 H locs ls h
      cases h
    | succ mm ih =>
      intro σ v0 v1 v2 v3 v4 H locs ls h hP hS hl
      rw [cs_Face_bestPath_B_7] at h
      obtain ⟨z_2, h⟩ := gb_kk_s h
      refine lv_iload hx hb dX11_bestPath_7 (lv_at hl 4 rfl) ?_
      refine lv_aload_n hx hb dX11_bestPath_9 rfl (lv_at hl 0 rfl) ?_
      obtain ⟨s_3, r_4, z_5, h⟩ := gb_cd_s h
      refine gb_calli (va_runV (C := RX0) (As := []) (rest := [.int v4]) ⟨hx, hb, hml, hown, hq⟩ (cc_Border_paths_B l D cT tt b1 b hb1 n σ v0 s_3 r_4 z_5) (cwV 0 hq (gb_gV w_597 w_473 w_474 w_4 w_475) rfl rfl rfl (by decide +kernel) ⟨Nat.le_of_ble_eq_true rfl, Nat.le_of_ble_eq_true rfl⟩) (gb_preV (r := (RX0, TX0, 1)) (ci := 0) (q0 := v0) hSt hP rfl (gb_at b (gb_cB z_2).1) hS (fun q h => Nat.le_trans hb1 h.1) hP) rfl rfl hl.1 rfl (lv_room (Nat.le_of_ble_eq_true rfl)) dX11_bestPath_10 ⟨Nat.le_of_ble_eq_true rfl, Nat.le_of_ble_eq_true rfl⟩) hS (fun _ h => h) (fun _ h => h) (fun q_6 H locs hY hk hS => ?_)
      obtain ⟨hq_6, hP⟩ := hY
      replace hq_6 := hq_6.symm
      subst hq_6
      refine lv_icmp_ge (tgt := 49) hx hb dX11_bestPath_13 (by decide) (fun c_7 => ?_) (fun c_7 => ?_)
      · rw [if_pos c_7] at h
        refine lv_iload_n hx hb dX11_bestPath_49 rfl (lv_at hl 3 rfl) ?_
        obtain ⟨e1, e2⟩ := gb_eq2 h
        exact W.iret (v := v3) hx hb hr (fun t ht hW => gb_ri ht ⟨e2, by rw [← e1]; exact hP⟩ hS) hS.2.2 dX11_bestPath_50
      · rw [if_neg c_7] at h
        refine lv_aload_n hx hb dX11_bestPath_16 rfl (lv_at hl 0 rfl) ?_
        refine lv_iload hx hb dX11_bestPath_17 (lv_at hl 4 rfl) ?_
        refine lv_aload_n hx hb dX11_bestPath_19 rfl (lv_at hl 0 rfl) ?_
        refine lv_iload_n hx hb dX11_bestPath_20 rfl (lv_at hl 1 rfl) ?_
        refine lv_iload hx hb dX11_bestPath_21 (lv_at hl 4 rfl) ?_
        obtain ⟨s_8, r_9, z_10, h⟩ := gb_cd_s h
        refine gb_calli (va_runV (C := RX0) (As := [.int v1, .int v4]) (rest := [.int v4, .ref (b + v0)]) ⟨hx, hb, hml, hown, hq⟩ (cc_Border_marksFirst_B l D cT tt b1 b hb1 n s_3 v0 v1 v4 s_8 r_9 z_10) (cwV 2 hq (gb_gV w_963 w_899 w_900 w_4 w_901) rfl rfl rfl (by decide +kernel) ⟨Nat.le_of_ble_eq_true rfl, Nat.le_of_ble_eq_true rfl⟩) (gb_preV (r := (RX0, TX0, 1)) (ci := 0) (q0 := v0) hSt hP rfl (gb_at b (gb_cB z_2).1) hS (fun q h => Nat.le_trans hb1 h.1) hP) rfl rfl hl.1 rfl (lv_room (Nat.le_of_ble_eq_true rfl)) dX11_bestPath_23 ⟨Nat.le_of_ble_eq_true rfl, Nat.le_of_ble_eq_true rfl⟩) hS (fun _ h => h) (fun _ h => h) (fun q_11 H locs hY hk hS => ?_)
        obtain ⟨hq_11, hP⟩ := hY
        replace hq_11 := hq_11.symm
        subst hq_11
        obtain ⟨s_12, r_13, z_14, h⟩ := gb_cd_s h
        refine gb_calli (va_runV (C := RX0) (As := [.int v4, .int r_9]) (rest := []) ⟨hx, hb, hml, hown, hq⟩ (cc_Border_payOf_B l D cT tt b1 b hb1 n s_8 v0 v4 r_9 s_12 r_13 z_14) (cwV 2 hq (gb_gV w_783 w_784 w_785 w_4 w_786) rfl rfl rfl (by decide +kernel) ⟨Nat.le_of_ble_eq_true rfl, Nat.le_of_ble_eq_true rfl⟩) (gb_preV (r := (RX0, TX0, 1)) (ci := 0) (q0 := v0) hSt hP rfl (gb_at b (gb_cB z_2).1) hS (fun q h => Nat.le_trans hb1 h.1) hP) rfl rfl hl.1 rfl (lv_room (Nat.le_of_ble_eq_true rfl)) dX11_bestPath_26 ⟨Nat.le_of_ble_eq_true rfl, Nat.le_of_ble_eq_true rfl⟩) hS (fun _ h => h) (fun _ h => h) (fun q_15 H locs hY hk hS => ?_)
        obtain ⟨hq_15, hP⟩ := hY
        replace hq_15 := hq_15.symm
        subst hq_15
        refine lv_istore (lv' := [(5, .int r_13), (0, .ref (b + v0)), (1, .int v1), (2, .int v2), (3, .int v3), (4, .int v4)]) hx hb dX11_bestPath_29 hl (by decide) rfl (fun ls hl => ?_)
        refine lv_iload hx hb dX11_bestPath_31 (lv_at hl 0 rfl) ?_
        refine lv_iload_n hx hb dX11_bestPath_33 rfl (lv_at hl 3 rfl) ?_
        refine lv_icmp_le (tgt := 43) hx hb dX11_bestPath_34 (by decide) (fun c_16 => ?_) (fun c_16 => ?_)
        · rw [if_pos c_16] at h
          obtain ⟨x_17, ex_17⟩ : ∃ q, q = (v4 + 1) := ⟨_, rfl⟩
          replace h := gb_lt_s ex_17 h
          refine lv_iinc (v := x_17) (lv' := [(4, .int x_17), (5, .int r_13), (0, .ref (b + v0)), (1, .int v1), (2, .int v2), (3, .int v3)]) hx hb dX11_bestPath_43 hl (k := 5) rfl (by rw [ex_17]; rfl) (by decide) rfl (fun ls hl => ?_)
          refine lv_goto (tgt := 7) hx hb dX11_bestPath_46 (by decide) ?_
          exact ih _ _ _ _ _ _ _ _ _ h hP hS (lv_sub hl [2, 3, 4, 5, 0] rfl)
        · rw [if_neg c_16] at h
          refine lv_iload hx hb dX11_bestPath_37 (lv_at hl 0 rfl) ?_
          refine lv_istore_n (lv' := [(2, .int r_13), (5, .int r_13), (0, .ref (b + v0)), (1, .int v1), (3, .int v3), (4, .int v4)]) hx hb dX11_bestPath_39 rfl hl (by decide) rfl (fun ls hl => ?_)
          refine lv_iload hx hb dX11_bestPath_40 (lv_at hl 5 rfl) ?_
          refine lv_istore_n (lv' := [(3, .int v4), (2, .int r_13), (5, .int r_13), (0, .ref (b + v0)), (1, .int v1), (4, .int v4)]) hx hb dX11_bestPath_42 rfl hl (by decide) rfl (fun ls hl => ?_)
          obtain ⟨x_18, ex_18⟩ : ∃ q, q = (v4 + 1) := ⟨_, rfl⟩
          replace h := gb_lt_s ex_18 h
          refine lv_iinc (v := x_18) (lv' := [(4, .int x_18), (3, .int v4), (2, .int r_13), (5, .int r_13), (0, .ref (b + v0)), (1, .int v1)]) hx hb dX11_bestPath_43 hl (k := 5) rfl (by rw [ex_18]; rfl) (by decide) rfl (fun ls hl => ?_)
          refine lv_goto (tgt := 7) hx hb dX11_bestPath_46 (by decide) ?_
          exact ih _ _ _ _ _ _ _ _ _ h hP hS (lv_sub hl [4, 5, 2, 1, 0] rfl)
  unfold cs_Face_bestPath_B at h
  obtain ⟨z_1, h⟩ := gb_kk_s h
  refine lv_iconst (v := (-1)) hx hb dX11_bestPath_0 (by decide) ?_
  refine lv_istore_n (lv' := [(2, .int (-1)), (0, .ref (b + p1)), (1, .int p2)]) hx hb dX11_bestPath_1 rfl hl (by decide) rfl (fun ls hl => ?_)
  refine lv_iconst (v := (-1)) hx hb dX11_bestPath_2 (by decide) ?_
  refine lv_istore_n (lv' := [(3, .int (-1)), (2, .int (-1)), (0, .ref (b + p1)), (1, .int p2)]) hx hb dX11_bestPath_3 rfl hl (by decide) rfl (fun ls hl => ?_)
  refine lv_iconst (v := 0) hx hb dX11_bestPath_4 (by decide) ?_
  refine lv_istore (lv' := [(4, .int 0), (3, .int (-1)), (2, .int (-1)), (0, .ref (b + p1)), (1, .int p2)]) hx hb dX11_bestPath_5 hl (by decide) rfl (fun ls hl => ?_)
  exact L7_1 n _ _ _ _ _ _ _ _ _ h hP hS (lv_sub hl [3, 4, 2, 1, 0] rfl)
theorem w_962 : (Cond.code ({ cls := "GooseBorder", name := "bestPath", desc := "(LGooseBorder$Border;I)I" } : MethodName) prog_1_method_37_code (6 : Nat) (Option.some FieldType.int)) ∈ gb_wA := gb_t5 2 rfl rfl
theorem w_960 : (Cond.methodLink "GooseBorder" (307 : Nat) ({ cls := "GooseBorder", name := "bestPath", desc := "(LGooseBorder$Border;I)I" } : MethodName)) ∈ gb_wA := gb_t5 0 rfl rfl
theorem w_961 : (Cond.static ({ cls := "GooseBorder", name := "bestPath", desc := "(LGooseBorder$Border;I)I" } : MethodName)) ∈ gb_wA := gb_t5 1 rfl rfl
theorem dX11_lame_39 : decode cX11_lame 39 = .ok (.goto 4, 3) := dc_167 (show ((cX11_lame.data.toList.drop 39).take 3).map UInt8.toNat = [167, 0, 4] by decide +kernel) rfl
def cs_Face_lame_64 (n : Nat) : Nat → gb_S → Int32 → Nat → Int32 → Int32 → Int32 → gb_CR Int32
  | 0, _, _, _, _, _, _ => none
  | mm + 1, σ, v2, v4, v5, v6, v7 => gb_kk (gb_kB v4) (gb_cd (cs_Border_geese_B n σ v4) (fun s_14 r_15 => (if r_15 ≤ v7 then gb_cd (cs_Border_payOf_B n s_14 v4 v2 v5) (fun s_19 r_20 => gb_cd (cs_Border_payOf_B n s_19 v4 v2 v6) (fun s_23 r_24 => some (s_23, (r_20 - r_24)))) else gb_cd (cs_Border_marksFirst_B n s_14 v4 v7 v2) (fun s_27 r_28 => gb_lt (v5 + r_28) (fun x_31 => gb_cd (cs_Border_limps_B n s_27 v4 v7) (fun s_32 r_33 => (if r_33 = 0 then gb_lt (v6 + r_28) (fun x_37 => gb_lt (v7 + 1) (fun x_38 => cs_Face_lame_64 n mm s_32 v2 v4 x_31 x_37 x_38)) else gb_lt (r_28 / 2) (fun x_39 => gb_lt (v6 + x_39) (fun x_40 => gb_lt (v7 + 1) (fun x_41 => cs_Face_lame_64 n mm s_32 v2 v4 x_31 x_40 x_41))))))))))
def cs_Face_lame (n : Nat) (σ : gb_S) (p1 : Int32) (p2 : Int32) (p3 : Int32) : gb_CR Int32 := gb_cd (cs_Face_borderAt n σ p1) (fun s_1 r_2 => (if r_2 = 0 then some (s_1, (-1)) else gb_kk (gb_kB r_2) ((if p3 < 0 then gb_cd (cs_Border_hasPath_B n s_1 r_2 p2) (fun s_8 r_9 => (if r_9 = 0 then some (s_8, (-1)) else cs_Face_lame_64 n n s_8 p2 r_2 0 0 0)) else (if (8 : Int32) ≤ p3 then gb_cd (cs_Border_hasPath_B n s_1 r_2 p2) (fun s_43 r_44 => (if r_44 = 0 then some (s_43, (-1)) else cs_Face_lame_64 n n s_43 p2 r_2 0 0 0)) else gb_cd (cs_Border_hasGoose_B n s_1 r_2 p3) (fun s_48 r_49 => (if r_49 = 0 then some (s_48, (-1)) else gb_cd (cs_Face_bestPath_B n s_48 r_2 p3) (fun s_53 r_54 => some (s_53, r_54)))))))))
set_option maxHeartbeats 8000000 in
set_option maxRecDepth 100000 in
theorem cc_Face_lame (l : Launch) (D : va_G) (cT : Nat → ClassId) (tt : Nat → Nat) (b1 b : Nat) (hb1 : b1 ≤ b) (n : Nat) (σ : gb_S) (p1 : Int32) (p2 : Int32) (p3 : Int32) (σE : gb_S) (rE : Int32) (h : cs_Face_lame n σ p1 p2 p3 = some (σE, rE)) : Met l yX11_lame (.code yX11_lame cX11_lame 9 (some FieldType.int) :: gb_wA) ({ frames := 4, cells := 0, slots := 0, locals := 95 }) (gb_Pc D cT tt b1 [.ref (b + 0), .int p1, .int p2, .int p3] (fun h => va_P D vwCl (gb_wl b (gb_CW cT b σ)) h)) (gb_Qi (fun r h => r = rE ∧ va_P D vwCl (gb_wl b (gb_CW cT b σE)) h) (gb_fr b 135)) 0 0 (gb_fr b 135) := by
  refine Met.ofW (cc := cX11_lame) (maxL := 9) (ret := (some FieldType.int)) (by decide) rfl ?_
  intro p e s m args below meth c s₁ B hml hv
  obtain ⟨rfl, hSt, hP⟩ := hv
  have hx := B.exec
  have hb := B.bytes
  have hr := B.returns
  have hts := atoms_spec (ws := .code yX11_lame cX11_lame 9 (some FieldType.int) :: gb_wA) B.pre
  have hq : ∀ w ∈ gb_wA, w.before _ s = true := fun w h => hts w (List.mem_cons_of_mem _ h)
  have hown : s.vm.findClass RX11 = some m.cls := findClass_of_methodNamed B.named
  have hlocks := B.notSynchronized
  clear B hts
  have hK := hSt.1
  have hS : va_S (gb_fr b 135) s.heap s.heap [] := va_S.rf
  have hl := lv_entry ([.ref (b + 0), .int p1, .int p2, .int p3]) (n := 9) (Nat.le_of_ble_eq_true rfl)
  rw [lg_entry_eq]
  generalize (lg_sl ([.ref (b + 0), .int p1, .int p2, .int p3]) ++ List.replicate (9 - (lg_sl ([.ref (b + 0), .int p1, .int p2, .int p3])).length) Slot.unset).toArray = ls at hl ⊢
  replace hl : lv_has ls 9 [(0, .ref (b + 0)), (1, .int p1), (2, .int p2), (3, .int p3)] := hl
  have L64_1 : ∀ (mm : Nat) (σ : gb_S) (v2 : Int32) (v4 : Nat) (v5 : Int32) (v6 : Int32) (v7 : Int32) (H : Heap) (locs : List Loc) (ls : Array Slot), cs_Face_lame_64 n mm σ v2 v4 v5 v6 v7 = some (σE, rE) → va_P D vwCl (gb_wl b (gb_CW cT b σ)) H → va_S (gb_fr b 135) s.heap H locs → lv_has ls 9 [(2, .int v2), (4, .ref (b + v4)), (5, .int v5), (6, .int v6), (7, .int v7)] → W p l e (headSpec (.code yX11_lame cX11_lame 9 (some FieldType.int) :: gb_wA) ({ frames := 4, cells := 0, slots := 0, locals := 95 })).room s m ([.ref (b + 0), .int p1, .int p2, .int p3]).toArray below meth c H locs 0 0 (MQ below (gb_Qi (fun r h => r = rE ∧ va_P D vwCl (gb_wl b (gb_CW cT b σE)) h) (gb_fr b 135)) ([.ref (b + 0), .int p1, .int p2, .int p3]).toArray s 0 0 (gb_fr b 135)) (F0 m 64 ls []) := by
    clear h hP hS hl ls
    intro mm
    induction mm with
    | zero =>
      intro σ v2 v4 v5 v6 v7 H locs ls h
      cases h
    | succ mm ih =>
      intro σ v2 v4 v5 v6 v7 H locs ls h hP hS hl
      rw [cs_Face_lame_64] at h
      obtain ⟨z_13, h⟩ := gb_kk_s h
      refine lv_iload hx hb dX11_lame_64 (lv_at hl 4 rfl) ?_
      refine lv_aload hx hb dX11_lame_66 (lv_at hl 1 rfl) ?_
      obtain ⟨s_14, r_15, z_16, h⟩ := gb_cd_s h
      refine gb_calli (va_runV (C := RX0) (As := []) (rest := [.int v7]) ⟨hx, hb, hml, hown, hq⟩ (cc_Border_geese_B l D cT tt b1 b hb1 n σ v4 s_14 r_15 z_16) (cwV 0 hq (gb_gV w_598 w_477 w_478 w_4 w_479) rfl rfl rfl (by decide +kernel) ⟨Nat.le_of_ble_eq_true rfl, Nat.le_of_ble_eq_true rfl⟩) (gb_preV (r := (RX0, TX0, 1)) (ci := 0) (q0 := v4) hSt hP rfl (gb_at b (gb_cB z_13).1) hS (fun q h => Nat.le_trans hb1 h.1) hP) rfl rfl hl.1 rfl (lv_room (Nat.le_of_ble_eq_true rfl)) dX11_lame_68 ⟨Nat.le_of_ble_eq_true rfl, Nat.le_of_ble_eq_true rfl⟩) hS (fun _ h => h) (fun _ h => h) (fun q_17 H locs hY hk hS => ?_)
      obtain ⟨hq_17, hP⟩ := hY
      replace hq_17 := hq_17.symm
      subst hq_17
      refine lv_icmp_ge (tgt := 121) hx hb dX11_lame_71 (by decide) (fun c_18 => ?_) (fun c_18 => ?_)
      · rw [if_pos c_18] at h
        refine lv_aload hx hb dX11_lame_121 (lv_at hl 1 rfl) ?_
        refine lv_iload_n hx hb dX11_lame_123 rfl (lv_at hl 0 rfl) ?_
        refine lv_iload hx hb dX11_lame_124 (lv_at hl 2 rfl) ?_
        obtain ⟨s_19, r_20, z_21, h⟩ := gb_cd_s h
        refine gb_calli (va_runV (C := RX0) (As := [.int v2, .int v5]) (rest := []) ⟨hx, hb, hml, hown, hq⟩ (cc_Border_payOf_B l D cT tt b1 b hb1 n s_14 v4 v2 v5 s_19 r_20 z_21) (cwV 2 hq (gb_gV w_783 w_784 w_785 w_4 w_786) rfl rfl rfl (by decide +kernel) ⟨Nat.le_of_ble_eq_true rfl, Nat.le_of_ble_eq_true rfl⟩) (gb_preV (r := (RX0, TX0, 1)) (ci := 0) (q0 := v4) hSt hP rfl (gb_at b (gb_cB z_13).1) hS (fun q h => Nat.le_trans hb1 h.1) hP) rfl rfl hl.1 rfl (lv_room (Nat.le_of_ble_eq_true rfl)) dX11_lame_126 ⟨Nat.le_of_ble_eq_true rfl, Nat.le_of_ble_eq_true rfl⟩) hS (fun _ h => h) (fun _ h => h) (fun q_22 H locs hY hk hS => ?_)
        obtain ⟨hq_22, hP⟩ := hY
        replace hq_22 := hq_22.symm
        subst hq_22
        refine lv_aload hx hb dX11_lame_129 (lv_at hl 1 rfl) ?_
        refine lv_iload_n hx hb dX11_lame_131 rfl (lv_at hl 0 rfl) ?_
        refine lv_iload hx hb dX11_lame_132 (lv_at hl 3 rfl) ?_
        obtain ⟨s_23, r_24, z_25, h⟩ := gb_cd_s h
        refine gb_calli (va_runV (C := RX0) (As := [.int v2, .int v6]) (rest := [.int r_20]) ⟨hx, hb, hml, hown, hq⟩ (cc_Border_payOf_B l D cT tt b1 b hb1 n s_19 v4 v2 v6 s_23 r_24 z_25) (cwV 2 hq (gb_gV w_783 w_784 w_785 w_4 w_786) rfl rfl rfl (by decide +kernel) ⟨Nat.le_of_ble_eq_true rfl, Nat.le_of_ble_eq_true rfl⟩) (gb_preV (r := (RX0, TX0, 1)) (ci := 0) (q0 := v4) hSt hP rfl (gb_at b (gb_cB z_13).1) hS (fun q h => Nat.le_trans hb1 h.1) hP) rfl rfl hl.1 rfl (lv_room (Nat.le_of_ble_eq_true rfl)) dX11_lame_134 ⟨Nat.le_of_ble_eq_true rfl, Nat.le_of_ble_eq_true rfl⟩) hS (fun _ h => h) (fun _ h => h) (fun q_26 H locs hY hk hS => ?_)
        obtain ⟨hq_26, hP⟩ := hY
        replace hq_26 := hq_26.symm
        subst hq_26
        refine lv_isub hx hb dX11_lame_137 ?_
        obtain ⟨e1, e2⟩ := gb_eq2 h
        exact W.iret (v := (r_20 - r_24)) hx hb hr (fun t ht hW => gb_ri ht ⟨e2, by rw [← e1]; exact hP⟩ hS) hS.2.2 dX11_lame_138
      · rw [if_neg c_18] at h
        refine lv_aload hx hb dX11_lame_74 (lv_at hl 1 rfl) ?_
        refine lv_iload hx hb dX11_lame_76 (lv_at hl 4 rfl) ?_
        refine lv_iload_n hx hb dX11_lame_78 rfl (lv_at hl 0 rfl) ?_
        obtain ⟨s_27, r_28, z_29, h⟩ := gb_cd_s h
        refine gb_calli (va_runV (C := RX0) (As := [.int v7, .int v2]) (rest := []) ⟨hx, hb, hml, hown, hq⟩ (cc_Border_marksFirst_B l D cT tt b1 b hb1 n s_14 v4 v7 v2 s_27 r_28 z_29) (cwV 2 hq (gb_gV w_963 w_899 w_900 w_4 w_901) rfl rfl rfl (by decide +kernel) ⟨Nat.le_of_ble_eq_true rfl, Nat.le_of_ble_eq_true rfl⟩) (gb_preV (r := (RX0, TX0, 1)) (ci := 0) (q0 := v4) hSt hP rfl (gb_at b (gb_cB z_13).1) hS (fun q h => Nat.le_trans hb1 h.1) hP) rfl rfl hl.1 rfl (lv_room (Nat.le_of_ble_eq_true rfl)) dX11_lame_79 ⟨Nat.le_of_ble_eq_true rfl, Nat.le_of_ble_eq_true rfl⟩) hS (fun _ h => h) (fun _ h => h) (fun q_30 H locs hY hk hS => ?_)
        obtain ⟨hq_30, hP⟩ := hY
        replace hq_30 := hq_30.symm
        subst hq_30
        refine lv_istore (lv' := [(8, .int r_28), (2, .int v2), (4, .ref (b + v4)), (5, .int v5), (6, .int v6), (7, .int v7)]) hx hb dX11_lame_82 hl (by decide) rfl (fun ls hl => ?_)
        refine lv_iload hx hb dX11_lame_84 (lv_at hl 3 rfl) ?_
        refine lv_iload hx hb dX11_lame_86 (lv_at hl 0 rfl) ?_
        refine lv_iadd hx hb dX11_lame_88 ?_
        refine lv_topi (fun x_31 ex_31 => ?_)
        replace h := gb_lt_s ex_31 h
        refine lv_istore (lv' := [(5, .int x_31), (8, .int r_28), (2, .int v2), (4, .ref (b + v4)), (6, .int v6), (7, .int v7)]) hx hb dX11_lame_89 hl (by decide) rfl (fun ls hl => ?_)
        refine lv_iload hx hb dX11_lame_91 (lv_at hl 4 rfl) ?_
        refine lv_aload hx hb dX11_lame_93 (lv_at hl 3 rfl) ?_
        refine lv_iload hx hb dX11_lame_95 (lv_at hl 5 rfl) ?_
        obtain ⟨s_32, r_33, z_34, h⟩ := gb_cd_s h
        refine gb_calli (va_runV (C := RX0) (As := [.int v7]) (rest := [.int v6]) ⟨hx, hb, hml, hown, hq⟩ (cc_Border_limps_B l D cT tt b1 b hb1 n s_27 v4 v7 s_32 r_33 z_34) (cwV 1 hq (gb_gV w_964 w_639 w_640 w_4 w_641) rfl rfl rfl (by decide +kernel) ⟨Nat.le_of_ble_eq_true rfl, Nat.le_of_ble_eq_true rfl⟩) (gb_preV (r := (RX0, TX0, 1)) (ci := 0) (q0 := v4) hSt hP rfl (gb_at b (gb_cB z_13).1) hS (fun q h => Nat.le_trans hb1 h.1) hP) rfl rfl hl.1 rfl (lv_room (Nat.le_of_ble_eq_true rfl)) dX11_lame_97 ⟨Nat.le_of_ble_eq_true rfl, Nat.le_of_ble_eq_true rfl⟩) hS (fun _ h => h) (fun _ h => h) (fun q_35 H locs hY hk hS => ?_)
        obtain ⟨hq_35, hP⟩ := hY
        replace hq_35 := hq_35.symm
        subst hq_35
        refine lv_if_eq (tgt := 110) hx hb dX11_lame_100 (by decide) (fun c_36 => ?_) (fun c_36 => ?_)
        · rw [if_pos c_36] at h
          refine lv_iload hx hb dX11_lame_110 (lv_at hl 1 rfl) ?_
          refine lv_iadd hx hb dX11_lame_112 ?_
          refine lv_topi (fun x_37 ex_37 => ?_)
          replace h := gb_lt_s ex_37 h
          refine lv_istore (lv' := [(6, .int x_37), (5, .int x_31), (8, .int r_28), (2, .int v2), (4, .ref (b + v4)), (7, .int v7)]) hx hb dX11_lame_113 hl (by decide) rfl (fun ls hl => ?_)
          obtain ⟨x_38, ex_38⟩ : ∃ q, q = (v7 + 1) := ⟨_, rfl⟩
          replace h := gb_lt_s ex_38 h
          refine lv_iinc (v := x_38) (lv' := [(7, .int x_38), (6, .int x_37), (5, .int x_31), (8, .int r_28), (2, .int v2), (4, .ref (b + v4))]) hx hb dX11_lame_115 hl (k := 5) rfl (by rw [ex_38]; rfl) (by decide) rfl (fun ls hl => ?_)
          refine lv_goto (tgt := 64) hx hb dX11_lame_118 (by decide) ?_
          exact ih _ _ _ _ _ _ _ _ _ h hP hS (lv_sub hl [4, 5, 2, 1, 0] rfl)
        · rw [if_neg c_36] at h
          refine lv_iload hx hb dX11_lame_103 (lv_at hl 1 rfl) ?_
          refine lv_iconst (v := 2) hx hb dX11_lame_105 (by decide) ?_
          refine lv_idiv hx hb dX11_lame_106 (by decide) ?_
          refine lv_topi (fun x_39 ex_39 => ?_)
          replace h := gb_lt_s ex_39 h
          refine lv_goto (tgt := 112) hx hb dX11_lame_107 (by decide) ?_
          refine lv_iadd hx hb dX11_lame_112 ?_
          refine lv_topi (fun x_40 ex_40 => ?_)
          replace h := gb_lt_s ex_40 h
          refine lv_istore (lv' := [(6, .int x_40), (5, .int x_31), (8, .int r_28), (2, .int v2), (4, .ref (b + v4)), (7, .int v7)]) hx hb dX11_lame_113 hl (by decide) rfl (fun ls hl => ?_)
          obtain ⟨x_41, ex_41⟩ : ∃ q, q = (v7 + 1) := ⟨_, rfl⟩
          replace h := gb_lt_s ex_41 h
          refine lv_iinc (v := x_41) (lv' := [(7, .int x_41), (6, .int x_40), (5, .int x_31), (8, .int r_28), (2, .int v2), (4, .ref (b + v4))]) hx hb dX11_lame_115 hl (k := 5) rfl (by rw [ex_41]; rfl) (by decide) rfl (fun ls hl => ?_)
          refine lv_goto (tgt := 64) hx hb dX11_lame_118 (by decide) ?_
          exact ih _ _ _ _ _ _ _ _ _ h hP hS (lv_sub hl [4, 5, 2, 1, 0] rfl)
  unfold cs_Face_lame at h
  refine lv_aload_n hx hb dX11_lame_0 rfl (lv_at hl 0 rfl) ?_
  refine lv_iload_n hx hb dX11_lame_1 rfl (lv_at hl 1 rfl) ?_
  obtain ⟨s_1, r_2, z_3, h⟩ := gb_cd_s h
  refine gb_callq (va_runV (C := RX11) (As := [.int p1]) (rest := []) ⟨hx, hb, hml, hown, hq⟩ (cc_Face_borderAt l D cT tt b1 b hb1 n σ p1 s_1 r_2 z_3) (cwV 1 hq (gb_gV w_593 w_595 s_1_7 w_1 w_596) rfl rfl rfl (by decide +kernel) ⟨Nat.le_of_ble_eq_true rfl, Nat.le_of_ble_eq_true rfl⟩) (gb_preV (r := (RX11, TX11, 10)) (ci := 9) (q0 := 0) hSt hP rfl (gb_at b rfl) hS (fun q h => Nat.le_trans hb1 h.1) hP) rfl rfl hl.1 rfl (lv_room (Nat.le_of_ble_eq_true rfl)) dX11_lame_2 ⟨Nat.le_of_ble_eq_true rfl, Nat.le_of_ble_eq_true rfl⟩) hS (fun _ h => h) (fun _ h => h) (fun q_4 H locs hY hk hS => ?_)
  obtain ⟨hq_4, hP⟩ := hY
  subst hq_4
  rw [gb_onv]
  by_cases c_5 : r_2 = 0
  · rw [if_pos c_5] at h
    rw [gb_nv0 c_5]
    refine lv_astoreN (lv' := [(4, .null), (0, .ref (b + 0)), (1, .int p1), (2, .int p2), (3, .int p3)]) hx hb dX11_lame_5 hl (by decide) rfl (fun ls hl => ?_)
    refine lv_aloadN hx hb dX11_lame_7 (lv_at hl 0 rfl) ?_
    refine lv_ifnonnullN hx hb dX11_lame_9 ?_
    refine lv_iconst (v := (-1)) hx hb dX11_lame_12 (by decide) ?_
    obtain ⟨e1, e2⟩ := gb_eq2 h
    exact W.iret (v := (-1)) hx hb hr (fun t ht hW => gb_ri ht ⟨e2, by rw [← e1]; exact hP⟩ hS) hS.2.2 dX11_lame_13
  rw [if_neg c_5] at h
  rw [gb_nv1 c_5]
  obtain ⟨z_6, h⟩ := gb_kk_s h
  refine lv_astore (lv' := [(4, .ref (b + r_2)), (0, .ref (b + 0)), (1, .int p1), (2, .int p2), (3, .int p3)]) hx hb dX11_lame_5 hl (by decide) rfl (fun ls hl => ?_)
  refine lv_aload hx hb dX11_lame_7 (lv_at hl 0 rfl) ?_
  refine lv_ifnonnull (tgt := 14) hx hb dX11_lame_9 (by decide) ?_
  refine lv_iload_n hx hb dX11_lame_14 rfl (lv_at hl 4 rfl) ?_
  refine lv_if_lt (tgt := 44) hx hb dX11_lame_15 (by decide) (fun c_7 => ?_) (fun c_7 => ?_)
  · rw [if_pos c_7] at h
    refine lv_aload hx hb dX11_lame_44 (lv_at hl 0 rfl) ?_
    refine lv_iload_n hx hb dX11_lame_46 rfl (lv_at hl 3 rfl) ?_
    obtain ⟨s_8, r_9, z_10, h⟩ := gb_cd_s h
    refine gb_calli (va_runV (C := RX0) (As := [.int p2]) (rest := []) ⟨hx, hb, hml, hown, hq⟩ (cc_Border_hasPath_B l D cT tt b1 b hb1 n s_1 r_2 p2 s_8 r_9 z_10) (cwV 1 hq (gb_gV w_620 w_608 w_609 w_4 w_610) rfl rfl rfl (by decide +kernel) ⟨Nat.le_of_ble_eq_true rfl, Nat.le_of_ble_eq_true rfl⟩) (gb_preV (r := (RX0, TX0, 1)) (ci := 0) (q0 := r_2) hSt hP rfl (gb_at b (gb_cB z_6).1) hS (fun q h => Nat.le_trans hb1 h.1) hP) rfl rfl hl.1 rfl (lv_room (Nat.le_of_ble_eq_true rfl)) dX11_lame_47 ⟨Nat.le_of_ble_eq_true rfl, Nat.le_of_ble_eq_true rfl⟩) hS (fun _ h => h) (fun _ h => h) (fun q_11 H locs hY hk hS => ?_)
    obtain ⟨hq_11, hP⟩ := hY
    replace hq_11 := hq_11.symm
    subst hq_11
    refine lv_if_ne (tgt := 55) hx hb dX11_lame_50 (by decide) (fun c_12 => ?_) (fun c_12 => ?_)
    · rw [if_neg c_12] at h
      refine lv_iconst (v := 0) hx hb dX11_lame_55 (by decide) ?_
      refine lv_istore (lv' := [(5, .int 0), (4, .ref (b + r_2)), (0, .ref (b + 0)), (1, .int p1), (2, .int p2), (3, .int p3)]) hx hb dX11_lame_56 hl (by decide) rfl (fun ls hl => ?_)
      refine lv_iconst (v := 0) hx hb dX11_lame_58 (by decide) ?_
      refine lv_istore (lv' := [(6, .int 0), (5, .int 0), (4, .ref (b + r_2)), (0, .ref (b + 0)), (1, .int p1), (2, .int p2), (3, .int p3)]) hx hb dX11_lame_59 hl (by decide) rfl (fun ls hl => ?_)
      refine lv_iconst (v := 0) hx hb dX11_lame_61 (by decide) ?_
      refine lv_istore (lv' := [(7, .int 0), (6, .int 0), (5, .int 0), (4, .ref (b + r_2)), (0, .ref (b + 0)), (1, .int p1), (2, .int p2), (3, .int p3)]) hx hb dX11_lame_62 hl (by decide) rfl (fun ls hl => ?_)
      exact L64_1 n _ _ _ _ _ _ _ _ _ h hP hS (lv_sub hl [6, 3, 2, 1, 0] rfl)
    · rw [if_pos c_12] at h
      refine lv_iconst (v := (-1)) hx hb dX11_lame_53 (by decide) ?_
      obtain ⟨e1, e2⟩ := gb_eq2 h
      exact W.iret (v := (-1)) hx hb hr (fun t ht hW => gb_ri ht ⟨e2, by rw [← e1]; exact hP⟩ hS) hS.2.2 dX11_lame_54
  · rw [if_neg c_7] at h
    refine lv_iload_n hx hb dX11_lame_18 rfl (lv_at hl 4 rfl) ?_
    refine lv_bipush (v := 8) hx hb dX11_lame_19 (by decide) ?_
    refine lv_icmp_ge (tgt := 44) hx hb dX11_lame_21 (by decide) (fun c_42 => ?_) (fun c_42 => ?_)
    · rw [if_pos c_42] at h
      refine lv_aload hx hb dX11_lame_44 (lv_at hl 0 rfl) ?_
      refine lv_iload_n hx hb dX11_lame_46 rfl (lv_at hl 3 rfl) ?_
      obtain ⟨s_43, r_44, z_45, h⟩ := gb_cd_s h
      refine gb_calli (va_runV (C := RX0) (As := [.int p2]) (rest := []) ⟨hx, hb, hml, hown, hq⟩ (cc_Border_hasPath_B l D cT tt b1 b hb1 n s_1 r_2 p2 s_43 r_44 z_45) (cwV 1 hq (gb_gV w_620 w_608 w_609 w_4 w_610) rfl rfl rfl (by decide +kernel) ⟨Nat.le_of_ble_eq_true rfl, Nat.le_of_ble_eq_true rfl⟩) (gb_preV (r := (RX0, TX0, 1)) (ci := 0) (q0 := r_2) hSt hP rfl (gb_at b (gb_cB z_6).1) hS (fun q h => Nat.le_trans hb1 h.1) hP) rfl rfl hl.1 rfl (lv_room (Nat.le_of_ble_eq_true rfl)) dX11_lame_47 ⟨Nat.le_of_ble_eq_true rfl, Nat.le_of_ble_eq_true rfl⟩) hS (fun _ h => h) (fun _ h => h) (fun q_46 H locs hY hk hS => ?_)
      obtain ⟨hq_46, hP⟩ := hY
      replace hq_46 := hq_46.symm
      subst hq_46
      refine lv_if_ne (tgt := 55) hx hb dX11_lame_50 (by decide) (fun c_47 => ?_) (fun c_47 => ?_)
      · rw [if_neg c_47] at h
        refine lv_iconst (v := 0) hx hb dX11_lame_55 (by decide) ?_
        refine lv_istore (lv' := [(5, .int 0), (4, .ref (b + r_2)), (0, .ref (b + 0)), (1, .int p1), (2, .int p2), (3, .int p3)]) hx hb dX11_lame_56 hl (by decide) rfl (fun ls hl => ?_)
        refine lv_iconst (v := 0) hx hb dX11_lame_58 (by decide) ?_
        refine lv_istore (lv' := [(6, .int 0), (5, .int 0), (4, .ref (b + r_2)), (0, .ref (b + 0)), (1, .int p1), (2, .int p2), (3, .int p3)]) hx hb dX11_lame_59 hl (by decide) rfl (fun ls hl => ?_)
        refine lv_iconst (v := 0) hx hb dX11_lame_61 (by decide) ?_
        refine lv_istore (lv' := [(7, .int 0), (6, .int 0), (5, .int 0), (4, .ref (b + r_2)), (0, .ref (b + 0)), (1, .int p1), (2, .int p2), (3, .int p3)]) hx hb dX11_lame_62 hl (by decide) rfl (fun ls hl => ?_)
        exact L64_1 n _ _ _ _ _ _ _ _ _ h hP hS (lv_sub hl [6, 3, 2, 1, 0] rfl)
      · rw [if_pos c_47] at h
        refine lv_iconst (v := (-1)) hx hb dX11_lame_53 (by decide) ?_
        obtain ⟨e1, e2⟩ := gb_eq2 h
        exact W.iret (v := (-1)) hx hb hr (fun t ht hW => gb_ri ht ⟨e2, by rw [← e1]; exact hP⟩ hS) hS.2.2 dX11_lame_54
    · rw [if_neg c_42] at h
      refine lv_aload hx hb dX11_lame_24 (lv_at hl 0 rfl) ?_
      refine lv_iload_n hx hb dX11_lame_26 rfl (lv_at hl 4 rfl) ?_
      obtain ⟨s_48, r_49, z_50, h⟩ := gb_cd_s h
      refine gb_calli (va_runV (C := RX0) (As := [.int p3]) (rest := []) ⟨hx, hb, hml, hown, hq⟩ (cc_Border_hasGoose_B l D cT tt b1 b hb1 n s_1 r_2 p3 s_48 r_49 z_50) (cwV 1 hq (gb_gV w_619 w_612 w_613 w_4 w_614) rfl rfl rfl (by decide +kernel) ⟨Nat.le_of_ble_eq_true rfl, Nat.le_of_ble_eq_true rfl⟩) (gb_preV (r := (RX0, TX0, 1)) (ci := 0) (q0 := r_2) hSt hP rfl (gb_at b (gb_cB z_6).1) hS (fun q h => Nat.le_trans hb1 h.1) hP) rfl rfl hl.1 rfl (lv_room (Nat.le_of_ble_eq_true rfl)) dX11_lame_27 ⟨Nat.le_of_ble_eq_true rfl, Nat.le_of_ble_eq_true rfl⟩) hS (fun _ h => h) (fun _ h => h) (fun q_51 H locs hY hk hS => ?_)
      obtain ⟨hq_51, hP⟩ := hY
      replace hq_51 := hq_51.symm
      subst hq_51
      refine lv_if_eq (tgt := 42) hx hb dX11_lame_30 (by decide) (fun c_52 => ?_) (fun c_52 => ?_)
      · rw [if_pos c_52] at h
        refine lv_iconst (v := (-1)) hx hb dX11_lame_42 (by decide) ?_
        obtain ⟨e1, e2⟩ := gb_eq2 h
        exact W.iret (v := (-1)) hx hb hr (fun t ht hW => gb_ri ht ⟨e2, by rw [← e1]; exact hP⟩ hS) hS.2.2 dX11_lame_43
      · rw [if_neg c_52] at h
        refine lv_aload hx hb dX11_lame_33 (lv_at hl 0 rfl) ?_
        refine lv_iload_n hx hb dX11_lame_35 rfl (lv_at hl 4 rfl) ?_
        obtain ⟨s_53, r_54, z_55, h⟩ := gb_cd_s h
        refine gb_calli (va_runS (As := [.ref (b + r_2), .int p3]) (rest := []) ⟨hx, hb, hml, hown, hq⟩ (cc_Face_bestPath_B l D cT tt b1 b hb1 n s_48 r_2 p3 s_53 r_54 z_55) (va_cwS 2 hq (gb_gS w_960 w_961 w_1 w_962) rfl rfl rfl (by decide +kernel) ⟨Nat.le_of_ble_eq_true rfl, Nat.le_of_ble_eq_true rfl⟩) (gb_preS hSt hS (fun q h => Nat.le_trans hb1 h.1) hP) rfl rfl hl.1 rfl (lv_room (Nat.le_of_ble_eq_true rfl)) dX11_lame_36 ⟨Nat.le_of_ble_eq_true rfl, Nat.le_of_ble_eq_true rfl⟩) hS (fun _ h => h) (fun _ h => h) (fun q_56 H locs hY hk hS => ?_)
        obtain ⟨hq_56, hP⟩ := hY
        replace hq_56 := hq_56.symm
        subst hq_56
        refine lv_goto (tgt := 43) hx hb dX11_lame_39 (by decide) ?_
        obtain ⟨e1, e2⟩ := gb_eq2 h
        exact W.iret (v := r_54) hx hb hr (fun t ht hW => gb_ri ht ⟨e2, by rw [← e1]; exact hP⟩ hS) hS.2.2 dX11_lame_43
theorem dX11_two_0 : decode cX11_two 0 = .ok (.aload_n 0, 1) := dc_42 (show ((cX11_two.data.toList.drop 0).take 1).map UInt8.toNat = [42] by decide +kernel)
theorem dX11_two_1 : decode cX11_two 1 = .ok (.iload_n 1, 1) := dc_27 (show ((cX11_two.data.toList.drop 1).take 1).map UInt8.toNat = [27] by decide +kernel)
theorem dX11_two_2 : decode cX11_two 2 = .ok (.invokevirtual 113, 3) := dc_182 (show ((cX11_two.data.toList.drop 2).take 3).map UInt8.toNat = [182, 0, 113] by decide +kernel) rfl
theorem dX11_two_5 : decode cX11_two 5 = .ok (.astore 5, 2) := dc_58 (show ((cX11_two.data.toList.drop 5).take 2).map UInt8.toNat = [58, 5] by decide +kernel) rfl
theorem dX11_two_7 : decode cX11_two 7 = .ok (.aload_n 0, 1) := dc_42 (show ((cX11_two.data.toList.drop 7).take 1).map UInt8.toNat = [42] by decide +kernel)
theorem dX11_two_8 : decode cX11_two 8 = .ok (.iload_n 3, 1) := dc_29 (show ((cX11_two.data.toList.drop 8).take 1).map UInt8.toNat = [29] by decide +kernel)
theorem dX11_two_9 : decode cX11_two 9 = .ok (.invokevirtual 113, 3) := dc_182 (show ((cX11_two.data.toList.drop 9).take 3).map UInt8.toNat = [182, 0, 113] by decide +kernel) rfl
theorem dX11_two_12 : decode cX11_two 12 = .ok (.astore 6, 2) := dc_58 (show ((cX11_two.data.toList.drop 12).take 2).map UInt8.toNat = [58, 6] by decide +kernel) rfl
theorem dX11_two_14 : decode cX11_two 14 = .ok (.aload 5, 2) := dc_25 (show ((cX11_two.data.toList.drop 14).take 2).map UInt8.toNat = [25, 5] by decide +kernel) rfl
theorem dX11_two_16 : decode cX11_two 16 = .ok (.ifnull 28, 3) := dc_198 (show ((cX11_two.data.toList.drop 16).take 3).map UInt8.toNat = [198, 0, 28] by decide +kernel) rfl
theorem dX11_two_44 : decode cX11_two 44 = .ok (.iconst (-1), 1) := dc_2 (show ((cX11_two.data.toList.drop 44).take 1).map UInt8.toNat = [2] by decide +kernel)
theorem dX11_two_45 : decode cX11_two 45 = .ok (.ireturn, 1) := dc_172 (show ((cX11_two.data.toList.drop 45).take 1).map UInt8.toNat = [172] by decide +kernel)
theorem dX11_two_19 : decode cX11_two 19 = .ok (.aload 6, 2) := dc_25 (show ((cX11_two.data.toList.drop 19).take 2).map UInt8.toNat = [25, 6] by decide +kernel) rfl
theorem dX11_two_21 : decode cX11_two 21 = .ok (.ifnull 23, 3) := dc_198 (show ((cX11_two.data.toList.drop 21).take 3).map UInt8.toNat = [198, 0, 23] by decide +kernel) rfl
theorem dX11_two_24 : decode cX11_two 24 = .ok (.aload 5, 2) := dc_25 (show ((cX11_two.data.toList.drop 24).take 2).map UInt8.toNat = [25, 5] by decide +kernel) rfl
theorem dX11_two_26 : decode cX11_two 26 = .ok (.iload_n 2, 1) := dc_28 (show ((cX11_two.data.toList.drop 26).take 1).map UInt8.toNat = [28] by decide +kernel)
theorem dX11_two_27 : decode cX11_two 27 = .ok (.invokevirtual 131, 3) := dc_182 (show ((cX11_two.data.toList.drop 27).take 3).map UInt8.toNat = [182, 0, 131] by decide +kernel) rfl
theorem dX11_two_30 : decode cX11_two 30 = .ok (.ifCond .eq 14, 3) := dc_153 (show ((cX11_two.data.toList.drop 30).take 3).map UInt8.toNat = [153, 0, 14] by decide +kernel) rfl
theorem dX11_two_33 : decode cX11_two 33 = .ok (.iload 4, 2) := dc_21 (show ((cX11_two.data.toList.drop 33).take 2).map UInt8.toNat = [21, 4] by decide +kernel) rfl
theorem dX11_two_35 : decode cX11_two 35 = .ok (.ifCond .lt 9, 3) := dc_155 (show ((cX11_two.data.toList.drop 35).take 3).map UInt8.toNat = [155, 0, 9] by decide +kernel) rfl
theorem dX11_two_38 : decode cX11_two 38 = .ok (.iload 4, 2) := dc_21 (show ((cX11_two.data.toList.drop 38).take 2).map UInt8.toNat = [21, 4] by decide +kernel) rfl
theorem dX11_two_40 : decode cX11_two 40 = .ok (.iconst 2, 1) := dc_5 (show ((cX11_two.data.toList.drop 40).take 1).map UInt8.toNat = [5] by decide +kernel)
theorem dX11_two_41 : decode cX11_two 41 = .ok (.if_icmp .le 5, 3) := dc_164 (show ((cX11_two.data.toList.drop 41).take 3).map UInt8.toNat = [164, 0, 5] by decide +kernel) rfl
theorem dX11_two_46 : decode cX11_two 46 = .ok (.iconst (-1), 1) := dc_2 (show ((cX11_two.data.toList.drop 46).take 1).map UInt8.toNat = [2] by decide +kernel)
theorem dX11_two_47 : decode cX11_two 47 = .ok (.istore 7, 2) := dc_54 (show ((cX11_two.data.toList.drop 47).take 2).map UInt8.toNat = [54, 7] by decide +kernel) rfl
theorem dX11_two_49 : decode cX11_two 49 = .ok (.iconst (-1), 1) := dc_2 (show ((cX11_two.data.toList.drop 49).take 1).map UInt8.toNat = [2] by decide +kernel)
theorem dX11_two_50 : decode cX11_two 50 = .ok (.istore 8, 2) := dc_54 (show ((cX11_two.data.toList.drop 50).take 2).map UInt8.toNat = [54, 8] by decide +kernel) rfl
theorem dX11_two_52 : decode cX11_two 52 = .ok (.iconst (-1), 1) := dc_2 (show ((cX11_two.data.toList.drop 52).take 1).map UInt8.toNat = [2] by decide +kernel)
theorem dX11_two_53 : decode cX11_two 53 = .ok (.istore 9, 2) := dc_54 (show ((cX11_two.data.toList.drop 53).take 2).map UInt8.toNat = [54, 9] by decide +kernel) rfl
theorem dX11_two_55 : decode cX11_two 55 = .ok (.iconst 0, 1) := dc_3 (show ((cX11_two.data.toList.drop 55).take 1).map UInt8.toNat = [3] by decide +kernel)
theorem dX11_two_56 : decode cX11_two 56 = .ok (.istore 10, 2) := dc_54 (show ((cX11_two.data.toList.drop 56).take 2).map UInt8.toNat = [54, 10] by decide +kernel) rfl
theorem dX11_two_58 : decode cX11_two 58 = .ok (.iload 10, 2) := dc_21 (show ((cX11_two.data.toList.drop 58).take 2).map UInt8.toNat = [21, 10] by decide +kernel) rfl
theorem dX11_two_60 : decode cX11_two 60 = .ok (.aload 5, 2) := dc_25 (show ((cX11_two.data.toList.drop 60).take 2).map UInt8.toNat = [25, 5] by decide +kernel) rfl
theorem dX11_two_62 : decode cX11_two 62 = .ok (.invokevirtual 117, 3) := dc_182 (show ((cX11_two.data.toList.drop 62).take 3).map UInt8.toNat = [182, 0, 117] by decide +kernel) rfl
theorem dX11_two_65 : decode cX11_two 65 = .ok (.if_icmp .ge 112, 3) := dc_162 (show ((cX11_two.data.toList.drop 65).take 3).map UInt8.toNat = [162, 0, 112] by decide +kernel) rfl
theorem dX11_two_177 : decode cX11_two 177 = .ok (.iload 4, 2) := dc_21 (show ((cX11_two.data.toList.drop 177).take 2).map UInt8.toNat = [21, 4] by decide +kernel) rfl
theorem dX11_two_179 : decode cX11_two 179 = .ok (.ifCond .ne 8, 3) := dc_154 (show ((cX11_two.data.toList.drop 179).take 3).map UInt8.toNat = [154, 0, 8] by decide +kernel) rfl
theorem dX11_two_187 : decode cX11_two 187 = .ok (.iload 4, 2) := dc_21 (show ((cX11_two.data.toList.drop 187).take 2).map UInt8.toNat = [21, 4] by decide +kernel) rfl
theorem dX11_two_189 : decode cX11_two 189 = .ok (.iconst 1, 1) := dc_4 (show ((cX11_two.data.toList.drop 189).take 1).map UInt8.toNat = [4] by decide +kernel)
theorem dX11_two_190 : decode cX11_two 190 = .ok (.if_icmp .ne 8, 3) := dc_160 (show ((cX11_two.data.toList.drop 190).take 3).map UInt8.toNat = [160, 0, 8] by decide +kernel) rfl
theorem dX11_two_198 : decode cX11_two 198 = .ok (.iload 7, 2) := dc_21 (show ((cX11_two.data.toList.drop 198).take 2).map UInt8.toNat = [21, 7] by decide +kernel) rfl
theorem dX11_two_200 : decode cX11_two 200 = .ok (.ireturn, 1) := dc_172 (show ((cX11_two.data.toList.drop 200).take 1).map UInt8.toNat = [172] by decide +kernel)
theorem dX11_two_193 : decode cX11_two 193 = .ok (.iload 9, 2) := dc_21 (show ((cX11_two.data.toList.drop 193).take 2).map UInt8.toNat = [21, 9] by decide +kernel) rfl
theorem dX11_two_195 : decode cX11_two 195 = .ok (.goto 5, 3) := dc_167 (show ((cX11_two.data.toList.drop 195).take 3).map UInt8.toNat = [167, 0, 5] by decide +kernel) rfl
theorem dX11_two_182 : decode cX11_two 182 = .ok (.iload 8, 2) := dc_21 (show ((cX11_two.data.toList.drop 182).take 2).map UInt8.toNat = [21, 8] by decide +kernel) rfl
theorem dX11_two_184 : decode cX11_two 184 = .ok (.goto 16, 3) := dc_167 (show ((cX11_two.data.toList.drop 184).take 3).map UInt8.toNat = [167, 0, 16] by decide +kernel) rfl
theorem dX11_two_68 : decode cX11_two 68 = .ok (.iconst 0, 1) := dc_3 (show ((cX11_two.data.toList.drop 68).take 1).map UInt8.toNat = [3] by decide +kernel)
theorem dX11_two_69 : decode cX11_two 69 = .ok (.aload 5, 2) := dc_25 (show ((cX11_two.data.toList.drop 69).take 2).map UInt8.toNat = [25, 5] by decide +kernel) rfl
theorem dX11_two_71 : decode cX11_two 71 = .ok (.iload_n 2, 1) := dc_28 (show ((cX11_two.data.toList.drop 71).take 1).map UInt8.toNat = [28] by decide +kernel)
theorem dX11_two_72 : decode cX11_two 72 = .ok (.invokevirtual 141, 3) := dc_182 (show ((cX11_two.data.toList.drop 72).take 3).map UInt8.toNat = [182, 0, 141] by decide +kernel) rfl
theorem dX11_two_75 : decode cX11_two 75 = .ok (.aload 5, 2) := dc_25 (show ((cX11_two.data.toList.drop 75).take 2).map UInt8.toNat = [25, 5] by decide +kernel) rfl
theorem dX11_two_77 : decode cX11_two 77 = .ok (.iload 10, 2) := dc_21 (show ((cX11_two.data.toList.drop 77).take 2).map UInt8.toNat = [21, 10] by decide +kernel) rfl
theorem dX11_two_79 : decode cX11_two 79 = .ok (.invokevirtual 138, 3) := dc_182 (show ((cX11_two.data.toList.drop 79).take 3).map UInt8.toNat = [182, 0, 138] by decide +kernel) rfl
theorem dX11_two_82 : decode cX11_two 82 = .ok (.isub, 1) := dc_100 (show ((cX11_two.data.toList.drop 82).take 1).map UInt8.toNat = [100] by decide +kernel)
theorem dX11_two_83 : decode cX11_two 83 = .ok (.invokestatic 317, 3) := dc_184 (show ((cX11_two.data.toList.drop 83).take 3).map UInt8.toNat = [184, 1, 61] by decide +kernel) rfl
theorem w_969 : (Cond.methodLink "GooseBorder" (317 : Nat) ({ cls := "java/lang/Math", name := "max", desc := "(II)I" } : MethodName)) ∈ gb_wA := gb_t5 9 rfl rfl
theorem dX11_two_86 : decode cX11_two 86 = .ok (.istore 11, 2) := dc_54 (show ((cX11_two.data.toList.drop 86).take 2).map UInt8.toNat = [54, 11] by decide +kernel) rfl
theorem dX11_two_88 : decode cX11_two 88 = .ok (.aload 5, 2) := dc_25 (show ((cX11_two.data.toList.drop 88).take 2).map UInt8.toNat = [25, 5] by decide +kernel) rfl
theorem dX11_two_90 : decode cX11_two 90 = .ok (.iload 10, 2) := dc_21 (show ((cX11_two.data.toList.drop 90).take 2).map UInt8.toNat = [21, 10] by decide +kernel) rfl
theorem dX11_two_92 : decode cX11_two 92 = .ok (.aload 5, 2) := dc_25 (show ((cX11_two.data.toList.drop 92).take 2).map UInt8.toNat = [25, 5] by decide +kernel) rfl
theorem dX11_two_94 : decode cX11_two 94 = .ok (.iload_n 2, 1) := dc_28 (show ((cX11_two.data.toList.drop 94).take 1).map UInt8.toNat = [28] by decide +kernel)
theorem dX11_two_95 : decode cX11_two 95 = .ok (.iload 10, 2) := dc_21 (show ((cX11_two.data.toList.drop 95).take 2).map UInt8.toNat = [21, 10] by decide +kernel) rfl
theorem dX11_two_97 : decode cX11_two 97 = .ok (.invokevirtual 311, 3) := dc_182 (show ((cX11_two.data.toList.drop 97).take 3).map UInt8.toNat = [182, 1, 55] by decide +kernel) rfl
theorem dX11_two_100 : decode cX11_two 100 = .ok (.invokevirtual 229, 3) := dc_182 (show ((cX11_two.data.toList.drop 100).take 3).map UInt8.toNat = [182, 0, 229] by decide +kernel) rfl
theorem dX11_two_103 : decode cX11_two 103 = .ok (.istore 12, 2) := dc_54 (show ((cX11_two.data.toList.drop 103).take 2).map UInt8.toNat = [54, 12] by decide +kernel) rfl
theorem dX11_two_105 : decode cX11_two 105 = .ok (.iconst 0, 1) := dc_3 (show ((cX11_two.data.toList.drop 105).take 1).map UInt8.toNat = [3] by decide +kernel)
theorem dX11_two_106 : decode cX11_two 106 = .ok (.istore 13, 2) := dc_54 (show ((cX11_two.data.toList.drop 106).take 2).map UInt8.toNat = [54, 13] by decide +kernel) rfl
theorem dX11_two_108 : decode cX11_two 108 = .ok (.iload 13, 2) := dc_21 (show ((cX11_two.data.toList.drop 108).take 2).map UInt8.toNat = [21, 13] by decide +kernel) rfl
theorem dX11_two_110 : decode cX11_two 110 = .ok (.aload 6, 2) := dc_25 (show ((cX11_two.data.toList.drop 110).take 2).map UInt8.toNat = [25, 6] by decide +kernel) rfl
theorem dX11_two_112 : decode cX11_two 112 = .ok (.invokevirtual 117, 3) := dc_182 (show ((cX11_two.data.toList.drop 112).take 3).map UInt8.toNat = [182, 0, 117] by decide +kernel) rfl
theorem dX11_two_115 : decode cX11_two 115 = .ok (.if_icmp .ge 56, 3) := dc_162 (show ((cX11_two.data.toList.drop 115).take 3).map UInt8.toNat = [162, 0, 56] by decide +kernel) rfl
theorem dX11_two_171 : decode cX11_two 171 = .ok (.iinc 10 1, 3) := dc_132 (show ((cX11_two.data.toList.drop 171).take 3).map UInt8.toNat = [132, 10, 1] by decide +kernel) rfl
theorem dX11_two_174 : decode cX11_two 174 = .ok (.goto (-116), 3) := dc_167 (show ((cX11_two.data.toList.drop 174).take 3).map UInt8.toNat = [167, 255, 140] by decide +kernel) rfl
theorem dX11_two_118 : decode cX11_two 118 = .ok (.iload 12, 2) := dc_21 (show ((cX11_two.data.toList.drop 118).take 2).map UInt8.toNat = [21, 12] by decide +kernel) rfl
theorem dX11_two_120 : decode cX11_two 120 = .ok (.aload 6, 2) := dc_25 (show ((cX11_two.data.toList.drop 120).take 2).map UInt8.toNat = [25, 6] by decide +kernel) rfl
theorem dX11_two_122 : decode cX11_two 122 = .ok (.iload 13, 2) := dc_21 (show ((cX11_two.data.toList.drop 122).take 2).map UInt8.toNat = [21, 13] by decide +kernel) rfl
theorem dX11_two_124 : decode cX11_two 124 = .ok (.aload 5, 2) := dc_25 (show ((cX11_two.data.toList.drop 124).take 2).map UInt8.toNat = [25, 5] by decide +kernel) rfl
theorem dX11_two_126 : decode cX11_two 126 = .ok (.iload_n 2, 1) := dc_28 (show ((cX11_two.data.toList.drop 126).take 1).map UInt8.toNat = [28] by decide +kernel)
theorem dX11_two_127 : decode cX11_two 127 = .ok (.aload 6, 2) := dc_25 (show ((cX11_two.data.toList.drop 127).take 2).map UInt8.toNat = [25, 6] by decide +kernel) rfl
theorem dX11_two_129 : decode cX11_two 129 = .ok (.iload 13, 2) := dc_21 (show ((cX11_two.data.toList.drop 129).take 2).map UInt8.toNat = [21, 13] by decide +kernel) rfl
theorem dX11_two_131 : decode cX11_two 131 = .ok (.invokevirtual 138, 3) := dc_182 (show ((cX11_two.data.toList.drop 131).take 3).map UInt8.toNat = [182, 0, 138] by decide +kernel) rfl
theorem dX11_two_134 : decode cX11_two 134 = .ok (.iload 11, 2) := dc_21 (show ((cX11_two.data.toList.drop 134).take 2).map UInt8.toNat = [21, 11] by decide +kernel) rfl
theorem dX11_two_136 : decode cX11_two 136 = .ok (.iconst 0, 1) := dc_3 (show ((cX11_two.data.toList.drop 136).take 1).map UInt8.toNat = [3] by decide +kernel)
theorem dX11_two_137 : decode cX11_two 137 = .ok (.invokevirtual 144, 3) := dc_182 (show ((cX11_two.data.toList.drop 137).take 3).map UInt8.toNat = [182, 0, 144] by decide +kernel) rfl
theorem dX11_two_140 : decode cX11_two 140 = .ok (.invokevirtual 229, 3) := dc_182 (show ((cX11_two.data.toList.drop 140).take 3).map UInt8.toNat = [182, 0, 229] by decide +kernel) rfl
theorem dX11_two_143 : decode cX11_two 143 = .ok (.iadd, 1) := dc_96 (show ((cX11_two.data.toList.drop 143).take 1).map UInt8.toNat = [96] by decide +kernel)
theorem dX11_two_144 : decode cX11_two 144 = .ok (.istore 14, 2) := dc_54 (show ((cX11_two.data.toList.drop 144).take 2).map UInt8.toNat = [54, 14] by decide +kernel) rfl
theorem dX11_two_146 : decode cX11_two 146 = .ok (.iload 14, 2) := dc_21 (show ((cX11_two.data.toList.drop 146).take 2).map UInt8.toNat = [21, 14] by decide +kernel) rfl
theorem dX11_two_148 : decode cX11_two 148 = .ok (.iload 7, 2) := dc_21 (show ((cX11_two.data.toList.drop 148).take 2).map UInt8.toNat = [21, 7] by decide +kernel) rfl
theorem dX11_two_150 : decode cX11_two 150 = .ok (.if_icmp .le 15, 3) := dc_164 (show ((cX11_two.data.toList.drop 150).take 3).map UInt8.toNat = [164, 0, 15] by decide +kernel) rfl
theorem dX11_two_165 : decode cX11_two 165 = .ok (.iinc 13 1, 3) := dc_132 (show ((cX11_two.data.toList.drop 165).take 3).map UInt8.toNat = [132, 13, 1] by decide +kernel) rfl
theorem dX11_two_168 : decode cX11_two 168 = .ok (.goto (-60), 3) := dc_167 (show ((cX11_two.data.toList.drop 168).take 3).map UInt8.toNat = [167, 255, 196] by decide +kernel) rfl
theorem dX11_two_153 : decode cX11_two 153 = .ok (.iload 14, 2) := dc_21 (show ((cX11_two.data.toList.drop 153).take 2).map UInt8.toNat = [21, 14] by decide +kernel) rfl
theorem dX11_two_155 : decode cX11_two 155 = .ok (.istore 7, 2) := dc_54 (show ((cX11_two.data.toList.drop 155).take 2).map UInt8.toNat = [54, 7] by decide +kernel) rfl
theorem dX11_two_157 : decode cX11_two 157 = .ok (.iload 10, 2) := dc_21 (show ((cX11_two.data.toList.drop 157).take 2).map UInt8.toNat = [21, 10] by decide +kernel) rfl
theorem dX11_two_159 : decode cX11_two 159 = .ok (.istore 8, 2) := dc_54 (show ((cX11_two.data.toList.drop 159).take 2).map UInt8.toNat = [54, 8] by decide +kernel) rfl
theorem dX11_two_161 : decode cX11_two 161 = .ok (.iload 13, 2) := dc_21 (show ((cX11_two.data.toList.drop 161).take 2).map UInt8.toNat = [21, 13] by decide +kernel) rfl
theorem dX11_two_163 : decode cX11_two 163 = .ok (.istore 9, 2) := dc_54 (show ((cX11_two.data.toList.drop 163).take 2).map UInt8.toNat = [54, 9] by decide +kernel) rfl
def cs_Face_two_108 (n : Nat) (k58 : gb_S → Int32 → Int32 → Nat → Nat → Int32 → Int32 → Int32 → Int32 → gb_CR Int32) : Nat → gb_S → Int32 → Int32 → Nat → Nat → Int32 → Int32 → Int32 → Int32 → Int32 → Int32 → Int32 → gb_CR Int32
  | 0, _, _, _, _, _, _, _, _, _, _, _, _ => none
  | mm + 1, σ, v2, v4, v5, v6, v7, v8, v9, v10, v11, v12, v13 => gb_kk (gb_kB v5) (gb_kk (gb_kB v6) (gb_cd (cs_Border_paths_B n σ v6) (fun s_54 r_55 => (if r_55 ≤ v13 then gb_lt (v10 + 1) (fun x_59 => k58 s_54 v2 v4 v5 v6 v7 v8 v9 x_59) else gb_cd (cs_Border_miles_B n s_54 v6 v13) (fun s_60 r_61 => gb_cd (cs_Border_marksOver_B n s_60 v5 v2 r_61 v11 0) (fun s_64 r_65 => gb_cd (cs_Border_payOf_B n s_64 v6 v13 r_65) (fun s_68 r_69 => gb_lt (v12 + r_69) (fun x_72 => (if x_72 ≤ v7 then gb_lt (v13 + 1) (fun x_74 => cs_Face_two_108 n k58 mm s_68 v2 v4 v5 v6 v7 v8 v9 v10 v11 v12 x_74) else gb_lt (v13 + 1) (fun x_75 => cs_Face_two_108 n k58 mm s_68 v2 v4 v5 v6 x_72 v10 v13 v10 v11 v12 x_75))))))))))
def cs_Face_two_58 (n : Nat) : Nat → gb_S → Int32 → Int32 → Nat → Nat → Int32 → Int32 → Int32 → Int32 → gb_CR Int32
  | 0, _, _, _, _, _, _, _, _, _ => none
  | mm + 1, σ, v2, v4, v5, v6, v7, v8, v9, v10 => gb_kk (gb_kB v5) (gb_kk (gb_kB v6) (gb_cd (cs_Border_paths_B n σ v5) (fun s_28 r_29 => (if r_29 ≤ v10 then (if v4 = 0 then some (s_28, v8) else (if v4 = 1 then some (s_28, v9) else some (s_28, v7))) else gb_cd (cs_Border_boots_B n s_28 v5 v2) (fun s_35 r_36 => gb_cd (cs_Border_miles_B n s_35 v5 v10) (fun s_39 r_40 => gb_lt (if (0 : Int32) < (r_36 - r_40) then (r_36 - r_40) else (0 : Int32)) (fun x_43 => gb_cd (cs_Border_marksFirst_B n s_39 v5 v2 v10) (fun s_44 r_45 => gb_cd (cs_Border_payOf_B n s_44 v5 v10 r_45) (fun s_48 r_49 => cs_Face_two_108 n (fun σ v2 v4 v5 v6 v7 v8 v9 v10 => cs_Face_two_58 n mm σ v2 v4 v5 v6 v7 v8 v9 v10) n s_48 v2 v4 v5 v6 v7 v8 v9 v10 x_43 r_49 0)))))))))
def cs_Face_two (n : Nat) (σ : gb_S) (p1 : Int32) (p2 : Int32) (p3 : Int32) (p4 : Int32) : gb_CR Int32 := gb_cd (cs_Face_borderAt n σ p1) (fun s_1 r_2 => (if r_2 = 0 then gb_cd (cs_Face_borderAt n s_1 p3) (fun s_6 r_7 => (if r_7 = 0 then some (s_6, (-1)) else gb_kk (gb_kB r_7) (some (s_6, (-1))))) else gb_kk (gb_kB r_2) (gb_cd (cs_Face_borderAt n s_1 p3) (fun s_13 r_14 => (if r_14 = 0 then some (s_13, (-1)) else gb_kk (gb_kB r_14) (gb_cd (cs_Border_hasGoose_B n s_13 r_2 p2) (fun s_19 r_20 => (if r_20 = 0 then some (s_19, (-1)) else (if p4 < 0 then some (s_19, (-1)) else (if p4 ≤ 2 then cs_Face_two_58 n n s_19 p2 p4 r_2 r_14 (-1) (-1) (-1) 0 else some (s_19, (-1))))))))))))
set_option maxHeartbeats 8000000 in
set_option maxRecDepth 100000 in
theorem cc_Face_two (l : Launch) (D : va_G) (cT : Nat → ClassId) (tt : Nat → Nat) (b1 b : Nat) (hb1 : b1 ≤ b) (n : Nat) (σ : gb_S) (p1 : Int32) (p2 : Int32) (p3 : Int32) (p4 : Int32) (σE : gb_S) (rE : Int32) (h : cs_Face_two n σ p1 p2 p3 p4 = some (σE, rE)) : Met l yX11_two (.code yX11_two cX11_two 15 (some FieldType.int) :: gb_wA) ({ frames := 3, cells := 0, slots := 0, locals := 70 }) (gb_Pc D cT tt b1 [.ref (b + 0), .int p1, .int p2, .int p3, .int p4] (fun h => va_P D vwCl (gb_wl b (gb_CW cT b σ)) h)) (gb_Qi (fun r h => r = rE ∧ va_P D vwCl (gb_wl b (gb_CW cT b σE)) h) (gb_fr b 135)) 0 0 (gb_fr b 135) := by
  refine Met.ofW (cc := cX11_two) (maxL := 15) (ret := (some FieldType.int)) (by decide) rfl ?_
  intro p e s m args below meth c s₁ B hml hv
  obtain ⟨rfl, hSt, hP⟩ := hv
  have hx := B.exec
  have hb := B.bytes
  have hr := B.returns
  have hts := atoms_spec (ws := .code yX11_two cX11_two 15 (some FieldType.int) :: gb_wA) B.pre
  have hq : ∀ w ∈ gb_wA, w.before _ s = true := fun w h => hts w (List.mem_cons_of_mem _ h)
  have hown : s.vm.findClass RX11 = some m.cls := findClass_of_methodNamed B.named
  have hlocks := B.notSynchronized
  clear B hts
  have hK := hSt.1
  have hS : va_S (gb_fr b 135) s.heap s.heap [] := va_S.rf
  have hl := lv_entry ([.ref (b + 0), .int p1, .int p2, .int p3, .int p4]) (n := 15) (Nat.le_of_ble_eq_true rfl)
  rw [lg_entry_eq]
  generalize (lg_sl ([.ref (b + 0), .int p1, .int p2, .int p3, .int p4]) ++ List.replicate (15 - (lg_sl ([.ref (b + 0), .int p1, .int p2, .int p3, .int p4])).length) Slot.unset).toArray = ls at hl ⊢
  replace hl : lv_has ls 15 [(0, .ref (b + 0)), (1, .int p1), (2, .int p2), (3, .int p3), (4, .int p4)] := hl
  have L108_2 : ∀ (k58 : gb_S → Int32 → Int32 → Nat → Nat → Int32 → Int32 → Int32 → Int32 → gb_CR Int32) (hk58 : ∀ (σ : gb_S) (v2 : Int32) (v4 : Int32) (v5 : Nat) (v6 : Nat) (v7 : Int32) (v8 : Int32) (v9 : Int32) (v10 : Int32) (H : Heap) (locs : List Loc) (ls : Array Slot), k58 σ v2 v4 v5 v6 v7 v8 v9 v10 = some (σE, rE) → va_P D vwCl (gb_wl b (gb_CW cT b σ)) H → va_S (gb_fr b 135) s.heap H locs → lv_has ls 15 [(2, .int v2), (4, .int v4), (5, .ref (b + v5)), (6, .ref (b + v6)), (7, .int v7), (8, .int v8), (9, .int v9), (10, .int v10)] → W p l e (headSpec (.code yX11_two cX11_two 15 (some FieldType.int) :: gb_wA) ({ frames := 3, cells := 0, slots := 0, locals := 70 })).room s m ([.ref (b + 0), .int p1, .int p2, .int p3, .int p4]).toArray below meth c H locs 0 0 (MQ below (gb_Qi (fun r h => r = rE ∧ va_P D vwCl (gb_wl b (gb_CW cT b σE)) h) (gb_fr b 135)) ([.ref (b + 0), .int p1, .int p2, .int p3, .int p4]).toArray s 0 0 (gb_fr b 135)) (F0 m 58 ls [])) (mm : Nat) (σ : gb_S) (v2 : Int32) (v4 : Int32) (v5 : Nat) (v6 : Nat) (v7 : Int32) (v8 : Int32) (v9 : Int32) (v10 : Int32) (v11 : Int32) (v12 : Int32) (v13 : Int32) (H : Heap) (locs : List Loc) (ls : Array Slot), cs_Face_two_108 n k58 mm σ v2 v4 v5 v6 v7 v8 v9 v10 v11 v12 v13 = some (σE, rE) → va_P D vwCl (gb_wl b (gb_CW cT b σ)) H → va_S (gb_fr b 135) s.heap H locs → lv_has ls 15 [(2, .int v2), (4, .int v4), (5, .ref (b + v5)), (6, .ref (b + v6)), (7, .int v7), (8, .int v8), (9, .int v9), (10, .int v10), (11, .int v11), (12, .int v12), (13, .int v13)] → W p l e (headSpec (.code yX11_two cX11_two 15 (some FieldType.int) :: gb_wA) ({ frames := 3, cells := 0, slots := 0, locals := 70 })).room s m ([.ref (b + 0), .int p1, .int p2, .int p3, .int p4]).toArray below meth c H locs 0 0 (MQ below (gb_Qi (fun r h => r = rE ∧ va_P D vwCl (gb_wl b (gb_CW cT b σE)) h) (gb_fr b 135)) ([.ref (b + 0), .int p1, .int p2, .int p3, .int p4]).toArray s 0 0 (gb_fr b 135)) (F0 m 108 ls []) := by
    clear h hP hS hl ls
    intro k58 hk58 mm
    induction mm with
    | zero =>
      intro σ v2 v4 v5 v6 v7 v8 v9 v10 v11 v12 v13 H locs ls h
      cases h
    | succ mm ih =>
      intro σ v2 v4 v5 v6 v7 v8 v9 v10 v11 v12 v13 H locs ls h hP hS hl
      rw [cs_Face_two_108] at h
      obtain ⟨z_52, h⟩ := gb_kk_s h
      obtain ⟨z_53, h⟩ := gb_kk_s h
      refine lv_iload hx hb dX11_two_108 (lv_at hl 10 rfl) ?_
      refine lv_aload hx hb dX11_two_110 (lv_at hl 3 rfl) ?_
      obtain ⟨s_54, r_55, z_56, h⟩ := gb_cd_s h
      refine gb_calli (va_runV (C := RX0) (As := []) (rest := [.int v13]) ⟨hx, hb, hml, hown, hq⟩ (cc_Border_paths_B l D cT tt b1 b hb1 n σ v6 s_54 r_55 z_56) (cwV 0 hq (gb_gV w_597 w_473 w_474 w_4 w_475) rfl rfl rfl (by decide +kernel) ⟨Nat.le_of_ble_eq_true rfl, Nat.le_of_ble_eq_true rfl⟩) (gb_preV (r := (RX0, TX0, 1)) (ci := 0) (q0 := v6) hSt hP rfl (gb_at b (gb_cB z_53).1) hS (fun q h => Nat.le_trans hb1 h.1) hP) rfl rfl hl.1 rfl (lv_room (Nat.le_of_ble_eq_true rfl)) dX11_two_112 ⟨Nat.le_of_ble_eq_true rfl, Nat.le_of_ble_eq_true rfl⟩) hS (fun _ h => h) (fun _ h => h) (fun q_57 H locs hY hk hS => ?_)
      obtain ⟨hq_57, hP⟩ := hY
      replace hq_57 := hq_57.symm
      subst hq_57
      refine lv_icmp_ge (tgt := 171) hx hb dX11_two_115 (by decide) (fun c_58 => ?_) (fun c_58 => ?_)
      · rw [if_pos c_58] at h
        obtain ⟨x_59, ex_59⟩ : ∃ q, q = (v10 + 1) := ⟨_, rfl⟩
        replace h := gb_lt_s ex_59 h
        refine lv_iinc (v := x_59) (lv' := [(10, .int x_59), (2, .int v2), (4, .int v4), (5, .ref (b + v5)), (6, .ref (b + v6)), (7, .int v7), (8, .int v8), (9, .int v9), (11, .int v11), (12, .int v12), (13, .int v13)]) hx hb dX11_two_171 hl (k := 7) rfl (by rw [ex_59]; rfl) (by decide) rfl (fun ls hl => ?_)
        refine lv_goto (tgt := 58) hx hb dX11_two_174 (by decide) ?_
        exact hk58 _ _ _ _ _ _ _ _ _ _ _ _ h hP hS (lv_sub hl [1, 2, 3, 4, 5, 6, 7, 0] rfl)
      · rw [if_neg c_58] at h
        refine lv_iload hx hb dX11_two_118 (lv_at hl 9 rfl) ?_
        refine lv_aload hx hb dX11_two_120 (lv_at hl 3 rfl) ?_
        refine lv_iload hx hb dX11_two_122 (lv_at hl 10 rfl) ?_
        refine lv_aload hx hb dX11_two_124 (lv_at hl 2 rfl) ?_
        refine lv_iload_n hx hb dX11_two_126 rfl (lv_at hl 0 rfl) ?_
        refine lv_aload hx hb dX11_two_127 (lv_at hl 3 rfl) ?_
        refine lv_iload hx hb dX11_two_129 (lv_at hl 10 rfl) ?_
        obtain ⟨s_60, r_61, z_62, h⟩ := gb_cd_s h
        refine gb_calli (va_runV (C := RX0) (As := [.int v13]) (rest := [.int v2, .ref (b + v5), .int v13, .ref (b + v6), .int v12]) ⟨hx, hb, hml, hown, hq⟩ (cc_Border_miles_B l D cT tt b1 b hb1 n s_54 v6 v13 s_60 r_61 z_62) (cwV 1 hq (gb_gV w_621 w_622 w_623 w_4 w_624) rfl rfl rfl (by decide +kernel) ⟨Nat.le_of_ble_eq_true rfl, Nat.le_of_ble_eq_true rfl⟩) (gb_preV (r := (RX0, TX0, 1)) (ci := 0) (q0 := v6) hSt hP rfl (gb_at b (gb_cB z_53).1) hS (fun q h => Nat.le_trans hb1 h.1) hP) rfl rfl hl.1 rfl (lv_room (Nat.le_of_ble_eq_true rfl)) dX11_two_131 ⟨Nat.le_of_ble_eq_true rfl, Nat.le_of_ble_eq_true rfl⟩) hS (fun _ h => h) (fun _ h => h) (fun q_63 H locs hY hk hS => ?_)
        obtain ⟨hq_63, hP⟩ := hY
        replace hq_63 := hq_63.symm
        subst hq_63
        refine lv_iload hx hb dX11_two_134 (lv_at hl 8 rfl) ?_
        refine lv_iconst (v := 0) hx hb dX11_two_136 (by decide) ?_
        obtain ⟨s_64, r_65, z_66, h⟩ := gb_cd_s h
        refine gb_calli (va_runV (C := RX0) (As := [.int v2, .int r_61, .int v11, .int 0]) (rest := [.int v13, .ref (b + v6), .int v12]) ⟨hx, hb, hml, hown, hq⟩ (cc_Border_marksOver_B l D cT tt b1 b hb1 n s_60 v5 v2 r_61 v11 0 s_64 r_65 z_66) (cwV 4 hq (gb_gV w_629 w_630 w_631 w_4 w_632) rfl rfl rfl (by decide +kernel) ⟨Nat.le_of_ble_eq_true rfl, Nat.le_of_ble_eq_true rfl⟩) (gb_preV (r := (RX0, TX0, 1)) (ci := 0) (q0 := v5) hSt hP rfl (gb_at b (gb_cB z_52).1) hS (fun q h => Nat.le_trans hb1 h.1) hP) rfl rfl hl.1 rfl (lv_room (Nat.le_of_ble_eq_true rfl)) dX11_two_137 ⟨Nat.le_of_ble_eq_true rfl, Nat.le_of_ble_eq_true rfl⟩) hS (fun _ h => h) (fun _ h => h) (fun q_67 H locs hY hk hS => ?_)
        obtain ⟨hq_67, hP⟩ := hY
        replace hq_67 := hq_67.symm
        subst hq_67
        obtain ⟨s_68, r_69, z_70, h⟩ := gb_cd_s h
        refine gb_calli (va_runV (C := RX0) (As := [.int v13, .int r_65]) (rest := [.int v12]) ⟨hx, hb, hml, hown, hq⟩ (cc_Border_payOf_B l D cT tt b1 b hb1 n s_64 v6 v13 r_65 s_68 r_69 z_70) (cwV 2 hq (gb_gV w_783 w_784 w_785 w_4 w_786) rfl rfl rfl (by decide +kernel) ⟨Nat.le_of_ble_eq_true rfl, Nat.le_of_ble_eq_true rfl⟩) (gb_preV (r := (RX0, TX0, 1)) (ci := 0) (q0 := v6) hSt hP rfl (gb_at b (gb_cB z_53).1) hS (fun q h => Nat.le_trans hb1 h.1) hP) rfl rfl hl.1 rfl (lv_room (Nat.le_of_ble_eq_true rfl)) dX11_two_140 ⟨Nat.le_of_ble_eq_true rfl, Nat.le_of_ble_eq_true rfl⟩) hS (fun _ h => h) (fun _ h => h) (fun q_71 H locs hY hk hS => ?_)
        obtain ⟨hq_71, hP⟩ := hY
        replace hq_71 := hq_71.symm
        subst hq_71
        refine lv_iadd hx hb dX11_two_143 ?_
        refine lv_topi (fun x_72 ex_72 => ?_)
        replace h := gb_lt_s ex_72 h
        refine lv_istore (lv' := [(14, .int x_72), (2, .int v2), (4, .int v4), (5, .ref (b + v5)), (6, .ref (b + v6)), (7, .int v7), (8, .int v8), (9, .int v9), (10, .int v10), (11, .int v11), (12, .int v12), (13, .int v13)]) hx hb dX11_two_144 hl (by decide) rfl (fun ls hl => ?_)
        refine lv_iload hx hb dX11_two_146 (lv_at hl 0 rfl) ?_
        refine lv_iload hx hb dX11_two_148 (lv_at hl 5 rfl) ?_
        refine lv_icmp_le (tgt := 165) hx hb dX11_two_150 (by decide) (fun c_73 => ?_) (fun c_73 => ?_)
        · rw [if_pos c_73] at h
          obtain ⟨x_74, ex_74⟩ : ∃ q, q = (v13 + 1) := ⟨_, rfl⟩
          replace h := gb_lt_s ex_74 h
          refine lv_iinc (v := x_74) (lv' := [(13, .int x_74), (14, .int x_72), (2, .int v2), (4, .int v4), (5, .ref (b + v5)), (6, .ref (b + v6)), (7, .int v7), (8, .int v8), (9, .int v9), (10, .int v10), (11, .int v11), (12, .int v12)]) hx hb dX11_two_165 hl (k := 11) rfl (by rw [ex_74]; rfl) (by decide) rfl (fun ls hl => ?_)
          refine lv_goto (tgt := 108) hx hb dX11_two_168 (by decide) ?_
          exact ih _ _ _ _ _ _ _ _ _ _ _ _ _ _ _ h hP hS (lv_sub hl [2, 3, 4, 5, 6, 7, 8, 9, 10, 11, 0] rfl)
        · rw [if_neg c_73] at h
          refine lv_iload hx hb dX11_two_153 (lv_at hl 0 rfl) ?_
          refine lv_istore (lv' := [(7, .int x_72), (14, .int x_72), (2, .int v2), (4, .int v4), (5, .ref (b + v5)), (6, .ref (b + v6)), (8, .int v8), (9, .int v9), (10, .int v10), (11, .int v11), (12, .int v12), (13, .int v13)]) hx hb dX11_two_155 hl (by decide) rfl (fun ls hl => ?_)
          refine lv_iload hx hb dX11_two_157 (lv_at hl 8 rfl) ?_
          refine lv_istore (lv' := [(8, .int v10), (7, .int x_72), (14, .int x_72), (2, .int v2), (4, .int v4), (5, .ref (b + v5)), (6, .ref (b + v6)), (9, .int v9), (10, .int v10), (11, .int v11), (12, .int v12), (13, .int v13)]) hx hb dX11_two_159 hl (by decide) rfl (fun ls hl => ?_)
          refine lv_iload hx hb dX11_two_161 (lv_at hl 11 rfl) ?_
          refine lv_istore (lv' := [(9, .int v13), (8, .int v10), (7, .int x_72), (14, .int x_72), (2, .int v2), (4, .int v4), (5, .ref (b + v5)), (6, .ref (b + v6)), (10, .int v10), (11, .int v11), (12, .int v12), (13, .int v13)]) hx hb dX11_two_163 hl (by decide) rfl (fun ls hl => ?_)
          obtain ⟨x_75, ex_75⟩ : ∃ q, q = (v13 + 1) := ⟨_, rfl⟩
          replace h := gb_lt_s ex_75 h
          refine lv_iinc (v := x_75) (lv' := [(13, .int x_75), (9, .int v13), (8, .int v10), (7, .int x_72), (14, .int x_72), (2, .int v2), (4, .int v4), (5, .ref (b + v5)), (6, .ref (b + v6)), (10, .int v10), (11, .int v11), (12, .int v12)]) hx hb dX11_two_165 hl (k := 11) rfl (by rw [ex_75]; rfl) (by decide) rfl (fun ls hl => ?_)
          refine lv_goto (tgt := 108) hx hb dX11_two_168 (by decide) ?_
          exact ih _ _ _ _ _ _ _ _ _ _ _ _ _ _ _ h hP hS (lv_sub hl [5, 6, 7, 8, 3, 2, 1, 9, 10, 11, 0] rfl)
  have L58_1 : ∀ (mm : Nat) (σ : gb_S) (v2 : Int32) (v4 : Int32) (v5 : Nat) (v6 : Nat) (v7 : Int32) (v8 : Int32) (v9 : Int32) (v10 : Int32) (H : Heap) (locs : List Loc) (ls : Array Slot), cs_Face_two_58 n mm σ v2 v4 v5 v6 v7 v8 v9 v10 = some (σE, rE) → va_P D vwCl (gb_wl b (gb_CW cT b σ)) H → va_S (gb_fr b 135) s.heap H locs → lv_has ls 15 [(2, .int v2), (4, .int v4), (5, .ref (b + v5)), (6, .ref (b + v6)), (7, .int v7), (8, .int v8), (9, .int v9), (10, .int v10)] → W p l e (headSpec (.code yX11_two cX11_two 15 (some FieldType.int) :: gb_wA) ({ frames := 3, cells := 0, slots := 0, locals := 70 })).room s m ([.ref (b + 0), .int p1, .int p2, .int p3, .int p4]).toArray below meth c H locs 0 0 (MQ below (gb_Qi (fun r h => r = rE ∧ va_P D vwCl (gb_wl b (gb_CW cT b σE)) h) (gb_fr b 135)) ([.ref (b + 0), .int p1, .int p2, .int p3, .int p4]).toArray s 0 0 (gb_fr b 135)) (F0 m 58 ls []) := by
    clear h hP hS hl ls
    intro mm
    induction mm with
    | zero =>
      intro σ v2 v4 v5 v6 v7 v8 v9 v10 H locs ls h
      cases h
    | succ mm ih =>
      intro σ v2 v4 v5 v6 v7 v8 v9 v10 H locs ls h hP hS hl
      rw [cs_Face_two_58] at h
      obtain ⟨z_26, h⟩ := gb_kk_s h
      obtain ⟨z_27, h⟩ := gb_kk_s h
      refine lv_iload hx hb dX11_two_58 (lv_at hl 7 rfl) ?_
      refine lv_aload hx hb dX11_two_60 (lv_at hl 2 rfl) ?_
      obtain ⟨s_28, r_29, z_30, h⟩ := gb_cd_s h
      refine gb_calli (va_runV (C := RX0) (As := []) (rest := [.int v10]) ⟨hx, hb, hml, hown, hq⟩ (cc_Border_paths_B l D cT tt b1 b hb1 n σ v5 s_28 r_29 z_30) (cwV 0 hq (gb_gV w_597 w_473 w_474 w_4 w_475) rfl rfl rfl (by decide +kernel) ⟨Nat.le_of_ble_eq_true rfl, Nat.le_of_ble_eq_true rfl⟩) (gb_preV (r := (RX0, TX0, 1)) (ci := 0) (q0 := v5) hSt hP rfl (gb_at b (gb_cB z_26).1) hS (fun q h => Nat.le_trans hb1 h.1) hP) rfl rfl hl.1 rfl (lv_room (Nat.le_of_ble_eq_true rfl)) dX11_two_62 ⟨Nat.le_of_ble_eq_true rfl, Nat.le_of_ble_eq_true rfl⟩) hS (fun _ h => h) (fun _ h => h) (fun q_31 H locs hY hk hS => ?_)
      obtain ⟨hq_31, hP⟩ := hY
      replace hq_31 := hq_31.symm
      subst hq_31
      refine lv_icmp_ge (tgt := 177) hx hb dX11_two_65 (by decide) (fun c_32 => ?_) (fun c_32 => ?_)
      · rw [if_pos c_32] at h
        refine lv_iload hx hb dX11_two_177 (lv_at hl 1 rfl) ?_
        refine lv_if_ne (tgt := 187) hx hb dX11_two_179 (by decide) (fun c_33 => ?_) (fun c_33 => ?_)
        · rw [if_neg c_33] at h
          refine lv_iload hx hb dX11_two_187 (lv_at hl 1 rfl) ?_
          refine lv_iconst (v := 1) hx hb dX11_two_189 (by decide) ?_
          refine lv_icmp_ne (tgt := 198) hx hb dX11_two_190 (by decide) (fun c_34 => ?_) (fun c_34 => ?_)
          · rw [if_neg c_34] at h
            refine lv_iload hx hb dX11_two_198 (lv_at hl 4 rfl) ?_
            obtain ⟨e1, e2⟩ := gb_eq2 h
            exact W.iret (v := v7) hx hb hr (fun t ht hW => gb_ri ht ⟨e2, by rw [← e1]; exact hP⟩ hS) hS.2.2 dX11_two_200
          · rw [if_pos c_34] at h
            refine lv_iload hx hb dX11_two_193 (lv_at hl 6 rfl) ?_
            refine lv_goto (tgt := 200) hx hb dX11_two_195 (by decide) ?_
            obtain ⟨e1, e2⟩ := gb_eq2 h
            exact W.iret (v := v9) hx hb hr (fun t ht hW => gb_ri ht ⟨e2, by rw [← e1]; exact hP⟩ hS) hS.2.2 dX11_two_200
        · rw [if_pos c_33] at h
          refine lv_iload hx hb dX11_two_182 (lv_at hl 5 rfl) ?_
          refine lv_goto (tgt := 200) hx hb dX11_two_184 (by decide) ?_
          obtain ⟨e1, e2⟩ := gb_eq2 h
          exact W.iret (v := v8) hx hb hr (fun t ht hW => gb_ri ht ⟨e2, by rw [← e1]; exact hP⟩ hS) hS.2.2 dX11_two_200
      · rw [if_neg c_32] at h
        refine lv_iconst (v := 0) hx hb dX11_two_68 (by decide) ?_
        refine lv_aload hx hb dX11_two_69 (lv_at hl 2 rfl) ?_
        refine lv_iload_n hx hb dX11_two_71 rfl (lv_at hl 0 rfl) ?_
        obtain ⟨s_35, r_36, z_37, h⟩ := gb_cd_s h
        refine gb_calli (va_runV (C := RX0) (As := [.int v2]) (rest := [.int 0]) ⟨hx, hb, hml, hown, hq⟩ (cc_Border_boots_B l D cT tt b1 b hb1 n s_28 v5 v2 s_35 r_36 z_37) (cwV 1 hq (gb_gV w_625 w_626 w_627 w_4 w_628) rfl rfl rfl (by decide +kernel) ⟨Nat.le_of_ble_eq_true rfl, Nat.le_of_ble_eq_true rfl⟩) (gb_preV (r := (RX0, TX0, 1)) (ci := 0) (q0 := v5) hSt hP rfl (gb_at b (gb_cB z_26).1) hS (fun q h => Nat.le_trans hb1 h.1) hP) rfl rfl hl.1 rfl (lv_room (Nat.le_of_ble_eq_true rfl)) dX11_two_72 ⟨Nat.le_of_ble_eq_true rfl, Nat.le_of_ble_eq_true rfl⟩) hS (fun _ h => h) (fun _ h => h) (fun q_38 H locs hY hk hS => ?_)
        obtain ⟨hq_38, hP⟩ := hY
        replace hq_38 := hq_38.symm
        subst hq_38
        refine lv_aload hx hb dX11_two_75 (lv_at hl 2 rfl) ?_
        refine lv_iload hx hb dX11_two_77 (lv_at hl 7 rfl) ?_
        obtain ⟨s_39, r_40, z_41, h⟩ := gb_cd_s h
        refine gb_calli (va_runV (C := RX0) (As := [.int v10]) (rest := [.int r_36, .int 0]) ⟨hx, hb, hml, hown, hq⟩ (cc_Border_miles_B l D cT tt b1 b hb1 n s_35 v5 v10 s_39 r_40 z_41) (cwV 1 hq (gb_gV w_621 w_622 w_623 w_4 w_624) rfl rfl rfl (by decide +kernel) ⟨Nat.le_of_ble_eq_true rfl, Nat.le_of_ble_eq_true rfl⟩) (gb_preV (r := (RX0, TX0, 1)) (ci := 0) (q0 := v5) hSt hP rfl (gb_at b (gb_cB z_26).1) hS (fun q h => Nat.le_trans hb1 h.1) hP) rfl rfl hl.1 rfl (lv_room (Nat.le_of_ble_eq_true rfl)) dX11_two_79 ⟨Nat.le_of_ble_eq_true rfl, Nat.le_of_ble_eq_true rfl⟩) hS (fun _ h => h) (fun _ h => h) (fun q_42 H locs hY hk hS => ?_)
        obtain ⟨hq_42, hP⟩ := hY
        replace hq_42 := hq_42.symm
        subst hq_42
        refine lv_isub hx hb dX11_two_82 ?_
        refine va_mmax hx hb (hml.trans hl.1.symm) hown (hq _ w_969) (hq _ w_47) (hq _ w_5) (hq _ w_48) (Nat.le_of_ble_eq_true rfl) (Nat.le_of_ble_eq_true rfl) (Nat.le_of_ble_eq_true rfl) (Nat.le_of_ble_eq_true rfl) dX11_two_83 ?_
        refine lv_topi (fun x_43 ex_43 => ?_)
        replace h := gb_lt_s ex_43 h
        refine lv_istore (lv' := [(11, .int x_43), (2, .int v2), (4, .int v4), (5, .ref (b + v5)), (6, .ref (b + v6)), (7, .int v7), (8, .int v8), (9, .int v9), (10, .int v10)]) hx hb dX11_two_86 hl (by decide) rfl (fun ls hl => ?_)
        refine lv_aload hx hb dX11_two_88 (lv_at hl 3 rfl) ?_
        refine lv_iload hx hb dX11_two_90 (lv_at hl 8 rfl) ?_
        refine lv_aload hx hb dX11_two_92 (lv_at hl 3 rfl) ?_
        refine lv_iload_n hx hb dX11_two_94 rfl (lv_at hl 1 rfl) ?_
        refine lv_iload hx hb dX11_two_95 (lv_at hl 8 rfl) ?_
        obtain ⟨s_44, r_45, z_46, h⟩ := gb_cd_s h
        refine gb_calli (va_runV (C := RX0) (As := [.int v2, .int v10]) (rest := [.int v10, .ref (b + v5)]) ⟨hx, hb, hml, hown, hq⟩ (cc_Border_marksFirst_B l D cT tt b1 b hb1 n s_39 v5 v2 v10 s_44 r_45 z_46) (cwV 2 hq (gb_gV w_963 w_899 w_900 w_4 w_901) rfl rfl rfl (by decide +kernel) ⟨Nat.le_of_ble_eq_true rfl, Nat.le_of_ble_eq_true rfl⟩) (gb_preV (r := (RX0, TX0, 1)) (ci := 0) (q0 := v5) hSt hP rfl (gb_at b (gb_cB z_26).1) hS (fun q h => Nat.le_trans hb1 h.1) hP) rfl rfl hl.1 rfl (lv_room (Nat.le_of_ble_eq_true rfl)) dX11_two_97 ⟨Nat.le_of_ble_eq_true rfl, Nat.le_of_ble_eq_true rfl⟩) hS (fun _ h => h) (fun _ h => h) (fun q_47 H locs hY hk hS => ?_)
        obtain ⟨hq_47, hP⟩ := hY
        replace hq_47 := hq_47.symm
        subst hq_47
        obtain ⟨s_48, r_49, z_50, h⟩ := gb_cd_s h
        refine gb_calli (va_runV (C := RX0) (As := [.int v10, .int r_45]) (rest := []) ⟨hx, hb, hml, hown, hq⟩ (cc_Border_payOf_B l D cT tt b1 b hb1 n s_44 v5 v10 r_45 s_48 r_49 z_50) (cwV 2 hq (gb_gV w_783 w_784 w_785 w_4 w_786) rfl rfl rfl (by decide +kernel) ⟨Nat.le_of_ble_eq_true rfl, Nat.le_of_ble_eq_true rfl⟩) (gb_preV (r := (RX0, TX0, 1)) (ci := 0) (q0 := v5) hSt hP rfl (gb_at b (gb_cB z_26).1) hS (fun q h => Nat.le_trans hb1 h.1) hP) rfl rfl hl.1 rfl (lv_room (Nat.le_of_ble_eq_true rfl)) dX11_two_100 ⟨Nat.le_of_ble_eq_true rfl, Nat.le_of_ble_eq_true rfl⟩) hS (fun _ h => h) (fun _ h => h) (fun q_51 H locs hY hk hS => ?_)
        obtain ⟨hq_51, hP⟩ := hY
        replace hq_51 := hq_51.symm
        subst hq_51
        refine lv_istore (lv' := [(12, .int r_49), (11, .int x_43), (2, .int v2), (4, .int v4), (5, .ref (b + v5)), (6, .ref (b + v6)), (7, .int v7), (8, .int v8), (9, .int v9), (10, .int v10)]) hx hb dX11_two_103 hl (by decide) rfl (fun ls hl => ?_)
        refine lv_iconst (v := 0) hx hb dX11_two_105 (by decide) ?_
        refine lv_istore (lv' := [(13, .int 0), (12, .int r_49), (11, .int x_43), (2, .int v2), (4, .int v4), (5, .ref (b + v5)), (6, .ref (b + v6)), (7, .int v7), (8, .int v8), (9, .int v9), (10, .int v10)]) hx hb dX11_two_106 hl (by decide) rfl (fun ls hl => ?_)
        exact L108_2 _ ih n _ _ _ _ _ _ _ _ _ _ _ _ _ _ _ h hP hS (lv_sub hl [3, 4, 5, 6, 7, 8, 9, 10, 2, 1, 0] rfl)
  unfold cs_Face_two at h
  refine lv_aload_n hx hb dX11_two_0 rfl (lv_at hl 0 rfl) ?_
  refine lv_iload_n hx hb dX11_two_1 rfl (lv_at hl 1 rfl) ?_
  obtain ⟨s_1, r_2, z_3, h⟩ := gb_cd_s h
  refine gb_callq (va_runV (C := RX11) (As := [.int p1]) (rest := []) ⟨hx, hb, hml, hown, hq⟩ (cc_Face_borderAt l D cT tt b1 b hb1 n σ p1 s_1 r_2 z_3) (cwV 1 hq (gb_gV w_593 w_595 s_1_7 w_1 w_596) rfl rfl rfl (by decide +kernel) ⟨Nat.le_of_ble_eq_true rfl, Nat.le_of_ble_eq_true rfl⟩) (gb_preV (r := (RX11, TX11, 10)) (ci := 9) (q0 := 0) hSt hP rfl (gb_at b rfl) hS (fun q h => Nat.le_trans hb1 h.1) hP) rfl rfl hl.1 rfl (lv_room (Nat.le_of_ble_eq_true rfl)) dX11_two_2 ⟨Nat.le_of_ble_eq_true rfl, Nat.le_of_ble_eq_true rfl⟩) hS (fun _ h => h) (fun _ h => h) (fun q_4 H locs hY hk hS => ?_)
  obtain ⟨hq_4, hP⟩ := hY
  subst hq_4
  rw [gb_onv]
  by_cases c_5 : r_2 = 0
  · rw [if_pos c_5] at h
    rw [gb_nv0 c_5]
    refine lv_astoreN (lv' := [(5, .null), (0, .ref (b + 0)), (1, .int p1), (2, .int p2), (3, .int p3), (4, .int p4)]) hx hb dX11_two_5 hl (by decide) rfl (fun ls hl => ?_)
    refine lv_aload_n hx hb dX11_two_7 rfl (lv_at hl 1 rfl) ?_
    refine lv_iload_n hx hb dX11_two_8 rfl (lv_at hl 4 rfl) ?_
    obtain ⟨s_6, r_7, z_8, h⟩ := gb_cd_s h
    refine gb_callq (va_runV (C := RX11) (As := [.int p3]) (rest := []) ⟨hx, hb, hml, hown, hq⟩ (cc_Face_borderAt l D cT tt b1 b hb1 n s_1 p3 s_6 r_7 z_8) (cwV 1 hq (gb_gV w_593 w_595 s_1_7 w_1 w_596) rfl rfl rfl (by decide +kernel) ⟨Nat.le_of_ble_eq_true rfl, Nat.le_of_ble_eq_true rfl⟩) (gb_preV (r := (RX11, TX11, 10)) (ci := 9) (q0 := 0) hSt hP rfl (gb_at b rfl) hS (fun q h => Nat.le_trans hb1 h.1) hP) rfl rfl hl.1 rfl (lv_room (Nat.le_of_ble_eq_true rfl)) dX11_two_9 ⟨Nat.le_of_ble_eq_true rfl, Nat.le_of_ble_eq_true rfl⟩) hS (fun _ h => h) (fun _ h => h) (fun q_9 H locs hY hk hS => ?_)
    obtain ⟨hq_9, hP⟩ := hY
    subst hq_9
    rw [gb_onv]
    by_cases c_10 : r_7 = 0
    · rw [if_pos c_10] at h
      rw [gb_nv0 c_10]
      refine lv_astoreN (lv' := [(6, .null), (5, .null), (0, .ref (b + 0)), (1, .int p1), (2, .int p2), (3, .int p3), (4, .int p4)]) hx hb dX11_two_12 hl (by decide) rfl (fun ls hl => ?_)
      refine lv_aloadN hx hb dX11_two_14 (lv_at hl 1 rfl) ?_
      refine lv_ifnullN (tgt := 44) hx hb dX11_two_16 (by decide) ?_
      refine lv_iconst (v := (-1)) hx hb dX11_two_44 (by decide) ?_
      obtain ⟨e1, e2⟩ := gb_eq2 h
      exact W.iret (v := (-1)) hx hb hr (fun t ht hW => gb_ri ht ⟨e2, by rw [← e1]; exact hP⟩ hS) hS.2.2 dX11_two_45
    rw [if_neg c_10] at h
    rw [gb_nv1 c_10]
    obtain ⟨z_11, h⟩ := gb_kk_s h
    refine lv_astore (lv' := [(6, .ref (b + r_7)), (5, .null), (0, .ref (b + 0)), (1, .int p1), (2, .int p2), (3, .int p3), (4, .int p4)]) hx hb dX11_two_12 hl (by decide) rfl (fun ls hl => ?_)
    refine lv_aloadN hx hb dX11_two_14 (lv_at hl 1 rfl) ?_
    refine lv_ifnullN (tgt := 44) hx hb dX11_two_16 (by decide) ?_
    refine lv_iconst (v := (-1)) hx hb dX11_two_44 (by decide) ?_
    obtain ⟨e1, e2⟩ := gb_eq2 h
    exact W.iret (v := (-1)) hx hb hr (fun t ht hW => gb_ri ht ⟨e2, by rw [← e1]; exact hP⟩ hS) hS.2.2 dX11_two_45
  rw [if_neg c_5] at h
  rw [gb_nv1 c_5]
  obtain ⟨z_12, h⟩ := gb_kk_s h
  refine lv_astore (lv' := [(5, .ref (b + r_2)), (0, .ref (b + 0)), (1, .int p1), (2, .int p2), (3, .int p3), (4, .int p4)]) hx hb dX11_two_5 hl (by decide) rfl (fun ls hl => ?_)
  refine lv_aload_n hx hb dX11_two_7 rfl (lv_at hl 1 rfl) ?_
  refine lv_iload_n hx hb dX11_two_8 rfl (lv_at hl 4 rfl) ?_
  obtain ⟨s_13, r_14, z_15, h⟩ := gb_cd_s h
  refine gb_callq (va_runV (C := RX11) (As := [.int p3]) (rest := []) ⟨hx, hb, hml, hown, hq⟩ (cc_Face_borderAt l D cT tt b1 b hb1 n s_1 p3 s_13 r_14 z_15) (cwV 1 hq (gb_gV w_593 w_595 s_1_7 w_1 w_596) rfl rfl rfl (by decide +kernel) ⟨Nat.le_of_ble_eq_true rfl, Nat.le_of_ble_eq_true rfl⟩) (gb_preV (r := (RX11, TX11, 10)) (ci := 9) (q0 := 0) hSt hP rfl (gb_at b rfl) hS (fun q h => Nat.le_trans hb1 h.1) hP) rfl rfl hl.1 rfl (lv_room (Nat.le_of_ble_eq_true rfl)) dX11_two_9 ⟨Nat.le_of_ble_eq_true rfl, Nat.le_of_ble_eq_true rfl⟩) hS (fun _ h => h) (fun _ h => h) (fun q_16 H locs hY hk hS => ?_)
  obtain ⟨hq_16, hP⟩ := hY
  subst hq_16
  rw [gb_onv]
  by_cases c_17 : r_14 = 0
  · rw [if_pos c_17] at h
    rw [gb_nv0 c_17]
    refine lv_astoreN (lv' := [(6, .null), (5, .ref (b + r_2)), (0, .ref (b + 0)), (1, .int p1), (2, .int p2), (3, .int p3), (4, .int p4)]) hx hb dX11_two_12 hl (by decide) rfl (fun ls hl => ?_)
    refine lv_aload hx hb dX11_two_14 (lv_at hl 1 rfl) ?_
    refine lv_ifnull hx hb dX11_two_16 ?_
    refine lv_aloadN hx hb dX11_two_19 (lv_at hl 0 rfl) ?_
    refine lv_ifnullN (tgt := 44) hx hb dX11_two_21 (by decide) ?_
    refine lv_iconst (v := (-1)) hx hb dX11_two_44 (by decide) ?_
    obtain ⟨e1, e2⟩ := gb_eq2 h
    exact W.iret (v := (-1)) hx hb hr (fun t ht hW => gb_ri ht ⟨e2, by rw [← e1]; exact hP⟩ hS) hS.2.2 dX11_two_45
  rw [if_neg c_17] at h
  rw [gb_nv1 c_17]
  obtain ⟨z_18, h⟩ := gb_kk_s h
  refine lv_astore (lv' := [(6, .ref (b + r_14)), (5, .ref (b + r_2)), (0, .ref (b + 0)), (1, .int p1), (2, .int p2), (3, .int p3), (4, .int p4)]) hx hb dX11_two_12 hl (by decide) rfl (fun ls hl => ?_)
  refine lv_aload hx hb dX11_two_14 (lv_at hl 1 rfl) ?_
  refine lv_ifnull hx hb dX11_two_16 ?_
  refine lv_aload hx hb dX11_two_19 (lv_at hl 0 rfl) ?_
  refine lv_ifnull hx hb dX11_two_21 ?_
  refine lv_aload hx hb dX11_two_24 (lv_at hl 1 rfl) ?_
  refine lv_iload_n hx hb dX11_two_26 rfl (lv_at hl 4 rfl) ?_
  obtain ⟨s_19, r_20, z_21, h⟩ := gb_cd_s h
  refine gb_calli (va_runV (C := RX0) (As := [.int p2]) (rest := []) ⟨hx, hb, hml, hown, hq⟩ (cc_Border_hasGoose_B l D cT tt b1 b hb1 n s_13 r_2 p2 s_19 r_20 z_21) (cwV 1 hq (gb_gV w_619 w_612 w_613 w_4 w_614) rfl rfl rfl (by decide +kernel) ⟨Nat.le_of_ble_eq_true rfl, Nat.le_of_ble_eq_true rfl⟩) (gb_preV (r := (RX0, TX0, 1)) (ci := 0) (q0 := r_2) hSt hP rfl (gb_at b (gb_cB z_12).1) hS (fun q h => Nat.le_trans hb1 h.1) hP) rfl rfl hl.1 rfl (lv_room (Nat.le_of_ble_eq_true rfl)) dX11_two_27 ⟨Nat.le_of_ble_eq_true rfl, Nat.le_of_ble_eq_true rfl⟩) hS (fun _ h => h) (fun _ h => h) (fun q_22 H locs hY hk hS => ?_)
  obtain ⟨hq_22, hP⟩ := hY
  replace hq_22 := hq_22.symm
  subst hq_22
  refine lv_if_eq (tgt := 44) hx hb dX11_two_30 (by decide) (fun c_23 => ?_) (fun c_23 => ?_)
  · rw [if_pos c_23] at h
    refine lv_iconst (v := (-1)) hx hb dX11_two_44 (by decide) ?_
    obtain ⟨e1, e2⟩ := gb_eq2 h
    exact W.iret (v := (-1)) hx hb hr (fun t ht hW => gb_ri ht ⟨e2, by rw [← e1]; exact hP⟩ hS) hS.2.2 dX11_two_45
  · rw [if_neg c_23] at h
    refine lv_iload hx hb dX11_two_33 (lv_at hl 6 rfl) ?_
    refine lv_if_lt (tgt := 44) hx hb dX11_two_35 (by decide) (fun c_24 => ?_) (fun c_24 => ?_)
    · rw [if_pos c_24] at h
      refine lv_iconst (v := (-1)) hx hb dX11_two_44 (by decide) ?_
      obtain ⟨e1, e2⟩ := gb_eq2 h
      exact W.iret (v := (-1)) hx hb hr (fun t ht hW => gb_ri ht ⟨e2, by rw [← e1]; exact hP⟩ hS) hS.2.2 dX11_two_45
    · rw [if_neg c_24] at h
      refine lv_iload hx hb dX11_two_38 (lv_at hl 6 rfl) ?_
      refine lv_iconst (v := 2) hx hb dX11_two_40 (by decide) ?_
      refine lv_icmp_le (tgt := 46) hx hb dX11_two_41 (by decide) (fun c_25 => ?_) (fun c_25 => ?_)
      · rw [if_pos c_25] at h
        refine lv_iconst (v := (-1)) hx hb dX11_two_46 (by decide) ?_
        refine lv_istore (lv' := [(7, .int (-1)), (6, .ref (b + r_14)), (5, .ref (b + r_2)), (0, .ref (b + 0)), (1, .int p1), (2, .int p2), (3, .int p3), (4, .int p4)]) hx hb dX11_two_47 hl (by decide) rfl (fun ls hl => ?_)
        refine lv_iconst (v := (-1)) hx hb dX11_two_49 (by decide) ?_
        refine lv_istore (lv' := [(8, .int (-1)), (7, .int (-1)), (6, .ref (b + r_14)), (5, .ref (b + r_2)), (0, .ref (b + 0)), (1, .int p1), (2, .int p2), (3, .int p3), (4, .int p4)]) hx hb dX11_two_50 hl (by decide) rfl (fun ls hl => ?_)
        refine lv_iconst (v := (-1)) hx hb dX11_two_52 (by decide) ?_
        refine lv_istore (lv' := [(9, .int (-1)), (8, .int (-1)), (7, .int (-1)), (6, .ref (b + r_14)), (5, .ref (b + r_2)), (0, .ref (b + 0)), (1, .int p1), (2, .int p2), (3, .int p3), (4, .int p4)]) hx hb dX11_two_53 hl (by decide) rfl (fun ls hl => ?_)
        refine lv_iconst (v := 0) hx hb dX11_two_55 (by decide) ?_
        refine lv_istore (lv' := [(10, .int 0), (9, .int (-1)), (8, .int (-1)), (7, .int (-1)), (6, .ref (b + r_14)), (5, .ref (b + r_2)), (0, .ref (b + 0)), (1, .int p1), (2, .int p2), (3, .int p3), (4, .int p4)]) hx hb dX11_two_56 hl (by decide) rfl (fun ls hl => ?_)
        exact L58_1 n _ _ _ _ _ _ _ _ _ _ _ _ h hP hS (lv_sub hl [8, 10, 5, 4, 3, 2, 1, 0] rfl)
      · rw [if_neg c_25] at h
        refine lv_iconst (v := (-1)) hx hb dX11_two_44 (by decide) ?_
        obtain ⟨e1, e2⟩ := gb_eq2 h
        exact W.iret (v := (-1)) hx hb hr (fun t ht hW => gb_ri ht ⟨e2, by rw [← e1]; exact hP⟩ hS) hS.2.2 dX11_two_45
