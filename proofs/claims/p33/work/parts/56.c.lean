theorem dX11_drawn_0 : decode cX11_drawn 0 = .ok (.aload_n 0, 1) := dc_42 (show ((cX11_drawn.data.toList.drop 0).take 1).map UInt8.toNat = [42] by decide +kernel)
theorem dX11_drawn_1 : decode cX11_drawn 1 = .ok (.iload_n 1, 1) := dc_27 (show ((cX11_drawn.data.toList.drop 1).take 1).map UInt8.toNat = [27] by decide +kernel)
theorem dX11_drawn_2 : decode cX11_drawn 2 = .ok (.invokevirtual 113, 3) := dc_182 (show ((cX11_drawn.data.toList.drop 2).take 3).map UInt8.toNat = [182, 0, 113] by decide +kernel) rfl
theorem dX11_drawn_5 : decode cX11_drawn 5 = .ok (.astore 5, 2) := dc_58 (show ((cX11_drawn.data.toList.drop 5).take 2).map UInt8.toNat = [58, 5] by decide +kernel) rfl
theorem dX11_drawn_7 : decode cX11_drawn 7 = .ok (.aload 5, 2) := dc_25 (show ((cX11_drawn.data.toList.drop 7).take 2).map UInt8.toNat = [25, 5] by decide +kernel) rfl
theorem dX11_drawn_9 : decode cX11_drawn 9 = .ok (.ifnull 32, 3) := dc_198 (show ((cX11_drawn.data.toList.drop 9).take 3).map UInt8.toNat = [198, 0, 32] by decide +kernel) rfl
theorem dX11_drawn_41 : decode cX11_drawn 41 = .ok (.iconst (-1), 1) := dc_2 (show ((cX11_drawn.data.toList.drop 41).take 1).map UInt8.toNat = [2] by decide +kernel)
theorem dX11_drawn_42 : decode cX11_drawn 42 = .ok (.ireturn, 1) := dc_172 (show ((cX11_drawn.data.toList.drop 42).take 1).map UInt8.toNat = [172] by decide +kernel)
theorem dX11_drawn_12 : decode cX11_drawn 12 = .ok (.aload 5, 2) := dc_25 (show ((cX11_drawn.data.toList.drop 12).take 2).map UInt8.toNat = [25, 5] by decide +kernel) rfl
theorem dX11_drawn_14 : decode cX11_drawn 14 = .ok (.invokevirtual 117, 3) := dc_182 (show ((cX11_drawn.data.toList.drop 14).take 3).map UInt8.toNat = [182, 0, 117] by decide +kernel) rfl
theorem dX11_drawn_17 : decode cX11_drawn 17 = .ok (.ifCond .eq 24, 3) := dc_153 (show ((cX11_drawn.data.toList.drop 17).take 3).map UInt8.toNat = [153, 0, 24] by decide +kernel) rfl
theorem dX11_drawn_20 : decode cX11_drawn 20 = .ok (.iload_n 3, 1) := dc_29 (show ((cX11_drawn.data.toList.drop 20).take 1).map UInt8.toNat = [29] by decide +kernel)
theorem dX11_drawn_21 : decode cX11_drawn 21 = .ok (.iconst 1, 1) := dc_4 (show ((cX11_drawn.data.toList.drop 21).take 1).map UInt8.toNat = [4] by decide +kernel)
theorem dX11_drawn_22 : decode cX11_drawn 22 = .ok (.if_icmp .lt 19, 3) := dc_161 (show ((cX11_drawn.data.toList.drop 22).take 3).map UInt8.toNat = [161, 0, 19] by decide +kernel) rfl
theorem dX11_drawn_25 : decode cX11_drawn 25 = .ok (.iload_n 3, 1) := dc_29 (show ((cX11_drawn.data.toList.drop 25).take 1).map UInt8.toNat = [29] by decide +kernel)
theorem dX11_drawn_26 : decode cX11_drawn 26 = .ok (.bipush 20, 2) := dc_16 (show ((cX11_drawn.data.toList.drop 26).take 2).map UInt8.toNat = [16, 20] by decide +kernel) rfl
theorem dX11_drawn_28 : decode cX11_drawn 28 = .ok (.if_icmp .gt 13, 3) := dc_163 (show ((cX11_drawn.data.toList.drop 28).take 3).map UInt8.toNat = [163, 0, 13] by decide +kernel) rfl
theorem dX11_drawn_31 : decode cX11_drawn 31 = .ok (.aload 5, 2) := dc_25 (show ((cX11_drawn.data.toList.drop 31).take 2).map UInt8.toNat = [25, 5] by decide +kernel) rfl
theorem dX11_drawn_33 : decode cX11_drawn 33 = .ok (.iload 4, 2) := dc_21 (show ((cX11_drawn.data.toList.drop 33).take 2).map UInt8.toNat = [21, 4] by decide +kernel) rfl
theorem dX11_drawn_35 : decode cX11_drawn 35 = .ok (.invokestatic 380, 3) := dc_184 (show ((cX11_drawn.data.toList.drop 35).take 3).map UInt8.toNat = [184, 1, 124] by decide +kernel) rfl
theorem dX11_isDrawnOf_0 : decode cX11_isDrawnOf 0 = .ok (.iload_n 1, 1) := dc_27 (show ((cX11_isDrawnOf.data.toList.drop 0).take 1).map UInt8.toNat = [27] by decide +kernel)
theorem dX11_isDrawnOf_1 : decode cX11_isDrawnOf 1 = .ok (.ifCond .lt 8, 3) := dc_155 (show ((cX11_isDrawnOf.data.toList.drop 1).take 3).map UInt8.toNat = [155, 0, 8] by decide +kernel) rfl
theorem dX11_isDrawnOf_9 : decode cX11_isDrawnOf 9 = .ok (.iload_n 1, 1) := dc_27 (show ((cX11_isDrawnOf.data.toList.drop 9).take 1).map UInt8.toNat = [27] by decide +kernel)
theorem dX11_isDrawnOf_10 : decode cX11_isDrawnOf 10 = .ok (.bipush 10, 2) := dc_16 (show ((cX11_isDrawnOf.data.toList.drop 10).take 2).map UInt8.toNat = [16, 10] by decide +kernel) rfl
theorem dX11_isDrawnOf_12 : decode cX11_isDrawnOf 12 = .ok (.if_icmp .lt 20, 3) := dc_161 (show ((cX11_isDrawnOf.data.toList.drop 12).take 3).map UInt8.toNat = [161, 0, 20] by decide +kernel) rfl
theorem dX11_isDrawnOf_32 : decode cX11_isDrawnOf 32 = .ok (.iload_n 1, 1) := dc_27 (show ((cX11_isDrawnOf.data.toList.drop 32).take 1).map UInt8.toNat = [27] by decide +kernel)
theorem dX11_isDrawnOf_33 : decode cX11_isDrawnOf 33 = .ok (.bipush 20, 2) := dc_16 (show ((cX11_isDrawnOf.data.toList.drop 33).take 2).map UInt8.toNat = [16, 20] by decide +kernel) rfl
theorem dX11_isDrawnOf_35 : decode cX11_isDrawnOf 35 = .ok (.if_icmp .lt 18, 3) := dc_161 (show ((cX11_isDrawnOf.data.toList.drop 35).take 3).map UInt8.toNat = [161, 0, 18] by decide +kernel) rfl
theorem dX11_isDrawnOf_53 : decode cX11_isDrawnOf 53 = .ok (.iconst 0, 1) := dc_3 (show ((cX11_isDrawnOf.data.toList.drop 53).take 1).map UInt8.toNat = [3] by decide +kernel)
theorem dX11_isDrawnOf_54 : decode cX11_isDrawnOf 54 = .ok (.ireturn, 1) := dc_172 (show ((cX11_isDrawnOf.data.toList.drop 54).take 1).map UInt8.toNat = [172] by decide +kernel)
theorem dX11_isDrawnOf_38 : decode cX11_isDrawnOf 38 = .ok (.aload_n 0, 1) := dc_42 (show ((cX11_isDrawnOf.data.toList.drop 38).take 1).map UInt8.toNat = [42] by decide +kernel)
theorem dX11_isDrawnOf_39 : decode cX11_isDrawnOf 39 = .ok (.iload_n 1, 1) := dc_27 (show ((cX11_isDrawnOf.data.toList.drop 39).take 1).map UInt8.toNat = [27] by decide +kernel)
theorem dX11_isDrawnOf_40 : decode cX11_isDrawnOf 40 = .ok (.bipush 20, 2) := dc_16 (show ((cX11_isDrawnOf.data.toList.drop 40).take 2).map UInt8.toNat = [16, 20] by decide +kernel) rfl
theorem dX11_isDrawnOf_42 : decode cX11_isDrawnOf 42 = .ok (.isub, 1) := dc_100 (show ((cX11_isDrawnOf.data.toList.drop 42).take 1).map UInt8.toNat = [100] by decide +kernel)
theorem dX11_isDrawnOf_43 : decode cX11_isDrawnOf 43 = .ok (.invokevirtual 131, 3) := dc_182 (show ((cX11_isDrawnOf.data.toList.drop 43).take 3).map UInt8.toNat = [182, 0, 131] by decide +kernel) rfl
theorem dX11_isDrawnOf_46 : decode cX11_isDrawnOf 46 = .ok (.ifCond .eq 7, 3) := dc_153 (show ((cX11_isDrawnOf.data.toList.drop 46).take 3).map UInt8.toNat = [153, 0, 7] by decide +kernel) rfl
theorem dX11_isDrawnOf_49 : decode cX11_isDrawnOf 49 = .ok (.iconst 1, 1) := dc_4 (show ((cX11_isDrawnOf.data.toList.drop 49).take 1).map UInt8.toNat = [4] by decide +kernel)
theorem dX11_isDrawnOf_50 : decode cX11_isDrawnOf 50 = .ok (.goto 4, 3) := dc_167 (show ((cX11_isDrawnOf.data.toList.drop 50).take 3).map UInt8.toNat = [167, 0, 4] by decide +kernel) rfl
theorem dX11_isDrawnOf_15 : decode cX11_isDrawnOf 15 = .ok (.iload_n 1, 1) := dc_27 (show ((cX11_isDrawnOf.data.toList.drop 15).take 1).map UInt8.toNat = [27] by decide +kernel)
theorem dX11_isDrawnOf_16 : decode cX11_isDrawnOf 16 = .ok (.bipush 20, 2) := dc_16 (show ((cX11_isDrawnOf.data.toList.drop 16).take 2).map UInt8.toNat = [16, 20] by decide +kernel) rfl
theorem dX11_isDrawnOf_18 : decode cX11_isDrawnOf 18 = .ok (.if_icmp .ge 14, 3) := dc_162 (show ((cX11_isDrawnOf.data.toList.drop 18).take 3).map UInt8.toNat = [162, 0, 14] by decide +kernel) rfl
theorem dX11_isDrawnOf_21 : decode cX11_isDrawnOf 21 = .ok (.aload_n 0, 1) := dc_42 (show ((cX11_isDrawnOf.data.toList.drop 21).take 1).map UInt8.toNat = [42] by decide +kernel)
theorem dX11_isDrawnOf_22 : decode cX11_isDrawnOf 22 = .ok (.iload_n 1, 1) := dc_27 (show ((cX11_isDrawnOf.data.toList.drop 22).take 1).map UInt8.toNat = [27] by decide +kernel)
theorem dX11_isDrawnOf_23 : decode cX11_isDrawnOf 23 = .ok (.bipush 10, 2) := dc_16 (show ((cX11_isDrawnOf.data.toList.drop 23).take 2).map UInt8.toNat = [16, 10] by decide +kernel) rfl
theorem dX11_isDrawnOf_25 : decode cX11_isDrawnOf 25 = .ok (.isub, 1) := dc_100 (show ((cX11_isDrawnOf.data.toList.drop 25).take 1).map UInt8.toNat = [100] by decide +kernel)
theorem dX11_isDrawnOf_26 : decode cX11_isDrawnOf 26 = .ok (.invokevirtual 135, 3) := dc_182 (show ((cX11_isDrawnOf.data.toList.drop 26).take 3).map UInt8.toNat = [182, 0, 135] by decide +kernel) rfl
theorem dX11_isDrawnOf_29 : decode cX11_isDrawnOf 29 = .ok (.ifCond .ne 20, 3) := dc_154 (show ((cX11_isDrawnOf.data.toList.drop 29).take 3).map UInt8.toNat = [154, 0, 20] by decide +kernel) rfl
theorem dX11_isDrawnOf_4 : decode cX11_isDrawnOf 4 = .ok (.iload_n 1, 1) := dc_27 (show ((cX11_isDrawnOf.data.toList.drop 4).take 1).map UInt8.toNat = [27] by decide +kernel)
theorem dX11_isDrawnOf_5 : decode cX11_isDrawnOf 5 = .ok (.iconst 2, 1) := dc_5 (show ((cX11_isDrawnOf.data.toList.drop 5).take 1).map UInt8.toNat = [5] by decide +kernel)
theorem dX11_isDrawnOf_6 : decode cX11_isDrawnOf 6 = .ok (.if_icmp .le 43, 3) := dc_164 (show ((cX11_isDrawnOf.data.toList.drop 6).take 3).map UInt8.toNat = [164, 0, 43] by decide +kernel) rfl
def cs_Face_isDrawnOf_B_9 (n : Nat) (σ : gb_S) (v0 : Nat) (v1 : Int32) : gb_CR Int32 := gb_kk (gb_kB v0) ((if v1 < 10 then (if v1 < 20 then some (σ, 0) else gb_cd (cs_Border_hasGoose_B n σ v0 (v1 - 20)) (fun s_6 r_7 => (if r_7 = 0 then some (s_6, 0) else some (s_6, 1)))) else (if (20 : Int32) ≤ v1 then (if v1 < 20 then some (σ, 0) else gb_cd (cs_Border_hasGoose_B n σ v0 (v1 - 20)) (fun s_13 r_14 => (if r_14 = 0 then some (s_13, 0) else some (s_13, 1)))) else gb_cd (cs_Border_hasPath_B n σ v0 (v1 - 10)) (fun s_18 r_19 => (if r_19 = 0 then (if v1 < 20 then some (s_18, 0) else gb_cd (cs_Border_hasGoose_B n s_18 v0 (v1 - 20)) (fun s_24 r_25 => (if r_25 = 0 then some (s_24, 0) else some (s_24, 1)))) else some (s_18, 1))))))
def cs_Face_isDrawnOf_B (n : Nat) (σ : gb_S) (p1 : Nat) (p2 : Int32) : gb_CR Int32 := gb_kk (gb_kB p1) ((if p2 < 0 then cs_Face_isDrawnOf_B_9 n σ p1 p2 else (if p2 ≤ 2 then some (σ, 1) else cs_Face_isDrawnOf_B_9 n σ p1 p2)))
set_option maxHeartbeats 8000000 in
set_option maxRecDepth 100000 in
theorem cc_Face_isDrawnOf_B (l : Launch) (D : va_G) (cT : Nat → ClassId) (tt : Nat → Nat) (b1 b : Nat) (hb1 : b1 ≤ b) (n : Nat) (σ : gb_S) (p1 : Nat) (p2 : Int32) (σE : gb_S) (rE : Int32) (h : cs_Face_isDrawnOf_B n σ p1 p2 = some (σE, rE)) : Met l yX11_isDrawnOf (.code yX11_isDrawnOf cX11_isDrawnOf 2 (some FieldType.boolean) :: gb_wA) ({ frames := 2, cells := 0, slots := 0, locals := 41 }) (gb_Pc D cT tt b1 [.ref (b + p1), .int p2] (fun h => va_P D vwCl (gb_wl b (gb_CW cT b σ)) h)) (gb_Qi (fun r h => r = rE ∧ va_P D vwCl (gb_wl b (gb_CW cT b σE)) h) (gb_fr b 135)) 0 0 (gb_fr b 135) := by
  refine Met.ofW (cc := cX11_isDrawnOf) (maxL := 2) (ret := (some FieldType.boolean)) (by decide) rfl ?_
  intro p e s m args below meth c s₁ B hml hv
  obtain ⟨rfl, hSt, hP⟩ := hv
  have hx := B.exec
  have hb := B.bytes
  have hr := B.returns
  have hts := atoms_spec (ws := .code yX11_isDrawnOf cX11_isDrawnOf 2 (some FieldType.boolean) :: gb_wA) B.pre
  have hq : ∀ w ∈ gb_wA, w.before _ s = true := fun w h => hts w (List.mem_cons_of_mem _ h)
  have hown : s.vm.findClass RX11 = some m.cls := findClass_of_methodNamed B.named
  have hlocks := B.notSynchronized
  clear B hts
  have hK := hSt.1
  have hS : va_S (gb_fr b 135) s.heap s.heap [] := va_S.rf
  have hl := lv_entry ([.ref (b + p1), .int p2]) (n := 2) (Nat.le_of_ble_eq_true rfl)
  rw [lg_entry_eq]
  generalize (lg_sl ([.ref (b + p1), .int p2]) ++ List.replicate (2 - (lg_sl ([.ref (b + p1), .int p2])).length) Slot.unset).toArray = ls at hl ⊢
  replace hl : lv_has ls 2 [(0, .ref (b + p1)), (1, .int p2)] := hl
  have L9_1 : ∀ (σ : gb_S) (v0 : Nat) (v1 : Int32) (H : Heap) (locs : List Loc) (ls : Array Slot), cs_Face_isDrawnOf_B_9 n σ v0 v1 = some (σE, rE) → va_P D vwCl (gb_wl b (gb_CW cT b σ)) H → va_S (gb_fr b 135) s.heap H locs → lv_has ls 2 [(0, .ref (b + v0)), (1, .int v1)] → W p l e (headSpec (.code yX11_isDrawnOf cX11_isDrawnOf 2 (some FieldType.boolean) :: gb_wA) ({ frames := 2, cells := 0, slots := 0, locals := 41 })).room s m ([.ref (b + p1), .int p2]).toArray below meth c H locs 0 0 (MQ below (gb_Qi (fun r h => r = rE ∧ va_P D vwCl (gb_wl b (gb_CW cT b σE)) h) (gb_fr b 135)) ([.ref (b + p1), .int p2]).toArray s 0 0 (gb_fr b 135)) (F0 m 9 ls []) := by
    clear h hP hS hl ls
    intro σ v0 v1 H locs ls h hP hS hl
    unfold cs_Face_isDrawnOf_B_9 at h
    obtain ⟨z_3, h⟩ := gb_kk_s h
    refine lv_iload_n hx hb dX11_isDrawnOf_9 rfl (lv_at hl 1 rfl) ?_
    refine lv_bipush (v := 10) hx hb dX11_isDrawnOf_10 (by decide) ?_
    refine lv_icmp_lt (tgt := 32) hx hb dX11_isDrawnOf_12 (by decide) (fun c_4 => ?_) (fun c_4 => ?_)
    · rw [if_pos c_4] at h
      refine lv_iload_n hx hb dX11_isDrawnOf_32 rfl (lv_at hl 1 rfl) ?_
      refine lv_bipush (v := 20) hx hb dX11_isDrawnOf_33 (by decide) ?_
      refine lv_icmp_lt (tgt := 53) hx hb dX11_isDrawnOf_35 (by decide) (fun c_5 => ?_) (fun c_5 => ?_)
      · rw [if_pos c_5] at h
        refine lv_iconst (v := 0) hx hb dX11_isDrawnOf_53 (by decide) ?_
        obtain ⟨e1, e2⟩ := gb_eq2 h
        exact W.zret (v := 0) hx hb hr (by decide) (fun t ht hW => gb_ri ht ⟨e2, by rw [← e1]; exact hP⟩ hS) hS.2.2 dX11_isDrawnOf_54
      · rw [if_neg c_5] at h
        refine lv_aload_n hx hb dX11_isDrawnOf_38 rfl (lv_at hl 0 rfl) ?_
        refine lv_iload_n hx hb dX11_isDrawnOf_39 rfl (lv_at hl 1 rfl) ?_
        refine lv_bipush (v := 20) hx hb dX11_isDrawnOf_40 (by decide) ?_
        refine lv_isub hx hb dX11_isDrawnOf_42 ?_
        obtain ⟨s_6, r_7, z_8, h⟩ := gb_cd_s h
        refine gb_calli (va_runV (C := RX0) (As := [.int (v1 - 20)]) (rest := []) ⟨hx, hb, hml, hown, hq⟩ (cc_Border_hasGoose_B l D cT tt b1 b hb1 n σ v0 (v1 - 20) s_6 r_7 z_8) (cwV 1 hq (gb_gV w_619 w_612 w_613 w_4 w_614) rfl rfl rfl (by decide +kernel) ⟨Nat.le_of_ble_eq_true rfl, Nat.le_of_ble_eq_true rfl⟩) (gb_preV (r := (RX0, TX0, 1)) (ci := 0) (q0 := v0) hSt hP rfl (gb_at b (gb_cB z_3).1) hS (fun q h => Nat.le_trans hb1 h.1) hP) rfl rfl hl.1 rfl (lv_room (Nat.le_of_ble_eq_true rfl)) dX11_isDrawnOf_43 ⟨Nat.le_of_ble_eq_true rfl, Nat.le_of_ble_eq_true rfl⟩) hS (fun _ h => h) (fun _ h => h) (fun q_9 H locs hY hk hS => ?_)
        obtain ⟨hq_9, hP⟩ := hY
        replace hq_9 := hq_9.symm
        subst hq_9
        refine lv_if_eq (tgt := 53) hx hb dX11_isDrawnOf_46 (by decide) (fun c_10 => ?_) (fun c_10 => ?_)
        · rw [if_pos c_10] at h
          refine lv_iconst (v := 0) hx hb dX11_isDrawnOf_53 (by decide) ?_
          obtain ⟨e1, e2⟩ := gb_eq2 h
          exact W.zret (v := 0) hx hb hr (by decide) (fun t ht hW => gb_ri ht ⟨e2, by rw [← e1]; exact hP⟩ hS) hS.2.2 dX11_isDrawnOf_54
        · rw [if_neg c_10] at h
          refine lv_iconst (v := 1) hx hb dX11_isDrawnOf_49 (by decide) ?_
          refine lv_goto (tgt := 54) hx hb dX11_isDrawnOf_50 (by decide) ?_
          obtain ⟨e1, e2⟩ := gb_eq2 h
          exact W.zret (v := 1) hx hb hr (by decide) (fun t ht hW => gb_ri ht ⟨e2, by rw [← e1]; exact hP⟩ hS) hS.2.2 dX11_isDrawnOf_54
    · rw [if_neg c_4] at h
      refine lv_iload_n hx hb dX11_isDrawnOf_15 rfl (lv_at hl 1 rfl) ?_
      refine lv_bipush (v := 20) hx hb dX11_isDrawnOf_16 (by decide) ?_
      refine lv_icmp_ge (tgt := 32) hx hb dX11_isDrawnOf_18 (by decide) (fun c_11 => ?_) (fun c_11 => ?_)
      · rw [if_pos c_11] at h
        refine lv_iload_n hx hb dX11_isDrawnOf_32 rfl (lv_at hl 1 rfl) ?_
        refine lv_bipush (v := 20) hx hb dX11_isDrawnOf_33 (by decide) ?_
        refine lv_icmp_lt (tgt := 53) hx hb dX11_isDrawnOf_35 (by decide) (fun c_12 => ?_) (fun c_12 => ?_)
        · rw [if_pos c_12] at h
          refine lv_iconst (v := 0) hx hb dX11_isDrawnOf_53 (by decide) ?_
          obtain ⟨e1, e2⟩ := gb_eq2 h
          exact W.zret (v := 0) hx hb hr (by decide) (fun t ht hW => gb_ri ht ⟨e2, by rw [← e1]; exact hP⟩ hS) hS.2.2 dX11_isDrawnOf_54
        · rw [if_neg c_12] at h
          refine lv_aload_n hx hb dX11_isDrawnOf_38 rfl (lv_at hl 0 rfl) ?_
          refine lv_iload_n hx hb dX11_isDrawnOf_39 rfl (lv_at hl 1 rfl) ?_
          refine lv_bipush (v := 20) hx hb dX11_isDrawnOf_40 (by decide) ?_
          refine lv_isub hx hb dX11_isDrawnOf_42 ?_
          obtain ⟨s_13, r_14, z_15, h⟩ := gb_cd_s h
          refine gb_calli (va_runV (C := RX0) (As := [.int (v1 - 20)]) (rest := []) ⟨hx, hb, hml, hown, hq⟩ (cc_Border_hasGoose_B l D cT tt b1 b hb1 n σ v0 (v1 - 20) s_13 r_14 z_15) (cwV 1 hq (gb_gV w_619 w_612 w_613 w_4 w_614) rfl rfl rfl (by decide +kernel) ⟨Nat.le_of_ble_eq_true rfl, Nat.le_of_ble_eq_true rfl⟩) (gb_preV (r := (RX0, TX0, 1)) (ci := 0) (q0 := v0) hSt hP rfl (gb_at b (gb_cB z_3).1) hS (fun q h => Nat.le_trans hb1 h.1) hP) rfl rfl hl.1 rfl (lv_room (Nat.le_of_ble_eq_true rfl)) dX11_isDrawnOf_43 ⟨Nat.le_of_ble_eq_true rfl, Nat.le_of_ble_eq_true rfl⟩) hS (fun _ h => h) (fun _ h => h) (fun q_16 H locs hY hk hS => ?_)
          obtain ⟨hq_16, hP⟩ := hY
          replace hq_16 := hq_16.symm
          subst hq_16
          refine lv_if_eq (tgt := 53) hx hb dX11_isDrawnOf_46 (by decide) (fun c_17 => ?_) (fun c_17 => ?_)
          · rw [if_pos c_17] at h
            refine lv_iconst (v := 0) hx hb dX11_isDrawnOf_53 (by decide) ?_
            obtain ⟨e1, e2⟩ := gb_eq2 h
            exact W.zret (v := 0) hx hb hr (by decide) (fun t ht hW => gb_ri ht ⟨e2, by rw [← e1]; exact hP⟩ hS) hS.2.2 dX11_isDrawnOf_54
          · rw [if_neg c_17] at h
            refine lv_iconst (v := 1) hx hb dX11_isDrawnOf_49 (by decide) ?_
            refine lv_goto (tgt := 54) hx hb dX11_isDrawnOf_50 (by decide) ?_
            obtain ⟨e1, e2⟩ := gb_eq2 h
            exact W.zret (v := 1) hx hb hr (by decide) (fun t ht hW => gb_ri ht ⟨e2, by rw [← e1]; exact hP⟩ hS) hS.2.2 dX11_isDrawnOf_54
      · rw [if_neg c_11] at h
        refine lv_aload_n hx hb dX11_isDrawnOf_21 rfl (lv_at hl 0 rfl) ?_
        refine lv_iload_n hx hb dX11_isDrawnOf_22 rfl (lv_at hl 1 rfl) ?_
        refine lv_bipush (v := 10) hx hb dX11_isDrawnOf_23 (by decide) ?_
        refine lv_isub hx hb dX11_isDrawnOf_25 ?_
        obtain ⟨s_18, r_19, z_20, h⟩ := gb_cd_s h
        refine gb_calli (va_runV (C := RX0) (As := [.int (v1 - 10)]) (rest := []) ⟨hx, hb, hml, hown, hq⟩ (cc_Border_hasPath_B l D cT tt b1 b hb1 n σ v0 (v1 - 10) s_18 r_19 z_20) (cwV 1 hq (gb_gV w_620 w_608 w_609 w_4 w_610) rfl rfl rfl (by decide +kernel) ⟨Nat.le_of_ble_eq_true rfl, Nat.le_of_ble_eq_true rfl⟩) (gb_preV (r := (RX0, TX0, 1)) (ci := 0) (q0 := v0) hSt hP rfl (gb_at b (gb_cB z_3).1) hS (fun q h => Nat.le_trans hb1 h.1) hP) rfl rfl hl.1 rfl (lv_room (Nat.le_of_ble_eq_true rfl)) dX11_isDrawnOf_26 ⟨Nat.le_of_ble_eq_true rfl, Nat.le_of_ble_eq_true rfl⟩) hS (fun _ h => h) (fun _ h => h) (fun q_21 H locs hY hk hS => ?_)
        obtain ⟨hq_21, hP⟩ := hY
        replace hq_21 := hq_21.symm
        subst hq_21
        refine lv_if_ne (tgt := 49) hx hb dX11_isDrawnOf_29 (by decide) (fun c_22 => ?_) (fun c_22 => ?_)
        · rw [if_neg c_22] at h
          refine lv_iconst (v := 1) hx hb dX11_isDrawnOf_49 (by decide) ?_
          refine lv_goto (tgt := 54) hx hb dX11_isDrawnOf_50 (by decide) ?_
          obtain ⟨e1, e2⟩ := gb_eq2 h
          exact W.zret (v := 1) hx hb hr (by decide) (fun t ht hW => gb_ri ht ⟨e2, by rw [← e1]; exact hP⟩ hS) hS.2.2 dX11_isDrawnOf_54
        · rw [if_pos c_22] at h
          refine lv_iload_n hx hb dX11_isDrawnOf_32 rfl (lv_at hl 1 rfl) ?_
          refine lv_bipush (v := 20) hx hb dX11_isDrawnOf_33 (by decide) ?_
          refine lv_icmp_lt (tgt := 53) hx hb dX11_isDrawnOf_35 (by decide) (fun c_23 => ?_) (fun c_23 => ?_)
          · rw [if_pos c_23] at h
            refine lv_iconst (v := 0) hx hb dX11_isDrawnOf_53 (by decide) ?_
            obtain ⟨e1, e2⟩ := gb_eq2 h
            exact W.zret (v := 0) hx hb hr (by decide) (fun t ht hW => gb_ri ht ⟨e2, by rw [← e1]; exact hP⟩ hS) hS.2.2 dX11_isDrawnOf_54
          · rw [if_neg c_23] at h
            refine lv_aload_n hx hb dX11_isDrawnOf_38 rfl (lv_at hl 0 rfl) ?_
            refine lv_iload_n hx hb dX11_isDrawnOf_39 rfl (lv_at hl 1 rfl) ?_
            refine lv_bipush (v := 20) hx hb dX11_isDrawnOf_40 (by decide) ?_
            refine lv_isub hx hb dX11_isDrawnOf_42 ?_
            obtain ⟨s_24, r_25, z_26, h⟩ := gb_cd_s h
            refine gb_calli (va_runV (C := RX0) (As := [.int (v1 - 20)]) (rest := []) ⟨hx, hb, hml, hown, hq⟩ (cc_Border_hasGoose_B l D cT tt b1 b hb1 n s_18 v0 (v1 - 20) s_24 r_25 z_26) (cwV 1 hq (gb_gV w_619 w_612 w_613 w_4 w_614) rfl rfl rfl (by decide +kernel) ⟨Nat.le_of_ble_eq_true rfl, Nat.le_of_ble_eq_true rfl⟩) (gb_preV (r := (RX0, TX0, 1)) (ci := 0) (q0 := v0) hSt hP rfl (gb_at b (gb_cB z_3).1) hS (fun q h => Nat.le_trans hb1 h.1) hP) rfl rfl hl.1 rfl (lv_room (Nat.le_of_ble_eq_true rfl)) dX11_isDrawnOf_43 ⟨Nat.le_of_ble_eq_true rfl, Nat.le_of_ble_eq_true rfl⟩) hS (fun _ h => h) (fun _ h => h) (fun q_27 H locs hY hk hS => ?_)
            obtain ⟨hq_27, hP⟩ := hY
            replace hq_27 := hq_27.symm
            subst hq_27
            refine lv_if_eq (tgt := 53) hx hb dX11_isDrawnOf_46 (by decide) (fun c_28 => ?_) (fun c_28 => ?_)
            · rw [if_pos c_28] at h
              refine lv_iconst (v := 0) hx hb dX11_isDrawnOf_53 (by decide) ?_
              obtain ⟨e1, e2⟩ := gb_eq2 h
              exact W.zret (v := 0) hx hb hr (by decide) (fun t ht hW => gb_ri ht ⟨e2, by rw [← e1]; exact hP⟩ hS) hS.2.2 dX11_isDrawnOf_54
            · rw [if_neg c_28] at h
              refine lv_iconst (v := 1) hx hb dX11_isDrawnOf_49 (by decide) ?_
              refine lv_goto (tgt := 54) hx hb dX11_isDrawnOf_50 (by decide) ?_
              obtain ⟨e1, e2⟩ := gb_eq2 h
              exact W.zret (v := 1) hx hb hr (by decide) (fun t ht hW => gb_ri ht ⟨e2, by rw [← e1]; exact hP⟩ hS) hS.2.2 dX11_isDrawnOf_54
  unfold cs_Face_isDrawnOf_B at h
  obtain ⟨z_1, h⟩ := gb_kk_s h
  refine lv_iload_n hx hb dX11_isDrawnOf_0 rfl (lv_at hl 1 rfl) ?_
  refine lv_if_lt (tgt := 9) hx hb dX11_isDrawnOf_1 (by decide) (fun c_2 => ?_) (fun c_2 => ?_)
  · rw [if_pos c_2] at h
    exact L9_1 _ _ _ _ _ _ h hP hS (lv_sub hl [0, 1] rfl)
  · rw [if_neg c_2] at h
    refine lv_iload_n hx hb dX11_isDrawnOf_4 rfl (lv_at hl 1 rfl) ?_
    refine lv_iconst (v := 2) hx hb dX11_isDrawnOf_5 (by decide) ?_
    refine lv_icmp_le (tgt := 49) hx hb dX11_isDrawnOf_6 (by decide) (fun c_29 => ?_) (fun c_29 => ?_)
    · rw [if_pos c_29] at h
      refine lv_iconst (v := 1) hx hb dX11_isDrawnOf_49 (by decide) ?_
      refine lv_goto (tgt := 54) hx hb dX11_isDrawnOf_50 (by decide) ?_
      obtain ⟨e1, e2⟩ := gb_eq2 h
      exact W.zret (v := 1) hx hb hr (by decide) (fun t ht hW => gb_ri ht ⟨e2, by rw [← e1]; exact hP⟩ hS) hS.2.2 dX11_isDrawnOf_54
    · rw [if_neg c_29] at h
      exact L9_1 _ _ _ _ _ _ h hP hS (lv_sub hl [0, 1] rfl)
theorem w_1100 : (Cond.code ({ cls := "GooseBorder", name := "isDrawnOf", desc := "(LGooseBorder$Border;I)Z" } : MethodName) prog_1_method_49_code (2 : Nat) (Option.some FieldType.boolean)) ∈ gb_wA := gb_t5 140 rfl rfl
theorem w_1098 : (Cond.methodLink "GooseBorder" (380 : Nat) ({ cls := "GooseBorder", name := "isDrawnOf", desc := "(LGooseBorder$Border;I)Z" } : MethodName)) ∈ gb_wA := gb_t5 138 rfl rfl
theorem w_1099 : (Cond.static ({ cls := "GooseBorder", name := "isDrawnOf", desc := "(LGooseBorder$Border;I)Z" } : MethodName)) ∈ gb_wA := gb_t5 139 rfl rfl
theorem dX11_drawn_38 : decode cX11_drawn 38 = .ok (.ifCond .ne 5, 3) := dc_154 (show ((cX11_drawn.data.toList.drop 38).take 3).map UInt8.toNat = [154, 0, 5] by decide +kernel) rfl
theorem dX11_drawn_43 : decode cX11_drawn 43 = .ok (.aload_n 0, 1) := dc_42 (show ((cX11_drawn.data.toList.drop 43).take 1).map UInt8.toNat = [42] by decide +kernel)
theorem dX11_drawn_44 : decode cX11_drawn 44 = .ok (.iload_n 2, 1) := dc_28 (show ((cX11_drawn.data.toList.drop 44).take 1).map UInt8.toNat = [28] by decide +kernel)
theorem dX11_drawn_45 : decode cX11_drawn 45 = .ok (.putfield 384, 3) := dc_181 (show ((cX11_drawn.data.toList.drop 45).take 3).map UInt8.toNat = [181, 1, 128] by decide +kernel) rfl
theorem w_324 : (Cond.fieldLink "GooseBorder" (384 : Nat) "GooseBorder" "chance" "I") ∈ gb_wA := gb_t2 84 rfl rfl
theorem dX11_drawn_48 : decode cX11_drawn 48 = .ok (.iconst 0, 1) := dc_3 (show ((cX11_drawn.data.toList.drop 48).take 1).map UInt8.toNat = [3] by decide +kernel)
theorem dX11_drawn_49 : decode cX11_drawn 49 = .ok (.istore 6, 2) := dc_54 (show ((cX11_drawn.data.toList.drop 49).take 2).map UInt8.toNat = [54, 6] by decide +kernel) rfl
theorem dX11_drawn_51 : decode cX11_drawn 51 = .ok (.iconst 0, 1) := dc_3 (show ((cX11_drawn.data.toList.drop 51).take 1).map UInt8.toNat = [3] by decide +kernel)
theorem dX11_drawn_52 : decode cX11_drawn 52 = .ok (.istore 7, 2) := dc_54 (show ((cX11_drawn.data.toList.drop 52).take 2).map UInt8.toNat = [54, 7] by decide +kernel) rfl
theorem dX11_drawn_54 : decode cX11_drawn 54 = .ok (.iload 7, 2) := dc_21 (show ((cX11_drawn.data.toList.drop 54).take 2).map UInt8.toNat = [21, 7] by decide +kernel) rfl
theorem dX11_drawn_56 : decode cX11_drawn 56 = .ok (.iload_n 3, 1) := dc_29 (show ((cX11_drawn.data.toList.drop 56).take 1).map UInt8.toNat = [29] by decide +kernel)
theorem dX11_drawn_57 : decode cX11_drawn 57 = .ok (.if_icmp .ge 22, 3) := dc_162 (show ((cX11_drawn.data.toList.drop 57).take 3).map UInt8.toNat = [162, 0, 22] by decide +kernel) rfl
theorem dX11_drawn_79 : decode cX11_drawn 79 = .ok (.iload 6, 2) := dc_21 (show ((cX11_drawn.data.toList.drop 79).take 2).map UInt8.toNat = [21, 6] by decide +kernel) rfl
theorem dX11_drawn_81 : decode cX11_drawn 81 = .ok (.ireturn, 1) := dc_172 (show ((cX11_drawn.data.toList.drop 81).take 1).map UInt8.toNat = [172] by decide +kernel)
theorem dX11_drawn_60 : decode cX11_drawn 60 = .ok (.iload 6, 2) := dc_21 (show ((cX11_drawn.data.toList.drop 60).take 2).map UInt8.toNat = [21, 6] by decide +kernel) rfl
theorem dX11_drawn_62 : decode cX11_drawn 62 = .ok (.aload_n 0, 1) := dc_42 (show ((cX11_drawn.data.toList.drop 62).take 1).map UInt8.toNat = [42] by decide +kernel)
theorem dX11_drawn_63 : decode cX11_drawn 63 = .ok (.aload 5, 2) := dc_25 (show ((cX11_drawn.data.toList.drop 63).take 2).map UInt8.toNat = [25, 5] by decide +kernel) rfl
theorem dX11_drawn_65 : decode cX11_drawn 65 = .ok (.iload 4, 2) := dc_21 (show ((cX11_drawn.data.toList.drop 65).take 2).map UInt8.toNat = [21, 4] by decide +kernel) rfl
theorem dX11_drawn_67 : decode cX11_drawn 67 = .ok (.invokevirtual 387, 3) := dc_182 (show ((cX11_drawn.data.toList.drop 67).take 3).map UInt8.toNat = [182, 1, 131] by decide +kernel) rfl
theorem dX11_drawnNight_0 : decode cX11_drawnNight 0 = .ok (.aload_n 0, 1) := dc_42 (show ((cX11_drawnNight.data.toList.drop 0).take 1).map UInt8.toNat = [42] by decide +kernel)
theorem dX11_drawnNight_1 : decode cX11_drawnNight 1 = .ok (.getfield 56, 3) := dc_180 (show ((cX11_drawnNight.data.toList.drop 1).take 3).map UInt8.toNat = [180, 0, 56] by decide +kernel) rfl
theorem dX11_drawnNight_4 : decode cX11_drawnNight 4 = .ok (.aload_n 1, 1) := dc_43 (show ((cX11_drawnNight.data.toList.drop 4).take 1).map UInt8.toNat = [43] by decide +kernel)
theorem dX11_drawnNight_5 : decode cX11_drawnNight 5 = .ok (.invokevirtual 390, 3) := dc_182 (show ((cX11_drawnNight.data.toList.drop 5).take 3).map UInt8.toNat = [182, 1, 134] by decide +kernel) rfl
theorem w_1105 : (Cond.methodLink "GooseBorder" (390 : Nat) ({ cls := "GooseBorder$Play", name := "begin", desc := "(LGooseBorder$Border;)V" } : MethodName)) ∈ gb_wA := gb_t5 145 rfl rfl
theorem dX11_drawnNight_8 : decode cX11_drawnNight 8 = .ok (.iconst 0, 1) := dc_3 (show ((cX11_drawnNight.data.toList.drop 8).take 1).map UInt8.toNat = [3] by decide +kernel)
theorem dX11_drawnNight_9 : decode cX11_drawnNight 9 = .ok (.istore_n 3, 1) := dc_62 (show ((cX11_drawnNight.data.toList.drop 9).take 1).map UInt8.toNat = [62] by decide +kernel)
theorem dX11_drawnNight_10 : decode cX11_drawnNight 10 = .ok (.iload_n 3, 1) := dc_29 (show ((cX11_drawnNight.data.toList.drop 10).take 1).map UInt8.toNat = [29] by decide +kernel)
theorem dX11_drawnNight_11 : decode cX11_drawnNight 11 = .ok (.aload_n 1, 1) := dc_43 (show ((cX11_drawnNight.data.toList.drop 11).take 1).map UInt8.toNat = [43] by decide +kernel)
theorem dX11_drawnNight_12 : decode cX11_drawnNight 12 = .ok (.invokevirtual 121, 3) := dc_182 (show ((cX11_drawnNight.data.toList.drop 12).take 3).map UInt8.toNat = [182, 0, 121] by decide +kernel) rfl
theorem dX11_drawnNight_15 : decode cX11_drawnNight 15 = .ok (.if_icmp .ge 37, 3) := dc_162 (show ((cX11_drawnNight.data.toList.drop 15).take 3).map UInt8.toNat = [162, 0, 37] by decide +kernel) rfl
theorem dX11_drawnNight_52 : decode cX11_drawnNight 52 = .ok (.aload_n 0, 1) := dc_42 (show ((cX11_drawnNight.data.toList.drop 52).take 1).map UInt8.toNat = [42] by decide +kernel)
theorem dX11_drawnNight_53 : decode cX11_drawnNight 53 = .ok (.getfield 56, 3) := dc_180 (show ((cX11_drawnNight.data.toList.drop 53).take 3).map UInt8.toNat = [180, 0, 56] by decide +kernel) rfl
theorem dX11_drawnNight_56 : decode cX11_drawnNight 56 = .ok (.aload_n 0, 1) := dc_42 (show ((cX11_drawnNight.data.toList.drop 56).take 1).map UInt8.toNat = [42] by decide +kernel)
theorem dX11_drawnNight_57 : decode cX11_drawnNight 57 = .ok (.bipush 11, 2) := dc_16 (show ((cX11_drawnNight.data.toList.drop 57).take 2).map UInt8.toNat = [16, 11] by decide +kernel) rfl
theorem dX11_drawnNight_59 : decode cX11_drawnNight 59 = .ok (.invokevirtual 394, 3) := dc_182 (show ((cX11_drawnNight.data.toList.drop 59).take 3).map UInt8.toNat = [182, 1, 138] by decide +kernel) rfl
theorem dX11_numberBelow_0 : decode cX11_numberBelow 0 = .ok (.aload_n 0, 1) := dc_42 (show ((cX11_numberBelow.data.toList.drop 0).take 1).map UInt8.toNat = [42] by decide +kernel)
theorem dX11_numberBelow_1 : decode cX11_numberBelow 1 = .ok (.aload_n 0, 1) := dc_42 (show ((cX11_numberBelow.data.toList.drop 1).take 1).map UInt8.toNat = [42] by decide +kernel)
theorem dX11_numberBelow_2 : decode cX11_numberBelow 2 = .ok (.getfield 384, 3) := dc_180 (show ((cX11_numberBelow.data.toList.drop 2).take 3).map UInt8.toNat = [180, 1, 128] by decide +kernel) rfl
theorem dX11_numberBelow_5 : decode cX11_numberBelow 5 = .ok (.ldc_w 410, 3) := dc_19 (show ((cX11_numberBelow.data.toList.drop 5).take 3).map UInt8.toNat = [19, 1, 154] by decide +kernel) rfl
theorem w_1110 : (Cond.constant "GooseBorder" (410 : Nat) (1103515245 : Int32)) ∈ gb_wA := gb_t5 150 rfl rfl
theorem dX11_numberBelow_8 : decode cX11_numberBelow 8 = .ok (.imul, 1) := dc_104 (show ((cX11_numberBelow.data.toList.drop 8).take 1).map UInt8.toNat = [104] by decide +kernel)
theorem dX11_numberBelow_9 : decode cX11_numberBelow 9 = .ok (.sipush 12345, 3) := dc_17 (show ((cX11_numberBelow.data.toList.drop 9).take 3).map UInt8.toNat = [17, 48, 57] by decide +kernel) rfl
theorem dX11_numberBelow_12 : decode cX11_numberBelow 12 = .ok (.iadd, 1) := dc_96 (show ((cX11_numberBelow.data.toList.drop 12).take 1).map UInt8.toNat = [96] by decide +kernel)
theorem dX11_numberBelow_13 : decode cX11_numberBelow 13 = .ok (.putfield 384, 3) := dc_181 (show ((cX11_numberBelow.data.toList.drop 13).take 3).map UInt8.toNat = [181, 1, 128] by decide +kernel) rfl
theorem dX11_numberBelow_16 : decode cX11_numberBelow 16 = .ok (.iload_n 1, 1) := dc_27 (show ((cX11_numberBelow.data.toList.drop 16).take 1).map UInt8.toNat = [27] by decide +kernel)
theorem dX11_numberBelow_17 : decode cX11_numberBelow 17 = .ok (.ifCond .le 15, 3) := dc_158 (show ((cX11_numberBelow.data.toList.drop 17).take 3).map UInt8.toNat = [158, 0, 15] by decide +kernel) rfl
theorem dX11_numberBelow_32 : decode cX11_numberBelow 32 = .ok (.iconst 0, 1) := dc_3 (show ((cX11_numberBelow.data.toList.drop 32).take 1).map UInt8.toNat = [3] by decide +kernel)
theorem dX11_numberBelow_33 : decode cX11_numberBelow 33 = .ok (.ireturn, 1) := dc_172 (show ((cX11_numberBelow.data.toList.drop 33).take 1).map UInt8.toNat = [172] by decide +kernel)
theorem dX11_numberBelow_20 : decode cX11_numberBelow 20 = .ok (.aload_n 0, 1) := dc_42 (show ((cX11_numberBelow.data.toList.drop 20).take 1).map UInt8.toNat = [42] by decide +kernel)
theorem dX11_numberBelow_21 : decode cX11_numberBelow 21 = .ok (.getfield 384, 3) := dc_180 (show ((cX11_numberBelow.data.toList.drop 21).take 3).map UInt8.toNat = [180, 1, 128] by decide +kernel) rfl
theorem dX11_numberBelow_24 : decode cX11_numberBelow 24 = .ok (.bipush 16, 2) := dc_16 (show ((cX11_numberBelow.data.toList.drop 24).take 2).map UInt8.toNat = [16, 16] by decide +kernel) rfl
theorem dX11_numberBelow_26 : decode cX11_numberBelow 26 = .ok (.iushr, 1) := dc_124 (show ((cX11_numberBelow.data.toList.drop 26).take 1).map UInt8.toNat = [124] by decide +kernel)
theorem dX11_numberBelow_27 : decode cX11_numberBelow 27 = .ok (.iload_n 1, 1) := dc_27 (show ((cX11_numberBelow.data.toList.drop 27).take 1).map UInt8.toNat = [27] by decide +kernel)
theorem dX11_numberBelow_28 : decode cX11_numberBelow 28 = .ok (.irem, 1) := dc_112 (show ((cX11_numberBelow.data.toList.drop 28).take 1).map UInt8.toNat = [112] by decide +kernel)
theorem dX11_numberBelow_29 : decode cX11_numberBelow 29 = .ok (.goto 4, 3) := dc_167 (show ((cX11_numberBelow.data.toList.drop 29).take 3).map UInt8.toNat = [167, 0, 4] by decide +kernel) rfl
def cs_Face_numberBelow (n : Nat) (σ : gb_S) (p1 : Int32) : gb_CR Int32 := gb_lt (gb_su σ 0 (upd (σ.1 0) 9 (((σ.1 0 9) * 1103515245) + 12345))) (fun s_1 => (if p1 ≤ 0 then some (s_1, 0) else gb_nz p1 (gb_lt (((((s_1.1 0 9) : Int32).toUInt32 >>> ((16 : Int32).toUInt32 &&& Int32.toUInt32 31)).toInt32) - ((((s_1.1 0 9) : Int32).toUInt32 >>> ((16 : Int32).toUInt32 &&& Int32.toUInt32 31)).toInt32) / p1 * p1) (fun x_4 => some (s_1, x_4)))))
set_option maxHeartbeats 8000000 in
set_option maxRecDepth 100000 in
theorem cc_Face_numberBelow (l : Launch) (D : va_G) (cT : Nat → ClassId) (tt : Nat → Nat) (b1 b : Nat) (hb1 : b1 ≤ b) (n : Nat) (σ : gb_S) (p1 : Int32) (σE : gb_S) (rE : Int32) (h : cs_Face_numberBelow n σ p1 = some (σE, rE)) : Met l yX11_numberBelow (.code yX11_numberBelow cX11_numberBelow 2 (some FieldType.int) :: gb_wA) ({ frames := 0, cells := 0, slots := 0, locals := 0 }) (gb_Pc D cT tt b1 [.ref (b + 0), .int p1] (fun h => va_P D vwCl (gb_wl b (gb_CW cT b σ)) h)) (gb_Qi (fun r h => r = rE ∧ va_P D vwCl (gb_wl b (gb_CW cT b σE)) h) (gb_fr b 135)) 0 0 (gb_fr b 135) := by
  refine Met.ofW (cc := cX11_numberBelow) (maxL := 2) (ret := (some FieldType.int)) (by decide) rfl ?_
  intro p e s m args below meth c s₁ B hml hv
  obtain ⟨rfl, hSt, hP⟩ := hv
  have hx := B.exec
  have hb := B.bytes
  have hr := B.returns
  have hts := atoms_spec (ws := .code yX11_numberBelow cX11_numberBelow 2 (some FieldType.int) :: gb_wA) B.pre
  have hq : ∀ w ∈ gb_wA, w.before _ s = true := fun w h => hts w (List.mem_cons_of_mem _ h)
  have hown : s.vm.findClass RX11 = some m.cls := findClass_of_methodNamed B.named
  have hlocks := B.notSynchronized
  clear B hts
  have hK := hSt.1
  have hS : va_S (gb_fr b 135) s.heap s.heap [] := va_S.rf
  have hl := lv_entry ([.ref (b + 0), .int p1]) (n := 2) (Nat.le_of_ble_eq_true rfl)
  rw [lg_entry_eq]
  generalize (lg_sl ([.ref (b + 0), .int p1]) ++ List.replicate (2 - (lg_sl ([.ref (b + 0), .int p1])).length) Slot.unset).toArray = ls at hl ⊢
  replace hl : lv_has ls 2 [(0, .ref (b + 0)), (1, .int p1)] := hl
  unfold cs_Face_numberBelow at h
  refine lv_aload_n hx hb dX11_numberBelow_0 rfl (lv_at hl 0 rfl) ?_
  refine lv_aload_n hx hb dX11_numberBelow_1 rfl (lv_at hl 0 rfl) ?_
  refine va_get (ci := 9) (v := (.int (σ.1 0 9))) (C := RX11) (T := TX11) (N := 10) hx hb hq i_X11 hown hK hP 0 (gb_at b rfl) rfl 9 (by decide) (hq _ w_324) (fun _ h9 => h9) rfl dX11_numberBelow_2 ?_
  refine lv_ldcw (v := 1103515245) hx hb hown (hq _ w_1110) dX11_numberBelow_5 ?_
  refine lv_imul hx hb dX11_numberBelow_8 ?_
  refine lv_sipush (v := 12345) hx hb dX11_numberBelow_9 (by decide) ?_
  refine lv_iadd hx hb dX11_numberBelow_12 ?_
  refine gb_put (ci := 9) (v := (.int (((σ.1 0 9) * 1103515245) + 12345))) (ty := .int) (C := RX11) (T := TX11) (N := 10) hx hb hq i_X11 tyX11 tyX11_ok nmX11 hown hK hP (fun k h => ⟨Nat.le_add_right b k, Nat.add_lt_add_left h b⟩) hS rfl 0 rfl rfl 9 (by decide) (hq _ w_324) (fun _ h9 => h9) rfl (by decide +kernel) rfl rfl (Nat.le_of_ble_eq_true rfl) dX11_numberBelow_13 (fun H locs hP hz_ hS => ?_)
  obtain ⟨s_1, es_1⟩ : ∃ q, q = (gb_su σ 0 (upd (σ.1 0) 9 (((σ.1 0 9) * 1103515245) + 12345))) := ⟨_, rfl⟩
  replace hP : va_P D vwCl (gb_wl b (gb_CW cT b s_1)) H := by rw [es_1]; exact hP
  replace h := gb_lt_s es_1 h
  refine lv_iload_n hx hb dX11_numberBelow_16 rfl (lv_at hl 1 rfl) ?_
  refine lv_if_le (tgt := 32) hx hb dX11_numberBelow_17 (by decide) (fun c_2 => ?_) (fun c_2 => ?_)
  · rw [if_pos c_2] at h
    refine lv_iconst (v := 0) hx hb dX11_numberBelow_32 (by decide) ?_
    obtain ⟨e1, e2⟩ := gb_eq2 h
    exact W.iret (v := 0) hx hb hr (fun t ht hW => gb_ri ht ⟨e2, by rw [← e1]; exact hP⟩ hS) hS.2.2 dX11_numberBelow_33
  · rw [if_neg c_2] at h
    refine lv_aload_n hx hb dX11_numberBelow_20 rfl (lv_at hl 0 rfl) ?_
    refine va_get (ci := 9) (v := (.int (s_1.1 0 9))) (C := RX11) (T := TX11) (N := 10) hx hb hq i_X11 hown hK hP 0 (gb_at b rfl) rfl 9 (by decide) (hq _ w_324) (fun _ h9 => h9) rfl dX11_numberBelow_21 ?_
    refine lv_bipush (v := 16) hx hb dX11_numberBelow_24 (by decide) ?_
    refine lv_iushr (v := ((((s_1.1 0 9) : Int32).toUInt32 >>> ((16 : Int32).toUInt32 &&& Int32.toUInt32 31)).toInt32)) hx hb dX11_numberBelow_26 rfl ?_
    refine lv_iload_n hx hb dX11_numberBelow_27 rfl (lv_at hl 1 rfl) ?_
    obtain ⟨z_3, h⟩ := gb_nz_s h
    refine lv_irem hx hb dX11_numberBelow_28 z_3 ?_
    refine lv_topi (fun x_4 ex_4 => ?_)
    replace h := gb_lt_s ex_4 h
    refine lv_goto (tgt := 33) hx hb dX11_numberBelow_29 (by decide) ?_
    obtain ⟨e1, e2⟩ := gb_eq2 h
    exact W.iret (v := x_4) hx hb hr (fun t ht hW => gb_ri ht ⟨e2, by rw [← e1]; exact hP⟩ hS) hS.2.2 dX11_numberBelow_33
theorem w_1109 : (Cond.code ({ cls := "GooseBorder", name := "numberBelow", desc := "(I)I" } : MethodName) prog_1_method_51_code (2 : Nat) (Option.some FieldType.int)) ∈ gb_wA := gb_t5 149 rfl rfl
theorem w_1106 : (Cond.methodLink "GooseBorder" (394 : Nat) ({ cls := "GooseBorder", name := "numberBelow", desc := "(I)I" } : MethodName)) ∈ gb_wA := gb_t5 146 rfl rfl
theorem w_1108 : (Cond.instanceMethod ({ cls := "GooseBorder", name := "numberBelow", desc := "(I)I" } : MethodName)) ∈ gb_wA := gb_t5 148 rfl rfl
theorem s_2_15 : Cond.selects "GooseBorder" (⟨"GooseBorder", "numberBelow", "(I)I"⟩ : MethodName) (⟨"GooseBorder", "numberBelow", "(I)I"⟩ : MethodName) ∈ gb_wA := gb_s2 15 rfl rfl
theorem dX11_drawnNight_62 : decode cX11_drawnNight 62 = .ok (.invokevirtual 401, 3) := dc_182 (show ((cX11_drawnNight.data.toList.drop 62).take 3).map UInt8.toNat = [182, 1, 145] by decide +kernel) rfl
theorem w_1112 : (Cond.methodLink "GooseBorder" (401 : Nat) ({ cls := "GooseBorder$Play", name := "rainDown", desc := "(I)V" } : MethodName)) ∈ gb_wA := gb_t5 152 rfl rfl
theorem dX11_drawnNight_65 : decode cX11_drawnNight 65 = .ok (.iconst 0, 1) := dc_3 (show ((cX11_drawnNight.data.toList.drop 65).take 1).map UInt8.toNat = [3] by decide +kernel)
theorem dX11_drawnNight_66 : decode cX11_drawnNight 66 = .ok (.istore_n 3, 1) := dc_62 (show ((cX11_drawnNight.data.toList.drop 66).take 1).map UInt8.toNat = [62] by decide +kernel)
theorem dX11_drawnNight_67 : decode cX11_drawnNight 67 = .ok (.iconst 0, 1) := dc_3 (show ((cX11_drawnNight.data.toList.drop 67).take 1).map UInt8.toNat = [3] by decide +kernel)
theorem dX11_drawnNight_68 : decode cX11_drawnNight 68 = .ok (.istore 4, 2) := dc_54 (show ((cX11_drawnNight.data.toList.drop 68).take 2).map UInt8.toNat = [54, 4] by decide +kernel) rfl
theorem dX11_drawnNight_70 : decode cX11_drawnNight 70 = .ok (.iload 4, 2) := dc_21 (show ((cX11_drawnNight.data.toList.drop 70).take 2).map UInt8.toNat = [21, 4] by decide +kernel) rfl
theorem dX11_drawnNight_72 : decode cX11_drawnNight 72 = .ok (.aload_n 1, 1) := dc_43 (show ((cX11_drawnNight.data.toList.drop 72).take 1).map UInt8.toNat = [43] by decide +kernel)
theorem dX11_drawnNight_73 : decode cX11_drawnNight 73 = .ok (.invokevirtual 117, 3) := dc_182 (show ((cX11_drawnNight.data.toList.drop 73).take 3).map UInt8.toNat = [182, 0, 117] by decide +kernel) rfl
theorem dX11_drawnNight_76 : decode cX11_drawnNight 76 = .ok (.if_icmp .ge 27, 3) := dc_162 (show ((cX11_drawnNight.data.toList.drop 76).take 3).map UInt8.toNat = [162, 0, 27] by decide +kernel) rfl
theorem dX11_drawnNight_103 : decode cX11_drawnNight 103 = .ok (.iload_n 2, 1) := dc_28 (show ((cX11_drawnNight.data.toList.drop 103).take 1).map UInt8.toNat = [28] by decide +kernel)
theorem dX11_drawnNight_104 : decode cX11_drawnNight 104 = .ok (.tableswitch 46 0 2 #[28, 36, 44], 28) := by decide +kernel
theorem dX11_drawnNight_132 : decode cX11_drawnNight 132 = .ok (.aload_n 0, 1) := dc_42 (show ((cX11_drawnNight.data.toList.drop 132).take 1).map UInt8.toNat = [42] by decide +kernel)
theorem dX11_drawnNight_133 : decode cX11_drawnNight 133 = .ok (.getfield 56, 3) := dc_180 (show ((cX11_drawnNight.data.toList.drop 133).take 3).map UInt8.toNat = [180, 0, 56] by decide +kernel) rfl
theorem dX11_drawnNight_136 : decode cX11_drawnNight 136 = .ok (.invokevirtual 407, 3) := dc_182 (show ((cX11_drawnNight.data.toList.drop 136).take 3).map UInt8.toNat = [182, 1, 151] by decide +kernel) rfl
theorem dX6_allTallies_0 : decode cX6_allTallies 0 = .ok (.iconst 0, 1) := dc_3 (show ((cX6_allTallies.data.toList.drop 0).take 1).map UInt8.toNat = [3] by decide +kernel)
theorem dX6_allTallies_1 : decode cX6_allTallies 1 = .ok (.istore_n 1, 1) := dc_60 (show ((cX6_allTallies.data.toList.drop 1).take 1).map UInt8.toNat = [60] by decide +kernel)
theorem dX6_allTallies_2 : decode cX6_allTallies 2 = .ok (.iconst 0, 1) := dc_3 (show ((cX6_allTallies.data.toList.drop 2).take 1).map UInt8.toNat = [3] by decide +kernel)
theorem dX6_allTallies_3 : decode cX6_allTallies 3 = .ok (.istore_n 2, 1) := dc_61 (show ((cX6_allTallies.data.toList.drop 3).take 1).map UInt8.toNat = [61] by decide +kernel)
theorem dX6_allTallies_4 : decode cX6_allTallies 4 = .ok (.iload_n 2, 1) := dc_28 (show ((cX6_allTallies.data.toList.drop 4).take 1).map UInt8.toNat = [28] by decide +kernel)
theorem dX6_allTallies_5 : decode cX6_allTallies 5 = .ok (.aload_n 0, 1) := dc_42 (show ((cX6_allTallies.data.toList.drop 5).take 1).map UInt8.toNat = [42] by decide +kernel)
theorem dX6_allTallies_6 : decode cX6_allTallies 6 = .ok (.getfield 12, 3) := dc_180 (show ((cX6_allTallies.data.toList.drop 6).take 3).map UInt8.toNat = [180, 0, 12] by decide +kernel) rfl
theorem dX6_allTallies_9 : decode cX6_allTallies 9 = .ok (.invokevirtual 128, 3) := dc_182 (show ((cX6_allTallies.data.toList.drop 9).take 3).map UInt8.toNat = [182, 0, 128] by decide +kernel) rfl
theorem dX6_allTallies_12 : decode cX6_allTallies 12 = .ok (.if_icmp .ge 17, 3) := dc_162 (show ((cX6_allTallies.data.toList.drop 12).take 3).map UInt8.toNat = [162, 0, 17] by decide +kernel) rfl
theorem dX6_allTallies_29 : decode cX6_allTallies 29 = .ok (.iload_n 1, 1) := dc_27 (show ((cX6_allTallies.data.toList.drop 29).take 1).map UInt8.toNat = [27] by decide +kernel)
theorem dX6_allTallies_30 : decode cX6_allTallies 30 = .ok (.ireturn, 1) := dc_172 (show ((cX6_allTallies.data.toList.drop 30).take 1).map UInt8.toNat = [172] by decide +kernel)
theorem dX6_allTallies_15 : decode cX6_allTallies 15 = .ok (.iload_n 1, 1) := dc_27 (show ((cX6_allTallies.data.toList.drop 15).take 1).map UInt8.toNat = [27] by decide +kernel)
theorem dX6_allTallies_16 : decode cX6_allTallies 16 = .ok (.aload_n 0, 1) := dc_42 (show ((cX6_allTallies.data.toList.drop 16).take 1).map UInt8.toNat = [42] by decide +kernel)
theorem dX6_allTallies_17 : decode cX6_allTallies 17 = .ok (.iload_n 2, 1) := dc_28 (show ((cX6_allTallies.data.toList.drop 17).take 1).map UInt8.toNat = [28] by decide +kernel)
theorem dX6_allTallies_18 : decode cX6_allTallies 18 = .ok (.invokevirtual 134, 3) := dc_182 (show ((cX6_allTallies.data.toList.drop 18).take 3).map UInt8.toNat = [182, 0, 134] by decide +kernel) rfl
theorem dX6_allTallies_21 : decode cX6_allTallies 21 = .ok (.iadd, 1) := dc_96 (show ((cX6_allTallies.data.toList.drop 21).take 1).map UInt8.toNat = [96] by decide +kernel)
theorem dX6_allTallies_22 : decode cX6_allTallies 22 = .ok (.istore_n 1, 1) := dc_60 (show ((cX6_allTallies.data.toList.drop 22).take 1).map UInt8.toNat = [60] by decide +kernel)
theorem dX6_allTallies_23 : decode cX6_allTallies 23 = .ok (.iinc 2 1, 3) := dc_132 (show ((cX6_allTallies.data.toList.drop 23).take 3).map UInt8.toNat = [132, 2, 1] by decide +kernel) rfl
theorem dX6_allTallies_26 : decode cX6_allTallies 26 = .ok (.goto (-22), 3) := dc_167 (show ((cX6_allTallies.data.toList.drop 26).take 3).map UInt8.toNat = [167, 255, 234] by decide +kernel) rfl
def cs_Play_allTallies_4 (n : Nat) : Nat → gb_S → Int32 → Int32 → gb_CR Int32
  | 0, _, _, _ => none
  | mm + 1, σ, v1, v2 => gb_kk (gb_kB (σ.2.1 1)) (gb_cd (cs_Border_paths_B n σ (σ.2.1 1)) (fun s_2 r_3 => (if r_3 ≤ v2 then some (s_2, v1) else gb_cd (cs_Play_tally n s_2 v2) (fun s_7 r_8 => gb_lt (v1 + r_8) (fun x_11 => gb_lt (v2 + 1) (fun x_12 => cs_Play_allTallies_4 n mm s_7 x_11 x_12))))))
def cs_Play_allTallies (n : Nat) (σ : gb_S) : gb_CR Int32 := cs_Play_allTallies_4 n n σ 0 0
set_option maxHeartbeats 8000000 in
set_option maxRecDepth 100000 in
theorem cc_Play_allTallies (l : Launch) (D : va_G) (cT : Nat → ClassId) (tt : Nat → Nat) (b1 b : Nat) (hb1 : b1 ≤ b) (n : Nat) (σ : gb_S) (σE : gb_S) (rE : Int32) (h : cs_Play_allTallies n σ = some (σE, rE)) : Met l yX6_allTallies (.code yX6_allTallies cX6_allTallies 3 (some FieldType.int) :: gb_wA) ({ frames := 2, cells := 0, slots := 0, locals := 34 }) (gb_Pc D cT tt b1 [.ref (b + 109)] (fun h => va_P D vwCl (gb_wl b (gb_CW cT b σ)) h)) (gb_Qi (fun r h => r = rE ∧ va_P D vwCl (gb_wl b (gb_CW cT b σE)) h) (gb_fr b 135)) 0 0 (gb_fr b 135) := by
  refine Met.ofW (cc := cX6_allTallies) (maxL := 3) (ret := (some FieldType.int)) (by decide) rfl ?_
  intro p e s m args below meth c s₁ B hml hv
  obtain ⟨rfl, hSt, hP⟩ := hv
  have hx := B.exec
  have hb := B.bytes
  have hr := B.returns
  have hts := atoms_spec (ws := .code yX6_allTallies cX6_allTallies 3 (some FieldType.int) :: gb_wA) B.pre
  have hq : ∀ w ∈ gb_wA, w.before _ s = true := fun w h => hts w (List.mem_cons_of_mem _ h)
  have hown : s.vm.findClass RX6 = some m.cls := findClass_of_methodNamed B.named
  have hlocks := B.notSynchronized
  clear B hts
  have hK := hSt.1
  have hS : va_S (gb_fr b 135) s.heap s.heap [] := va_S.rf
  have hl := lv_entry ([.ref (b + 109)]) (n := 3) (Nat.le_of_ble_eq_true rfl)
  rw [lg_entry_eq]
  generalize (lg_sl ([.ref (b + 109)]) ++ List.replicate (3 - (lg_sl ([.ref (b + 109)])).length) Slot.unset).toArray = ls at hl ⊢
  replace hl : lv_has ls 3 [(0, .ref (b + 109))] := hl
  have L4_1 : ∀ (mm : Nat) (σ : gb_S) (v1 : Int32) (v2 : Int32) (H : Heap) (locs : List Loc) (ls : Array Slot), cs_Play_allTallies_4 n mm σ v1 v2 = some (σE, rE) → va_P D vwCl (gb_wl b (gb_CW cT b σ)) H → va_S (gb_fr b 135) s.heap H locs → lv_has ls 3 [(0, .ref (b + 109)), (1, .int v1), (2, .int v2)] → W p l e (headSpec (.code yX6_allTallies cX6_allTallies 3 (some FieldType.int) :: gb_wA) ({ frames := 2, cells := 0, slots := 0, locals := 34 })).room s m ([.ref (b + 109)]).toArray below meth c H locs 0 0 (MQ below (gb_Qi (fun r h => r = rE ∧ va_P D vwCl (gb_wl b (gb_CW cT b σE)) h) (gb_fr b 135)) ([.ref (b + 109)]).toArray s 0 0 (gb_fr b 135)) (F0 m 4 ls []) := by
    clear h hP hS hl ls
    intro mm
    induction mm with
    | zero =>
      intro σ v1 v2 H locs ls h
      cases h
    | succ mm ih =>
      intro σ v1 v2 H locs ls h hP hS hl
      rw [cs_Play_allTallies_4] at h
      refine lv_iload_n hx hb dX6_allTallies_4 rfl (lv_at hl 2 rfl) ?_
      refine lv_aload_n hx hb dX6_allTallies_5 rfl (lv_at hl 0 rfl) ?_
      obtain ⟨z_1, h⟩ := gb_kk_s h
      refine va_get (ci := 5) (v := (.ref (b + (σ.2.1 1)))) (C := RX6) (T := TX6) (N := 12) hx hb hq i_X6 hown hK hP 109 (gb_at b rfl) rfl 0 (by decide) (hq _ w_197) (fun _ h9 => h9) rfl dX6_allTallies_6 ?_
      obtain ⟨s_2, r_3, z_4, h⟩ := gb_cd_s h
      refine gb_calli (va_runV (C := RX0) (As := []) (rest := [.int v2]) ⟨hx, hb, hml, hown, hq⟩ (cc_Border_paths_B l D cT tt b1 b hb1 n σ (σ.2.1 1) s_2 r_3 z_4) (cwV 0 hq (gb_gV w_754 w_473 w_474 w_4 w_475) rfl rfl rfl (by decide +kernel) ⟨Nat.le_of_ble_eq_true rfl, Nat.le_of_ble_eq_true rfl⟩) (gb_preV (r := (RX0, TX0, 1)) (ci := 0) (q0 := (σ.2.1 1)) hSt hP rfl (gb_at b (gb_cB z_1).1) hS (fun q h => Nat.le_trans hb1 h.1) hP) rfl rfl hl.1 rfl (lv_room (Nat.le_of_ble_eq_true rfl)) dX6_allTallies_9 ⟨Nat.le_of_ble_eq_true rfl, Nat.le_of_ble_eq_true rfl⟩) hS (fun _ h => h) (fun _ h => h) (fun q_5 H locs hY hk hS => ?_)
      obtain ⟨hq_5, hP⟩ := hY
      replace hq_5 := hq_5.symm
      subst hq_5
      refine lv_icmp_ge (tgt := 29) hx hb dX6_allTallies_12 (by decide) (fun c_6 => ?_) (fun c_6 => ?_)
      · rw [if_pos c_6] at h
        refine lv_iload_n hx hb dX6_allTallies_29 rfl (lv_at hl 1 rfl) ?_
        obtain ⟨e1, e2⟩ := gb_eq2 h
        exact W.iret (v := v1) hx hb hr (fun t ht hW => gb_ri ht ⟨e2, by rw [← e1]; exact hP⟩ hS) hS.2.2 dX6_allTallies_30
      · rw [if_neg c_6] at h
        refine lv_iload_n hx hb dX6_allTallies_15 rfl (lv_at hl 1 rfl) ?_
        refine lv_aload_n hx hb dX6_allTallies_16 rfl (lv_at hl 0 rfl) ?_
        refine lv_iload_n hx hb dX6_allTallies_17 rfl (lv_at hl 2 rfl) ?_
        obtain ⟨s_7, r_8, z_9, h⟩ := gb_cd_s h
        refine gb_calli (va_runV (C := RX6) (As := [.int v2]) (rest := [.int v1]) ⟨hx, hb, hml, hown, hq⟩ (cc_Play_tally l D cT tt b1 b hb1 n s_2 v2 s_7 r_8 z_9) (cwV 1 hq (gb_gV w_825 w_772 w_773 w_11 w_774) rfl rfl rfl (by decide +kernel) ⟨Nat.le_of_ble_eq_true rfl, Nat.le_of_ble_eq_true rfl⟩) (gb_preV (r := (RX6, TX6, 12)) (ci := 5) (q0 := 109) hSt hP rfl (gb_at b rfl) hS (fun q h => Nat.le_trans hb1 h.1) hP) rfl rfl hl.1 rfl (lv_room (Nat.le_of_ble_eq_true rfl)) dX6_allTallies_18 ⟨Nat.le_of_ble_eq_true rfl, Nat.le_of_ble_eq_true rfl⟩) hS (fun _ h => h) (fun _ h => h) (fun q_10 H locs hY hk hS => ?_)
        obtain ⟨hq_10, hP⟩ := hY
        replace hq_10 := hq_10.symm
        subst hq_10
        refine lv_iadd hx hb dX6_allTallies_21 ?_
        refine lv_topi (fun x_11 ex_11 => ?_)
        replace h := gb_lt_s ex_11 h
        refine lv_istore_n (lv' := [(1, .int x_11), (0, .ref (b + 109)), (2, .int v2)]) hx hb dX6_allTallies_22 rfl hl (by decide) rfl (fun ls hl => ?_)
        obtain ⟨x_12, ex_12⟩ : ∃ q, q = (v2 + 1) := ⟨_, rfl⟩
        replace h := gb_lt_s ex_12 h
        refine lv_iinc (v := x_12) (lv' := [(2, .int x_12), (1, .int x_11), (0, .ref (b + 109))]) hx hb dX6_allTallies_23 hl (k := 2) rfl (by rw [ex_12]; rfl) (by decide) rfl (fun ls hl => ?_)
        refine lv_goto (tgt := 4) hx hb dX6_allTallies_26 (by decide) ?_
        exact ih _ _ _ _ _ _ h hP hS (lv_sub hl [2, 1, 0] rfl)
  unfold cs_Play_allTallies at h
  refine lv_iconst (v := 0) hx hb dX6_allTallies_0 (by decide) ?_
  refine lv_istore_n (lv' := [(1, .int 0), (0, .ref (b + 109))]) hx hb dX6_allTallies_1 rfl hl (by decide) rfl (fun ls hl => ?_)
  refine lv_iconst (v := 0) hx hb dX6_allTallies_2 (by decide) ?_
  refine lv_istore_n (lv' := [(2, .int 0), (1, .int 0), (0, .ref (b + 109))]) hx hb dX6_allTallies_3 rfl hl (by decide) rfl (fun ls hl => ?_)
  exact L4_1 n _ _ _ _ _ _ h hP hS (lv_sub hl [2, 1, 0] rfl)
theorem w_1117 : (Cond.code ({ cls := "GooseBorder$Play", name := "allTallies", desc := "()I" } : MethodName) prog_8_method_12_code (3 : Nat) (Option.some FieldType.int)) ∈ gb_wA := gb_t5 157 rfl rfl
theorem w_1114 : (Cond.methodLink "GooseBorder" (407 : Nat) ({ cls := "GooseBorder$Play", name := "allTallies", desc := "()I" } : MethodName)) ∈ gb_wA := gb_t5 154 rfl rfl
theorem w_1115 : (Cond.instanceMethod ({ cls := "GooseBorder$Play", name := "allTallies", desc := "()I" } : MethodName)) ∈ gb_wA := gb_t5 155 rfl rfl
theorem w_1116 : (Cond.selects "GooseBorder$Play" ({ cls := "GooseBorder$Play", name := "allTallies", desc := "()I" } : MethodName) ({ cls := "GooseBorder$Play", name := "allTallies", desc := "()I" } : MethodName)) ∈ gb_wA := gb_t5 156 rfl rfl
theorem dX11_drawnNight_139 : decode cX11_drawnNight 139 = .ok (.ireturn, 1) := dc_172 (show ((cX11_drawnNight.data.toList.drop 139).take 1).map UInt8.toNat = [172] by decide +kernel)
theorem dX11_drawnNight_140 : decode cX11_drawnNight 140 = .ok (.aload_n 0, 1) := dc_42 (show ((cX11_drawnNight.data.toList.drop 140).take 1).map UInt8.toNat = [42] by decide +kernel)
theorem dX11_drawnNight_141 : decode cX11_drawnNight 141 = .ok (.getfield 56, 3) := dc_180 (show ((cX11_drawnNight.data.toList.drop 141).take 3).map UInt8.toNat = [180, 0, 56] by decide +kernel) rfl
theorem dX11_drawnNight_144 : decode cX11_drawnNight 144 = .ok (.invokevirtual 244, 3) := dc_182 (show ((cX11_drawnNight.data.toList.drop 144).take 3).map UInt8.toNat = [182, 0, 244] by decide +kernel) rfl
theorem dX11_drawnNight_147 : decode cX11_drawnNight 147 = .ok (.ireturn, 1) := dc_172 (show ((cX11_drawnNight.data.toList.drop 147).take 1).map UInt8.toNat = [172] by decide +kernel)
theorem dX11_drawnNight_148 : decode cX11_drawnNight 148 = .ok (.iload_n 3, 1) := dc_29 (show ((cX11_drawnNight.data.toList.drop 148).take 1).map UInt8.toNat = [29] by decide +kernel)
theorem dX11_drawnNight_149 : decode cX11_drawnNight 149 = .ok (.ireturn, 1) := dc_172 (show ((cX11_drawnNight.data.toList.drop 149).take 1).map UInt8.toNat = [172] by decide +kernel)
theorem dX11_drawnNight_150 : decode cX11_drawnNight 150 = .ok (.iload_n 2, 1) := dc_28 (show ((cX11_drawnNight.data.toList.drop 150).take 1).map UInt8.toNat = [28] by decide +kernel)
theorem dX11_drawnNight_151 : decode cX11_drawnNight 151 = .ok (.bipush 20, 2) := dc_16 (show ((cX11_drawnNight.data.toList.drop 151).take 2).map UInt8.toNat = [16, 20] by decide +kernel) rfl
theorem dX11_drawnNight_153 : decode cX11_drawnNight 153 = .ok (.if_icmp .ge 17, 3) := dc_162 (show ((cX11_drawnNight.data.toList.drop 153).take 3).map UInt8.toNat = [162, 0, 17] by decide +kernel) rfl
theorem dX11_drawnNight_170 : decode cX11_drawnNight 170 = .ok (.aload_n 0, 1) := dc_42 (show ((cX11_drawnNight.data.toList.drop 170).take 1).map UInt8.toNat = [42] by decide +kernel)
theorem dX11_drawnNight_171 : decode cX11_drawnNight 171 = .ok (.getfield 56, 3) := dc_180 (show ((cX11_drawnNight.data.toList.drop 171).take 3).map UInt8.toNat = [180, 0, 56] by decide +kernel) rfl
theorem dX11_drawnNight_174 : decode cX11_drawnNight 174 = .ok (.getfield 211, 3) := dc_180 (show ((cX11_drawnNight.data.toList.drop 174).take 3).map UInt8.toNat = [180, 0, 211] by decide +kernel) rfl
theorem dX11_drawnNight_177 : decode cX11_drawnNight 177 = .ok (.iload_n 2, 1) := dc_28 (show ((cX11_drawnNight.data.toList.drop 177).take 1).map UInt8.toNat = [28] by decide +kernel)
theorem dX11_drawnNight_178 : decode cX11_drawnNight 178 = .ok (.bipush 20, 2) := dc_16 (show ((cX11_drawnNight.data.toList.drop 178).take 2).map UInt8.toNat = [16, 20] by decide +kernel) rfl
theorem dX11_drawnNight_180 : decode cX11_drawnNight 180 = .ok (.isub, 1) := dc_100 (show ((cX11_drawnNight.data.toList.drop 180).take 1).map UInt8.toNat = [100] by decide +kernel)
theorem dX11_drawnNight_181 : decode cX11_drawnNight 181 = .ok (.iaload, 1) := dc_46 (show ((cX11_drawnNight.data.toList.drop 181).take 1).map UInt8.toNat = [46] by decide +kernel)
theorem dX11_drawnNight_182 : decode cX11_drawnNight 182 = .ok (.ireturn, 1) := dc_172 (show ((cX11_drawnNight.data.toList.drop 182).take 1).map UInt8.toNat = [172] by decide +kernel)
theorem dX11_drawnNight_156 : decode cX11_drawnNight 156 = .ok (.aload_n 0, 1) := dc_42 (show ((cX11_drawnNight.data.toList.drop 156).take 1).map UInt8.toNat = [42] by decide +kernel)
theorem dX11_drawnNight_157 : decode cX11_drawnNight 157 = .ok (.getfield 56, 3) := dc_180 (show ((cX11_drawnNight.data.toList.drop 157).take 3).map UInt8.toNat = [180, 0, 56] by decide +kernel) rfl
theorem dX11_drawnNight_160 : decode cX11_drawnNight 160 = .ok (.iload_n 2, 1) := dc_28 (show ((cX11_drawnNight.data.toList.drop 160).take 1).map UInt8.toNat = [28] by decide +kernel)
theorem dX11_drawnNight_161 : decode cX11_drawnNight 161 = .ok (.bipush 10, 2) := dc_16 (show ((cX11_drawnNight.data.toList.drop 161).take 2).map UInt8.toNat = [16, 10] by decide +kernel) rfl
theorem dX11_drawnNight_163 : decode cX11_drawnNight 163 = .ok (.isub, 1) := dc_100 (show ((cX11_drawnNight.data.toList.drop 163).take 1).map UInt8.toNat = [100] by decide +kernel)
theorem dX11_drawnNight_164 : decode cX11_drawnNight 164 = .ok (.invokevirtual 223, 3) := dc_182 (show ((cX11_drawnNight.data.toList.drop 164).take 3).map UInt8.toNat = [182, 0, 223] by decide +kernel) rfl
theorem dX11_drawnNight_167 : decode cX11_drawnNight 167 = .ok (.goto 15, 3) := dc_167 (show ((cX11_drawnNight.data.toList.drop 167).take 3).map UInt8.toNat = [167, 0, 15] by decide +kernel) rfl
theorem dX11_drawnNight_79 : decode cX11_drawnNight 79 = .ok (.aload_n 0, 1) := dc_42 (show ((cX11_drawnNight.data.toList.drop 79).take 1).map UInt8.toNat = [42] by decide +kernel)
theorem dX11_drawnNight_80 : decode cX11_drawnNight 80 = .ok (.bipush 10, 2) := dc_16 (show ((cX11_drawnNight.data.toList.drop 80).take 2).map UInt8.toNat = [16, 10] by decide +kernel) rfl
theorem dX11_drawnNight_82 : decode cX11_drawnNight 82 = .ok (.invokevirtual 394, 3) := dc_182 (show ((cX11_drawnNight.data.toList.drop 82).take 3).map UInt8.toNat = [182, 1, 138] by decide +kernel) rfl
theorem dX11_drawnNight_85 : decode cX11_drawnNight 85 = .ok (.aload_n 1, 1) := dc_43 (show ((cX11_drawnNight.data.toList.drop 85).take 1).map UInt8.toNat = [43] by decide +kernel)
theorem dX11_drawnNight_86 : decode cX11_drawnNight 86 = .ok (.iload 4, 2) := dc_21 (show ((cX11_drawnNight.data.toList.drop 86).take 2).map UInt8.toNat = [21, 4] by decide +kernel) rfl
theorem dX11_drawnNight_88 : decode cX11_drawnNight 88 = .ok (.invokevirtual 404, 3) := dc_182 (show ((cX11_drawnNight.data.toList.drop 88).take 3).map UInt8.toNat = [182, 1, 148] by decide +kernel) rfl
theorem w_1113 : (Cond.methodLink "GooseBorder" (404 : Nat) ({ cls := "GooseBorder$Border", name := "pad", desc := "(I)I" } : MethodName)) ∈ gb_wA := gb_t5 153 rfl rfl
theorem dX11_drawnNight_91 : decode cX11_drawnNight 91 = .ok (.if_icmp .ge 6, 3) := dc_162 (show ((cX11_drawnNight.data.toList.drop 91).take 3).map UInt8.toNat = [162, 0, 6] by decide +kernel) rfl
theorem dX11_drawnNight_97 : decode cX11_drawnNight 97 = .ok (.iinc 4 1, 3) := dc_132 (show ((cX11_drawnNight.data.toList.drop 97).take 3).map UInt8.toNat = [132, 4, 1] by decide +kernel) rfl
theorem dX11_drawnNight_100 : decode cX11_drawnNight 100 = .ok (.goto (-30), 3) := dc_167 (show ((cX11_drawnNight.data.toList.drop 100).take 3).map UInt8.toNat = [167, 255, 226] by decide +kernel) rfl
theorem dX11_drawnNight_94 : decode cX11_drawnNight 94 = .ok (.iinc 3 1, 3) := dc_132 (show ((cX11_drawnNight.data.toList.drop 94).take 3).map UInt8.toNat = [132, 3, 1] by decide +kernel) rfl
theorem dX11_drawnNight_18 : decode cX11_drawnNight 18 = .ok (.aload_n 0, 1) := dc_42 (show ((cX11_drawnNight.data.toList.drop 18).take 1).map UInt8.toNat = [42] by decide +kernel)
theorem dX11_drawnNight_19 : decode cX11_drawnNight 19 = .ok (.aload_n 1, 1) := dc_43 (show ((cX11_drawnNight.data.toList.drop 19).take 1).map UInt8.toNat = [43] by decide +kernel)
theorem dX11_drawnNight_20 : decode cX11_drawnNight 20 = .ok (.invokevirtual 117, 3) := dc_182 (show ((cX11_drawnNight.data.toList.drop 20).take 3).map UInt8.toNat = [182, 0, 117] by decide +kernel) rfl
theorem dX11_drawnNight_23 : decode cX11_drawnNight 23 = .ok (.invokevirtual 394, 3) := dc_182 (show ((cX11_drawnNight.data.toList.drop 23).take 3).map UInt8.toNat = [182, 1, 138] by decide +kernel) rfl
theorem dX11_drawnNight_26 : decode cX11_drawnNight 26 = .ok (.istore 4, 2) := dc_54 (show ((cX11_drawnNight.data.toList.drop 26).take 2).map UInt8.toNat = [54, 4] by decide +kernel) rfl
theorem dX11_drawnNight_28 : decode cX11_drawnNight 28 = .ok (.aload_n 0, 1) := dc_42 (show ((cX11_drawnNight.data.toList.drop 28).take 1).map UInt8.toNat = [42] by decide +kernel)
theorem dX11_drawnNight_29 : decode cX11_drawnNight 29 = .ok (.getfield 56, 3) := dc_180 (show ((cX11_drawnNight.data.toList.drop 29).take 3).map UInt8.toNat = [180, 0, 56] by decide +kernel) rfl
theorem dX11_drawnNight_32 : decode cX11_drawnNight 32 = .ok (.iload_n 3, 1) := dc_29 (show ((cX11_drawnNight.data.toList.drop 32).take 1).map UInt8.toNat = [29] by decide +kernel)
theorem dX11_drawnNight_33 : decode cX11_drawnNight 33 = .ok (.iload 4, 2) := dc_21 (show ((cX11_drawnNight.data.toList.drop 33).take 2).map UInt8.toNat = [21, 4] by decide +kernel) rfl
theorem dX11_drawnNight_35 : decode cX11_drawnNight 35 = .ok (.iconst 0, 1) := dc_3 (show ((cX11_drawnNight.data.toList.drop 35).take 1).map UInt8.toNat = [3] by decide +kernel)
theorem dX11_drawnNight_36 : decode cX11_drawnNight 36 = .ok (.aload_n 0, 1) := dc_42 (show ((cX11_drawnNight.data.toList.drop 36).take 1).map UInt8.toNat = [42] by decide +kernel)
theorem dX11_drawnNight_37 : decode cX11_drawnNight 37 = .ok (.getfield 56, 3) := dc_180 (show ((cX11_drawnNight.data.toList.drop 37).take 3).map UInt8.toNat = [180, 0, 56] by decide +kernel) rfl
theorem dX11_drawnNight_40 : decode cX11_drawnNight 40 = .ok (.getfield 217, 3) := dc_180 (show ((cX11_drawnNight.data.toList.drop 40).take 3).map UInt8.toNat = [180, 0, 217] by decide +kernel) rfl
theorem dX11_drawnNight_43 : decode cX11_drawnNight 43 = .ok (.invokevirtual 397, 3) := dc_182 (show ((cX11_drawnNight.data.toList.drop 43).take 3).map UInt8.toNat = [182, 1, 141] by decide +kernel) rfl
theorem w_1111 : (Cond.methodLink "GooseBorder" (397 : Nat) ({ cls := "GooseBorder$Play", name := "go", desc := "(III[I)V" } : MethodName)) ∈ gb_wA := gb_t5 151 rfl rfl
theorem dX11_drawnNight_46 : decode cX11_drawnNight 46 = .ok (.iinc 3 1, 3) := dc_132 (show ((cX11_drawnNight.data.toList.drop 46).take 3).map UInt8.toNat = [132, 3, 1] by decide +kernel) rfl
theorem dX11_drawnNight_49 : decode cX11_drawnNight 49 = .ok (.goto (-39), 3) := dc_167 (show ((cX11_drawnNight.data.toList.drop 49).take 3).map UInt8.toNat = [167, 255, 217] by decide +kernel) rfl
def cs_Face_drawnNight_B_70 (n : Nat) : Nat → gb_S → Nat → Int32 → Int32 → Int32 → gb_CR Int32
  | 0, _, _, _, _, _ => none
  | mm + 1, σ, v1, v2, v3, v4 => gb_kk (gb_kB v1) (gb_cd (cs_Border_paths_B n σ v1) (fun s_21 r_22 => (if r_22 ≤ v4 then (if v2 = (0 : Int32) then gb_cd (cs_Play_allTallies n s_21) (fun s_27 r_28 => some (s_27, r_28)) else (if v2 = (1 : Int32) then gb_cd (cs_Play_allPay n s_21) (fun s_32 r_33 => some (s_32, r_33)) else (if v2 = (2 : Int32) then some (s_21, v3) else (if (20 : Int32) ≤ v2 then gb_ck (v2 - 20) 8 (gb_lt ((s_21.1 114) (Int32.toNatClampNeg (v2 - 20))) (fun x_39 => some (s_21, x_39))) else gb_cd (cs_Play_tally n s_21 (v2 - 10)) (fun s_40 r_41 => some (s_40, r_41)))))) else gb_cd (cs_Face_numberBelow n s_21 10) (fun s_44 r_45 => gb_cd (cs_Border_pad_B n s_44 v1 v4) (fun s_48 r_49 => (if r_49 ≤ r_45 then gb_lt (v4 + 1) (fun x_53 => cs_Face_drawnNight_B_70 n mm s_48 v1 v2 v3 x_53) else gb_lt (v3 + 1) (fun x_54 => gb_lt (v4 + 1) (fun x_55 => cs_Face_drawnNight_B_70 n mm s_48 v1 v2 x_54 x_55))))))))
def cs_Face_drawnNight_B_10 (n : Nat) : Nat → gb_S → Nat → Int32 → Int32 → gb_CR Int32
  | 0, _, _, _, _ => none
  | mm + 1, σ, v1, v2, v3 => gb_kk (gb_kB v1) (gb_cd (cs_Border_geese_B n σ v1) (fun s_7 r_8 => (if r_8 ≤ v3 then gb_cd (cs_Face_numberBelow n s_7 11) (fun s_12 r_13 => gb_cd (cs_Play_rainDown n s_12 r_13) (fun s_16 _ => cs_Face_drawnNight_B_70 n n s_16 v1 v2 0 0)) else gb_cd (cs_Border_paths_B n s_7 v1) (fun s_56 r_57 => gb_cd (cs_Face_numberBelow n s_56 r_57) (fun s_60 r_61 => gb_cd (cs_Play_go_c116 n s_60 v3 r_61 0) (fun s_64 _ => gb_lt (v3 + 1) (fun x_68 => cs_Face_drawnNight_B_10 n mm s_64 v1 v2 x_68)))))))
def cs_Face_drawnNight_B (n : Nat) (σ : gb_S) (p1 : Nat) (p2 : Int32) : gb_CR Int32 := gb_kk (gb_kB p1) (gb_cd (cs_Play_begin_B n σ p1) (fun s_2 _ => cs_Face_drawnNight_B_10 n n s_2 p1 p2 0))
set_option maxHeartbeats 8000000 in
set_option maxRecDepth 100000 in
theorem cc_Face_drawnNight_B (l : Launch) (D : va_G) (cT : Nat → ClassId) (tt : Nat → Nat) (b1 b : Nat) (hb1 : b1 ≤ b) (n : Nat) (σ : gb_S) (p1 : Nat) (p2 : Int32) (σE : gb_S) (rE : Int32) (h : cs_Face_drawnNight_B n σ p1 p2 = some (σE, rE)) : Met l yX11_drawnNight (.code yX11_drawnNight cX11_drawnNight 5 (some FieldType.int) :: gb_wA) ({ frames := 5, cells := 0, slots := 0, locals := 109 }) (gb_Pc D cT tt b1 [.ref (b + 0), .ref (b + p1), .int p2] (fun h => va_P D vwCl (gb_wl b (gb_CW cT b σ)) h)) (gb_Qi (fun r h => r = rE ∧ va_P D vwCl (gb_wl b (gb_CW cT b σE)) h) (gb_fr b 135)) 0 0 (gb_fr b 135) := by
  refine Met.ofW (cc := cX11_drawnNight) (maxL := 5) (ret := (some FieldType.int)) (by decide) rfl ?_
  intro p e s m args below meth c s₁ B hml hv
  obtain ⟨rfl, hSt, hP⟩ := hv
  have hx := B.exec
  have hb := B.bytes
  have hr := B.returns
  have hts := atoms_spec (ws := .code yX11_drawnNight cX11_drawnNight 5 (some FieldType.int) :: gb_wA) B.pre
  have hq : ∀ w ∈ gb_wA, w.before _ s = true := fun w h => hts w (List.mem_cons_of_mem _ h)
  have hown : s.vm.findClass RX11 = some m.cls := findClass_of_methodNamed B.named
  have hlocks := B.notSynchronized
  clear B hts
  have hK := hSt.1
  have hS : va_S (gb_fr b 135) s.heap s.heap [] := va_S.rf
  have hl := lv_entry ([.ref (b + 0), .ref (b + p1), .int p2]) (n := 5) (Nat.le_of_ble_eq_true rfl)
  rw [lg_entry_eq]
  generalize (lg_sl ([.ref (b + 0), .ref (b + p1), .int p2]) ++ List.replicate (5 - (lg_sl ([.ref (b + 0), .ref (b + p1), .int p2])).length) Slot.unset).toArray = ls at hl ⊢
  replace hl : lv_has ls 5 [(0, .ref (b + 0)), (1, .ref (b + p1)), (2, .int p2)] := hl
  have L70_2 : ∀ (mm : Nat) (σ : gb_S) (v1 : Nat) (v2 : Int32) (v3 : Int32) (v4 : Int32) (H : Heap) (locs : List Loc) (ls : Array Slot), cs_Face_drawnNight_B_70 n mm σ v1 v2 v3 v4 = some (σE, rE) → va_P D vwCl (gb_wl b (gb_CW cT b σ)) H → va_S (gb_fr b 135) s.heap H locs → lv_has ls 5 [(0, .ref (b + 0)), (1, .ref (b + v1)), (2, .int v2), (3, .int v3), (4, .int v4)] → W p l e (headSpec (.code yX11_drawnNight cX11_drawnNight 5 (some FieldType.int) :: gb_wA) ({ frames := 5, cells := 0, slots := 0, locals := 109 })).room s m ([.ref (b + 0), .ref (b + p1), .int p2]).toArray below meth c H locs 0 0 (MQ below (gb_Qi (fun r h => r = rE ∧ va_P D vwCl (gb_wl b (gb_CW cT b σE)) h) (gb_fr b 135)) ([.ref (b + 0), .ref (b + p1), .int p2]).toArray s 0 0 (gb_fr b 135)) (F0 m 70 ls []) := by
    clear h hP hS hl ls
    intro mm
    induction mm with
    | zero =>
      intro σ v1 v2 v3 v4 H locs ls h
      cases h
    | succ mm ih =>
      intro σ v1 v2 v3 v4 H locs ls h hP hS hl
      rw [cs_Face_drawnNight_B_70] at h
      obtain ⟨z_20, h⟩ := gb_kk_s h
      refine lv_iload hx hb dX11_drawnNight_70 (lv_at hl 4 rfl) ?_
      refine lv_aload_n hx hb dX11_drawnNight_72 rfl (lv_at hl 1 rfl) ?_
      obtain ⟨s_21, r_22, z_23, h⟩ := gb_cd_s h
      refine gb_calli (va_runV (C := RX0) (As := []) (rest := [.int v4]) ⟨hx, hb, hml, hown, hq⟩ (cc_Border_paths_B l D cT tt b1 b hb1 n σ v1 s_21 r_22 z_23) (cwV 0 hq (gb_gV w_597 w_473 w_474 w_4 w_475) rfl rfl rfl (by decide +kernel) ⟨Nat.le_of_ble_eq_true rfl, Nat.le_of_ble_eq_true rfl⟩) (gb_preV (r := (RX0, TX0, 1)) (ci := 0) (q0 := v1) hSt hP rfl (gb_at b (gb_cB z_20).1) hS (fun q h => Nat.le_trans hb1 h.1) hP) rfl rfl hl.1 rfl (lv_room (Nat.le_of_ble_eq_true rfl)) dX11_drawnNight_73 ⟨Nat.le_of_ble_eq_true rfl, Nat.le_of_ble_eq_true rfl⟩) hS (fun _ h => h) (fun _ h => h) (fun q_24 H locs hY hk hS => ?_)
      obtain ⟨hq_24, hP⟩ := hY
      replace hq_24 := hq_24.symm
      subst hq_24
      refine lv_icmp_ge (tgt := 103) hx hb dX11_drawnNight_76 (by decide) (fun c_25 => ?_) (fun c_25 => ?_)
      · rw [if_pos c_25] at h
        refine lv_iload_n hx hb dX11_drawnNight_103 rfl (lv_at hl 2 rfl) ?_
        by_cases c_26 : v2 = (0 : Int32)
        · rw [if_pos c_26] at h
          refine lv_tableIn (off := 28) (tgt := 132) hx hb dX11_drawnNight_104 (by rw [c_26]; decide) (by rw [c_26]; decide) (by rw [c_26]; decide) (by decide) ?_
          refine lv_aload_n hx hb dX11_drawnNight_132 rfl (lv_at hl 0 rfl) ?_
          refine va_get (ci := 9) (v := (.ref (b + 109))) (C := RX11) (T := TX11) (N := 10) hx hb hq i_X11 hown hK hP 0 (gb_at b rfl) rfl 6 (by decide) (hq _ w_321) (fun _ h9 => h9) rfl dX11_drawnNight_133 ?_
          obtain ⟨s_27, r_28, z_29, h⟩ := gb_cd_s h
          refine gb_calli (va_runV (C := RX6) (As := []) (rest := []) ⟨hx, hb, hml, hown, hq⟩ (cc_Play_allTallies l D cT tt b1 b hb1 n s_21 s_27 r_28 z_29) (cwV 0 hq (gb_gV w_1114 w_1115 w_1116 w_11 w_1117) rfl rfl rfl (by decide +kernel) ⟨Nat.le_of_ble_eq_true rfl, Nat.le_of_ble_eq_true rfl⟩) (gb_preV (r := (RX6, TX6, 12)) (ci := 5) (q0 := 109) hSt hP rfl (gb_at b rfl) hS (fun q h => Nat.le_trans hb1 h.1) hP) rfl rfl hl.1 rfl (lv_room (Nat.le_of_ble_eq_true rfl)) dX11_drawnNight_136 ⟨Nat.le_of_ble_eq_true rfl, Nat.le_of_ble_eq_true rfl⟩) hS (fun _ h => h) (fun _ h => h) (fun q_30 H locs hY hk hS => ?_)
          obtain ⟨hq_30, hP⟩ := hY
          replace hq_30 := hq_30.symm
          subst hq_30
          obtain ⟨e1, e2⟩ := gb_eq2 h
          exact W.iret (v := r_28) hx hb hr (fun t ht hW => gb_ri ht ⟨e2, by rw [← e1]; exact hP⟩ hS) hS.2.2 dX11_drawnNight_139
        rw [if_neg c_26] at h
        by_cases c_31 : v2 = (1 : Int32)
        · rw [if_pos c_31] at h
          refine lv_tableIn (off := 36) (tgt := 140) hx hb dX11_drawnNight_104 (by rw [c_31]; decide) (by rw [c_31]; decide) (by rw [c_31]; decide) (by decide) ?_
          refine lv_aload_n hx hb dX11_drawnNight_140 rfl (lv_at hl 0 rfl) ?_
          refine va_get (ci := 9) (v := (.ref (b + 109))) (C := RX11) (T := TX11) (N := 10) hx hb hq i_X11 hown hK hP 0 (gb_at b rfl) rfl 6 (by decide) (hq _ w_321) (fun _ h9 => h9) rfl dX11_drawnNight_141 ?_
          obtain ⟨s_32, r_33, z_34, h⟩ := gb_cd_s h
          refine gb_calli (va_runV (C := RX6) (As := []) (rest := []) ⟨hx, hb, hml, hown, hq⟩ (cc_Play_allPay l D cT tt b1 b hb1 n s_21 s_32 r_33 z_34) (cwV 0 hq (gb_gV w_812 w_813 w_814 w_11 w_815) rfl rfl rfl (by decide +kernel) ⟨Nat.le_of_ble_eq_true rfl, Nat.le_of_ble_eq_true rfl⟩) (gb_preV (r := (RX6, TX6, 12)) (ci := 5) (q0 := 109) hSt hP rfl (gb_at b rfl) hS (fun q h => Nat.le_trans hb1 h.1) hP) rfl rfl hl.1 rfl (lv_room (Nat.le_of_ble_eq_true rfl)) dX11_drawnNight_144 ⟨Nat.le_of_ble_eq_true rfl, Nat.le_of_ble_eq_true rfl⟩) hS (fun _ h => h) (fun _ h => h) (fun q_35 H locs hY hk hS => ?_)
          obtain ⟨hq_35, hP⟩ := hY
          replace hq_35 := hq_35.symm
          subst hq_35
          obtain ⟨e1, e2⟩ := gb_eq2 h
          exact W.iret (v := r_33) hx hb hr (fun t ht hW => gb_ri ht ⟨e2, by rw [← e1]; exact hP⟩ hS) hS.2.2 dX11_drawnNight_147
        rw [if_neg c_31] at h
        by_cases c_36 : v2 = (2 : Int32)
        · rw [if_pos c_36] at h
          refine lv_tableIn (off := 44) (tgt := 148) hx hb dX11_drawnNight_104 (by rw [c_36]; decide) (by rw [c_36]; decide) (by rw [c_36]; decide) (by decide) ?_
          refine lv_iload_n hx hb dX11_drawnNight_148 rfl (lv_at hl 3 rfl) ?_
          obtain ⟨e1, e2⟩ := gb_eq2 h
          exact W.iret (v := v3) hx hb hr (fun t ht hW => gb_ri ht ⟨e2, by rw [← e1]; exact hP⟩ hS) hS.2.2 dX11_drawnNight_149
        rw [if_neg c_36] at h
        refine lv_tableOut (tgt := 150) hx hb dX11_drawnNight_104 (by have := lv_neT c_26 (a := 0) rfl; have := lv_neT c_31 (a := 1) rfl; have := lv_neT c_36 (a := 2) rfl; omega) (by decide) ?_
        refine lv_iload_n hx hb dX11_drawnNight_150 rfl (lv_at hl 2 rfl) ?_
        refine lv_bipush (v := 20) hx hb dX11_drawnNight_151 (by decide) ?_
        refine lv_icmp_ge (tgt := 170) hx hb dX11_drawnNight_153 (by decide) (fun c_37 => ?_) (fun c_37 => ?_)
        · rw [if_pos c_37] at h
          refine lv_aload_n hx hb dX11_drawnNight_170 rfl (lv_at hl 0 rfl) ?_
          refine va_get (ci := 9) (v := (.ref (b + 109))) (C := RX11) (T := TX11) (N := 10) hx hb hq i_X11 hown hK hP 0 (gb_at b rfl) rfl 6 (by decide) (hq _ w_321) (fun _ h9 => h9) rfl dX11_drawnNight_171 ?_
          refine va_get (ci := 5) (v := (.ref (b + 114))) (C := RX6) (T := TX6) (N := 12) hx hb hq i_X6 hown hK hP 109 (gb_at b rfl) rfl 3 (by decide) (hq _ w_203) (fun _ h9 => h9) rfl dX11_drawnNight_174 ?_
          refine lv_iload_n hx hb dX11_drawnNight_177 rfl (lv_at hl 2 rfl) ?_
          refine lv_bipush (v := 20) hx hb dX11_drawnNight_178 (by decide) ?_
          refine lv_isub hx hb dX11_drawnNight_180 ?_
          obtain ⟨z_38, h⟩ := gb_ck_s h
          refine va_iald hx hb hK hP 114 0 (gb_at b rfl) rfl z_38 dX11_drawnNight_181 ?_
          refine lv_topi (fun x_39 ex_39 => ?_)
          replace h := gb_lt_s ex_39 h
          obtain ⟨e1, e2⟩ := gb_eq2 h
          exact W.iret (v := x_39) hx hb hr (fun t ht hW => gb_ri ht ⟨e2, by rw [← e1]; exact hP⟩ hS) hS.2.2 dX11_drawnNight_182
        · rw [if_neg c_37] at h
          refine lv_aload_n hx hb dX11_drawnNight_156 rfl (lv_at hl 0 rfl) ?_
          refine va_get (ci := 9) (v := (.ref (b + 109))) (C := RX11) (T := TX11) (N := 10) hx hb hq i_X11 hown hK hP 0 (gb_at b rfl) rfl 6 (by decide) (hq _ w_321) (fun _ h9 => h9) rfl dX11_drawnNight_157 ?_
          refine lv_iload_n hx hb dX11_drawnNight_160 rfl (lv_at hl 2 rfl) ?_
          refine lv_bipush (v := 10) hx hb dX11_drawnNight_161 (by decide) ?_
          refine lv_isub hx hb dX11_drawnNight_163 ?_
          obtain ⟨s_40, r_41, z_42, h⟩ := gb_cd_s h
          refine gb_calli (va_runV (C := RX6) (As := [.int (v2 - 10)]) (rest := []) ⟨hx, hb, hml, hown, hq⟩ (cc_Play_tally l D cT tt b1 b hb1 n s_21 (v2 - 10) s_40 r_41 z_42) (cwV 1 hq (gb_gV w_771 w_772 w_773 w_11 w_774) rfl rfl rfl (by decide +kernel) ⟨Nat.le_of_ble_eq_true rfl, Nat.le_of_ble_eq_true rfl⟩) (gb_preV (r := (RX6, TX6, 12)) (ci := 5) (q0 := 109) hSt hP rfl (gb_at b rfl) hS (fun q h => Nat.le_trans hb1 h.1) hP) rfl rfl hl.1 rfl (lv_room (Nat.le_of_ble_eq_true rfl)) dX11_drawnNight_164 ⟨Nat.le_of_ble_eq_true rfl, Nat.le_of_ble_eq_true rfl⟩) hS (fun _ h => h) (fun _ h => h) (fun q_43 H locs hY hk hS => ?_)
          obtain ⟨hq_43, hP⟩ := hY
          replace hq_43 := hq_43.symm
          subst hq_43
          refine lv_goto (tgt := 182) hx hb dX11_drawnNight_167 (by decide) ?_
          obtain ⟨e1, e2⟩ := gb_eq2 h
          exact W.iret (v := r_41) hx hb hr (fun t ht hW => gb_ri ht ⟨e2, by rw [← e1]; exact hP⟩ hS) hS.2.2 dX11_drawnNight_182
      · rw [if_neg c_25] at h
        refine lv_aload_n hx hb dX11_drawnNight_79 rfl (lv_at hl 0 rfl) ?_
        refine lv_bipush (v := 10) hx hb dX11_drawnNight_80 (by decide) ?_
        obtain ⟨s_44, r_45, z_46, h⟩ := gb_cd_s h
        refine gb_calli (va_runV (C := RX11) (As := [.int 10]) (rest := []) ⟨hx, hb, hml, hown, hq⟩ (cc_Face_numberBelow l D cT tt b1 b hb1 n s_21 10 s_44 r_45 z_46) (cwV 1 hq (gb_gV w_1106 w_1108 s_2_15 w_1 w_1109) rfl rfl rfl (by decide +kernel) ⟨Nat.le_of_ble_eq_true rfl, Nat.le_of_ble_eq_true rfl⟩) (gb_preV (r := (RX11, TX11, 10)) (ci := 9) (q0 := 0) hSt hP rfl (gb_at b rfl) hS (fun q h => Nat.le_trans hb1 h.1) hP) rfl rfl hl.1 rfl (lv_room (Nat.le_of_ble_eq_true rfl)) dX11_drawnNight_82 ⟨Nat.le_of_ble_eq_true rfl, Nat.le_of_ble_eq_true rfl⟩) hS (fun _ h => h) (fun _ h => h) (fun q_47 H locs hY hk hS => ?_)
        obtain ⟨hq_47, hP⟩ := hY
        replace hq_47 := hq_47.symm
        subst hq_47
        refine lv_aload_n hx hb dX11_drawnNight_85 rfl (lv_at hl 1 rfl) ?_
        refine lv_iload hx hb dX11_drawnNight_86 (lv_at hl 4 rfl) ?_
        obtain ⟨s_48, r_49, z_50, h⟩ := gb_cd_s h
        refine gb_calli (va_runV (C := RX0) (As := [.int v4]) (rest := [.int r_45]) ⟨hx, hb, hml, hown, hq⟩ (cc_Border_pad_B l D cT tt b1 b hb1 n s_44 v1 v4 s_48 r_49 z_50) (cwV 1 hq (gb_gV w_1113 w_780 w_781 w_4 w_782) rfl rfl rfl (by decide +kernel) ⟨Nat.le_of_ble_eq_true rfl, Nat.le_of_ble_eq_true rfl⟩) (gb_preV (r := (RX0, TX0, 1)) (ci := 0) (q0 := v1) hSt hP rfl (gb_at b (gb_cB z_20).1) hS (fun q h => Nat.le_trans hb1 h.1) hP) rfl rfl hl.1 rfl (lv_room (Nat.le_of_ble_eq_true rfl)) dX11_drawnNight_88 ⟨Nat.le_of_ble_eq_true rfl, Nat.le_of_ble_eq_true rfl⟩) hS (fun _ h => h) (fun _ h => h) (fun q_51 H locs hY hk hS => ?_)
        obtain ⟨hq_51, hP⟩ := hY
        replace hq_51 := hq_51.symm
        subst hq_51
        refine lv_icmp_ge (tgt := 97) hx hb dX11_drawnNight_91 (by decide) (fun c_52 => ?_) (fun c_52 => ?_)
        · rw [if_pos c_52] at h
          obtain ⟨x_53, ex_53⟩ : ∃ q, q = (v4 + 1) := ⟨_, rfl⟩
          replace h := gb_lt_s ex_53 h
          refine lv_iinc (v := x_53) (lv' := [(4, .int x_53), (0, .ref (b + 0)), (1, .ref (b + v1)), (2, .int v2), (3, .int v3)]) hx hb dX11_drawnNight_97 hl (k := 4) rfl (by rw [ex_53]; rfl) (by decide) rfl (fun ls hl => ?_)
          refine lv_goto (tgt := 70) hx hb dX11_drawnNight_100 (by decide) ?_
          exact ih _ _ _ _ _ _ _ _ h hP hS (lv_sub hl [1, 2, 3, 4, 0] rfl)
        · rw [if_neg c_52] at h
          obtain ⟨x_54, ex_54⟩ : ∃ q, q = (v3 + 1) := ⟨_, rfl⟩
          replace h := gb_lt_s ex_54 h
          refine lv_iinc (v := x_54) (lv' := [(3, .int x_54), (0, .ref (b + 0)), (1, .ref (b + v1)), (2, .int v2), (4, .int v4)]) hx hb dX11_drawnNight_94 hl (k := 3) rfl (by rw [ex_54]; rfl) (by decide) rfl (fun ls hl => ?_)
          obtain ⟨x_55, ex_55⟩ : ∃ q, q = (v4 + 1) := ⟨_, rfl⟩
          replace h := gb_lt_s ex_55 h
          refine lv_iinc (v := x_55) (lv' := [(4, .int x_55), (3, .int x_54), (0, .ref (b + 0)), (1, .ref (b + v1)), (2, .int v2)]) hx hb dX11_drawnNight_97 hl (k := 4) rfl (by rw [ex_55]; rfl) (by decide) rfl (fun ls hl => ?_)
          refine lv_goto (tgt := 70) hx hb dX11_drawnNight_100 (by decide) ?_
          exact ih _ _ _ _ _ _ _ _ h hP hS (lv_sub hl [2, 3, 4, 1, 0] rfl)
  have L10_1 : ∀ (mm : Nat) (σ : gb_S) (v1 : Nat) (v2 : Int32) (v3 : Int32) (H : Heap) (locs : List Loc) (ls : Array Slot), cs_Face_drawnNight_B_10 n mm σ v1 v2 v3 = some (σE, rE) → va_P D vwCl (gb_wl b (gb_CW cT b σ)) H → va_S (gb_fr b 135) s.heap H locs → lv_has ls 5 [(0, .ref (b + 0)), (1, .ref (b + v1)), (2, .int v2), (3, .int v3)] → W p l e (headSpec (.code yX11_drawnNight cX11_drawnNight 5 (some FieldType.int) :: gb_wA) ({ frames := 5, cells := 0, slots := 0, locals := 109 })).room s m ([.ref (b + 0), .ref (b + p1), .int p2]).toArray below meth c H locs 0 0 (MQ below (gb_Qi (fun r h => r = rE ∧ va_P D vwCl (gb_wl b (gb_CW cT b σE)) h) (gb_fr b 135)) ([.ref (b + 0), .ref (b + p1), .int p2]).toArray s 0 0 (gb_fr b 135)) (F0 m 10 ls []) := by
    clear h hP hS hl ls
    intro mm
    induction mm with
    | zero =>
      intro σ v1 v2 v3 H locs ls h
      cases h
    | succ mm ih =>
      intro σ v1 v2 v3 H locs ls h hP hS hl
      rw [cs_Face_drawnNight_B_10] at h
      obtain ⟨z_6, h⟩ := gb_kk_s h
      refine lv_iload_n hx hb dX11_drawnNight_10 rfl (lv_at hl 3 rfl) ?_
      refine lv_aload_n hx hb dX11_drawnNight_11 rfl (lv_at hl 1 rfl) ?_
      obtain ⟨s_7, r_8, z_9, h⟩ := gb_cd_s h
      refine gb_calli (va_runV (C := RX0) (As := []) (rest := [.int v3]) ⟨hx, hb, hml, hown, hq⟩ (cc_Border_geese_B l D cT tt b1 b hb1 n σ v1 s_7 r_8 z_9) (cwV 0 hq (gb_gV w_598 w_477 w_478 w_4 w_479) rfl rfl rfl (by decide +kernel) ⟨Nat.le_of_ble_eq_true rfl, Nat.le_of_ble_eq_true rfl⟩) (gb_preV (r := (RX0, TX0, 1)) (ci := 0) (q0 := v1) hSt hP rfl (gb_at b (gb_cB z_6).1) hS (fun q h => Nat.le_trans hb1 h.1) hP) rfl rfl hl.1 rfl (lv_room (Nat.le_of_ble_eq_true rfl)) dX11_drawnNight_12 ⟨Nat.le_of_ble_eq_true rfl, Nat.le_of_ble_eq_true rfl⟩) hS (fun _ h => h) (fun _ h => h) (fun q_10 H locs hY hk hS => ?_)
      obtain ⟨hq_10, hP⟩ := hY
      replace hq_10 := hq_10.symm
      subst hq_10
      refine lv_icmp_ge (tgt := 52) hx hb dX11_drawnNight_15 (by decide) (fun c_11 => ?_) (fun c_11 => ?_)
      · rw [if_pos c_11] at h
        refine lv_aload_n hx hb dX11_drawnNight_52 rfl (lv_at hl 0 rfl) ?_
        refine va_get (ci := 9) (v := (.ref (b + 109))) (C := RX11) (T := TX11) (N := 10) hx hb hq i_X11 hown hK hP 0 (gb_at b rfl) rfl 6 (by decide) (hq _ w_321) (fun _ h9 => h9) rfl dX11_drawnNight_53 ?_
        refine lv_aload_n hx hb dX11_drawnNight_56 rfl (lv_at hl 0 rfl) ?_
        refine lv_bipush (v := 11) hx hb dX11_drawnNight_57 (by decide) ?_
        obtain ⟨s_12, r_13, z_14, h⟩ := gb_cd_s h
        refine gb_calli (va_runV (C := RX11) (As := [.int 11]) (rest := [.ref (b + 109)]) ⟨hx, hb, hml, hown, hq⟩ (cc_Face_numberBelow l D cT tt b1 b hb1 n s_7 11 s_12 r_13 z_14) (cwV 1 hq (gb_gV w_1106 w_1108 s_2_15 w_1 w_1109) rfl rfl rfl (by decide +kernel) ⟨Nat.le_of_ble_eq_true rfl, Nat.le_of_ble_eq_true rfl⟩) (gb_preV (r := (RX11, TX11, 10)) (ci := 9) (q0 := 0) hSt hP rfl (gb_at b rfl) hS (fun q h => Nat.le_trans hb1 h.1) hP) rfl rfl hl.1 rfl (lv_room (Nat.le_of_ble_eq_true rfl)) dX11_drawnNight_59 ⟨Nat.le_of_ble_eq_true rfl, Nat.le_of_ble_eq_true rfl⟩) hS (fun _ h => h) (fun _ h => h) (fun q_15 H locs hY hk hS => ?_)
        obtain ⟨hq_15, hP⟩ := hY
        replace hq_15 := hq_15.symm
        subst hq_15
        obtain ⟨s_16, r_17, z_18, h⟩ := gb_cd_s h
        refine gb_callv (va_runV (C := RX6) (As := [.int r_13]) (rest := []) ⟨hx, hb, hml, hown, hq⟩ (cc_Play_rainDown l D cT tt b1 b hb1 n s_12 r_13 s_16 r_17 z_18) (cwV 1 hq (gb_gV w_1112 w_751 w_752 w_11 w_753) rfl rfl rfl (by decide +kernel) ⟨Nat.le_of_ble_eq_true rfl, Nat.le_of_ble_eq_true rfl⟩) (gb_preV (r := (RX6, TX6, 12)) (ci := 5) (q0 := 109) hSt hP rfl (gb_at b rfl) hS (fun q h => Nat.le_trans hb1 h.1) hP) rfl rfl hl.1 rfl (lv_room (Nat.le_of_ble_eq_true rfl)) dX11_drawnNight_62 ⟨Nat.le_of_ble_eq_true rfl, Nat.le_of_ble_eq_true rfl⟩) hS (fun _ h => h) (fun _ h => h) (fun H locs hY hk hS => ?_)
        have hP := hY
        refine lv_iconst (v := 0) hx hb dX11_drawnNight_65 (by decide) ?_
        refine lv_istore_n (lv' := [(3, .int 0), (0, .ref (b + 0)), (1, .ref (b + v1)), (2, .int v2)]) hx hb dX11_drawnNight_66 rfl hl (by decide) rfl (fun ls hl => ?_)
        refine lv_iconst (v := 0) hx hb dX11_drawnNight_67 (by decide) ?_
        refine lv_istore (lv' := [(4, .int 0), (3, .int 0), (0, .ref (b + 0)), (1, .ref (b + v1)), (2, .int v2)]) hx hb dX11_drawnNight_68 hl (by decide) rfl (fun ls hl => ?_)
        exact L70_2 n _ _ _ _ _ _ _ _ h hP hS (lv_sub hl [2, 3, 4, 1, 0] rfl)
      · rw [if_neg c_11] at h
        refine lv_aload_n hx hb dX11_drawnNight_18 rfl (lv_at hl 0 rfl) ?_
        refine lv_aload_n hx hb dX11_drawnNight_19 rfl (lv_at hl 1 rfl) ?_
        obtain ⟨s_56, r_57, z_58, h⟩ := gb_cd_s h
        refine gb_calli (va_runV (C := RX0) (As := []) (rest := [.ref (b + 0)]) ⟨hx, hb, hml, hown, hq⟩ (cc_Border_paths_B l D cT tt b1 b hb1 n s_7 v1 s_56 r_57 z_58) (cwV 0 hq (gb_gV w_597 w_473 w_474 w_4 w_475) rfl rfl rfl (by decide +kernel) ⟨Nat.le_of_ble_eq_true rfl, Nat.le_of_ble_eq_true rfl⟩) (gb_preV (r := (RX0, TX0, 1)) (ci := 0) (q0 := v1) hSt hP rfl (gb_at b (gb_cB z_6).1) hS (fun q h => Nat.le_trans hb1 h.1) hP) rfl rfl hl.1 rfl (lv_room (Nat.le_of_ble_eq_true rfl)) dX11_drawnNight_20 ⟨Nat.le_of_ble_eq_true rfl, Nat.le_of_ble_eq_true rfl⟩) hS (fun _ h => h) (fun _ h => h) (fun q_59 H locs hY hk hS => ?_)
        obtain ⟨hq_59, hP⟩ := hY
        replace hq_59 := hq_59.symm
        subst hq_59
        obtain ⟨s_60, r_61, z_62, h⟩ := gb_cd_s h
        refine gb_calli (va_runV (C := RX11) (As := [.int r_57]) (rest := []) ⟨hx, hb, hml, hown, hq⟩ (cc_Face_numberBelow l D cT tt b1 b hb1 n s_56 r_57 s_60 r_61 z_62) (cwV 1 hq (gb_gV w_1106 w_1108 s_2_15 w_1 w_1109) rfl rfl rfl (by decide +kernel) ⟨Nat.le_of_ble_eq_true rfl, Nat.le_of_ble_eq_true rfl⟩) (gb_preV (r := (RX11, TX11, 10)) (ci := 9) (q0 := 0) hSt hP rfl (gb_at b rfl) hS (fun q h => Nat.le_trans hb1 h.1) hP) rfl rfl hl.1 rfl (lv_room (Nat.le_of_ble_eq_true rfl)) dX11_drawnNight_23 ⟨Nat.le_of_ble_eq_true rfl, Nat.le_of_ble_eq_true rfl⟩) hS (fun _ h => h) (fun _ h => h) (fun q_63 H locs hY hk hS => ?_)
        obtain ⟨hq_63, hP⟩ := hY
        replace hq_63 := hq_63.symm
        subst hq_63
        refine lv_istore (lv' := [(4, .int r_61), (0, .ref (b + 0)), (1, .ref (b + v1)), (2, .int v2), (3, .int v3)]) hx hb dX11_drawnNight_26 hl (by decide) rfl (fun ls hl => ?_)
        refine lv_aload_n hx hb dX11_drawnNight_28 rfl (lv_at hl 1 rfl) ?_
        refine va_get (ci := 9) (v := (.ref (b + 109))) (C := RX11) (T := TX11) (N := 10) hx hb hq i_X11 hown hK hP 0 (gb_at b rfl) rfl 6 (by decide) (hq _ w_321) (fun _ h9 => h9) rfl dX11_drawnNight_29 ?_
        refine lv_iload_n hx hb dX11_drawnNight_32 rfl (lv_at hl 4 rfl) ?_
        refine lv_iload hx hb dX11_drawnNight_33 (lv_at hl 0 rfl) ?_
        refine lv_iconst (v := 0) hx hb dX11_drawnNight_35 (by decide) ?_
        refine lv_aload_n hx hb dX11_drawnNight_36 rfl (lv_at hl 1 rfl) ?_
        refine va_get (ci := 9) (v := (.ref (b + 109))) (C := RX11) (T := TX11) (N := 10) hx hb hq i_X11 hown hK hP 0 (gb_at b rfl) rfl 6 (by decide) (hq _ w_321) (fun _ h9 => h9) rfl dX11_drawnNight_37 ?_
        refine va_get (ci := 5) (v := (.ref (b + 116))) (C := RX6) (T := TX6) (N := 12) hx hb hq i_X6 hown hK hP 109 (gb_at b rfl) rfl 5 (by decide) (hq _ w_207) (fun _ h9 => h9) rfl dX11_drawnNight_40 ?_
        obtain ⟨s_64, r_65, z_66, h⟩ := gb_cd_s h
        refine gb_callv (va_runV (C := RX6) (As := [.int v3, .int r_61, .int 0, .ref (b + 116)]) (rest := []) ⟨hx, hb, hml, hown, hq⟩ (cc_Play_go_c116 l D cT tt b1 b hb1 n s_60 v3 r_61 0 s_64 r_65 z_66) (cwV 4 hq (gb_gV w_1111 w_744 w_745 w_11 w_746) rfl rfl rfl (by decide +kernel) ⟨Nat.le_of_ble_eq_true rfl, Nat.le_of_ble_eq_true rfl⟩) (gb_preV (r := (RX6, TX6, 12)) (ci := 5) (q0 := 109) hSt hP rfl (gb_at b rfl) hS (fun q h => Nat.le_trans hb1 h.1) hP) rfl rfl hl.1 rfl (lv_room (Nat.le_of_ble_eq_true rfl)) dX11_drawnNight_43 ⟨Nat.le_of_ble_eq_true rfl, Nat.le_of_ble_eq_true rfl⟩) hS (fun _ h => h) (fun _ h => h) (fun H locs hY hk hS => ?_)
        have hP := hY
        obtain ⟨x_68, ex_68⟩ : ∃ q, q = (v3 + 1) := ⟨_, rfl⟩
        replace h := gb_lt_s ex_68 h
        refine lv_iinc (v := x_68) (lv' := [(3, .int x_68), (4, .int r_61), (0, .ref (b + 0)), (1, .ref (b + v1)), (2, .int v2)]) hx hb dX11_drawnNight_46 hl (k := 4) rfl (by rw [ex_68]; rfl) (by decide) rfl (fun ls hl => ?_)
        refine lv_goto (tgt := 10) hx hb dX11_drawnNight_49 (by decide) ?_
        exact ih _ _ _ _ _ _ _ h hP hS (lv_sub hl [2, 3, 4, 0] rfl)
  unfold cs_Face_drawnNight_B at h
  obtain ⟨z_1, h⟩ := gb_kk_s h
  refine lv_aload_n hx hb dX11_drawnNight_0 rfl (lv_at hl 0 rfl) ?_
  refine va_get (ci := 9) (v := (.ref (b + 109))) (C := RX11) (T := TX11) (N := 10) hx hb hq i_X11 hown hK hP 0 (gb_at b rfl) rfl 6 (by decide) (hq _ w_321) (fun _ h9 => h9) rfl dX11_drawnNight_1 ?_
  refine lv_aload_n hx hb dX11_drawnNight_4 rfl (lv_at hl 1 rfl) ?_
  obtain ⟨s_2, r_3, z_4, h⟩ := gb_cd_s h
  refine gb_callv (va_runV (C := RX6) (As := [.ref (b + p1)]) (rest := []) ⟨hx, hb, hml, hown, hq⟩ (cc_Play_begin_B l D cT tt b1 b hb1 n σ p1 s_2 r_3 z_4) (cwV 1 hq (gb_gV w_1105 w_709 w_710 w_11 w_711) rfl rfl rfl (by decide +kernel) ⟨Nat.le_of_ble_eq_true rfl, Nat.le_of_ble_eq_true rfl⟩) (gb_preV (r := (RX6, TX6, 12)) (ci := 5) (q0 := 109) hSt hP rfl (gb_at b rfl) hS (fun q h => Nat.le_trans hb1 h.1) hP) rfl rfl hl.1 rfl (lv_room (Nat.le_of_ble_eq_true rfl)) dX11_drawnNight_5 ⟨Nat.le_of_ble_eq_true rfl, Nat.le_of_ble_eq_true rfl⟩) hS (fun _ h => h) (fun _ h => h) (fun H locs hY hk hS => ?_)
  have hP := hY
  refine lv_iconst (v := 0) hx hb dX11_drawnNight_8 (by decide) ?_
  refine lv_istore_n (lv' := [(3, .int 0), (0, .ref (b + 0)), (1, .ref (b + p1)), (2, .int p2)]) hx hb dX11_drawnNight_9 rfl hl (by decide) rfl (fun ls hl => ?_)
  exact L10_1 n _ _ _ _ _ _ _ h hP hS (lv_sub hl [1, 2, 3, 0] rfl)
theorem w_1104 : (Cond.code ({ cls := "GooseBorder", name := "drawnNight", desc := "(LGooseBorder$Border;I)I" } : MethodName) prog_1_method_50_code (5 : Nat) (Option.some FieldType.int)) ∈ gb_wA := gb_t5 144 rfl rfl
theorem w_1101 : (Cond.methodLink "GooseBorder" (387 : Nat) ({ cls := "GooseBorder", name := "drawnNight", desc := "(LGooseBorder$Border;I)I" } : MethodName)) ∈ gb_wA := gb_t5 141 rfl rfl
theorem w_1103 : (Cond.instanceMethod ({ cls := "GooseBorder", name := "drawnNight", desc := "(LGooseBorder$Border;I)I" } : MethodName)) ∈ gb_wA := gb_t5 143 rfl rfl
theorem s_2_14 : Cond.selects "GooseBorder" (⟨"GooseBorder", "drawnNight", "(LGooseBorder$Border;I)I"⟩ : MethodName) (⟨"GooseBorder", "drawnNight", "(LGooseBorder$Border;I)I"⟩ : MethodName) ∈ gb_wA := gb_s2 14 rfl rfl
theorem dX11_drawn_70 : decode cX11_drawn 70 = .ok (.iadd, 1) := dc_96 (show ((cX11_drawn.data.toList.drop 70).take 1).map UInt8.toNat = [96] by decide +kernel)
theorem dX11_drawn_71 : decode cX11_drawn 71 = .ok (.istore 6, 2) := dc_54 (show ((cX11_drawn.data.toList.drop 71).take 2).map UInt8.toNat = [54, 6] by decide +kernel) rfl
theorem dX11_drawn_73 : decode cX11_drawn 73 = .ok (.iinc 7 1, 3) := dc_132 (show ((cX11_drawn.data.toList.drop 73).take 3).map UInt8.toNat = [132, 7, 1] by decide +kernel) rfl
theorem dX11_drawn_76 : decode cX11_drawn 76 = .ok (.goto (-22), 3) := dc_167 (show ((cX11_drawn.data.toList.drop 76).take 3).map UInt8.toNat = [167, 255, 234] by decide +kernel) rfl
def cs_Face_drawn_54 (n : Nat) : Nat → gb_S → Int32 → Int32 → Nat → Int32 → Int32 → gb_CR Int32
  | 0, _, _, _, _, _, _ => none
  | mm + 1, σ, v3, v4, v5, v6, v7 => gb_kk (gb_kB v5) ((if v3 ≤ v7 then some (σ, v6) else gb_cd (cs_Face_drawnNight_B n σ v5 v4) (fun s_22 r_23 => gb_lt (v6 + r_23) (fun x_26 => gb_lt (v7 + 1) (fun x_27 => cs_Face_drawn_54 n mm s_22 v3 v4 v5 x_26 x_27)))))
def cs_Face_drawn (n : Nat) (σ : gb_S) (p1 : Int32) (p2 : Int32) (p3 : Int32) (p4 : Int32) : gb_CR Int32 := gb_cd (cs_Face_borderAt n σ p1) (fun s_1 r_2 => (if r_2 = 0 then some (s_1, (-1)) else gb_kk (gb_kB r_2) (gb_cd (cs_Border_paths_B n s_1 r_2) (fun s_7 r_8 => (if r_8 = 0 then some (s_7, (-1)) else (if p3 < 1 then some (s_7, (-1)) else (if (20 : Int32) < p3 then some (s_7, (-1)) else gb_cd (cs_Face_isDrawnOf_B n s_7 r_2 p4) (fun s_14 r_15 => (if r_15 = 0 then some (s_14, (-1)) else gb_lt (gb_su s_14 0 (upd (s_14.1 0) 9 p2)) (fun s_19 => cs_Face_drawn_54 n n s_19 p3 p4 r_2 0 0))))))))))
set_option maxHeartbeats 8000000 in
set_option maxRecDepth 100000 in
theorem cc_Face_drawn (l : Launch) (D : va_G) (cT : Nat → ClassId) (tt : Nat → Nat) (b1 b : Nat) (hb1 : b1 ≤ b) (n : Nat) (σ : gb_S) (p1 : Int32) (p2 : Int32) (p3 : Int32) (p4 : Int32) (σE : gb_S) (rE : Int32) (h : cs_Face_drawn n σ p1 p2 p3 p4 = some (σE, rE)) : Met l yX11_drawn (.code yX11_drawn cX11_drawn 8 (some FieldType.int) :: gb_wA) ({ frames := 6, cells := 0, slots := 0, locals := 133 }) (gb_Pc D cT tt b1 [.ref (b + 0), .int p1, .int p2, .int p3, .int p4] (fun h => va_P D vwCl (gb_wl b (gb_CW cT b σ)) h)) (gb_Qi (fun r h => r = rE ∧ va_P D vwCl (gb_wl b (gb_CW cT b σE)) h) (gb_fr b 135)) 0 0 (gb_fr b 135) := by
  refine Met.ofW (cc := cX11_drawn) (maxL := 8) (ret := (some FieldType.int)) (by decide) rfl ?_
  intro p e s m args below meth c s₁ B hml hv
  obtain ⟨rfl, hSt, hP⟩ := hv
  have hx := B.exec
  have hb := B.bytes
  have hr := B.returns
  have hts := atoms_spec (ws := .code yX11_drawn cX11_drawn 8 (some FieldType.int) :: gb_wA) B.pre
  have hq : ∀ w ∈ gb_wA, w.before _ s = true := fun w h => hts w (List.mem_cons_of_mem _ h)
  have hown : s.vm.findClass RX11 = some m.cls := findClass_of_methodNamed B.named
  have hlocks := B.notSynchronized
  clear B hts
  have hK := hSt.1
  have hS : va_S (gb_fr b 135) s.heap s.heap [] := va_S.rf
  have hl := lv_entry ([.ref (b + 0), .int p1, .int p2, .int p3, .int p4]) (n := 8) (Nat.le_of_ble_eq_true rfl)
  rw [lg_entry_eq]
  generalize (lg_sl ([.ref (b + 0), .int p1, .int p2, .int p3, .int p4]) ++ List.replicate (8 - (lg_sl ([.ref (b + 0), .int p1, .int p2, .int p3, .int p4])).length) Slot.unset).toArray = ls at hl ⊢
  replace hl : lv_has ls 8 [(0, .ref (b + 0)), (1, .int p1), (2, .int p2), (3, .int p3), (4, .int p4)] := hl
  have L54_1 : ∀ (mm : Nat) (σ : gb_S) (v3 : Int32) (v4 : Int32) (v5 : Nat) (v6 : Int32) (v7 : Int32) (H : Heap) (locs : List Loc) (ls : Array Slot), cs_Face_drawn_54 n mm σ v3 v4 v5 v6 v7 = some (σE, rE) → va_P D vwCl (gb_wl b (gb_CW cT b σ)) H → va_S (gb_fr b 135) s.heap H locs → lv_has ls 8 [(0, .ref (b + 0)), (3, .int v3), (4, .int v4), (5, .ref (b + v5)), (6, .int v6), (7, .int v7)] → W p l e (headSpec (.code yX11_drawn cX11_drawn 8 (some FieldType.int) :: gb_wA) ({ frames := 6, cells := 0, slots := 0, locals := 133 })).room s m ([.ref (b + 0), .int p1, .int p2, .int p3, .int p4]).toArray below meth c H locs 0 0 (MQ below (gb_Qi (fun r h => r = rE ∧ va_P D vwCl (gb_wl b (gb_CW cT b σE)) h) (gb_fr b 135)) ([.ref (b + 0), .int p1, .int p2, .int p3, .int p4]).toArray s 0 0 (gb_fr b 135)) (F0 m 54 ls []) := by
    clear h hP hS hl ls
    intro mm
    induction mm with
    | zero =>
      intro σ v3 v4 v5 v6 v7 H locs ls h
      cases h
    | succ mm ih =>
      intro σ v3 v4 v5 v6 v7 H locs ls h hP hS hl
      rw [cs_Face_drawn_54] at h
      obtain ⟨z_20, h⟩ := gb_kk_s h
      refine lv_iload hx hb dX11_drawn_54 (lv_at hl 5 rfl) ?_
      refine lv_iload_n hx hb dX11_drawn_56 rfl (lv_at hl 1 rfl) ?_
      refine lv_icmp_ge (tgt := 79) hx hb dX11_drawn_57 (by decide) (fun c_21 => ?_) (fun c_21 => ?_)
      · rw [if_pos c_21] at h
        refine lv_iload hx hb dX11_drawn_79 (lv_at hl 4 rfl) ?_
        obtain ⟨e1, e2⟩ := gb_eq2 h
        exact W.iret (v := v6) hx hb hr (fun t ht hW => gb_ri ht ⟨e2, by rw [← e1]; exact hP⟩ hS) hS.2.2 dX11_drawn_81
      · rw [if_neg c_21] at h
        refine lv_iload hx hb dX11_drawn_60 (lv_at hl 4 rfl) ?_
        refine lv_aload_n hx hb dX11_drawn_62 rfl (lv_at hl 0 rfl) ?_
        refine lv_aload hx hb dX11_drawn_63 (lv_at hl 3 rfl) ?_
        refine lv_iload hx hb dX11_drawn_65 (lv_at hl 2 rfl) ?_
        obtain ⟨s_22, r_23, z_24, h⟩ := gb_cd_s h
        refine gb_calli (va_runV (C := RX11) (As := [.ref (b + v5), .int v4]) (rest := [.int v6]) ⟨hx, hb, hml, hown, hq⟩ (cc_Face_drawnNight_B l D cT tt b1 b hb1 n σ v5 v4 s_22 r_23 z_24) (cwV 2 hq (gb_gV w_1101 w_1103 s_2_14 w_1 w_1104) rfl rfl rfl (by decide +kernel) ⟨Nat.le_of_ble_eq_true rfl, Nat.le_of_ble_eq_true rfl⟩) (gb_preV (r := (RX11, TX11, 10)) (ci := 9) (q0 := 0) hSt hP rfl (gb_at b rfl) hS (fun q h => Nat.le_trans hb1 h.1) hP) rfl rfl hl.1 rfl (lv_room (Nat.le_of_ble_eq_true rfl)) dX11_drawn_67 ⟨Nat.le_of_ble_eq_true rfl, Nat.le_of_ble_eq_true rfl⟩) hS (fun _ h => h) (fun _ h => h) (fun q_25 H locs hY hk hS => ?_)
        obtain ⟨hq_25, hP⟩ := hY
        replace hq_25 := hq_25.symm
        subst hq_25
        refine lv_iadd hx hb dX11_drawn_70 ?_
        refine lv_topi (fun x_26 ex_26 => ?_)
        replace h := gb_lt_s ex_26 h
        refine lv_istore (lv' := [(6, .int x_26), (0, .ref (b + 0)), (3, .int v3), (4, .int v4), (5, .ref (b + v5)), (7, .int v7)]) hx hb dX11_drawn_71 hl (by decide) rfl (fun ls hl => ?_)
        obtain ⟨x_27, ex_27⟩ : ∃ q, q = (v7 + 1) := ⟨_, rfl⟩
        replace h := gb_lt_s ex_27 h
        refine lv_iinc (v := x_27) (lv' := [(7, .int x_27), (6, .int x_26), (0, .ref (b + 0)), (3, .int v3), (4, .int v4), (5, .ref (b + v5))]) hx hb dX11_drawn_73 hl (k := 5) rfl (by rw [ex_27]; rfl) (by decide) rfl (fun ls hl => ?_)
        refine lv_goto (tgt := 54) hx hb dX11_drawn_76 (by decide) ?_
        exact ih _ _ _ _ _ _ _ _ _ h hP hS (lv_sub hl [2, 3, 4, 5, 1, 0] rfl)
  unfold cs_Face_drawn at h
  refine lv_aload_n hx hb dX11_drawn_0 rfl (lv_at hl 0 rfl) ?_
  refine lv_iload_n hx hb dX11_drawn_1 rfl (lv_at hl 1 rfl) ?_
  obtain ⟨s_1, r_2, z_3, h⟩ := gb_cd_s h
  refine gb_callq (va_runV (C := RX11) (As := [.int p1]) (rest := []) ⟨hx, hb, hml, hown, hq⟩ (cc_Face_borderAt l D cT tt b1 b hb1 n σ p1 s_1 r_2 z_3) (cwV 1 hq (gb_gV w_593 w_595 s_1_7 w_1 w_596) rfl rfl rfl (by decide +kernel) ⟨Nat.le_of_ble_eq_true rfl, Nat.le_of_ble_eq_true rfl⟩) (gb_preV (r := (RX11, TX11, 10)) (ci := 9) (q0 := 0) hSt hP rfl (gb_at b rfl) hS (fun q h => Nat.le_trans hb1 h.1) hP) rfl rfl hl.1 rfl (lv_room (Nat.le_of_ble_eq_true rfl)) dX11_drawn_2 ⟨Nat.le_of_ble_eq_true rfl, Nat.le_of_ble_eq_true rfl⟩) hS (fun _ h => h) (fun _ h => h) (fun q_4 H locs hY hk hS => ?_)
  obtain ⟨hq_4, hP⟩ := hY
  subst hq_4
  rw [gb_onv]
  by_cases c_5 : r_2 = 0
  · rw [if_pos c_5] at h
    rw [gb_nv0 c_5]
    refine lv_astoreN (lv' := [(5, .null), (0, .ref (b + 0)), (1, .int p1), (2, .int p2), (3, .int p3), (4, .int p4)]) hx hb dX11_drawn_5 hl (by decide) rfl (fun ls hl => ?_)
    refine lv_aloadN hx hb dX11_drawn_7 (lv_at hl 0 rfl) ?_
    refine lv_ifnullN (tgt := 41) hx hb dX11_drawn_9 (by decide) ?_
    refine lv_iconst (v := (-1)) hx hb dX11_drawn_41 (by decide) ?_
    obtain ⟨e1, e2⟩ := gb_eq2 h
    exact W.iret (v := (-1)) hx hb hr (fun t ht hW => gb_ri ht ⟨e2, by rw [← e1]; exact hP⟩ hS) hS.2.2 dX11_drawn_42
  rw [if_neg c_5] at h
  rw [gb_nv1 c_5]
  obtain ⟨z_6, h⟩ := gb_kk_s h
  refine lv_astore (lv' := [(5, .ref (b + r_2)), (0, .ref (b + 0)), (1, .int p1), (2, .int p2), (3, .int p3), (4, .int p4)]) hx hb dX11_drawn_5 hl (by decide) rfl (fun ls hl => ?_)
  refine lv_aload hx hb dX11_drawn_7 (lv_at hl 0 rfl) ?_
  refine lv_ifnull hx hb dX11_drawn_9 ?_
  refine lv_aload hx hb dX11_drawn_12 (lv_at hl 0 rfl) ?_
  obtain ⟨s_7, r_8, z_9, h⟩ := gb_cd_s h
  refine gb_calli (va_runV (C := RX0) (As := []) (rest := []) ⟨hx, hb, hml, hown, hq⟩ (cc_Border_paths_B l D cT tt b1 b hb1 n s_1 r_2 s_7 r_8 z_9) (cwV 0 hq (gb_gV w_597 w_473 w_474 w_4 w_475) rfl rfl rfl (by decide +kernel) ⟨Nat.le_of_ble_eq_true rfl, Nat.le_of_ble_eq_true rfl⟩) (gb_preV (r := (RX0, TX0, 1)) (ci := 0) (q0 := r_2) hSt hP rfl (gb_at b (gb_cB z_6).1) hS (fun q h => Nat.le_trans hb1 h.1) hP) rfl rfl hl.1 rfl (lv_room (Nat.le_of_ble_eq_true rfl)) dX11_drawn_14 ⟨Nat.le_of_ble_eq_true rfl, Nat.le_of_ble_eq_true rfl⟩) hS (fun _ h => h) (fun _ h => h) (fun q_10 H locs hY hk hS => ?_)
  obtain ⟨hq_10, hP⟩ := hY
  replace hq_10 := hq_10.symm
  subst hq_10
  refine lv_if_eq (tgt := 41) hx hb dX11_drawn_17 (by decide) (fun c_11 => ?_) (fun c_11 => ?_)
  · rw [if_pos c_11] at h
    refine lv_iconst (v := (-1)) hx hb dX11_drawn_41 (by decide) ?_
    obtain ⟨e1, e2⟩ := gb_eq2 h
    exact W.iret (v := (-1)) hx hb hr (fun t ht hW => gb_ri ht ⟨e2, by rw [← e1]; exact hP⟩ hS) hS.2.2 dX11_drawn_42
  · rw [if_neg c_11] at h
    refine lv_iload_n hx hb dX11_drawn_20 rfl (lv_at hl 4 rfl) ?_
    refine lv_iconst (v := 1) hx hb dX11_drawn_21 (by decide) ?_
    refine lv_icmp_lt (tgt := 41) hx hb dX11_drawn_22 (by decide) (fun c_12 => ?_) (fun c_12 => ?_)
    · rw [if_pos c_12] at h
      refine lv_iconst (v := (-1)) hx hb dX11_drawn_41 (by decide) ?_
      obtain ⟨e1, e2⟩ := gb_eq2 h
      exact W.iret (v := (-1)) hx hb hr (fun t ht hW => gb_ri ht ⟨e2, by rw [← e1]; exact hP⟩ hS) hS.2.2 dX11_drawn_42
    · rw [if_neg c_12] at h
      refine lv_iload_n hx hb dX11_drawn_25 rfl (lv_at hl 4 rfl) ?_
      refine lv_bipush (v := 20) hx hb dX11_drawn_26 (by decide) ?_
      refine lv_icmp_gt (tgt := 41) hx hb dX11_drawn_28 (by decide) (fun c_13 => ?_) (fun c_13 => ?_)
      · rw [if_pos c_13] at h
        refine lv_iconst (v := (-1)) hx hb dX11_drawn_41 (by decide) ?_
        obtain ⟨e1, e2⟩ := gb_eq2 h
        exact W.iret (v := (-1)) hx hb hr (fun t ht hW => gb_ri ht ⟨e2, by rw [← e1]; exact hP⟩ hS) hS.2.2 dX11_drawn_42
      · rw [if_neg c_13] at h
        refine lv_aload hx hb dX11_drawn_31 (lv_at hl 0 rfl) ?_
        refine lv_iload hx hb dX11_drawn_33 (lv_at hl 5 rfl) ?_
        obtain ⟨s_14, r_15, z_16, h⟩ := gb_cd_s h
        refine gb_calli (va_runS (As := [.ref (b + r_2), .int p4]) (rest := []) ⟨hx, hb, hml, hown, hq⟩ (cc_Face_isDrawnOf_B l D cT tt b1 b hb1 n s_7 r_2 p4 s_14 r_15 z_16) (va_cwS 2 hq (gb_gS w_1098 w_1099 w_1 w_1100) rfl rfl rfl (by decide +kernel) ⟨Nat.le_of_ble_eq_true rfl, Nat.le_of_ble_eq_true rfl⟩) (gb_preS hSt hS (fun q h => Nat.le_trans hb1 h.1) hP) rfl rfl hl.1 rfl (lv_room (Nat.le_of_ble_eq_true rfl)) dX11_drawn_35 ⟨Nat.le_of_ble_eq_true rfl, Nat.le_of_ble_eq_true rfl⟩) hS (fun _ h => h) (fun _ h => h) (fun q_17 H locs hY hk hS => ?_)
        obtain ⟨hq_17, hP⟩ := hY
        replace hq_17 := hq_17.symm
        subst hq_17
        refine lv_if_ne (tgt := 43) hx hb dX11_drawn_38 (by decide) (fun c_18 => ?_) (fun c_18 => ?_)
        · rw [if_neg c_18] at h
          refine lv_aload_n hx hb dX11_drawn_43 rfl (lv_at hl 1 rfl) ?_
          refine lv_iload_n hx hb dX11_drawn_44 rfl (lv_at hl 3 rfl) ?_
          refine gb_put (ci := 9) (v := (.int p2)) (ty := .int) (C := RX11) (T := TX11) (N := 10) hx hb hq i_X11 tyX11 tyX11_ok nmX11 hown hK hP (fun k h => ⟨Nat.le_add_right b k, Nat.add_lt_add_left h b⟩) hS rfl 0 rfl rfl 9 (by decide) (hq _ w_324) (fun _ h9 => h9) rfl (by decide +kernel) rfl rfl (Nat.le_of_ble_eq_true rfl) dX11_drawn_45 (fun H locs hP hz_ hS => ?_)
          obtain ⟨s_19, es_19⟩ : ∃ q, q = (gb_su s_14 0 (upd (s_14.1 0) 9 p2)) := ⟨_, rfl⟩
          replace hP : va_P D vwCl (gb_wl b (gb_CW cT b s_19)) H := by rw [es_19]; exact hP
          replace h := gb_lt_s es_19 h
          refine lv_iconst (v := 0) hx hb dX11_drawn_48 (by decide) ?_
          refine lv_istore (lv' := [(6, .int 0), (5, .ref (b + r_2)), (0, .ref (b + 0)), (1, .int p1), (2, .int p2), (3, .int p3), (4, .int p4)]) hx hb dX11_drawn_49 hl (by decide) rfl (fun ls hl => ?_)
          refine lv_iconst (v := 0) hx hb dX11_drawn_51 (by decide) ?_
          refine lv_istore (lv' := [(7, .int 0), (6, .int 0), (5, .ref (b + r_2)), (0, .ref (b + 0)), (1, .int p1), (2, .int p2), (3, .int p3), (4, .int p4)]) hx hb dX11_drawn_52 hl (by decide) rfl (fun ls hl => ?_)
          exact L54_1 n _ _ _ _ _ _ _ _ _ h hP hS (lv_sub hl [3, 6, 7, 2, 1, 0] rfl)
        · rw [if_pos c_18] at h
          refine lv_iconst (v := (-1)) hx hb dX11_drawn_41 (by decide) ?_
          obtain ⟨e1, e2⟩ := gb_eq2 h
          exact W.iret (v := (-1)) hx hb hr (fun t ht hW => gb_ri ht ⟨e2, by rw [← e1]; exact hP⟩ hS) hS.2.2 dX11_drawn_42
