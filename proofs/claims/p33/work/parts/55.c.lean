theorem dX11_alike_0 : decode cX11_alike 0 = .ok (.aload_n 0, 1) := dc_42 (show ((cX11_alike.data.toList.drop 0).take 1).map UInt8.toNat = [42] by decide +kernel)
theorem dX11_alike_1 : decode cX11_alike 1 = .ok (.iload_n 1, 1) := dc_27 (show ((cX11_alike.data.toList.drop 1).take 1).map UInt8.toNat = [27] by decide +kernel)
theorem dX11_alike_2 : decode cX11_alike 2 = .ok (.invokevirtual 113, 3) := dc_182 (show ((cX11_alike.data.toList.drop 2).take 3).map UInt8.toNat = [182, 0, 113] by decide +kernel) rfl
theorem dX11_alike_5 : decode cX11_alike 5 = .ok (.astore 4, 2) := dc_58 (show ((cX11_alike.data.toList.drop 5).take 2).map UInt8.toNat = [58, 4] by decide +kernel) rfl
theorem dX11_alike_7 : decode cX11_alike 7 = .ok (.aload 4, 2) := dc_25 (show ((cX11_alike.data.toList.drop 7).take 2).map UInt8.toNat = [25, 4] by decide +kernel) rfl
theorem dX11_alike_9 : decode cX11_alike 9 = .ok (.ifnull 26, 3) := dc_198 (show ((cX11_alike.data.toList.drop 9).take 3).map UInt8.toNat = [198, 0, 26] by decide +kernel) rfl
theorem dX11_alike_35 : decode cX11_alike 35 = .ok (.iconst (-1), 1) := dc_2 (show ((cX11_alike.data.toList.drop 35).take 1).map UInt8.toNat = [2] by decide +kernel)
theorem dX11_alike_36 : decode cX11_alike 36 = .ok (.ireturn, 1) := dc_172 (show ((cX11_alike.data.toList.drop 36).take 1).map UInt8.toNat = [172] by decide +kernel)
theorem dX11_alike_12 : decode cX11_alike 12 = .ok (.iload_n 2, 1) := dc_28 (show ((cX11_alike.data.toList.drop 12).take 1).map UInt8.toNat = [28] by decide +kernel)
theorem dX11_alike_13 : decode cX11_alike 13 = .ok (.iload_n 3, 1) := dc_29 (show ((cX11_alike.data.toList.drop 13).take 1).map UInt8.toNat = [29] by decide +kernel)
theorem dX11_alike_14 : decode cX11_alike 14 = .ok (.if_icmp .eq 21, 3) := dc_159 (show ((cX11_alike.data.toList.drop 14).take 3).map UInt8.toNat = [159, 0, 21] by decide +kernel) rfl
theorem dX11_alike_17 : decode cX11_alike 17 = .ok (.aload 4, 2) := dc_25 (show ((cX11_alike.data.toList.drop 17).take 2).map UInt8.toNat = [25, 4] by decide +kernel) rfl
theorem dX11_alike_19 : decode cX11_alike 19 = .ok (.iload_n 2, 1) := dc_28 (show ((cX11_alike.data.toList.drop 19).take 1).map UInt8.toNat = [28] by decide +kernel)
theorem dX11_alike_20 : decode cX11_alike 20 = .ok (.invokevirtual 131, 3) := dc_182 (show ((cX11_alike.data.toList.drop 20).take 3).map UInt8.toNat = [182, 0, 131] by decide +kernel) rfl
theorem dX11_alike_23 : decode cX11_alike 23 = .ok (.ifCond .eq 12, 3) := dc_153 (show ((cX11_alike.data.toList.drop 23).take 3).map UInt8.toNat = [153, 0, 12] by decide +kernel) rfl
theorem dX11_alike_26 : decode cX11_alike 26 = .ok (.aload 4, 2) := dc_25 (show ((cX11_alike.data.toList.drop 26).take 2).map UInt8.toNat = [25, 4] by decide +kernel) rfl
theorem dX11_alike_28 : decode cX11_alike 28 = .ok (.iload_n 3, 1) := dc_29 (show ((cX11_alike.data.toList.drop 28).take 1).map UInt8.toNat = [29] by decide +kernel)
theorem dX11_alike_29 : decode cX11_alike 29 = .ok (.invokevirtual 131, 3) := dc_182 (show ((cX11_alike.data.toList.drop 29).take 3).map UInt8.toNat = [182, 0, 131] by decide +kernel) rfl
theorem dX11_alike_32 : decode cX11_alike 32 = .ok (.ifCond .ne 5, 3) := dc_154 (show ((cX11_alike.data.toList.drop 32).take 3).map UInt8.toNat = [154, 0, 5] by decide +kernel) rfl
theorem dX11_alike_37 : decode cX11_alike 37 = .ok (.iconst 0, 1) := dc_3 (show ((cX11_alike.data.toList.drop 37).take 1).map UInt8.toNat = [3] by decide +kernel)
theorem dX11_alike_38 : decode cX11_alike 38 = .ok (.istore 5, 2) := dc_54 (show ((cX11_alike.data.toList.drop 38).take 2).map UInt8.toNat = [54, 5] by decide +kernel) rfl
theorem dX11_alike_40 : decode cX11_alike 40 = .ok (.iconst 0, 1) := dc_3 (show ((cX11_alike.data.toList.drop 40).take 1).map UInt8.toNat = [3] by decide +kernel)
theorem dX11_alike_41 : decode cX11_alike 41 = .ok (.istore 6, 2) := dc_54 (show ((cX11_alike.data.toList.drop 41).take 2).map UInt8.toNat = [54, 6] by decide +kernel) rfl
theorem dX11_alike_43 : decode cX11_alike 43 = .ok (.iload 6, 2) := dc_21 (show ((cX11_alike.data.toList.drop 43).take 2).map UInt8.toNat = [21, 6] by decide +kernel) rfl
theorem dX11_alike_45 : decode cX11_alike 45 = .ok (.aload 4, 2) := dc_25 (show ((cX11_alike.data.toList.drop 45).take 2).map UInt8.toNat = [25, 4] by decide +kernel) rfl
theorem dX11_alike_47 : decode cX11_alike 47 = .ok (.invokevirtual 117, 3) := dc_182 (show ((cX11_alike.data.toList.drop 47).take 3).map UInt8.toNat = [182, 0, 117] by decide +kernel) rfl
theorem dX11_alike_50 : decode cX11_alike 50 = .ok (.if_icmp .ge 37, 3) := dc_162 (show ((cX11_alike.data.toList.drop 50).take 3).map UInt8.toNat = [162, 0, 37] by decide +kernel) rfl
theorem dX11_alike_87 : decode cX11_alike 87 = .ok (.iload 5, 2) := dc_21 (show ((cX11_alike.data.toList.drop 87).take 2).map UInt8.toNat = [21, 5] by decide +kernel) rfl
theorem dX11_alike_89 : decode cX11_alike 89 = .ok (.ireturn, 1) := dc_172 (show ((cX11_alike.data.toList.drop 89).take 1).map UInt8.toNat = [172] by decide +kernel)
theorem dX11_alike_53 : decode cX11_alike 53 = .ok (.aload 4, 2) := dc_25 (show ((cX11_alike.data.toList.drop 53).take 2).map UInt8.toNat = [25, 4] by decide +kernel) rfl
theorem dX11_alike_55 : decode cX11_alike 55 = .ok (.iload_n 2, 1) := dc_28 (show ((cX11_alike.data.toList.drop 55).take 1).map UInt8.toNat = [28] by decide +kernel)
theorem dX11_alike_56 : decode cX11_alike 56 = .ok (.iload 6, 2) := dc_21 (show ((cX11_alike.data.toList.drop 56).take 2).map UInt8.toNat = [21, 6] by decide +kernel) rfl
theorem dX11_alike_58 : decode cX11_alike 58 = .ok (.invokevirtual 311, 3) := dc_182 (show ((cX11_alike.data.toList.drop 58).take 3).map UInt8.toNat = [182, 1, 55] by decide +kernel) rfl
theorem dX11_alike_61 : decode cX11_alike 61 = .ok (.aload 4, 2) := dc_25 (show ((cX11_alike.data.toList.drop 61).take 2).map UInt8.toNat = [25, 4] by decide +kernel) rfl
theorem dX11_alike_63 : decode cX11_alike 63 = .ok (.iload_n 3, 1) := dc_29 (show ((cX11_alike.data.toList.drop 63).take 1).map UInt8.toNat = [29] by decide +kernel)
theorem dX11_alike_64 : decode cX11_alike 64 = .ok (.iload 6, 2) := dc_21 (show ((cX11_alike.data.toList.drop 64).take 2).map UInt8.toNat = [21, 6] by decide +kernel) rfl
theorem dX11_alike_66 : decode cX11_alike 66 = .ok (.invokevirtual 311, 3) := dc_182 (show ((cX11_alike.data.toList.drop 66).take 3).map UInt8.toNat = [182, 1, 55] by decide +kernel) rfl
theorem dX11_alike_69 : decode cX11_alike 69 = .ok (.if_icmp .ne 12, 3) := dc_160 (show ((cX11_alike.data.toList.drop 69).take 3).map UInt8.toNat = [160, 0, 12] by decide +kernel) rfl
theorem dX11_alike_81 : decode cX11_alike 81 = .ok (.iinc 6 1, 3) := dc_132 (show ((cX11_alike.data.toList.drop 81).take 3).map UInt8.toNat = [132, 6, 1] by decide +kernel) rfl
theorem dX11_alike_84 : decode cX11_alike 84 = .ok (.goto (-41), 3) := dc_167 (show ((cX11_alike.data.toList.drop 84).take 3).map UInt8.toNat = [167, 255, 215] by decide +kernel) rfl
theorem dX11_alike_72 : decode cX11_alike 72 = .ok (.iload 5, 2) := dc_21 (show ((cX11_alike.data.toList.drop 72).take 2).map UInt8.toNat = [21, 5] by decide +kernel) rfl
theorem dX11_alike_74 : decode cX11_alike 74 = .ok (.iconst 1, 1) := dc_4 (show ((cX11_alike.data.toList.drop 74).take 1).map UInt8.toNat = [4] by decide +kernel)
theorem dX11_alike_75 : decode cX11_alike 75 = .ok (.iload 6, 2) := dc_21 (show ((cX11_alike.data.toList.drop 75).take 2).map UInt8.toNat = [21, 6] by decide +kernel) rfl
theorem dX11_alike_77 : decode cX11_alike 77 = .ok (.ishl, 1) := dc_120 (show ((cX11_alike.data.toList.drop 77).take 1).map UInt8.toNat = [120] by decide +kernel)
theorem dX11_alike_78 : decode cX11_alike 78 = .ok (.ior, 1) := dc_128 (show ((cX11_alike.data.toList.drop 78).take 1).map UInt8.toNat = [128] by decide +kernel)
theorem dX11_alike_79 : decode cX11_alike 79 = .ok (.istore 5, 2) := dc_54 (show ((cX11_alike.data.toList.drop 79).take 2).map UInt8.toNat = [54, 5] by decide +kernel) rfl
def cs_Face_alike_43 (n : Nat) : Nat → gb_S → Int32 → Int32 → Nat → Int32 → Int32 → gb_CR Int32
  | 0, _, _, _, _, _, _ => none
  | mm + 1, σ, v2, v3, v4, v5, v6 => gb_kk (gb_kB v4) (gb_cd (cs_Border_paths_B n σ v4) (fun s_19 r_20 => (if r_20 ≤ v6 then some (s_19, v5) else gb_cd (cs_Border_marksFirst_B n s_19 v4 v2 v6) (fun s_24 r_25 => gb_cd (cs_Border_marksFirst_B n s_24 v4 v3 v6) (fun s_28 r_29 => (if r_25 = r_29 then gb_lt (v5 ||| ((1 : Int32) <<< (v6 &&& 31))) (fun x_34 => gb_lt (v6 + 1) (fun x_35 => cs_Face_alike_43 n mm s_28 v2 v3 v4 x_34 x_35)) else gb_lt (v6 + 1) (fun x_33 => cs_Face_alike_43 n mm s_28 v2 v3 v4 v5 x_33)))))))
def cs_Face_alike (n : Nat) (σ : gb_S) (p1 : Int32) (p2 : Int32) (p3 : Int32) : gb_CR Int32 := gb_cd (cs_Face_borderAt n σ p1) (fun s_1 r_2 => (if r_2 = 0 then some (s_1, (-1)) else gb_kk (gb_kB r_2) ((if p2 = p3 then some (s_1, (-1)) else gb_cd (cs_Border_hasGoose_B n s_1 r_2 p2) (fun s_8 r_9 => (if r_9 = 0 then some (s_8, (-1)) else gb_cd (cs_Border_hasGoose_B n s_8 r_2 p3) (fun s_13 r_14 => (if r_14 = 0 then some (s_13, (-1)) else cs_Face_alike_43 n n s_13 p2 p3 r_2 0 0))))))))
set_option maxHeartbeats 8000000 in
set_option maxRecDepth 100000 in
theorem cc_Face_alike (l : Launch) (D : va_G) (cT : Nat → ClassId) (tt : Nat → Nat) (b1 b : Nat) (hb1 : b1 ≤ b) (n : Nat) (σ : gb_S) (p1 : Int32) (p2 : Int32) (p3 : Int32) (σE : gb_S) (rE : Int32) (h : cs_Face_alike n σ p1 p2 p3 = some (σE, rE)) : Met l yX11_alike (.code yX11_alike cX11_alike 7 (some FieldType.int) :: gb_wA) ({ frames := 3, cells := 0, slots := 0, locals := 70 }) (gb_Pc D cT tt b1 [.ref (b + 0), .int p1, .int p2, .int p3] (fun h => va_P D vwCl (gb_wl b (gb_CW cT b σ)) h)) (gb_Qi (fun r h => r = rE ∧ va_P D vwCl (gb_wl b (gb_CW cT b σE)) h) (gb_fr b 135)) 0 0 (gb_fr b 135) := by
  refine Met.ofW (cc := cX11_alike) (maxL := 7) (ret := (some FieldType.int)) (by decide) rfl ?_
  intro p e s m args below meth c s₁ B hml hv
  obtain ⟨rfl, hSt, hP⟩ := hv
  have hx := B.exec
  have hb := B.bytes
  have hr := B.returns
  have hts := atoms_spec (ws := .code yX11_alike cX11_alike 7 (some FieldType.int) :: gb_wA) B.pre
  have hq : ∀ w ∈ gb_wA, w.before _ s = true := fun w h => hts w (List.mem_cons_of_mem _ h)
  have hown : s.vm.findClass RX11 = some m.cls := findClass_of_methodNamed B.named
  have hlocks := B.notSynchronized
  clear B hts
  have hK := hSt.1
  have hS : va_S (gb_fr b 135) s.heap s.heap [] := va_S.rf
  have hl := lv_entry ([.ref (b + 0), .int p1, .int p2, .int p3]) (n := 7) (Nat.le_of_ble_eq_true rfl)
  rw [lg_entry_eq]
  generalize (lg_sl ([.ref (b + 0), .int p1, .int p2, .int p3]) ++ List.replicate (7 - (lg_sl ([.ref (b + 0), .int p1, .int p2, .int p3])).length) Slot.unset).toArray = ls at hl ⊢
  replace hl : lv_has ls 7 [(0, .ref (b + 0)), (1, .int p1), (2, .int p2), (3, .int p3)] := hl
  have L43_1 : ∀ (mm : Nat) (σ : gb_S) (v2 : Int32) (v3 : Int32) (v4 : Nat) (v5 : Int32) (v6 : Int32) (H : Heap) (locs : List Loc) (ls : Array Slot), cs_Face_alike_43 n mm σ v2 v3 v4 v5 v6 = some (σE, rE) → va_P D vwCl (gb_wl b (gb_CW cT b σ)) H → va_S (gb_fr b 135) s.heap H locs → lv_has ls 7 [(2, .int v2), (3, .int v3), (4, .ref (b + v4)), (5, .int v5), (6, .int v6)] → W p l e (headSpec (.code yX11_alike cX11_alike 7 (some FieldType.int) :: gb_wA) ({ frames := 3, cells := 0, slots := 0, locals := 70 })).room s m ([.ref (b + 0), .int p1, .int p2, .int p3]).toArray below meth c H locs 0 0 (MQ below (gb_Qi (fun r h => r = rE ∧ va_P D vwCl (gb_wl b (gb_CW cT b σE)) h) (gb_fr b 135)) ([.ref (b + 0), .int p1, .int p2, .int p3]).toArray s 0 0 (gb_fr b 135)) (F0 m 43 ls []) := by
    clear h hP hS hl ls
    intro mm
    induction mm with
    | zero =>
      intro σ v2 v3 v4 v5 v6 H locs ls h
      cases h
    | succ mm ih =>
      intro σ v2 v3 v4 v5 v6 H locs ls h hP hS hl
      rw [cs_Face_alike_43] at h
      obtain ⟨z_18, h⟩ := gb_kk_s h
      refine lv_iload hx hb dX11_alike_43 (lv_at hl 4 rfl) ?_
      refine lv_aload hx hb dX11_alike_45 (lv_at hl 2 rfl) ?_
      obtain ⟨s_19, r_20, z_21, h⟩ := gb_cd_s h
      refine gb_calli (va_runV (C := RX0) (As := []) (rest := [.int v6]) ⟨hx, hb, hml, hown, hq⟩ (cc_Border_paths_B l D cT tt b1 b hb1 n σ v4 s_19 r_20 z_21) (cwV 0 hq (gb_gV w_597 w_473 w_474 w_4 w_475) rfl rfl rfl (by decide +kernel) ⟨Nat.le_of_ble_eq_true rfl, Nat.le_of_ble_eq_true rfl⟩) (gb_preV (r := (RX0, TX0, 1)) (ci := 0) (q0 := v4) hSt hP rfl (gb_at b (gb_cB z_18).1) hS (fun q h => Nat.le_trans hb1 h.1) hP) rfl rfl hl.1 rfl (lv_room (Nat.le_of_ble_eq_true rfl)) dX11_alike_47 ⟨Nat.le_of_ble_eq_true rfl, Nat.le_of_ble_eq_true rfl⟩) hS (fun _ h => h) (fun _ h => h) (fun q_22 H locs hY hk hS => ?_)
      obtain ⟨hq_22, hP⟩ := hY
      replace hq_22 := hq_22.symm
      subst hq_22
      refine lv_icmp_ge (tgt := 87) hx hb dX11_alike_50 (by decide) (fun c_23 => ?_) (fun c_23 => ?_)
      · rw [if_pos c_23] at h
        refine lv_iload hx hb dX11_alike_87 (lv_at hl 3 rfl) ?_
        obtain ⟨e1, e2⟩ := gb_eq2 h
        exact W.iret (v := v5) hx hb hr (fun t ht hW => gb_ri ht ⟨e2, by rw [← e1]; exact hP⟩ hS) hS.2.2 dX11_alike_89
      · rw [if_neg c_23] at h
        refine lv_aload hx hb dX11_alike_53 (lv_at hl 2 rfl) ?_
        refine lv_iload_n hx hb dX11_alike_55 rfl (lv_at hl 0 rfl) ?_
        refine lv_iload hx hb dX11_alike_56 (lv_at hl 4 rfl) ?_
        obtain ⟨s_24, r_25, z_26, h⟩ := gb_cd_s h
        refine gb_calli (va_runV (C := RX0) (As := [.int v2, .int v6]) (rest := []) ⟨hx, hb, hml, hown, hq⟩ (cc_Border_marksFirst_B l D cT tt b1 b hb1 n s_19 v4 v2 v6 s_24 r_25 z_26) (cwV 2 hq (gb_gV w_963 w_899 w_900 w_4 w_901) rfl rfl rfl (by decide +kernel) ⟨Nat.le_of_ble_eq_true rfl, Nat.le_of_ble_eq_true rfl⟩) (gb_preV (r := (RX0, TX0, 1)) (ci := 0) (q0 := v4) hSt hP rfl (gb_at b (gb_cB z_18).1) hS (fun q h => Nat.le_trans hb1 h.1) hP) rfl rfl hl.1 rfl (lv_room (Nat.le_of_ble_eq_true rfl)) dX11_alike_58 ⟨Nat.le_of_ble_eq_true rfl, Nat.le_of_ble_eq_true rfl⟩) hS (fun _ h => h) (fun _ h => h) (fun q_27 H locs hY hk hS => ?_)
        obtain ⟨hq_27, hP⟩ := hY
        replace hq_27 := hq_27.symm
        subst hq_27
        refine lv_aload hx hb dX11_alike_61 (lv_at hl 2 rfl) ?_
        refine lv_iload_n hx hb dX11_alike_63 rfl (lv_at hl 1 rfl) ?_
        refine lv_iload hx hb dX11_alike_64 (lv_at hl 4 rfl) ?_
        obtain ⟨s_28, r_29, z_30, h⟩ := gb_cd_s h
        refine gb_calli (va_runV (C := RX0) (As := [.int v3, .int v6]) (rest := [.int r_25]) ⟨hx, hb, hml, hown, hq⟩ (cc_Border_marksFirst_B l D cT tt b1 b hb1 n s_24 v4 v3 v6 s_28 r_29 z_30) (cwV 2 hq (gb_gV w_963 w_899 w_900 w_4 w_901) rfl rfl rfl (by decide +kernel) ⟨Nat.le_of_ble_eq_true rfl, Nat.le_of_ble_eq_true rfl⟩) (gb_preV (r := (RX0, TX0, 1)) (ci := 0) (q0 := v4) hSt hP rfl (gb_at b (gb_cB z_18).1) hS (fun q h => Nat.le_trans hb1 h.1) hP) rfl rfl hl.1 rfl (lv_room (Nat.le_of_ble_eq_true rfl)) dX11_alike_66 ⟨Nat.le_of_ble_eq_true rfl, Nat.le_of_ble_eq_true rfl⟩) hS (fun _ h => h) (fun _ h => h) (fun q_31 H locs hY hk hS => ?_)
        obtain ⟨hq_31, hP⟩ := hY
        replace hq_31 := hq_31.symm
        subst hq_31
        refine lv_icmp_ne (tgt := 81) hx hb dX11_alike_69 (by decide) (fun c_32 => ?_) (fun c_32 => ?_)
        · rw [if_neg c_32] at h
          obtain ⟨x_33, ex_33⟩ : ∃ q, q = (v6 + 1) := ⟨_, rfl⟩
          replace h := gb_lt_s ex_33 h
          refine lv_iinc (v := x_33) (lv' := [(6, .int x_33), (2, .int v2), (3, .int v3), (4, .ref (b + v4)), (5, .int v5)]) hx hb dX11_alike_81 hl (k := 4) rfl (by rw [ex_33]; rfl) (by decide) rfl (fun ls hl => ?_)
          refine lv_goto (tgt := 43) hx hb dX11_alike_84 (by decide) ?_
          exact ih _ _ _ _ _ _ _ _ _ h hP hS (lv_sub hl [1, 2, 3, 4, 0] rfl)
        · rw [if_pos c_32] at h
          refine lv_iload hx hb dX11_alike_72 (lv_at hl 3 rfl) ?_
          refine lv_iconst (v := 1) hx hb dX11_alike_74 (by decide) ?_
          refine lv_iload hx hb dX11_alike_75 (lv_at hl 4 rfl) ?_
          refine lv_ishl hx hb dX11_alike_77 ?_
          refine lv_ior hx hb dX11_alike_78 ?_
          refine lv_topi (fun x_34 ex_34 => ?_)
          replace h := gb_lt_s ex_34 h
          refine lv_istore (lv' := [(5, .int x_34), (2, .int v2), (3, .int v3), (4, .ref (b + v4)), (6, .int v6)]) hx hb dX11_alike_79 hl (by decide) rfl (fun ls hl => ?_)
          obtain ⟨x_35, ex_35⟩ : ∃ q, q = (v6 + 1) := ⟨_, rfl⟩
          replace h := gb_lt_s ex_35 h
          refine lv_iinc (v := x_35) (lv' := [(6, .int x_35), (5, .int x_34), (2, .int v2), (3, .int v3), (4, .ref (b + v4))]) hx hb dX11_alike_81 hl (k := 4) rfl (by rw [ex_35]; rfl) (by decide) rfl (fun ls hl => ?_)
          refine lv_goto (tgt := 43) hx hb dX11_alike_84 (by decide) ?_
          exact ih _ _ _ _ _ _ _ _ _ h hP hS (lv_sub hl [2, 3, 4, 1, 0] rfl)
  unfold cs_Face_alike at h
  refine lv_aload_n hx hb dX11_alike_0 rfl (lv_at hl 0 rfl) ?_
  refine lv_iload_n hx hb dX11_alike_1 rfl (lv_at hl 1 rfl) ?_
  obtain ⟨s_1, r_2, z_3, h⟩ := gb_cd_s h
  refine gb_callq (va_runV (C := RX11) (As := [.int p1]) (rest := []) ⟨hx, hb, hml, hown, hq⟩ (cc_Face_borderAt l D cT tt b1 b hb1 n σ p1 s_1 r_2 z_3) (cwV 1 hq (gb_gV w_593 w_595 s_1_7 w_1 w_596) rfl rfl rfl (by decide +kernel) ⟨Nat.le_of_ble_eq_true rfl, Nat.le_of_ble_eq_true rfl⟩) (gb_preV (r := (RX11, TX11, 10)) (ci := 9) (q0 := 0) hSt hP rfl (gb_at b rfl) hS (fun q h => Nat.le_trans hb1 h.1) hP) rfl rfl hl.1 rfl (lv_room (Nat.le_of_ble_eq_true rfl)) dX11_alike_2 ⟨Nat.le_of_ble_eq_true rfl, Nat.le_of_ble_eq_true rfl⟩) hS (fun _ h => h) (fun _ h => h) (fun q_4 H locs hY hk hS => ?_)
  obtain ⟨hq_4, hP⟩ := hY
  subst hq_4
  rw [gb_onv]
  by_cases c_5 : r_2 = 0
  · rw [if_pos c_5] at h
    rw [gb_nv0 c_5]
    refine lv_astoreN (lv' := [(4, .null), (0, .ref (b + 0)), (1, .int p1), (2, .int p2), (3, .int p3)]) hx hb dX11_alike_5 hl (by decide) rfl (fun ls hl => ?_)
    refine lv_aloadN hx hb dX11_alike_7 (lv_at hl 0 rfl) ?_
    refine lv_ifnullN (tgt := 35) hx hb dX11_alike_9 (by decide) ?_
    refine lv_iconst (v := (-1)) hx hb dX11_alike_35 (by decide) ?_
    obtain ⟨e1, e2⟩ := gb_eq2 h
    exact W.iret (v := (-1)) hx hb hr (fun t ht hW => gb_ri ht ⟨e2, by rw [← e1]; exact hP⟩ hS) hS.2.2 dX11_alike_36
  rw [if_neg c_5] at h
  rw [gb_nv1 c_5]
  obtain ⟨z_6, h⟩ := gb_kk_s h
  refine lv_astore (lv' := [(4, .ref (b + r_2)), (0, .ref (b + 0)), (1, .int p1), (2, .int p2), (3, .int p3)]) hx hb dX11_alike_5 hl (by decide) rfl (fun ls hl => ?_)
  refine lv_aload hx hb dX11_alike_7 (lv_at hl 0 rfl) ?_
  refine lv_ifnull hx hb dX11_alike_9 ?_
  refine lv_iload_n hx hb dX11_alike_12 rfl (lv_at hl 3 rfl) ?_
  refine lv_iload_n hx hb dX11_alike_13 rfl (lv_at hl 4 rfl) ?_
  refine lv_icmp_eq (tgt := 35) hx hb dX11_alike_14 (by decide) (fun c_7 => ?_) (fun c_7 => ?_)
  · rw [if_pos c_7] at h
    refine lv_iconst (v := (-1)) hx hb dX11_alike_35 (by decide) ?_
    obtain ⟨e1, e2⟩ := gb_eq2 h
    exact W.iret (v := (-1)) hx hb hr (fun t ht hW => gb_ri ht ⟨e2, by rw [← e1]; exact hP⟩ hS) hS.2.2 dX11_alike_36
  · rw [if_neg c_7] at h
    refine lv_aload hx hb dX11_alike_17 (lv_at hl 0 rfl) ?_
    refine lv_iload_n hx hb dX11_alike_19 rfl (lv_at hl 3 rfl) ?_
    obtain ⟨s_8, r_9, z_10, h⟩ := gb_cd_s h
    refine gb_calli (va_runV (C := RX0) (As := [.int p2]) (rest := []) ⟨hx, hb, hml, hown, hq⟩ (cc_Border_hasGoose_B l D cT tt b1 b hb1 n s_1 r_2 p2 s_8 r_9 z_10) (cwV 1 hq (gb_gV w_619 w_612 w_613 w_4 w_614) rfl rfl rfl (by decide +kernel) ⟨Nat.le_of_ble_eq_true rfl, Nat.le_of_ble_eq_true rfl⟩) (gb_preV (r := (RX0, TX0, 1)) (ci := 0) (q0 := r_2) hSt hP rfl (gb_at b (gb_cB z_6).1) hS (fun q h => Nat.le_trans hb1 h.1) hP) rfl rfl hl.1 rfl (lv_room (Nat.le_of_ble_eq_true rfl)) dX11_alike_20 ⟨Nat.le_of_ble_eq_true rfl, Nat.le_of_ble_eq_true rfl⟩) hS (fun _ h => h) (fun _ h => h) (fun q_11 H locs hY hk hS => ?_)
    obtain ⟨hq_11, hP⟩ := hY
    replace hq_11 := hq_11.symm
    subst hq_11
    refine lv_if_eq (tgt := 35) hx hb dX11_alike_23 (by decide) (fun c_12 => ?_) (fun c_12 => ?_)
    · rw [if_pos c_12] at h
      refine lv_iconst (v := (-1)) hx hb dX11_alike_35 (by decide) ?_
      obtain ⟨e1, e2⟩ := gb_eq2 h
      exact W.iret (v := (-1)) hx hb hr (fun t ht hW => gb_ri ht ⟨e2, by rw [← e1]; exact hP⟩ hS) hS.2.2 dX11_alike_36
    · rw [if_neg c_12] at h
      refine lv_aload hx hb dX11_alike_26 (lv_at hl 0 rfl) ?_
      refine lv_iload_n hx hb dX11_alike_28 rfl (lv_at hl 4 rfl) ?_
      obtain ⟨s_13, r_14, z_15, h⟩ := gb_cd_s h
      refine gb_calli (va_runV (C := RX0) (As := [.int p3]) (rest := []) ⟨hx, hb, hml, hown, hq⟩ (cc_Border_hasGoose_B l D cT tt b1 b hb1 n s_8 r_2 p3 s_13 r_14 z_15) (cwV 1 hq (gb_gV w_619 w_612 w_613 w_4 w_614) rfl rfl rfl (by decide +kernel) ⟨Nat.le_of_ble_eq_true rfl, Nat.le_of_ble_eq_true rfl⟩) (gb_preV (r := (RX0, TX0, 1)) (ci := 0) (q0 := r_2) hSt hP rfl (gb_at b (gb_cB z_6).1) hS (fun q h => Nat.le_trans hb1 h.1) hP) rfl rfl hl.1 rfl (lv_room (Nat.le_of_ble_eq_true rfl)) dX11_alike_29 ⟨Nat.le_of_ble_eq_true rfl, Nat.le_of_ble_eq_true rfl⟩) hS (fun _ h => h) (fun _ h => h) (fun q_16 H locs hY hk hS => ?_)
      obtain ⟨hq_16, hP⟩ := hY
      replace hq_16 := hq_16.symm
      subst hq_16
      refine lv_if_ne (tgt := 37) hx hb dX11_alike_32 (by decide) (fun c_17 => ?_) (fun c_17 => ?_)
      · rw [if_neg c_17] at h
        refine lv_iconst (v := 0) hx hb dX11_alike_37 (by decide) ?_
        refine lv_istore (lv' := [(5, .int 0), (4, .ref (b + r_2)), (0, .ref (b + 0)), (1, .int p1), (2, .int p2), (3, .int p3)]) hx hb dX11_alike_38 hl (by decide) rfl (fun ls hl => ?_)
        refine lv_iconst (v := 0) hx hb dX11_alike_40 (by decide) ?_
        refine lv_istore (lv' := [(6, .int 0), (5, .int 0), (4, .ref (b + r_2)), (0, .ref (b + 0)), (1, .int p1), (2, .int p2), (3, .int p3)]) hx hb dX11_alike_41 hl (by decide) rfl (fun ls hl => ?_)
        exact L43_1 n _ _ _ _ _ _ _ _ _ h hP hS (lv_sub hl [5, 6, 2, 1, 0] rfl)
      · rw [if_pos c_17] at h
        refine lv_iconst (v := (-1)) hx hb dX11_alike_35 (by decide) ?_
        obtain ⟨e1, e2⟩ := gb_eq2 h
        exact W.iret (v := (-1)) hx hb hr (fun t ht hW => gb_ri ht ⟨e2, by rw [← e1]; exact hP⟩ hS) hS.2.2 dX11_alike_36
theorem dX11_span_0 : decode cX11_span 0 = .ok (.aload_n 0, 1) := dc_42 (show ((cX11_span.data.toList.drop 0).take 1).map UInt8.toNat = [42] by decide +kernel)
theorem dX11_span_1 : decode cX11_span 1 = .ok (.iload_n 1, 1) := dc_27 (show ((cX11_span.data.toList.drop 1).take 1).map UInt8.toNat = [27] by decide +kernel)
theorem dX11_span_2 : decode cX11_span 2 = .ok (.invokevirtual 113, 3) := dc_182 (show ((cX11_span.data.toList.drop 2).take 3).map UInt8.toNat = [182, 0, 113] by decide +kernel) rfl
theorem dX11_span_5 : decode cX11_span 5 = .ok (.astore 5, 2) := dc_58 (show ((cX11_span.data.toList.drop 5).take 2).map UInt8.toNat = [58, 5] by decide +kernel) rfl
theorem dX11_span_7 : decode cX11_span 7 = .ok (.aload 5, 2) := dc_25 (show ((cX11_span.data.toList.drop 7).take 2).map UInt8.toNat = [25, 5] by decide +kernel) rfl
theorem dX11_span_9 : decode cX11_span 9 = .ok (.ifnull 25, 3) := dc_198 (show ((cX11_span.data.toList.drop 9).take 3).map UInt8.toNat = [198, 0, 25] by decide +kernel) rfl
theorem dX11_span_34 : decode cX11_span 34 = .ok (.iconst (-1), 1) := dc_2 (show ((cX11_span.data.toList.drop 34).take 1).map UInt8.toNat = [2] by decide +kernel)
theorem dX11_span_35 : decode cX11_span 35 = .ok (.ireturn, 1) := dc_172 (show ((cX11_span.data.toList.drop 35).take 1).map UInt8.toNat = [172] by decide +kernel)
theorem dX11_span_12 : decode cX11_span 12 = .ok (.aload 5, 2) := dc_25 (show ((cX11_span.data.toList.drop 12).take 2).map UInt8.toNat = [25, 5] by decide +kernel) rfl
theorem dX11_span_14 : decode cX11_span 14 = .ok (.iload_n 2, 1) := dc_28 (show ((cX11_span.data.toList.drop 14).take 1).map UInt8.toNat = [28] by decide +kernel)
theorem dX11_span_15 : decode cX11_span 15 = .ok (.invokevirtual 135, 3) := dc_182 (show ((cX11_span.data.toList.drop 15).take 3).map UInt8.toNat = [182, 0, 135] by decide +kernel) rfl
theorem dX11_span_18 : decode cX11_span 18 = .ok (.ifCond .eq 16, 3) := dc_153 (show ((cX11_span.data.toList.drop 18).take 3).map UInt8.toNat = [153, 0, 16] by decide +kernel) rfl
theorem dX11_span_21 : decode cX11_span 21 = .ok (.iload_n 3, 1) := dc_29 (show ((cX11_span.data.toList.drop 21).take 1).map UInt8.toNat = [29] by decide +kernel)
theorem dX11_span_22 : decode cX11_span 22 = .ok (.ifCond .lt 12, 3) := dc_155 (show ((cX11_span.data.toList.drop 22).take 3).map UInt8.toNat = [155, 0, 12] by decide +kernel) rfl
theorem dX11_span_25 : decode cX11_span 25 = .ok (.iload_n 3, 1) := dc_29 (show ((cX11_span.data.toList.drop 25).take 1).map UInt8.toNat = [29] by decide +kernel)
theorem dX11_span_26 : decode cX11_span 26 = .ok (.aload 5, 2) := dc_25 (show ((cX11_span.data.toList.drop 26).take 2).map UInt8.toNat = [25, 5] by decide +kernel) rfl
theorem dX11_span_28 : decode cX11_span 28 = .ok (.invokevirtual 121, 3) := dc_182 (show ((cX11_span.data.toList.drop 28).take 3).map UInt8.toNat = [182, 0, 121] by decide +kernel) rfl
theorem dX11_span_31 : decode cX11_span 31 = .ok (.if_icmp .le 5, 3) := dc_164 (show ((cX11_span.data.toList.drop 31).take 3).map UInt8.toNat = [164, 0, 5] by decide +kernel) rfl
theorem dX11_span_36 : decode cX11_span 36 = .ok (.aload_n 0, 1) := dc_42 (show ((cX11_span.data.toList.drop 36).take 1).map UInt8.toNat = [42] by decide +kernel)
theorem dX11_span_37 : decode cX11_span 37 = .ok (.getfield 70, 3) := dc_180 (show ((cX11_span.data.toList.drop 37).take 3).map UInt8.toNat = [180, 0, 70] by decide +kernel) rfl
theorem dX11_span_40 : decode cX11_span 40 = .ok (.aload 5, 2) := dc_25 (show ((cX11_span.data.toList.drop 40).take 2).map UInt8.toNat = [25, 5] by decide +kernel) rfl
theorem dX11_span_42 : decode cX11_span 42 = .ok (.iload_n 2, 1) := dc_28 (show ((cX11_span.data.toList.drop 42).take 1).map UInt8.toNat = [28] by decide +kernel)
theorem dX11_span_43 : decode cX11_span 43 = .ok (.iload_n 3, 1) := dc_29 (show ((cX11_span.data.toList.drop 43).take 1).map UInt8.toNat = [29] by decide +kernel)
theorem dX11_span_44 : decode cX11_span 44 = .ok (.iload 4, 2) := dc_21 (show ((cX11_span.data.toList.drop 44).take 2).map UInt8.toNat = [21, 4] by decide +kernel) rfl
theorem dX11_span_46 : decode cX11_span 46 = .ok (.invokevirtual 320, 3) := dc_182 (show ((cX11_span.data.toList.drop 46).take 3).map UInt8.toNat = [182, 1, 64] by decide +kernel) rfl
theorem dX2_marksOfAny_0 : decode cX2_marksOfAny 0 = .ok (.aload_n 0, 1) := dc_42 (show ((cX2_marksOfAny.data.toList.drop 0).take 1).map UInt8.toNat = [42] by decide +kernel)
theorem dX2_marksOfAny_1 : decode cX2_marksOfAny 1 = .ok (.aload_n 1, 1) := dc_43 (show ((cX2_marksOfAny.data.toList.drop 1).take 1).map UInt8.toNat = [43] by decide +kernel)
theorem dX2_marksOfAny_2 : decode cX2_marksOfAny 2 = .ok (.iload_n 2, 1) := dc_28 (show ((cX2_marksOfAny.data.toList.drop 2).take 1).map UInt8.toNat = [28] by decide +kernel)
theorem dX2_marksOfAny_3 : decode cX2_marksOfAny 3 = .ok (.aload_n 0, 1) := dc_42 (show ((cX2_marksOfAny.data.toList.drop 3).take 1).map UInt8.toNat = [42] by decide +kernel)
theorem dX2_marksOfAny_4 : decode cX2_marksOfAny 4 = .ok (.getfield 9, 3) := dc_180 (show ((cX2_marksOfAny.data.toList.drop 4).take 3).map UInt8.toNat = [180, 0, 9] by decide +kernel) rfl
theorem dX2_marksOfAny_7 : decode cX2_marksOfAny 7 = .ok (.invokevirtual 39, 3) := dc_182 (show ((cX2_marksOfAny.data.toList.drop 7).take 3).map UInt8.toNat = [182, 0, 39] by decide +kernel) rfl
theorem dX2_sumUp_0 : decode cX2_sumUp 0 = .ok (.aload_n 0, 1) := dc_42 (show ((cX2_sumUp.data.toList.drop 0).take 1).map UInt8.toNat = [42] by decide +kernel)
theorem dX2_sumUp_1 : decode cX2_sumUp 1 = .ok (.iconst 1, 1) := dc_4 (show ((cX2_sumUp.data.toList.drop 1).take 1).map UInt8.toNat = [4] by decide +kernel)
theorem dX2_sumUp_2 : decode cX2_sumUp 2 = .ok (.aload_n 1, 1) := dc_43 (show ((cX2_sumUp.data.toList.drop 2).take 1).map UInt8.toNat = [43] by decide +kernel)
theorem dX2_sumUp_3 : decode cX2_sumUp 3 = .ok (.invokevirtual 25, 3) := dc_182 (show ((cX2_sumUp.data.toList.drop 3).take 3).map UInt8.toNat = [182, 0, 25] by decide +kernel) rfl
theorem w_986 : (Cond.methodLink "GooseBorder$Flocks" (25 : Nat) ({ cls := "GooseBorder$Border", name := "geese", desc := "()I" } : MethodName)) ∈ gb_wA := gb_t5 26 rfl rfl
theorem dX2_sumUp_6 : decode cX2_sumUp 6 = .ok (.ishl, 1) := dc_120 (show ((cX2_sumUp.data.toList.drop 6).take 1).map UInt8.toNat = [120] by decide +kernel)
theorem dX2_sumUp_7 : decode cX2_sumUp 7 = .ok (.putfield 31, 3) := dc_181 (show ((cX2_sumUp.data.toList.drop 7).take 3).map UInt8.toNat = [181, 0, 31] by decide +kernel) rfl
theorem w_298 : (Cond.fieldLink "GooseBorder$Flocks" (31 : Nat) "GooseBorder$Flocks" "sets" "I") ∈ gb_wA := gb_t2 58 rfl rfl
theorem dX2_sumUp_10 : decode cX2_sumUp 10 = .ok (.aload_n 3, 1) := dc_45 (show ((cX2_sumUp.data.toList.drop 10).take 1).map UInt8.toNat = [45] by decide +kernel)
theorem dX2_sumUp_11 : decode cX2_sumUp 11 = .ok (.iconst 0, 1) := dc_3 (show ((cX2_sumUp.data.toList.drop 11).take 1).map UInt8.toNat = [3] by decide +kernel)
theorem dX2_sumUp_12 : decode cX2_sumUp 12 = .ok (.iconst 0, 1) := dc_3 (show ((cX2_sumUp.data.toList.drop 12).take 1).map UInt8.toNat = [3] by decide +kernel)
theorem dX2_sumUp_13 : decode cX2_sumUp 13 = .ok (.iastore, 1) := dc_79 (show ((cX2_sumUp.data.toList.drop 13).take 1).map UInt8.toNat = [79] by decide +kernel)
theorem dX2_sumUp_14 : decode cX2_sumUp 14 = .ok (.iconst 0, 1) := dc_3 (show ((cX2_sumUp.data.toList.drop 14).take 1).map UInt8.toNat = [3] by decide +kernel)
theorem dX2_sumUp_15 : decode cX2_sumUp 15 = .ok (.istore 4, 2) := dc_54 (show ((cX2_sumUp.data.toList.drop 15).take 2).map UInt8.toNat = [54, 4] by decide +kernel) rfl
theorem dX2_sumUp_17 : decode cX2_sumUp 17 = .ok (.iload 4, 2) := dc_21 (show ((cX2_sumUp.data.toList.drop 17).take 2).map UInt8.toNat = [21, 4] by decide +kernel) rfl
theorem dX2_sumUp_19 : decode cX2_sumUp 19 = .ok (.aload_n 1, 1) := dc_43 (show ((cX2_sumUp.data.toList.drop 19).take 1).map UInt8.toNat = [43] by decide +kernel)
theorem dX2_sumUp_20 : decode cX2_sumUp 20 = .ok (.invokevirtual 25, 3) := dc_182 (show ((cX2_sumUp.data.toList.drop 20).take 3).map UInt8.toNat = [182, 0, 25] by decide +kernel) rfl
theorem dX2_sumUp_23 : decode cX2_sumUp 23 = .ok (.if_icmp .ge 54, 3) := dc_162 (show ((cX2_sumUp.data.toList.drop 23).take 3).map UInt8.toNat = [162, 0, 54] by decide +kernel) rfl
theorem dX2_sumUp_77 : decode cX2_sumUp 77 = .ok (.return_, 1) := dc_177 (show ((cX2_sumUp.data.toList.drop 77).take 1).map UInt8.toNat = [177] by decide +kernel)
theorem dX2_sumUp_26 : decode cX2_sumUp 26 = .ok (.aload_n 1, 1) := dc_43 (show ((cX2_sumUp.data.toList.drop 26).take 1).map UInt8.toNat = [43] by decide +kernel)
theorem dX2_sumUp_27 : decode cX2_sumUp 27 = .ok (.iload 4, 2) := dc_21 (show ((cX2_sumUp.data.toList.drop 27).take 2).map UInt8.toNat = [21, 4] by decide +kernel) rfl
theorem dX2_sumUp_29 : decode cX2_sumUp 29 = .ok (.iload_n 2, 1) := dc_28 (show ((cX2_sumUp.data.toList.drop 29).take 1).map UInt8.toNat = [28] by decide +kernel)
theorem dX2_sumUp_30 : decode cX2_sumUp 30 = .ok (.invokevirtual 35, 3) := dc_182 (show ((cX2_sumUp.data.toList.drop 30).take 3).map UInt8.toNat = [182, 0, 35] by decide +kernel) rfl
theorem w_987 : (Cond.methodLink "GooseBorder$Flocks" (35 : Nat) ({ cls := "GooseBorder$Border", name := "marksFirst", desc := "(II)I" } : MethodName)) ∈ gb_wA := gb_t5 27 rfl rfl
theorem dX2_sumUp_33 : decode cX2_sumUp 33 = .ok (.istore 5, 2) := dc_54 (show ((cX2_sumUp.data.toList.drop 33).take 2).map UInt8.toNat = [54, 5] by decide +kernel) rfl
theorem dX2_sumUp_35 : decode cX2_sumUp 35 = .ok (.iconst 1, 1) := dc_4 (show ((cX2_sumUp.data.toList.drop 35).take 1).map UInt8.toNat = [4] by decide +kernel)
theorem dX2_sumUp_36 : decode cX2_sumUp 36 = .ok (.iload 4, 2) := dc_21 (show ((cX2_sumUp.data.toList.drop 36).take 2).map UInt8.toNat = [21, 4] by decide +kernel) rfl
theorem dX2_sumUp_38 : decode cX2_sumUp 38 = .ok (.ishl, 1) := dc_120 (show ((cX2_sumUp.data.toList.drop 38).take 1).map UInt8.toNat = [120] by decide +kernel)
theorem dX2_sumUp_39 : decode cX2_sumUp 39 = .ok (.istore 6, 2) := dc_54 (show ((cX2_sumUp.data.toList.drop 39).take 2).map UInt8.toNat = [54, 6] by decide +kernel) rfl
theorem dX2_sumUp_41 : decode cX2_sumUp 41 = .ok (.iconst 0, 1) := dc_3 (show ((cX2_sumUp.data.toList.drop 41).take 1).map UInt8.toNat = [3] by decide +kernel)
theorem dX2_sumUp_42 : decode cX2_sumUp 42 = .ok (.istore 7, 2) := dc_54 (show ((cX2_sumUp.data.toList.drop 42).take 2).map UInt8.toNat = [54, 7] by decide +kernel) rfl
theorem dX2_sumUp_44 : decode cX2_sumUp 44 = .ok (.iload 7, 2) := dc_21 (show ((cX2_sumUp.data.toList.drop 44).take 2).map UInt8.toNat = [21, 7] by decide +kernel) rfl
theorem dX2_sumUp_46 : decode cX2_sumUp 46 = .ok (.iload 6, 2) := dc_21 (show ((cX2_sumUp.data.toList.drop 46).take 2).map UInt8.toNat = [21, 6] by decide +kernel) rfl
theorem dX2_sumUp_48 : decode cX2_sumUp 48 = .ok (.if_icmp .ge 23, 3) := dc_162 (show ((cX2_sumUp.data.toList.drop 48).take 3).map UInt8.toNat = [162, 0, 23] by decide +kernel) rfl
theorem dX2_sumUp_71 : decode cX2_sumUp 71 = .ok (.iinc 4 1, 3) := dc_132 (show ((cX2_sumUp.data.toList.drop 71).take 3).map UInt8.toNat = [132, 4, 1] by decide +kernel) rfl
theorem dX2_sumUp_74 : decode cX2_sumUp 74 = .ok (.goto (-57), 3) := dc_167 (show ((cX2_sumUp.data.toList.drop 74).take 3).map UInt8.toNat = [167, 255, 199] by decide +kernel) rfl
theorem dX2_sumUp_51 : decode cX2_sumUp 51 = .ok (.aload_n 3, 1) := dc_45 (show ((cX2_sumUp.data.toList.drop 51).take 1).map UInt8.toNat = [45] by decide +kernel)
theorem dX2_sumUp_52 : decode cX2_sumUp 52 = .ok (.iload 6, 2) := dc_21 (show ((cX2_sumUp.data.toList.drop 52).take 2).map UInt8.toNat = [21, 6] by decide +kernel) rfl
theorem dX2_sumUp_54 : decode cX2_sumUp 54 = .ok (.iload 7, 2) := dc_21 (show ((cX2_sumUp.data.toList.drop 54).take 2).map UInt8.toNat = [21, 7] by decide +kernel) rfl
theorem dX2_sumUp_56 : decode cX2_sumUp 56 = .ok (.iadd, 1) := dc_96 (show ((cX2_sumUp.data.toList.drop 56).take 1).map UInt8.toNat = [96] by decide +kernel)
theorem dX2_sumUp_57 : decode cX2_sumUp 57 = .ok (.aload_n 3, 1) := dc_45 (show ((cX2_sumUp.data.toList.drop 57).take 1).map UInt8.toNat = [45] by decide +kernel)
theorem dX2_sumUp_58 : decode cX2_sumUp 58 = .ok (.iload 7, 2) := dc_21 (show ((cX2_sumUp.data.toList.drop 58).take 2).map UInt8.toNat = [21, 7] by decide +kernel) rfl
theorem dX2_sumUp_60 : decode cX2_sumUp 60 = .ok (.iaload, 1) := dc_46 (show ((cX2_sumUp.data.toList.drop 60).take 1).map UInt8.toNat = [46] by decide +kernel)
theorem dX2_sumUp_61 : decode cX2_sumUp 61 = .ok (.iload 5, 2) := dc_21 (show ((cX2_sumUp.data.toList.drop 61).take 2).map UInt8.toNat = [21, 5] by decide +kernel) rfl
theorem dX2_sumUp_63 : decode cX2_sumUp 63 = .ok (.iadd, 1) := dc_96 (show ((cX2_sumUp.data.toList.drop 63).take 1).map UInt8.toNat = [96] by decide +kernel)
theorem dX2_sumUp_64 : decode cX2_sumUp 64 = .ok (.iastore, 1) := dc_79 (show ((cX2_sumUp.data.toList.drop 64).take 1).map UInt8.toNat = [79] by decide +kernel)
theorem dX2_sumUp_65 : decode cX2_sumUp 65 = .ok (.iinc 7 1, 3) := dc_132 (show ((cX2_sumUp.data.toList.drop 65).take 3).map UInt8.toNat = [132, 7, 1] by decide +kernel) rfl
theorem dX2_sumUp_68 : decode cX2_sumUp 68 = .ok (.goto (-24), 3) := dc_167 (show ((cX2_sumUp.data.toList.drop 68).take 3).map UInt8.toNat = [167, 255, 232] by decide +kernel) rfl
def cs_Flocks_sumUp_B_c131_44 (n : Nat) (k17 : gb_S → Nat → Int32 → Int32 → gb_CR Unit) : Nat → gb_S → Nat → Int32 → Int32 → Int32 → Int32 → Int32 → gb_CR Unit
  | 0, _, _, _, _, _, _, _ => none
  | mm + 1, σ, v1, v2, v4, v5, v6, v7 => gb_kk (gb_kB v1) ((if v6 ≤ v7 then gb_lt (v4 + 1) (fun x_21 => k17 σ v1 v2 x_21) else gb_ck v7 256 (gb_lt ((σ.1 131) (Int32.toNatClampNeg v7)) (fun x_23 => gb_ck (v6 + v7) 256 (gb_lt (gb_su σ 131 (upd (σ.1 131) (Int32.toNatClampNeg (v6 + v7)) (x_23 + v5))) (fun s_25 => gb_lt (v7 + 1) (fun x_26 => cs_Flocks_sumUp_B_c131_44 n k17 mm s_25 v1 v2 v4 v5 v6 x_26)))))))
def cs_Flocks_sumUp_B_c131_17 (n : Nat) : Nat → gb_S → Nat → Int32 → Int32 → gb_CR Unit
  | 0, _, _, _, _ => none
  | mm + 1, σ, v1, v2, v4 => gb_kk (gb_kB v1) (gb_cd (cs_Border_geese_B n σ v1) (fun s_9 r_10 => (if r_10 ≤ v4 then some (s_9, ()) else gb_cd (cs_Border_marksFirst_B n s_9 v1 v4 v2) (fun s_14 r_15 => gb_lt ((1 : Int32) <<< (v4 &&& 31)) (fun x_18 => cs_Flocks_sumUp_B_c131_44 n (fun σ v1 v2 v4 => cs_Flocks_sumUp_B_c131_17 n mm σ v1 v2 v4) n s_14 v1 v2 v4 r_15 x_18 0)))))
def cs_Flocks_sumUp_B_c131 (n : Nat) (σ : gb_S) (p1 : Nat) (p2 : Int32) : gb_CR Unit := gb_kk (gb_kB p1) (gb_cd (cs_Border_geese_B n σ p1) (fun s_2 r_3 => gb_lt (gb_su s_2 130 (upd (s_2.1 130) 4 ((1 : Int32) <<< (r_3 &&& 31)))) (fun s_6 => gb_lt (gb_su s_6 131 (upd (s_6.1 131) (Int32.toNatClampNeg 0) 0)) (fun s_7 => cs_Flocks_sumUp_B_c131_17 n n s_7 p1 p2 0))))
set_option maxHeartbeats 8000000 in
set_option maxRecDepth 100000 in
theorem cc_Flocks_sumUp_B_c131 (l : Launch) (D : va_G) (cT : Nat → ClassId) (tt : Nat → Nat) (b1 b : Nat) (hb1 : b1 ≤ b) (n : Nat) (σ : gb_S) (p1 : Nat) (p2 : Int32) (σE : gb_S) (rE : Unit) (h : cs_Flocks_sumUp_B_c131 n σ p1 p2 = some (σE, rE)) : Met l yX2_sumUp (.code yX2_sumUp cX2_sumUp 8 none :: gb_wA) ({ frames := 3, cells := 0, slots := 0, locals := 70 }) (gb_Pc D cT tt b1 [.ref (b + 130), .ref (b + p1), .int p2, .ref (b + 131)] (fun h => va_P D vwCl (gb_wl b (gb_CW cT b σ)) h)) (gb_Qv (fun h => va_P D vwCl (gb_wl b (gb_CW cT b σE)) h) (gb_fr b 135)) 0 0 (gb_fr b 135) := by
  refine Met.ofW (cc := cX2_sumUp) (maxL := 8) (ret := none) (by decide) rfl ?_
  intro p e s m args below meth c s₁ B hml hv
  obtain ⟨rfl, hSt, hP⟩ := hv
  have hx := B.exec
  have hb := B.bytes
  have hr := B.returns
  have hts := atoms_spec (ws := .code yX2_sumUp cX2_sumUp 8 none :: gb_wA) B.pre
  have hq : ∀ w ∈ gb_wA, w.before _ s = true := fun w h => hts w (List.mem_cons_of_mem _ h)
  have hown : s.vm.findClass RX2 = some m.cls := findClass_of_methodNamed B.named
  have hlocks := B.notSynchronized
  clear B hts
  have hK := hSt.1
  have hS : va_S (gb_fr b 135) s.heap s.heap [] := va_S.rf
  have hl := lv_entry ([.ref (b + 130), .ref (b + p1), .int p2, .ref (b + 131)]) (n := 8) (Nat.le_of_ble_eq_true rfl)
  rw [lg_entry_eq]
  generalize (lg_sl ([.ref (b + 130), .ref (b + p1), .int p2, .ref (b + 131)]) ++ List.replicate (8 - (lg_sl ([.ref (b + 130), .ref (b + p1), .int p2, .ref (b + 131)])).length) Slot.unset).toArray = ls at hl ⊢
  replace hl : lv_has ls 8 [(0, .ref (b + 130)), (1, .ref (b + p1)), (2, .int p2), (3, .ref (b + 131))] := hl
  have L44_2 : ∀ (k17 : gb_S → Nat → Int32 → Int32 → gb_CR Unit) (hk17 : ∀ (σ : gb_S) (v1 : Nat) (v2 : Int32) (v4 : Int32) (H : Heap) (locs : List Loc) (ls : Array Slot), k17 σ v1 v2 v4 = some (σE, rE) → va_P D vwCl (gb_wl b (gb_CW cT b σ)) H → va_S (gb_fr b 135) s.heap H locs → lv_has ls 8 [(1, .ref (b + v1)), (2, .int v2), (3, .ref (b + 131)), (4, .int v4)] → W p l e (headSpec (.code yX2_sumUp cX2_sumUp 8 none :: gb_wA) ({ frames := 3, cells := 0, slots := 0, locals := 70 })).room s m ([.ref (b + 130), .ref (b + p1), .int p2, .ref (b + 131)]).toArray below meth c H locs 0 0 (MQ below (gb_Qv (fun h => va_P D vwCl (gb_wl b (gb_CW cT b σE)) h) (gb_fr b 135)) ([.ref (b + 130), .ref (b + p1), .int p2, .ref (b + 131)]).toArray s 0 0 (gb_fr b 135)) (F0 m 17 ls [])) (mm : Nat) (σ : gb_S) (v1 : Nat) (v2 : Int32) (v4 : Int32) (v5 : Int32) (v6 : Int32) (v7 : Int32) (H : Heap) (locs : List Loc) (ls : Array Slot), cs_Flocks_sumUp_B_c131_44 n k17 mm σ v1 v2 v4 v5 v6 v7 = some (σE, rE) → va_P D vwCl (gb_wl b (gb_CW cT b σ)) H → va_S (gb_fr b 135) s.heap H locs → lv_has ls 8 [(1, .ref (b + v1)), (2, .int v2), (3, .ref (b + 131)), (4, .int v4), (5, .int v5), (6, .int v6), (7, .int v7)] → W p l e (headSpec (.code yX2_sumUp cX2_sumUp 8 none :: gb_wA) ({ frames := 3, cells := 0, slots := 0, locals := 70 })).room s m ([.ref (b + 130), .ref (b + p1), .int p2, .ref (b + 131)]).toArray below meth c H locs 0 0 (MQ below (gb_Qv (fun h => va_P D vwCl (gb_wl b (gb_CW cT b σE)) h) (gb_fr b 135)) ([.ref (b + 130), .ref (b + p1), .int p2, .ref (b + 131)]).toArray s 0 0 (gb_fr b 135)) (F0 m 44 ls []) := by
    clear h hP hS hl ls
    intro k17 hk17 mm
    induction mm with
    | zero =>
      intro σ v1 v2 v4 v5 v6 v7 H locs ls h
      cases h
    | succ mm ih =>
      intro σ v1 v2 v4 v5 v6 v7 H locs ls h hP hS hl
      rw [cs_Flocks_sumUp_B_c131_44] at h
      obtain ⟨z_19, h⟩ := gb_kk_s h
      refine lv_iload hx hb dX2_sumUp_44 (lv_at hl 6 rfl) ?_
      refine lv_iload hx hb dX2_sumUp_46 (lv_at hl 5 rfl) ?_
      refine lv_icmp_ge (tgt := 71) hx hb dX2_sumUp_48 (by decide) (fun c_20 => ?_) (fun c_20 => ?_)
      · rw [if_pos c_20] at h
        obtain ⟨x_21, ex_21⟩ : ∃ q, q = (v4 + 1) := ⟨_, rfl⟩
        replace h := gb_lt_s ex_21 h
        refine lv_iinc (v := x_21) (lv' := [(4, .int x_21), (1, .ref (b + v1)), (2, .int v2), (3, .ref (b + 131)), (5, .int v5), (6, .int v6), (7, .int v7)]) hx hb dX2_sumUp_71 hl (k := 3) rfl (by rw [ex_21]; rfl) (by decide) rfl (fun ls hl => ?_)
        refine lv_goto (tgt := 17) hx hb dX2_sumUp_74 (by decide) ?_
        exact hk17 _ _ _ _ _ _ _ h hP hS (lv_sub hl [1, 2, 3, 0] rfl)
      · rw [if_neg c_20] at h
        refine lv_aload_n hx hb dX2_sumUp_51 rfl (lv_at hl 2 rfl) ?_
        refine lv_iload hx hb dX2_sumUp_52 (lv_at hl 5 rfl) ?_
        refine lv_iload hx hb dX2_sumUp_54 (lv_at hl 6 rfl) ?_
        refine lv_iadd hx hb dX2_sumUp_56 ?_
        refine lv_aload_n hx hb dX2_sumUp_57 rfl (lv_at hl 2 rfl) ?_
        refine lv_iload hx hb dX2_sumUp_58 (lv_at hl 6 rfl) ?_
        obtain ⟨z_22, h⟩ := gb_ck_s h
        refine va_iald hx hb hK hP 131 0 (gb_at b rfl) rfl z_22 dX2_sumUp_60 ?_
        refine lv_topi (fun x_23 ex_23 => ?_)
        replace h := gb_lt_s ex_23 h
        refine lv_iload hx hb dX2_sumUp_61 (lv_at hl 4 rfl) ?_
        refine lv_iadd hx hb dX2_sumUp_63 ?_
        obtain ⟨z_24, h⟩ := gb_ck_s h
        refine va_iast (x := (x_23 + v5)) hx hb hK hP (gb_D (fun k h => ⟨Nat.le_add_right b k, Nat.add_lt_add_left h b⟩)) hS 131 0 (gb_at b rfl) rfl z_24 dX2_sumUp_64 (fun H locs hP hD hS => ?_)
        rw [gb_set] at hP
        obtain ⟨s_25, es_25⟩ : ∃ q, q = (gb_su σ 131 (upd (σ.1 131) (Int32.toNatClampNeg (v6 + v7)) (x_23 + v5))) := ⟨_, rfl⟩
        replace hP : va_P D vwCl (gb_wl b (gb_CW cT b s_25)) H := by rw [es_25]; exact hP
        replace h := gb_lt_s es_25 h
        obtain ⟨x_26, ex_26⟩ : ∃ q, q = (v7 + 1) := ⟨_, rfl⟩
        replace h := gb_lt_s ex_26 h
        refine lv_iinc (v := x_26) (lv' := [(7, .int x_26), (1, .ref (b + v1)), (2, .int v2), (3, .ref (b + 131)), (4, .int v4), (5, .int v5), (6, .int v6)]) hx hb dX2_sumUp_65 hl (k := 6) rfl (by rw [ex_26]; rfl) (by decide) rfl (fun ls hl => ?_)
        refine lv_goto (tgt := 44) hx hb dX2_sumUp_68 (by decide) ?_
        exact ih _ _ _ _ _ _ _ _ _ _ h hP hS (lv_sub hl [1, 2, 3, 4, 5, 6, 0] rfl)
  have L17_1 : ∀ (mm : Nat) (σ : gb_S) (v1 : Nat) (v2 : Int32) (v4 : Int32) (H : Heap) (locs : List Loc) (ls : Array Slot), cs_Flocks_sumUp_B_c131_17 n mm σ v1 v2 v4 = some (σE, rE) → va_P D vwCl (gb_wl b (gb_CW cT b σ)) H → va_S (gb_fr b 135) s.heap H locs → lv_has ls 8 [(1, .ref (b + v1)), (2, .int v2), (3, .ref (b + 131)), (4, .int v4)] → W p l e (headSpec (.code yX2_sumUp cX2_sumUp 8 none :: gb_wA) ({ frames := 3, cells := 0, slots := 0, locals := 70 })).room s m ([.ref (b + 130), .ref (b + p1), .int p2, .ref (b + 131)]).toArray below meth c H locs 0 0 (MQ below (gb_Qv (fun h => va_P D vwCl (gb_wl b (gb_CW cT b σE)) h) (gb_fr b 135)) ([.ref (b + 130), .ref (b + p1), .int p2, .ref (b + 131)]).toArray s 0 0 (gb_fr b 135)) (F0 m 17 ls []) := by
    clear h hP hS hl ls
    intro mm
    induction mm with
    | zero =>
      intro σ v1 v2 v4 H locs ls h
      cases h
    | succ mm ih =>
      intro σ v1 v2 v4 H locs ls h hP hS hl
      rw [cs_Flocks_sumUp_B_c131_17] at h
      obtain ⟨z_8, h⟩ := gb_kk_s h
      refine lv_iload hx hb dX2_sumUp_17 (lv_at hl 3 rfl) ?_
      refine lv_aload_n hx hb dX2_sumUp_19 rfl (lv_at hl 0 rfl) ?_
      obtain ⟨s_9, r_10, z_11, h⟩ := gb_cd_s h
      refine gb_calli (va_runV (C := RX0) (As := []) (rest := [.int v4]) ⟨hx, hb, hml, hown, hq⟩ (cc_Border_geese_B l D cT tt b1 b hb1 n σ v1 s_9 r_10 z_11) (cwV 0 hq (gb_gV w_986 w_477 w_478 w_4 w_479) rfl rfl rfl (by decide +kernel) ⟨Nat.le_of_ble_eq_true rfl, Nat.le_of_ble_eq_true rfl⟩) (gb_preV (r := (RX0, TX0, 1)) (ci := 0) (q0 := v1) hSt hP rfl (gb_at b (gb_cB z_8).1) hS (fun q h => Nat.le_trans hb1 h.1) hP) rfl rfl hl.1 rfl (lv_room (Nat.le_of_ble_eq_true rfl)) dX2_sumUp_20 ⟨Nat.le_of_ble_eq_true rfl, Nat.le_of_ble_eq_true rfl⟩) hS (fun _ h => h) (fun _ h => h) (fun q_12 H locs hY hk hS => ?_)
      obtain ⟨hq_12, hP⟩ := hY
      replace hq_12 := hq_12.symm
      subst hq_12
      refine lv_icmp_ge (tgt := 77) hx hb dX2_sumUp_23 (by decide) (fun c_13 => ?_) (fun c_13 => ?_)
      · rw [if_pos c_13] at h
        obtain ⟨e1, -⟩ := gb_eq2 h
        exact W.vret hx hb hr (fun t ht hW => gb_rv ht (by rw [← e1]; exact hP) hS) hS.2.2 dX2_sumUp_77
      · rw [if_neg c_13] at h
        refine lv_aload_n hx hb dX2_sumUp_26 rfl (lv_at hl 0 rfl) ?_
        refine lv_iload hx hb dX2_sumUp_27 (lv_at hl 3 rfl) ?_
        refine lv_iload_n hx hb dX2_sumUp_29 rfl (lv_at hl 1 rfl) ?_
        obtain ⟨s_14, r_15, z_16, h⟩ := gb_cd_s h
        refine gb_calli (va_runV (C := RX0) (As := [.int v4, .int v2]) (rest := []) ⟨hx, hb, hml, hown, hq⟩ (cc_Border_marksFirst_B l D cT tt b1 b hb1 n s_9 v1 v4 v2 s_14 r_15 z_16) (cwV 2 hq (gb_gV w_987 w_899 w_900 w_4 w_901) rfl rfl rfl (by decide +kernel) ⟨Nat.le_of_ble_eq_true rfl, Nat.le_of_ble_eq_true rfl⟩) (gb_preV (r := (RX0, TX0, 1)) (ci := 0) (q0 := v1) hSt hP rfl (gb_at b (gb_cB z_8).1) hS (fun q h => Nat.le_trans hb1 h.1) hP) rfl rfl hl.1 rfl (lv_room (Nat.le_of_ble_eq_true rfl)) dX2_sumUp_30 ⟨Nat.le_of_ble_eq_true rfl, Nat.le_of_ble_eq_true rfl⟩) hS (fun _ h => h) (fun _ h => h) (fun q_17 H locs hY hk hS => ?_)
        obtain ⟨hq_17, hP⟩ := hY
        replace hq_17 := hq_17.symm
        subst hq_17
        refine lv_istore (lv' := [(5, .int r_15), (1, .ref (b + v1)), (2, .int v2), (3, .ref (b + 131)), (4, .int v4)]) hx hb dX2_sumUp_33 hl (by decide) rfl (fun ls hl => ?_)
        refine lv_iconst (v := 1) hx hb dX2_sumUp_35 (by decide) ?_
        refine lv_iload hx hb dX2_sumUp_36 (lv_at hl 4 rfl) ?_
        refine lv_ishl hx hb dX2_sumUp_38 ?_
        refine lv_topi (fun x_18 ex_18 => ?_)
        replace h := gb_lt_s ex_18 h
        refine lv_istore (lv' := [(6, .int x_18), (5, .int r_15), (1, .ref (b + v1)), (2, .int v2), (3, .ref (b + 131)), (4, .int v4)]) hx hb dX2_sumUp_39 hl (by decide) rfl (fun ls hl => ?_)
        refine lv_iconst (v := 0) hx hb dX2_sumUp_41 (by decide) ?_
        refine lv_istore (lv' := [(7, .int 0), (6, .int x_18), (5, .int r_15), (1, .ref (b + v1)), (2, .int v2), (3, .ref (b + 131)), (4, .int v4)]) hx hb dX2_sumUp_42 hl (by decide) rfl (fun ls hl => ?_)
        exact L44_2 _ ih n _ _ _ _ _ _ _ _ _ _ h hP hS (lv_sub hl [3, 4, 5, 6, 2, 1, 0] rfl)
  unfold cs_Flocks_sumUp_B_c131 at h
  obtain ⟨z_1, h⟩ := gb_kk_s h
  refine lv_aload_n hx hb dX2_sumUp_0 rfl (lv_at hl 0 rfl) ?_
  refine lv_iconst (v := 1) hx hb dX2_sumUp_1 (by decide) ?_
  refine lv_aload_n hx hb dX2_sumUp_2 rfl (lv_at hl 1 rfl) ?_
  obtain ⟨s_2, r_3, z_4, h⟩ := gb_cd_s h
  refine gb_calli (va_runV (C := RX0) (As := []) (rest := [.int 1, .ref (b + 130)]) ⟨hx, hb, hml, hown, hq⟩ (cc_Border_geese_B l D cT tt b1 b hb1 n σ p1 s_2 r_3 z_4) (cwV 0 hq (gb_gV w_986 w_477 w_478 w_4 w_479) rfl rfl rfl (by decide +kernel) ⟨Nat.le_of_ble_eq_true rfl, Nat.le_of_ble_eq_true rfl⟩) (gb_preV (r := (RX0, TX0, 1)) (ci := 0) (q0 := p1) hSt hP rfl (gb_at b (gb_cB z_1).1) hS (fun q h => Nat.le_trans hb1 h.1) hP) rfl rfl hl.1 rfl (lv_room (Nat.le_of_ble_eq_true rfl)) dX2_sumUp_3 ⟨Nat.le_of_ble_eq_true rfl, Nat.le_of_ble_eq_true rfl⟩) hS (fun _ h => h) (fun _ h => h) (fun q_5 H locs hY hk hS => ?_)
  obtain ⟨hq_5, hP⟩ := hY
  replace hq_5 := hq_5.symm
  subst hq_5
  refine lv_ishl hx hb dX2_sumUp_6 ?_
  refine gb_put (ci := 2) (v := (.int ((1 : Int32) <<< (r_3 &&& 31)))) (ty := .int) (C := RX2) (T := TX2) (N := 6) hx hb hq i_X2 tyX2 tyX2_ok nmX2 hown hK hP (fun k h => ⟨Nat.le_add_right b k, Nat.add_lt_add_left h b⟩) hS rfl 130 rfl rfl 4 (by decide) (hq _ w_298) (fun _ h9 => h9) rfl (by decide +kernel) rfl rfl (Nat.le_of_ble_eq_true rfl) dX2_sumUp_7 (fun H locs hP hz_ hS => ?_)
  obtain ⟨s_6, es_6⟩ : ∃ q, q = (gb_su s_2 130 (upd (s_2.1 130) 4 ((1 : Int32) <<< (r_3 &&& 31)))) := ⟨_, rfl⟩
  replace hP : va_P D vwCl (gb_wl b (gb_CW cT b s_6)) H := by rw [es_6]; exact hP
  replace h := gb_lt_s es_6 h
  refine lv_aload_n hx hb dX2_sumUp_10 rfl (lv_at hl 3 rfl) ?_
  refine lv_iconst (v := 0) hx hb dX2_sumUp_11 (by decide) ?_
  refine lv_iconst (v := 0) hx hb dX2_sumUp_12 (by decide) ?_
  refine va_iast (x := 0) hx hb hK hP (gb_D (fun k h => ⟨Nat.le_add_right b k, Nat.add_lt_add_left h b⟩)) hS 131 0 (gb_at b rfl) rfl (gb_in rfl) dX2_sumUp_13 (fun H locs hP hD hS => ?_)
  rw [gb_set] at hP
  obtain ⟨s_7, es_7⟩ : ∃ q, q = (gb_su s_6 131 (upd (s_6.1 131) (Int32.toNatClampNeg 0) 0)) := ⟨_, rfl⟩
  replace hP : va_P D vwCl (gb_wl b (gb_CW cT b s_7)) H := by rw [es_7]; exact hP
  replace h := gb_lt_s es_7 h
  refine lv_iconst (v := 0) hx hb dX2_sumUp_14 (by decide) ?_
  refine lv_istore (lv' := [(4, .int 0), (0, .ref (b + 130)), (1, .ref (b + p1)), (2, .int p2), (3, .ref (b + 131))]) hx hb dX2_sumUp_15 hl (by decide) rfl (fun ls hl => ?_)
  exact L17_1 n _ _ _ _ _ _ _ h hP hS (lv_sub hl [2, 3, 4, 0] rfl)
theorem w_985 : (Cond.code ({ cls := "GooseBorder$Flocks", name := "sumUp", desc := "(LGooseBorder$Border;I[I)V" } : MethodName) prog_4_method_2_code (8 : Nat) (Option.none : Option FieldType)) ∈ gb_wA := gb_t5 25 rfl rfl
theorem w_982 : (Cond.methodLink "GooseBorder$Flocks" (39 : Nat) ({ cls := "GooseBorder$Flocks", name := "sumUp", desc := "(LGooseBorder$Border;I[I)V" } : MethodName)) ∈ gb_wA := gb_t5 22 rfl rfl
theorem w_984 : (Cond.instanceMethod ({ cls := "GooseBorder$Flocks", name := "sumUp", desc := "(LGooseBorder$Border;I[I)V" } : MethodName)) ∈ gb_wA := gb_t5 24 rfl rfl
theorem s_2_10 : Cond.selects "GooseBorder$Flocks" (⟨"GooseBorder$Flocks", "sumUp", "(LGooseBorder$Border;I[I)V"⟩ : MethodName) (⟨"GooseBorder$Flocks", "sumUp", "(LGooseBorder$Border;I[I)V"⟩ : MethodName) ∈ gb_wA := gb_s2 10 rfl rfl
theorem dX2_marksOfAny_10 : decode cX2_marksOfAny 10 = .ok (.iconst (-1), 1) := dc_2 (show ((cX2_marksOfAny.data.toList.drop 10).take 1).map UInt8.toNat = [2] by decide +kernel)
theorem dX2_marksOfAny_11 : decode cX2_marksOfAny 11 = .ok (.istore 5, 2) := dc_54 (show ((cX2_marksOfAny.data.toList.drop 11).take 2).map UInt8.toNat = [54, 5] by decide +kernel) rfl
theorem dX2_marksOfAny_13 : decode cX2_marksOfAny 13 = .ok (.iconst 0, 1) := dc_3 (show ((cX2_marksOfAny.data.toList.drop 13).take 1).map UInt8.toNat = [3] by decide +kernel)
theorem dX2_marksOfAny_14 : decode cX2_marksOfAny 14 = .ok (.istore 6, 2) := dc_54 (show ((cX2_marksOfAny.data.toList.drop 14).take 2).map UInt8.toNat = [54, 6] by decide +kernel) rfl
theorem dX2_marksOfAny_16 : decode cX2_marksOfAny 16 = .ok (.iload 6, 2) := dc_21 (show ((cX2_marksOfAny.data.toList.drop 16).take 2).map UInt8.toNat = [21, 6] by decide +kernel) rfl
theorem dX2_marksOfAny_18 : decode cX2_marksOfAny 18 = .ok (.aload_n 0, 1) := dc_42 (show ((cX2_marksOfAny.data.toList.drop 18).take 1).map UInt8.toNat = [42] by decide +kernel)
theorem dX2_marksOfAny_19 : decode cX2_marksOfAny 19 = .ok (.getfield 31, 3) := dc_180 (show ((cX2_marksOfAny.data.toList.drop 19).take 3).map UInt8.toNat = [180, 0, 31] by decide +kernel) rfl
theorem dX2_marksOfAny_22 : decode cX2_marksOfAny 22 = .ok (.if_icmp .ge 87, 3) := dc_162 (show ((cX2_marksOfAny.data.toList.drop 22).take 3).map UInt8.toNat = [162, 0, 87] by decide +kernel) rfl
theorem dX2_marksOfAny_109 : decode cX2_marksOfAny 109 = .ok (.iload 5, 2) := dc_21 (show ((cX2_marksOfAny.data.toList.drop 109).take 2).map UInt8.toNat = [21, 5] by decide +kernel) rfl
theorem dX2_marksOfAny_111 : decode cX2_marksOfAny 111 = .ok (.ireturn, 1) := dc_172 (show ((cX2_marksOfAny.data.toList.drop 111).take 1).map UInt8.toNat = [172] by decide +kernel)
theorem dX2_marksOfAny_25 : decode cX2_marksOfAny 25 = .ok (.iload 6, 2) := dc_21 (show ((cX2_marksOfAny.data.toList.drop 25).take 2).map UInt8.toNat = [21, 6] by decide +kernel) rfl
theorem dX2_marksOfAny_27 : decode cX2_marksOfAny 27 = .ok (.invokestatic 43, 3) := dc_184 (show ((cX2_marksOfAny.data.toList.drop 27).take 3).map UInt8.toNat = [184, 0, 43] by decide +kernel) rfl
theorem dJ6_bitCount_0f7a4_0 : decode cJ6_bitCount_0f7a4 0 = .ok (.iload_n 0, 1) := dc_26 (show ((cJ6_bitCount_0f7a4.data.toList.drop 0).take 1).map UInt8.toNat = [26] by decide +kernel)
theorem dJ6_bitCount_0f7a4_1 : decode cJ6_bitCount_0f7a4 1 = .ok (.iload_n 0, 1) := dc_26 (show ((cJ6_bitCount_0f7a4.data.toList.drop 1).take 1).map UInt8.toNat = [26] by decide +kernel)
theorem dJ6_bitCount_0f7a4_2 : decode cJ6_bitCount_0f7a4 2 = .ok (.iconst 1, 1) := dc_4 (show ((cJ6_bitCount_0f7a4.data.toList.drop 2).take 1).map UInt8.toNat = [4] by decide +kernel)
theorem dJ6_bitCount_0f7a4_3 : decode cJ6_bitCount_0f7a4 3 = .ok (.iushr, 1) := dc_124 (show ((cJ6_bitCount_0f7a4.data.toList.drop 3).take 1).map UInt8.toNat = [124] by decide +kernel)
theorem dJ6_bitCount_0f7a4_4 : decode cJ6_bitCount_0f7a4 4 = .ok (.ldc_w 265, 3) := dc_19 (show ((cJ6_bitCount_0f7a4.data.toList.drop 4).take 3).map UInt8.toNat = [19, 1, 9] by decide +kernel) rfl
theorem w_991 : (Cond.constant "java/lang/Integer" (265 : Nat) (1431655765 : Int32)) ∈ gb_wA := gb_t5 31 rfl rfl
theorem dJ6_bitCount_0f7a4_7 : decode cJ6_bitCount_0f7a4 7 = .ok (.iand, 1) := dc_126 (show ((cJ6_bitCount_0f7a4.data.toList.drop 7).take 1).map UInt8.toNat = [126] by decide +kernel)
theorem dJ6_bitCount_0f7a4_8 : decode cJ6_bitCount_0f7a4 8 = .ok (.isub, 1) := dc_100 (show ((cJ6_bitCount_0f7a4.data.toList.drop 8).take 1).map UInt8.toNat = [100] by decide +kernel)
theorem dJ6_bitCount_0f7a4_9 : decode cJ6_bitCount_0f7a4 9 = .ok (.istore_n 0, 1) := dc_59 (show ((cJ6_bitCount_0f7a4.data.toList.drop 9).take 1).map UInt8.toNat = [59] by decide +kernel)
theorem dJ6_bitCount_0f7a4_10 : decode cJ6_bitCount_0f7a4 10 = .ok (.iload_n 0, 1) := dc_26 (show ((cJ6_bitCount_0f7a4.data.toList.drop 10).take 1).map UInt8.toNat = [26] by decide +kernel)
theorem dJ6_bitCount_0f7a4_11 : decode cJ6_bitCount_0f7a4 11 = .ok (.ldc_w 266, 3) := dc_19 (show ((cJ6_bitCount_0f7a4.data.toList.drop 11).take 3).map UInt8.toNat = [19, 1, 10] by decide +kernel) rfl
theorem w_992 : (Cond.constant "java/lang/Integer" (266 : Nat) (858993459 : Int32)) ∈ gb_wA := gb_t5 32 rfl rfl
theorem dJ6_bitCount_0f7a4_14 : decode cJ6_bitCount_0f7a4 14 = .ok (.iand, 1) := dc_126 (show ((cJ6_bitCount_0f7a4.data.toList.drop 14).take 1).map UInt8.toNat = [126] by decide +kernel)
theorem dJ6_bitCount_0f7a4_15 : decode cJ6_bitCount_0f7a4 15 = .ok (.iload_n 0, 1) := dc_26 (show ((cJ6_bitCount_0f7a4.data.toList.drop 15).take 1).map UInt8.toNat = [26] by decide +kernel)
theorem dJ6_bitCount_0f7a4_16 : decode cJ6_bitCount_0f7a4 16 = .ok (.iconst 2, 1) := dc_5 (show ((cJ6_bitCount_0f7a4.data.toList.drop 16).take 1).map UInt8.toNat = [5] by decide +kernel)
theorem dJ6_bitCount_0f7a4_17 : decode cJ6_bitCount_0f7a4 17 = .ok (.iushr, 1) := dc_124 (show ((cJ6_bitCount_0f7a4.data.toList.drop 17).take 1).map UInt8.toNat = [124] by decide +kernel)
theorem dJ6_bitCount_0f7a4_18 : decode cJ6_bitCount_0f7a4 18 = .ok (.ldc_w 266, 3) := dc_19 (show ((cJ6_bitCount_0f7a4.data.toList.drop 18).take 3).map UInt8.toNat = [19, 1, 10] by decide +kernel) rfl
theorem dJ6_bitCount_0f7a4_21 : decode cJ6_bitCount_0f7a4 21 = .ok (.iand, 1) := dc_126 (show ((cJ6_bitCount_0f7a4.data.toList.drop 21).take 1).map UInt8.toNat = [126] by decide +kernel)
theorem dJ6_bitCount_0f7a4_22 : decode cJ6_bitCount_0f7a4 22 = .ok (.iadd, 1) := dc_96 (show ((cJ6_bitCount_0f7a4.data.toList.drop 22).take 1).map UInt8.toNat = [96] by decide +kernel)
theorem dJ6_bitCount_0f7a4_23 : decode cJ6_bitCount_0f7a4 23 = .ok (.istore_n 0, 1) := dc_59 (show ((cJ6_bitCount_0f7a4.data.toList.drop 23).take 1).map UInt8.toNat = [59] by decide +kernel)
theorem dJ6_bitCount_0f7a4_24 : decode cJ6_bitCount_0f7a4 24 = .ok (.iload_n 0, 1) := dc_26 (show ((cJ6_bitCount_0f7a4.data.toList.drop 24).take 1).map UInt8.toNat = [26] by decide +kernel)
theorem dJ6_bitCount_0f7a4_25 : decode cJ6_bitCount_0f7a4 25 = .ok (.iload_n 0, 1) := dc_26 (show ((cJ6_bitCount_0f7a4.data.toList.drop 25).take 1).map UInt8.toNat = [26] by decide +kernel)
theorem dJ6_bitCount_0f7a4_26 : decode cJ6_bitCount_0f7a4 26 = .ok (.iconst 4, 1) := dc_7 (show ((cJ6_bitCount_0f7a4.data.toList.drop 26).take 1).map UInt8.toNat = [7] by decide +kernel)
theorem dJ6_bitCount_0f7a4_27 : decode cJ6_bitCount_0f7a4 27 = .ok (.iushr, 1) := dc_124 (show ((cJ6_bitCount_0f7a4.data.toList.drop 27).take 1).map UInt8.toNat = [124] by decide +kernel)
theorem dJ6_bitCount_0f7a4_28 : decode cJ6_bitCount_0f7a4 28 = .ok (.iadd, 1) := dc_96 (show ((cJ6_bitCount_0f7a4.data.toList.drop 28).take 1).map UInt8.toNat = [96] by decide +kernel)
theorem dJ6_bitCount_0f7a4_29 : decode cJ6_bitCount_0f7a4 29 = .ok (.ldc_w 267, 3) := dc_19 (show ((cJ6_bitCount_0f7a4.data.toList.drop 29).take 3).map UInt8.toNat = [19, 1, 11] by decide +kernel) rfl
theorem w_993 : (Cond.constant "java/lang/Integer" (267 : Nat) (252645135 : Int32)) ∈ gb_wA := gb_t5 33 rfl rfl
theorem dJ6_bitCount_0f7a4_32 : decode cJ6_bitCount_0f7a4 32 = .ok (.iand, 1) := dc_126 (show ((cJ6_bitCount_0f7a4.data.toList.drop 32).take 1).map UInt8.toNat = [126] by decide +kernel)
theorem dJ6_bitCount_0f7a4_33 : decode cJ6_bitCount_0f7a4 33 = .ok (.istore_n 0, 1) := dc_59 (show ((cJ6_bitCount_0f7a4.data.toList.drop 33).take 1).map UInt8.toNat = [59] by decide +kernel)
theorem dJ6_bitCount_0f7a4_34 : decode cJ6_bitCount_0f7a4 34 = .ok (.iload_n 0, 1) := dc_26 (show ((cJ6_bitCount_0f7a4.data.toList.drop 34).take 1).map UInt8.toNat = [26] by decide +kernel)
theorem dJ6_bitCount_0f7a4_35 : decode cJ6_bitCount_0f7a4 35 = .ok (.iload_n 0, 1) := dc_26 (show ((cJ6_bitCount_0f7a4.data.toList.drop 35).take 1).map UInt8.toNat = [26] by decide +kernel)
theorem dJ6_bitCount_0f7a4_36 : decode cJ6_bitCount_0f7a4 36 = .ok (.bipush 8, 2) := dc_16 (show ((cJ6_bitCount_0f7a4.data.toList.drop 36).take 2).map UInt8.toNat = [16, 8] by decide +kernel) rfl
theorem dJ6_bitCount_0f7a4_38 : decode cJ6_bitCount_0f7a4 38 = .ok (.iushr, 1) := dc_124 (show ((cJ6_bitCount_0f7a4.data.toList.drop 38).take 1).map UInt8.toNat = [124] by decide +kernel)
theorem dJ6_bitCount_0f7a4_39 : decode cJ6_bitCount_0f7a4 39 = .ok (.iadd, 1) := dc_96 (show ((cJ6_bitCount_0f7a4.data.toList.drop 39).take 1).map UInt8.toNat = [96] by decide +kernel)
theorem dJ6_bitCount_0f7a4_40 : decode cJ6_bitCount_0f7a4 40 = .ok (.istore_n 0, 1) := dc_59 (show ((cJ6_bitCount_0f7a4.data.toList.drop 40).take 1).map UInt8.toNat = [59] by decide +kernel)
theorem dJ6_bitCount_0f7a4_41 : decode cJ6_bitCount_0f7a4 41 = .ok (.iload_n 0, 1) := dc_26 (show ((cJ6_bitCount_0f7a4.data.toList.drop 41).take 1).map UInt8.toNat = [26] by decide +kernel)
theorem dJ6_bitCount_0f7a4_42 : decode cJ6_bitCount_0f7a4 42 = .ok (.iload_n 0, 1) := dc_26 (show ((cJ6_bitCount_0f7a4.data.toList.drop 42).take 1).map UInt8.toNat = [26] by decide +kernel)
theorem dJ6_bitCount_0f7a4_43 : decode cJ6_bitCount_0f7a4 43 = .ok (.bipush 16, 2) := dc_16 (show ((cJ6_bitCount_0f7a4.data.toList.drop 43).take 2).map UInt8.toNat = [16, 16] by decide +kernel) rfl
theorem dJ6_bitCount_0f7a4_45 : decode cJ6_bitCount_0f7a4 45 = .ok (.iushr, 1) := dc_124 (show ((cJ6_bitCount_0f7a4.data.toList.drop 45).take 1).map UInt8.toNat = [124] by decide +kernel)
theorem dJ6_bitCount_0f7a4_46 : decode cJ6_bitCount_0f7a4 46 = .ok (.iadd, 1) := dc_96 (show ((cJ6_bitCount_0f7a4.data.toList.drop 46).take 1).map UInt8.toNat = [96] by decide +kernel)
theorem dJ6_bitCount_0f7a4_47 : decode cJ6_bitCount_0f7a4 47 = .ok (.istore_n 0, 1) := dc_59 (show ((cJ6_bitCount_0f7a4.data.toList.drop 47).take 1).map UInt8.toNat = [59] by decide +kernel)
theorem dJ6_bitCount_0f7a4_48 : decode cJ6_bitCount_0f7a4 48 = .ok (.iload_n 0, 1) := dc_26 (show ((cJ6_bitCount_0f7a4.data.toList.drop 48).take 1).map UInt8.toNat = [26] by decide +kernel)
theorem dJ6_bitCount_0f7a4_49 : decode cJ6_bitCount_0f7a4 49 = .ok (.bipush 63, 2) := dc_16 (show ((cJ6_bitCount_0f7a4.data.toList.drop 49).take 2).map UInt8.toNat = [16, 63] by decide +kernel) rfl
theorem dJ6_bitCount_0f7a4_51 : decode cJ6_bitCount_0f7a4 51 = .ok (.iand, 1) := dc_126 (show ((cJ6_bitCount_0f7a4.data.toList.drop 51).take 1).map UInt8.toNat = [126] by decide +kernel)
theorem dJ6_bitCount_0f7a4_52 : decode cJ6_bitCount_0f7a4 52 = .ok (.ireturn, 1) := dc_172 (show ((cJ6_bitCount_0f7a4.data.toList.drop 52).take 1).map UInt8.toNat = [172] by decide +kernel)
def cs_java_lang_Integer_bitCount (n : Nat) (σ : gb_S) (p1 : Int32) : gb_CR Int32 := gb_lt (p1 - ((((p1 : Int32).toUInt32 >>> ((1 : Int32).toUInt32 &&& Int32.toUInt32 31)).toInt32) &&& 1431655765)) (fun x_1 => gb_lt ((x_1 &&& 858993459) + ((((x_1 : Int32).toUInt32 >>> ((2 : Int32).toUInt32 &&& Int32.toUInt32 31)).toInt32) &&& 858993459)) (fun x_2 => gb_lt ((x_2 + (((x_2 : Int32).toUInt32 >>> ((4 : Int32).toUInt32 &&& Int32.toUInt32 31)).toInt32)) &&& 252645135) (fun x_3 => gb_lt (x_3 + (((x_3 : Int32).toUInt32 >>> ((8 : Int32).toUInt32 &&& Int32.toUInt32 31)).toInt32)) (fun x_4 => gb_lt (x_4 + (((x_4 : Int32).toUInt32 >>> ((16 : Int32).toUInt32 &&& Int32.toUInt32 31)).toInt32)) (fun x_5 => some (σ, (x_5 &&& 63)))))))
set_option maxHeartbeats 8000000 in
set_option maxRecDepth 100000 in
theorem cc_java_lang_Integer_bitCount (l : Launch) (D : va_G) (cT : Nat → ClassId) (tt : Nat → Nat) (b1 b : Nat) (hb1 : b1 ≤ b) (n : Nat) (σ : gb_S) (p1 : Int32) (σE : gb_S) (rE : Int32) (h : cs_java_lang_Integer_bitCount n σ p1 = some (σE, rE)) : Met l yJ6_bitCount_0f7a4 (.code yJ6_bitCount_0f7a4 cJ6_bitCount_0f7a4 1 (some FieldType.int) :: gb_wA) ({ frames := 0, cells := 0, slots := 0, locals := 0 }) (gb_Pc D cT tt b1 [.int p1] (fun h => va_P D vwCl (gb_wl b (gb_CW cT b σ)) h)) (gb_Qi (fun r h => r = rE ∧ va_P D vwCl (gb_wl b (gb_CW cT b σE)) h) (gb_fr b 135)) 0 0 (gb_fr b 135) := by
  refine Met.ofW (cc := cJ6_bitCount_0f7a4) (maxL := 1) (ret := (some FieldType.int)) (by decide) rfl ?_
  intro p e s m args below meth c s₁ B hml hv
  obtain ⟨rfl, hSt, hP⟩ := hv
  have hx := B.exec
  have hb := B.bytes
  have hr := B.returns
  have hts := atoms_spec (ws := .code yJ6_bitCount_0f7a4 cJ6_bitCount_0f7a4 1 (some FieldType.int) :: gb_wA) B.pre
  have hq : ∀ w ∈ gb_wA, w.before _ s = true := fun w h => hts w (List.mem_cons_of_mem _ h)
  have hown : s.vm.findClass RJ6 = some m.cls := findClass_of_methodNamed B.named
  have hlocks := B.notSynchronized
  clear B hts
  have hK := hSt.1
  have hS : va_S (gb_fr b 135) s.heap s.heap [] := va_S.rf
  have hl := lv_entry ([.int p1]) (n := 1) (Nat.le_of_ble_eq_true rfl)
  rw [lg_entry_eq]
  generalize (lg_sl ([.int p1]) ++ List.replicate (1 - (lg_sl ([.int p1])).length) Slot.unset).toArray = ls at hl ⊢
  replace hl : lv_has ls 1 [(0, .int p1)] := hl
  unfold cs_java_lang_Integer_bitCount at h
  refine lv_iload_n hx hb dJ6_bitCount_0f7a4_0 rfl (lv_at hl 0 rfl) ?_
  refine lv_iload_n hx hb dJ6_bitCount_0f7a4_1 rfl (lv_at hl 0 rfl) ?_
  refine lv_iconst (v := 1) hx hb dJ6_bitCount_0f7a4_2 (by decide) ?_
  refine lv_iushr (v := (((p1 : Int32).toUInt32 >>> ((1 : Int32).toUInt32 &&& Int32.toUInt32 31)).toInt32)) hx hb dJ6_bitCount_0f7a4_3 rfl ?_
  refine lv_ldcw (v := 1431655765) hx hb hown (hq _ w_991) dJ6_bitCount_0f7a4_4 ?_
  refine lv_iand hx hb dJ6_bitCount_0f7a4_7 ?_
  refine lv_isub hx hb dJ6_bitCount_0f7a4_8 ?_
  refine lv_topi (fun x_1 ex_1 => ?_)
  replace h := gb_lt_s ex_1 h
  refine lv_istore_n (lv' := [(0, .int x_1)]) hx hb dJ6_bitCount_0f7a4_9 rfl hl (by decide) rfl (fun ls hl => ?_)
  refine lv_iload_n hx hb dJ6_bitCount_0f7a4_10 rfl (lv_at hl 0 rfl) ?_
  refine lv_ldcw (v := 858993459) hx hb hown (hq _ w_992) dJ6_bitCount_0f7a4_11 ?_
  refine lv_iand hx hb dJ6_bitCount_0f7a4_14 ?_
  refine lv_iload_n hx hb dJ6_bitCount_0f7a4_15 rfl (lv_at hl 0 rfl) ?_
  refine lv_iconst (v := 2) hx hb dJ6_bitCount_0f7a4_16 (by decide) ?_
  refine lv_iushr (v := (((x_1 : Int32).toUInt32 >>> ((2 : Int32).toUInt32 &&& Int32.toUInt32 31)).toInt32)) hx hb dJ6_bitCount_0f7a4_17 rfl ?_
  refine lv_ldcw (v := 858993459) hx hb hown (hq _ w_992) dJ6_bitCount_0f7a4_18 ?_
  refine lv_iand hx hb dJ6_bitCount_0f7a4_21 ?_
  refine lv_iadd hx hb dJ6_bitCount_0f7a4_22 ?_
  refine lv_topi (fun x_2 ex_2 => ?_)
  replace h := gb_lt_s ex_2 h
  refine lv_istore_n (lv' := [(0, .int x_2)]) hx hb dJ6_bitCount_0f7a4_23 rfl hl (by decide) rfl (fun ls hl => ?_)
  refine lv_iload_n hx hb dJ6_bitCount_0f7a4_24 rfl (lv_at hl 0 rfl) ?_
  refine lv_iload_n hx hb dJ6_bitCount_0f7a4_25 rfl (lv_at hl 0 rfl) ?_
  refine lv_iconst (v := 4) hx hb dJ6_bitCount_0f7a4_26 (by decide) ?_
  refine lv_iushr (v := (((x_2 : Int32).toUInt32 >>> ((4 : Int32).toUInt32 &&& Int32.toUInt32 31)).toInt32)) hx hb dJ6_bitCount_0f7a4_27 rfl ?_
  refine lv_iadd hx hb dJ6_bitCount_0f7a4_28 ?_
  refine lv_ldcw (v := 252645135) hx hb hown (hq _ w_993) dJ6_bitCount_0f7a4_29 ?_
  refine lv_iand hx hb dJ6_bitCount_0f7a4_32 ?_
  refine lv_topi (fun x_3 ex_3 => ?_)
  replace h := gb_lt_s ex_3 h
  refine lv_istore_n (lv' := [(0, .int x_3)]) hx hb dJ6_bitCount_0f7a4_33 rfl hl (by decide) rfl (fun ls hl => ?_)
  refine lv_iload_n hx hb dJ6_bitCount_0f7a4_34 rfl (lv_at hl 0 rfl) ?_
  refine lv_iload_n hx hb dJ6_bitCount_0f7a4_35 rfl (lv_at hl 0 rfl) ?_
  refine lv_bipush (v := 8) hx hb dJ6_bitCount_0f7a4_36 (by decide) ?_
  refine lv_iushr (v := (((x_3 : Int32).toUInt32 >>> ((8 : Int32).toUInt32 &&& Int32.toUInt32 31)).toInt32)) hx hb dJ6_bitCount_0f7a4_38 rfl ?_
  refine lv_iadd hx hb dJ6_bitCount_0f7a4_39 ?_
  refine lv_topi (fun x_4 ex_4 => ?_)
  replace h := gb_lt_s ex_4 h
  refine lv_istore_n (lv' := [(0, .int x_4)]) hx hb dJ6_bitCount_0f7a4_40 rfl hl (by decide) rfl (fun ls hl => ?_)
  refine lv_iload_n hx hb dJ6_bitCount_0f7a4_41 rfl (lv_at hl 0 rfl) ?_
  refine lv_iload_n hx hb dJ6_bitCount_0f7a4_42 rfl (lv_at hl 0 rfl) ?_
  refine lv_bipush (v := 16) hx hb dJ6_bitCount_0f7a4_43 (by decide) ?_
  refine lv_iushr (v := (((x_4 : Int32).toUInt32 >>> ((16 : Int32).toUInt32 &&& Int32.toUInt32 31)).toInt32)) hx hb dJ6_bitCount_0f7a4_45 rfl ?_
  refine lv_iadd hx hb dJ6_bitCount_0f7a4_46 ?_
  refine lv_topi (fun x_5 ex_5 => ?_)
  replace h := gb_lt_s ex_5 h
  refine lv_istore_n (lv' := [(0, .int x_5)]) hx hb dJ6_bitCount_0f7a4_47 rfl hl (by decide) rfl (fun ls hl => ?_)
  refine lv_iload_n hx hb dJ6_bitCount_0f7a4_48 rfl (lv_at hl 0 rfl) ?_
  refine lv_bipush (v := 63) hx hb dJ6_bitCount_0f7a4_49 (by decide) ?_
  refine lv_iand hx hb dJ6_bitCount_0f7a4_51 ?_
  obtain ⟨e1, e2⟩ := gb_eq2 h
  exact W.iret (v := (x_5 &&& 63)) hx hb hr (fun t ht hW => gb_ri ht ⟨e2, by rw [← e1]; exact hP⟩ hS) hS.2.2 dJ6_bitCount_0f7a4_52
theorem w_990 : (Cond.code ({ cls := "java/lang/Integer", name := "bitCount", desc := "(I)I" } : MethodName) prog_15_method_49_code (1 : Nat) (Option.some FieldType.int)) ∈ gb_wA := gb_t5 30 rfl rfl
theorem w_988 : (Cond.methodLink "GooseBorder$Flocks" (43 : Nat) ({ cls := "java/lang/Integer", name := "bitCount", desc := "(I)I" } : MethodName)) ∈ gb_wA := gb_t5 28 rfl rfl
theorem w_989 : (Cond.static ({ cls := "java/lang/Integer", name := "bitCount", desc := "(I)I" } : MethodName)) ∈ gb_wA := gb_t5 29 rfl rfl
theorem w_21 : (Cond.initialized "java/lang/Integer") ∈ gb_wA := gb_t1 21 rfl rfl
theorem dX2_marksOfAny_30 : decode cX2_marksOfAny 30 = .ok (.iload_n 3, 1) := dc_29 (show ((cX2_marksOfAny.data.toList.drop 30).take 1).map UInt8.toNat = [29] by decide +kernel)
theorem dX2_marksOfAny_31 : decode cX2_marksOfAny 31 = .ok (.if_icmp .ne 72, 3) := dc_160 (show ((cX2_marksOfAny.data.toList.drop 31).take 3).map UInt8.toNat = [160, 0, 72] by decide +kernel) rfl
theorem dX2_marksOfAny_103 : decode cX2_marksOfAny 103 = .ok (.iinc 6 1, 3) := dc_132 (show ((cX2_marksOfAny.data.toList.drop 103).take 3).map UInt8.toNat = [132, 6, 1] by decide +kernel) rfl
theorem dX2_marksOfAny_106 : decode cX2_marksOfAny 106 = .ok (.goto (-90), 3) := dc_167 (show ((cX2_marksOfAny.data.toList.drop 106).take 3).map UInt8.toNat = [167, 255, 166] by decide +kernel) rfl
theorem dX2_marksOfAny_34 : decode cX2_marksOfAny 34 = .ok (.iload 4, 2) := dc_21 (show ((cX2_marksOfAny.data.toList.drop 34).take 2).map UInt8.toNat = [21, 4] by decide +kernel) rfl
theorem dX2_marksOfAny_36 : decode cX2_marksOfAny 36 = .ok (.ifCond .eq 23, 3) := dc_153 (show ((cX2_marksOfAny.data.toList.drop 36).take 3).map UInt8.toNat = [153, 0, 23] by decide +kernel) rfl
theorem dX2_marksOfAny_59 : decode cX2_marksOfAny 59 = .ok (.aload_n 0, 1) := dc_42 (show ((cX2_marksOfAny.data.toList.drop 59).take 1).map UInt8.toNat = [42] by decide +kernel)
theorem dX2_marksOfAny_60 : decode cX2_marksOfAny 60 = .ok (.getfield 9, 3) := dc_180 (show ((cX2_marksOfAny.data.toList.drop 60).take 3).map UInt8.toNat = [180, 0, 9] by decide +kernel) rfl
theorem dX2_marksOfAny_63 : decode cX2_marksOfAny 63 = .ok (.iload 6, 2) := dc_21 (show ((cX2_marksOfAny.data.toList.drop 63).take 2).map UInt8.toNat = [21, 6] by decide +kernel) rfl
theorem dX2_marksOfAny_65 : decode cX2_marksOfAny 65 = .ok (.iaload, 1) := dc_46 (show ((cX2_marksOfAny.data.toList.drop 65).take 1).map UInt8.toNat = [46] by decide +kernel)
theorem dX2_marksOfAny_66 : decode cX2_marksOfAny 66 = .ok (.iload 5, 2) := dc_21 (show ((cX2_marksOfAny.data.toList.drop 66).take 2).map UInt8.toNat = [21, 5] by decide +kernel) rfl
theorem dX2_marksOfAny_68 : decode cX2_marksOfAny 68 = .ok (.if_icmp .ge 7, 3) := dc_162 (show ((cX2_marksOfAny.data.toList.drop 68).take 3).map UInt8.toNat = [162, 0, 7] by decide +kernel) rfl
theorem dX2_marksOfAny_75 : decode cX2_marksOfAny 75 = .ok (.iconst 0, 1) := dc_3 (show ((cX2_marksOfAny.data.toList.drop 75).take 1).map UInt8.toNat = [3] by decide +kernel)
theorem dX2_marksOfAny_76 : decode cX2_marksOfAny 76 = .ok (.istore 7, 2) := dc_54 (show ((cX2_marksOfAny.data.toList.drop 76).take 2).map UInt8.toNat = [54, 7] by decide +kernel) rfl
theorem dX2_marksOfAny_78 : decode cX2_marksOfAny 78 = .ok (.iload 5, 2) := dc_21 (show ((cX2_marksOfAny.data.toList.drop 78).take 2).map UInt8.toNat = [21, 5] by decide +kernel) rfl
theorem dX2_marksOfAny_80 : decode cX2_marksOfAny 80 = .ok (.iconst (-1), 1) := dc_2 (show ((cX2_marksOfAny.data.toList.drop 80).take 1).map UInt8.toNat = [2] by decide +kernel)
theorem dX2_marksOfAny_81 : decode cX2_marksOfAny 81 = .ok (.if_icmp .eq 8, 3) := dc_159 (show ((cX2_marksOfAny.data.toList.drop 81).take 3).map UInt8.toNat = [159, 0, 8] by decide +kernel) rfl
theorem dX2_marksOfAny_89 : decode cX2_marksOfAny 89 = .ok (.aload_n 0, 1) := dc_42 (show ((cX2_marksOfAny.data.toList.drop 89).take 1).map UInt8.toNat = [42] by decide +kernel)
theorem dX2_marksOfAny_90 : decode cX2_marksOfAny 90 = .ok (.getfield 9, 3) := dc_180 (show ((cX2_marksOfAny.data.toList.drop 90).take 3).map UInt8.toNat = [180, 0, 9] by decide +kernel) rfl
theorem dX2_marksOfAny_93 : decode cX2_marksOfAny 93 = .ok (.iload 6, 2) := dc_21 (show ((cX2_marksOfAny.data.toList.drop 93).take 2).map UInt8.toNat = [21, 6] by decide +kernel) rfl
theorem dX2_marksOfAny_95 : decode cX2_marksOfAny 95 = .ok (.iaload, 1) := dc_46 (show ((cX2_marksOfAny.data.toList.drop 95).take 1).map UInt8.toNat = [46] by decide +kernel)
theorem dX2_marksOfAny_96 : decode cX2_marksOfAny 96 = .ok (.goto 5, 3) := dc_167 (show ((cX2_marksOfAny.data.toList.drop 96).take 3).map UInt8.toNat = [167, 0, 5] by decide +kernel) rfl
theorem dX2_marksOfAny_101 : decode cX2_marksOfAny 101 = .ok (.istore 5, 2) := dc_54 (show ((cX2_marksOfAny.data.toList.drop 101).take 2).map UInt8.toNat = [54, 5] by decide +kernel) rfl
theorem dX2_marksOfAny_84 : decode cX2_marksOfAny 84 = .ok (.iload 7, 2) := dc_21 (show ((cX2_marksOfAny.data.toList.drop 84).take 2).map UInt8.toNat = [21, 7] by decide +kernel) rfl
theorem dX2_marksOfAny_86 : decode cX2_marksOfAny 86 = .ok (.ifCond .eq 13, 3) := dc_153 (show ((cX2_marksOfAny.data.toList.drop 86).take 3).map UInt8.toNat = [153, 0, 13] by decide +kernel) rfl
theorem dX2_marksOfAny_99 : decode cX2_marksOfAny 99 = .ok (.iload 5, 2) := dc_21 (show ((cX2_marksOfAny.data.toList.drop 99).take 2).map UInt8.toNat = [21, 5] by decide +kernel) rfl
theorem dX2_marksOfAny_71 : decode cX2_marksOfAny 71 = .ok (.iconst 1, 1) := dc_4 (show ((cX2_marksOfAny.data.toList.drop 71).take 1).map UInt8.toNat = [4] by decide +kernel)
theorem dX2_marksOfAny_72 : decode cX2_marksOfAny 72 = .ok (.goto 4, 3) := dc_167 (show ((cX2_marksOfAny.data.toList.drop 72).take 3).map UInt8.toNat = [167, 0, 4] by decide +kernel) rfl
theorem dX2_marksOfAny_39 : decode cX2_marksOfAny 39 = .ok (.aload_n 0, 1) := dc_42 (show ((cX2_marksOfAny.data.toList.drop 39).take 1).map UInt8.toNat = [42] by decide +kernel)
theorem dX2_marksOfAny_40 : decode cX2_marksOfAny 40 = .ok (.getfield 9, 3) := dc_180 (show ((cX2_marksOfAny.data.toList.drop 40).take 3).map UInt8.toNat = [180, 0, 9] by decide +kernel) rfl
theorem dX2_marksOfAny_43 : decode cX2_marksOfAny 43 = .ok (.iload 6, 2) := dc_21 (show ((cX2_marksOfAny.data.toList.drop 43).take 2).map UInt8.toNat = [21, 6] by decide +kernel) rfl
theorem dX2_marksOfAny_45 : decode cX2_marksOfAny 45 = .ok (.iaload, 1) := dc_46 (show ((cX2_marksOfAny.data.toList.drop 45).take 1).map UInt8.toNat = [46] by decide +kernel)
theorem dX2_marksOfAny_46 : decode cX2_marksOfAny 46 = .ok (.iload 5, 2) := dc_21 (show ((cX2_marksOfAny.data.toList.drop 46).take 2).map UInt8.toNat = [21, 5] by decide +kernel) rfl
theorem dX2_marksOfAny_48 : decode cX2_marksOfAny 48 = .ok (.if_icmp .le 7, 3) := dc_164 (show ((cX2_marksOfAny.data.toList.drop 48).take 3).map UInt8.toNat = [164, 0, 7] by decide +kernel) rfl
theorem dX2_marksOfAny_55 : decode cX2_marksOfAny 55 = .ok (.iconst 0, 1) := dc_3 (show ((cX2_marksOfAny.data.toList.drop 55).take 1).map UInt8.toNat = [3] by decide +kernel)
theorem dX2_marksOfAny_56 : decode cX2_marksOfAny 56 = .ok (.goto 20, 3) := dc_167 (show ((cX2_marksOfAny.data.toList.drop 56).take 3).map UInt8.toNat = [167, 0, 20] by decide +kernel) rfl
theorem dX2_marksOfAny_51 : decode cX2_marksOfAny 51 = .ok (.iconst 1, 1) := dc_4 (show ((cX2_marksOfAny.data.toList.drop 51).take 1).map UInt8.toNat = [4] by decide +kernel)
theorem dX2_marksOfAny_52 : decode cX2_marksOfAny 52 = .ok (.goto 24, 3) := dc_167 (show ((cX2_marksOfAny.data.toList.drop 52).take 3).map UInt8.toNat = [167, 0, 24] by decide +kernel) rfl
def cs_Flocks_marksOfAny_B_76 (n : Nat) (k16 : gb_S → Int32 → Int32 → Int32 → Int32 → gb_CR Int32) (σ : gb_S) (v3 : Int32) (v4 : Int32) (v5 : Int32) (v6 : Int32) (t0 : Int32) : gb_CR Int32 := (if v5 = (-1) then gb_ck v6 256 (gb_lt ((σ.1 131) (Int32.toNatClampNeg v6)) (fun x_19 => gb_lt (v6 + 1) (fun x_20 => k16 σ v3 v4 x_19 x_20))) else (if t0 = 0 then gb_lt (v6 + 1) (fun x_22 => k16 σ v3 v4 v5 x_22) else gb_ck v6 256 (gb_lt ((σ.1 131) (Int32.toNatClampNeg v6)) (fun x_24 => gb_lt (v6 + 1) (fun x_25 => k16 σ v3 v4 x_24 x_25)))))
def cs_Flocks_marksOfAny_B_16 (n : Nat) : Nat → gb_S → Int32 → Int32 → Int32 → Int32 → gb_CR Int32
  | 0, _, _, _, _, _ => none
  | mm + 1, σ, v3, v4, v5, v6 => (if (σ.1 130 4) ≤ v6 then some (σ, v5) else gb_cd (cs_java_lang_Integer_bitCount n σ v6) (fun s_7 r_8 => (if r_8 = v3 then (if v4 = 0 then gb_ck v6 256 (gb_lt ((s_7.1 131) (Int32.toNatClampNeg v6)) (fun x_15 => (if v5 ≤ x_15 then cs_Flocks_marksOfAny_B_76 n (fun σ v3 v4 v5 v6 => cs_Flocks_marksOfAny_B_16 n mm σ v3 v4 v5 v6) s_7 v3 v4 v5 v6 0 else cs_Flocks_marksOfAny_B_76 n (fun σ v3 v4 v5 v6 => cs_Flocks_marksOfAny_B_16 n mm σ v3 v4 v5 v6) s_7 v3 v4 v5 v6 1))) else gb_ck v6 256 (gb_lt ((s_7.1 131) (Int32.toNatClampNeg v6)) (fun x_27 => (if x_27 ≤ v5 then cs_Flocks_marksOfAny_B_76 n (fun σ v3 v4 v5 v6 => cs_Flocks_marksOfAny_B_16 n mm σ v3 v4 v5 v6) s_7 v3 v4 v5 v6 0 else cs_Flocks_marksOfAny_B_76 n (fun σ v3 v4 v5 v6 => cs_Flocks_marksOfAny_B_16 n mm σ v3 v4 v5 v6) s_7 v3 v4 v5 v6 1)))) else gb_lt (v6 + 1) (fun x_12 => cs_Flocks_marksOfAny_B_16 n mm s_7 v3 v4 v5 x_12))))
def cs_Flocks_marksOfAny_B (n : Nat) (σ : gb_S) (p1 : Nat) (p2 : Int32) (p3 : Int32) (p4 : Int32) : gb_CR Int32 := gb_kk (gb_kB p1) (gb_cd (cs_Flocks_sumUp_B_c131 n σ p1 p2) (fun s_2 _ => cs_Flocks_marksOfAny_B_16 n n s_2 p3 p4 (-1) 0))
set_option maxHeartbeats 8000000 in
set_option maxRecDepth 100000 in
theorem cc_Flocks_marksOfAny_B (l : Launch) (D : va_G) (cT : Nat → ClassId) (tt : Nat → Nat) (b1 b : Nat) (hb1 : b1 ≤ b) (n : Nat) (σ : gb_S) (p1 : Nat) (p2 : Int32) (p3 : Int32) (p4 : Int32) (σE : gb_S) (rE : Int32) (h : cs_Flocks_marksOfAny_B n σ p1 p2 p3 p4 = some (σE, rE)) : Met l yX2_marksOfAny (.code yX2_marksOfAny cX2_marksOfAny 8 (some FieldType.int) :: gb_wA) ({ frames := 4, cells := 0, slots := 0, locals := 97 }) (gb_Pc D cT tt b1 [.ref (b + 130), .ref (b + p1), .int p2, .int p3, .int p4] (fun h => va_P D vwCl (gb_wl b (gb_CW cT b σ)) h)) (gb_Qi (fun r h => r = rE ∧ va_P D vwCl (gb_wl b (gb_CW cT b σE)) h) (gb_fr b 135)) 0 0 (gb_fr b 135) := by
  refine Met.ofW (cc := cX2_marksOfAny) (maxL := 8) (ret := (some FieldType.int)) (by decide) rfl ?_
  intro p e s m args below meth c s₁ B hml hv
  obtain ⟨rfl, hSt, hP⟩ := hv
  have hx := B.exec
  have hb := B.bytes
  have hr := B.returns
  have hts := atoms_spec (ws := .code yX2_marksOfAny cX2_marksOfAny 8 (some FieldType.int) :: gb_wA) B.pre
  have hq : ∀ w ∈ gb_wA, w.before _ s = true := fun w h => hts w (List.mem_cons_of_mem _ h)
  have hown : s.vm.findClass RX2 = some m.cls := findClass_of_methodNamed B.named
  have hlocks := B.notSynchronized
  clear B hts
  have hK := hSt.1
  have hS : va_S (gb_fr b 135) s.heap s.heap [] := va_S.rf
  have hl := lv_entry ([.ref (b + 130), .ref (b + p1), .int p2, .int p3, .int p4]) (n := 8) (Nat.le_of_ble_eq_true rfl)
  rw [lg_entry_eq]
  generalize (lg_sl ([.ref (b + 130), .ref (b + p1), .int p2, .int p3, .int p4]) ++ List.replicate (8 - (lg_sl ([.ref (b + 130), .ref (b + p1), .int p2, .int p3, .int p4])).length) Slot.unset).toArray = ls at hl ⊢
  replace hl : lv_has ls 8 [(0, .ref (b + 130)), (1, .ref (b + p1)), (2, .int p2), (3, .int p3), (4, .int p4)] := hl
  have L76_2 : ∀ (k16 : gb_S → Int32 → Int32 → Int32 → Int32 → gb_CR Int32) (hk16 : ∀ (σ : gb_S) (v3 : Int32) (v4 : Int32) (v5 : Int32) (v6 : Int32) (H : Heap) (locs : List Loc) (ls : Array Slot), k16 σ v3 v4 v5 v6 = some (σE, rE) → va_P D vwCl (gb_wl b (gb_CW cT b σ)) H → va_S (gb_fr b 135) s.heap H locs → lv_has ls 8 [(0, .ref (b + 130)), (3, .int v3), (4, .int v4), (5, .int v5), (6, .int v6)] → W p l e (headSpec (.code yX2_marksOfAny cX2_marksOfAny 8 (some FieldType.int) :: gb_wA) ({ frames := 4, cells := 0, slots := 0, locals := 97 })).room s m ([.ref (b + 130), .ref (b + p1), .int p2, .int p3, .int p4]).toArray below meth c H locs 0 0 (MQ below (gb_Qi (fun r h => r = rE ∧ va_P D vwCl (gb_wl b (gb_CW cT b σE)) h) (gb_fr b 135)) ([.ref (b + 130), .ref (b + p1), .int p2, .int p3, .int p4]).toArray s 0 0 (gb_fr b 135)) (F0 m 16 ls [])) (σ : gb_S) (v3 : Int32) (v4 : Int32) (v5 : Int32) (v6 : Int32) (t0 : Int32) (H : Heap) (locs : List Loc) (ls : Array Slot), cs_Flocks_marksOfAny_B_76 n k16 σ v3 v4 v5 v6 t0 = some (σE, rE) → va_P D vwCl (gb_wl b (gb_CW cT b σ)) H → va_S (gb_fr b 135) s.heap H locs → lv_has ls 8 [(0, .ref (b + 130)), (3, .int v3), (4, .int v4), (5, .int v5), (6, .int v6)] → W p l e (headSpec (.code yX2_marksOfAny cX2_marksOfAny 8 (some FieldType.int) :: gb_wA) ({ frames := 4, cells := 0, slots := 0, locals := 97 })).room s m ([.ref (b + 130), .ref (b + p1), .int p2, .int p3, .int p4]).toArray below meth c H locs 0 0 (MQ below (gb_Qi (fun r h => r = rE ∧ va_P D vwCl (gb_wl b (gb_CW cT b σE)) h) (gb_fr b 135)) ([.ref (b + 130), .ref (b + p1), .int p2, .int p3, .int p4]).toArray s 0 0 (gb_fr b 135)) (F0 m 76 ls [.int t0]) := by
    clear h hP hS hl ls
    intro k16 hk16 σ v3 v4 v5 v6 t0 H locs ls h hP hS hl
    unfold cs_Flocks_marksOfAny_B_76 at h
    refine lv_istore (lv' := [(7, .int t0), (0, .ref (b + 130)), (3, .int v3), (4, .int v4), (5, .int v5), (6, .int v6)]) hx hb dX2_marksOfAny_76 hl (by decide) rfl (fun ls hl => ?_)
    refine lv_iload hx hb dX2_marksOfAny_78 (lv_at hl 4 rfl) ?_
    refine lv_iconst (v := (-1)) hx hb dX2_marksOfAny_80 (by decide) ?_
    refine lv_icmp_eq (tgt := 89) hx hb dX2_marksOfAny_81 (by decide) (fun c_17 => ?_) (fun c_17 => ?_)
    · rw [if_pos c_17] at h
      refine lv_aload_n hx hb dX2_marksOfAny_89 rfl (lv_at hl 1 rfl) ?_
      refine va_get (ci := 2) (v := (.ref (b + 131))) (C := RX2) (T := TX2) (N := 6) hx hb hq i_X2 hown hK hP 130 (gb_at b rfl) rfl 0 (by decide) (hq _ w_294) (fun _ h9 => h9) rfl dX2_marksOfAny_90 ?_
      refine lv_iload hx hb dX2_marksOfAny_93 (lv_at hl 5 rfl) ?_
      obtain ⟨z_18, h⟩ := gb_ck_s h
      refine va_iald hx hb hK hP 131 0 (gb_at b rfl) rfl z_18 dX2_marksOfAny_95 ?_
      refine lv_topi (fun x_19 ex_19 => ?_)
      replace h := gb_lt_s ex_19 h
      refine lv_goto (tgt := 101) hx hb dX2_marksOfAny_96 (by decide) ?_
      refine lv_istore (lv' := [(5, .int x_19), (7, .int t0), (0, .ref (b + 130)), (3, .int v3), (4, .int v4), (6, .int v6)]) hx hb dX2_marksOfAny_101 hl (by decide) rfl (fun ls hl => ?_)
      obtain ⟨x_20, ex_20⟩ : ∃ q, q = (v6 + 1) := ⟨_, rfl⟩
      replace h := gb_lt_s ex_20 h
      refine lv_iinc (v := x_20) (lv' := [(6, .int x_20), (5, .int x_19), (7, .int t0), (0, .ref (b + 130)), (3, .int v3), (4, .int v4)]) hx hb dX2_marksOfAny_103 hl (k := 5) rfl (by rw [ex_20]; rfl) (by decide) rfl (fun ls hl => ?_)
      refine lv_goto (tgt := 16) hx hb dX2_marksOfAny_106 (by decide) ?_
      exact hk16 _ _ _ _ _ _ _ _ h hP hS (lv_sub hl [3, 4, 5, 1, 0] rfl)
    · rw [if_neg c_17] at h
      refine lv_iload hx hb dX2_marksOfAny_84 (lv_at hl 0 rfl) ?_
      refine lv_if_eq (tgt := 99) hx hb dX2_marksOfAny_86 (by decide) (fun c_21 => ?_) (fun c_21 => ?_)
      · rw [if_pos c_21] at h
        refine lv_iload hx hb dX2_marksOfAny_99 (lv_at hl 4 rfl) ?_
        refine lv_istore (lv' := [(5, .int v5), (7, .int t0), (0, .ref (b + 130)), (3, .int v3), (4, .int v4), (6, .int v6)]) hx hb dX2_marksOfAny_101 hl (by decide) rfl (fun ls hl => ?_)
        obtain ⟨x_22, ex_22⟩ : ∃ q, q = (v6 + 1) := ⟨_, rfl⟩
        replace h := gb_lt_s ex_22 h
        refine lv_iinc (v := x_22) (lv' := [(6, .int x_22), (5, .int v5), (7, .int t0), (0, .ref (b + 130)), (3, .int v3), (4, .int v4)]) hx hb dX2_marksOfAny_103 hl (k := 5) rfl (by rw [ex_22]; rfl) (by decide) rfl (fun ls hl => ?_)
        refine lv_goto (tgt := 16) hx hb dX2_marksOfAny_106 (by decide) ?_
        exact hk16 _ _ _ _ _ _ _ _ h hP hS (lv_sub hl [3, 4, 5, 1, 0] rfl)
      · rw [if_neg c_21] at h
        refine lv_aload_n hx hb dX2_marksOfAny_89 rfl (lv_at hl 1 rfl) ?_
        refine va_get (ci := 2) (v := (.ref (b + 131))) (C := RX2) (T := TX2) (N := 6) hx hb hq i_X2 hown hK hP 130 (gb_at b rfl) rfl 0 (by decide) (hq _ w_294) (fun _ h9 => h9) rfl dX2_marksOfAny_90 ?_
        refine lv_iload hx hb dX2_marksOfAny_93 (lv_at hl 5 rfl) ?_
        obtain ⟨z_23, h⟩ := gb_ck_s h
        refine va_iald hx hb hK hP 131 0 (gb_at b rfl) rfl z_23 dX2_marksOfAny_95 ?_
        refine lv_topi (fun x_24 ex_24 => ?_)
        replace h := gb_lt_s ex_24 h
        refine lv_goto (tgt := 101) hx hb dX2_marksOfAny_96 (by decide) ?_
        refine lv_istore (lv' := [(5, .int x_24), (7, .int t0), (0, .ref (b + 130)), (3, .int v3), (4, .int v4), (6, .int v6)]) hx hb dX2_marksOfAny_101 hl (by decide) rfl (fun ls hl => ?_)
        obtain ⟨x_25, ex_25⟩ : ∃ q, q = (v6 + 1) := ⟨_, rfl⟩
        replace h := gb_lt_s ex_25 h
        refine lv_iinc (v := x_25) (lv' := [(6, .int x_25), (5, .int x_24), (7, .int t0), (0, .ref (b + 130)), (3, .int v3), (4, .int v4)]) hx hb dX2_marksOfAny_103 hl (k := 5) rfl (by rw [ex_25]; rfl) (by decide) rfl (fun ls hl => ?_)
        refine lv_goto (tgt := 16) hx hb dX2_marksOfAny_106 (by decide) ?_
        exact hk16 _ _ _ _ _ _ _ _ h hP hS (lv_sub hl [3, 4, 5, 1, 0] rfl)
  have L16_1 : ∀ (mm : Nat) (σ : gb_S) (v3 : Int32) (v4 : Int32) (v5 : Int32) (v6 : Int32) (H : Heap) (locs : List Loc) (ls : Array Slot), cs_Flocks_marksOfAny_B_16 n mm σ v3 v4 v5 v6 = some (σE, rE) → va_P D vwCl (gb_wl b (gb_CW cT b σ)) H → va_S (gb_fr b 135) s.heap H locs → lv_has ls 8 [(0, .ref (b + 130)), (3, .int v3), (4, .int v4), (5, .int v5), (6, .int v6)] → W p l e (headSpec (.code yX2_marksOfAny cX2_marksOfAny 8 (some FieldType.int) :: gb_wA) ({ frames := 4, cells := 0, slots := 0, locals := 97 })).room s m ([.ref (b + 130), .ref (b + p1), .int p2, .int p3, .int p4]).toArray below meth c H locs 0 0 (MQ below (gb_Qi (fun r h => r = rE ∧ va_P D vwCl (gb_wl b (gb_CW cT b σE)) h) (gb_fr b 135)) ([.ref (b + 130), .ref (b + p1), .int p2, .int p3, .int p4]).toArray s 0 0 (gb_fr b 135)) (F0 m 16 ls []) := by
    clear h hP hS hl ls
    intro mm
    induction mm with
    | zero =>
      intro σ v3 v4 v5 v6 H locs ls h
      cases h
    | succ mm ih =>
      intro σ v3 v4 v5 v6 H locs ls h hP hS hl
      rw [cs_Flocks_marksOfAny_B_16] at h
      refine lv_iload hx hb dX2_marksOfAny_16 (lv_at hl 4 rfl) ?_
      refine lv_aload_n hx hb dX2_marksOfAny_18 rfl (lv_at hl 0 rfl) ?_
      refine va_get (ci := 2) (v := (.int (σ.1 130 4))) (C := RX2) (T := TX2) (N := 6) hx hb hq i_X2 hown hK hP 130 (gb_at b rfl) rfl 4 (by decide) (hq _ w_298) (fun _ h9 => h9) rfl dX2_marksOfAny_19 ?_
      refine lv_icmp_ge (tgt := 109) hx hb dX2_marksOfAny_22 (by decide) (fun c_6 => ?_) (fun c_6 => ?_)
      · rw [if_pos c_6] at h
        refine lv_iload hx hb dX2_marksOfAny_109 (lv_at hl 3 rfl) ?_
        obtain ⟨e1, e2⟩ := gb_eq2 h
        exact W.iret (v := v5) hx hb hr (fun t ht hW => gb_ri ht ⟨e2, by rw [← e1]; exact hP⟩ hS) hS.2.2 dX2_marksOfAny_111
      · rw [if_neg c_6] at h
        refine lv_iload hx hb dX2_marksOfAny_25 (lv_at hl 4 rfl) ?_
        obtain ⟨s_7, r_8, z_9, h⟩ := gb_cd_s h
        refine gb_calli (va_runS (As := [.int v6]) (rest := []) ⟨hx, hb, hml, hown, hq⟩ (cc_java_lang_Integer_bitCount l D cT tt b1 b hb1 n σ v6 s_7 r_8 z_9) (va_cwS 1 hq (gb_gS w_988 w_989 w_21 w_990) rfl rfl rfl (by decide +kernel) ⟨Nat.le_of_ble_eq_true rfl, Nat.le_of_ble_eq_true rfl⟩) (gb_preS hSt hS (fun q h => Nat.le_trans hb1 h.1) hP) rfl rfl hl.1 rfl (lv_room (Nat.le_of_ble_eq_true rfl)) dX2_marksOfAny_27 ⟨Nat.le_of_ble_eq_true rfl, Nat.le_of_ble_eq_true rfl⟩) hS (fun _ h => h) (fun _ h => h) (fun q_10 H locs hY hk hS => ?_)
        obtain ⟨hq_10, hP⟩ := hY
        replace hq_10 := hq_10.symm
        subst hq_10
        refine lv_iload_n hx hb dX2_marksOfAny_30 rfl (lv_at hl 1 rfl) ?_
        refine lv_icmp_ne (tgt := 103) hx hb dX2_marksOfAny_31 (by decide) (fun c_11 => ?_) (fun c_11 => ?_)
        · rw [if_neg c_11] at h
          obtain ⟨x_12, ex_12⟩ : ∃ q, q = (v6 + 1) := ⟨_, rfl⟩
          replace h := gb_lt_s ex_12 h
          refine lv_iinc (v := x_12) (lv' := [(6, .int x_12), (0, .ref (b + 130)), (3, .int v3), (4, .int v4), (5, .int v5)]) hx hb dX2_marksOfAny_103 hl (k := 4) rfl (by rw [ex_12]; rfl) (by decide) rfl (fun ls hl => ?_)
          refine lv_goto (tgt := 16) hx hb dX2_marksOfAny_106 (by decide) ?_
          exact ih _ _ _ _ _ _ _ _ h hP hS (lv_sub hl [1, 2, 3, 4, 0] rfl)
        · rw [if_pos c_11] at h
          refine lv_iload hx hb dX2_marksOfAny_34 (lv_at hl 2 rfl) ?_
          refine lv_if_eq (tgt := 59) hx hb dX2_marksOfAny_36 (by decide) (fun c_13 => ?_) (fun c_13 => ?_)
          · rw [if_pos c_13] at h
            refine lv_aload_n hx hb dX2_marksOfAny_59 rfl (lv_at hl 0 rfl) ?_
            refine va_get (ci := 2) (v := (.ref (b + 131))) (C := RX2) (T := TX2) (N := 6) hx hb hq i_X2 hown hK hP 130 (gb_at b rfl) rfl 0 (by decide) (hq _ w_294) (fun _ h9 => h9) rfl dX2_marksOfAny_60 ?_
            refine lv_iload hx hb dX2_marksOfAny_63 (lv_at hl 4 rfl) ?_
            obtain ⟨z_14, h⟩ := gb_ck_s h
            refine va_iald hx hb hK hP 131 0 (gb_at b rfl) rfl z_14 dX2_marksOfAny_65 ?_
            refine lv_topi (fun x_15 ex_15 => ?_)
            replace h := gb_lt_s ex_15 h
            refine lv_iload hx hb dX2_marksOfAny_66 (lv_at hl 3 rfl) ?_
            refine lv_icmp_ge (tgt := 75) hx hb dX2_marksOfAny_68 (by decide) (fun c_16 => ?_) (fun c_16 => ?_)
            · rw [if_pos c_16] at h
              refine lv_iconst (v := 0) hx hb dX2_marksOfAny_75 (by decide) ?_
              exact L76_2 _ ih _ _ _ _ _ _ _ _ _ h hP hS (lv_sub hl [0, 1, 2, 3, 4] rfl)
            · rw [if_neg c_16] at h
              refine lv_iconst (v := 1) hx hb dX2_marksOfAny_71 (by decide) ?_
              refine lv_goto (tgt := 76) hx hb dX2_marksOfAny_72 (by decide) ?_
              exact L76_2 _ ih _ _ _ _ _ _ _ _ _ h hP hS (lv_sub hl [0, 1, 2, 3, 4] rfl)
          · rw [if_neg c_13] at h
            refine lv_aload_n hx hb dX2_marksOfAny_39 rfl (lv_at hl 0 rfl) ?_
            refine va_get (ci := 2) (v := (.ref (b + 131))) (C := RX2) (T := TX2) (N := 6) hx hb hq i_X2 hown hK hP 130 (gb_at b rfl) rfl 0 (by decide) (hq _ w_294) (fun _ h9 => h9) rfl dX2_marksOfAny_40 ?_
            refine lv_iload hx hb dX2_marksOfAny_43 (lv_at hl 4 rfl) ?_
            obtain ⟨z_26, h⟩ := gb_ck_s h
            refine va_iald hx hb hK hP 131 0 (gb_at b rfl) rfl z_26 dX2_marksOfAny_45 ?_
            refine lv_topi (fun x_27 ex_27 => ?_)
            replace h := gb_lt_s ex_27 h
            refine lv_iload hx hb dX2_marksOfAny_46 (lv_at hl 3 rfl) ?_
            refine lv_icmp_le (tgt := 55) hx hb dX2_marksOfAny_48 (by decide) (fun c_28 => ?_) (fun c_28 => ?_)
            · rw [if_pos c_28] at h
              refine lv_iconst (v := 0) hx hb dX2_marksOfAny_55 (by decide) ?_
              refine lv_goto (tgt := 76) hx hb dX2_marksOfAny_56 (by decide) ?_
              exact L76_2 _ ih _ _ _ _ _ _ _ _ _ h hP hS (lv_sub hl [0, 1, 2, 3, 4] rfl)
            · rw [if_neg c_28] at h
              refine lv_iconst (v := 1) hx hb dX2_marksOfAny_51 (by decide) ?_
              refine lv_goto (tgt := 76) hx hb dX2_marksOfAny_52 (by decide) ?_
              exact L76_2 _ ih _ _ _ _ _ _ _ _ _ h hP hS (lv_sub hl [0, 1, 2, 3, 4] rfl)
  unfold cs_Flocks_marksOfAny_B at h
  obtain ⟨z_1, h⟩ := gb_kk_s h
  refine lv_aload_n hx hb dX2_marksOfAny_0 rfl (lv_at hl 0 rfl) ?_
  refine lv_aload_n hx hb dX2_marksOfAny_1 rfl (lv_at hl 1 rfl) ?_
  refine lv_iload_n hx hb dX2_marksOfAny_2 rfl (lv_at hl 2 rfl) ?_
  refine lv_aload_n hx hb dX2_marksOfAny_3 rfl (lv_at hl 0 rfl) ?_
  refine va_get (ci := 2) (v := (.ref (b + 131))) (C := RX2) (T := TX2) (N := 6) hx hb hq i_X2 hown hK hP 130 (gb_at b rfl) rfl 0 (by decide) (hq _ w_294) (fun _ h9 => h9) rfl dX2_marksOfAny_4 ?_
  obtain ⟨s_2, r_3, z_4, h⟩ := gb_cd_s h
  refine gb_callv (va_runV (C := RX2) (As := [.ref (b + p1), .int p2, .ref (b + 131)]) (rest := []) ⟨hx, hb, hml, hown, hq⟩ (cc_Flocks_sumUp_B_c131 l D cT tt b1 b hb1 n σ p1 p2 s_2 r_3 z_4) (cwV 3 hq (gb_gV w_982 w_984 s_2_10 w_13 w_985) rfl rfl rfl (by decide +kernel) ⟨Nat.le_of_ble_eq_true rfl, Nat.le_of_ble_eq_true rfl⟩) (gb_preV (r := (RX2, TX2, 6)) (ci := 2) (q0 := 130) hSt hP rfl (gb_at b rfl) hS (fun q h => Nat.le_trans hb1 h.1) hP) rfl rfl hl.1 rfl (lv_room (Nat.le_of_ble_eq_true rfl)) dX2_marksOfAny_7 ⟨Nat.le_of_ble_eq_true rfl, Nat.le_of_ble_eq_true rfl⟩) hS (fun _ h => h) (fun _ h => h) (fun H locs hY hk hS => ?_)
  have hP := hY
  refine lv_iconst (v := (-1)) hx hb dX2_marksOfAny_10 (by decide) ?_
  refine lv_istore (lv' := [(5, .int (-1)), (0, .ref (b + 130)), (1, .ref (b + p1)), (2, .int p2), (3, .int p3), (4, .int p4)]) hx hb dX2_marksOfAny_11 hl (by decide) rfl (fun ls hl => ?_)
  refine lv_iconst (v := 0) hx hb dX2_marksOfAny_13 (by decide) ?_
  refine lv_istore (lv' := [(6, .int 0), (5, .int (-1)), (0, .ref (b + 130)), (1, .ref (b + p1)), (2, .int p2), (3, .int p3), (4, .int p4)]) hx hb dX2_marksOfAny_14 hl (by decide) rfl (fun ls hl => ?_)
  exact L16_1 n _ _ _ _ _ _ _ _ h hP hS (lv_sub hl [2, 5, 6, 1, 0] rfl)
theorem w_981 : (Cond.code ({ cls := "GooseBorder$Flocks", name := "marksOfAny", desc := "(LGooseBorder$Border;IIZ)I" } : MethodName) prog_4_method_3_code (8 : Nat) (Option.some FieldType.int)) ∈ gb_wA := gb_t5 21 rfl rfl
theorem w_978 : (Cond.methodLink "GooseBorder" (320 : Nat) ({ cls := "GooseBorder$Flocks", name := "marksOfAny", desc := "(LGooseBorder$Border;IIZ)I" } : MethodName)) ∈ gb_wA := gb_t5 18 rfl rfl
theorem w_979 : (Cond.instanceMethod ({ cls := "GooseBorder$Flocks", name := "marksOfAny", desc := "(LGooseBorder$Border;IIZ)I" } : MethodName)) ∈ gb_wA := gb_t5 19 rfl rfl
theorem w_980 : (Cond.selects "GooseBorder$Flocks" ({ cls := "GooseBorder$Flocks", name := "marksOfAny", desc := "(LGooseBorder$Border;IIZ)I" } : MethodName) ({ cls := "GooseBorder$Flocks", name := "marksOfAny", desc := "(LGooseBorder$Border;IIZ)I" } : MethodName)) ∈ gb_wA := gb_t5 20 rfl rfl
theorem dX11_span_49 : decode cX11_span 49 = .ok (.ireturn, 1) := dc_172 (show ((cX11_span.data.toList.drop 49).take 1).map UInt8.toNat = [172] by decide +kernel)
def cs_Face_span (n : Nat) (σ : gb_S) (p1 : Int32) (p2 : Int32) (p3 : Int32) (p4 : Int32) : gb_CR Int32 := gb_cd (cs_Face_borderAt n σ p1) (fun s_1 r_2 => (if r_2 = 0 then some (s_1, (-1)) else gb_kk (gb_kB r_2) (gb_cd (cs_Border_hasPath_B n s_1 r_2 p2) (fun s_7 r_8 => (if r_8 = 0 then some (s_7, (-1)) else (if p3 < 0 then some (s_7, (-1)) else gb_cd (cs_Border_geese_B n s_7 r_2) (fun s_13 r_14 => (if p3 ≤ r_14 then gb_cd (cs_Flocks_marksOfAny_B n s_13 r_2 p2 p3 p4) (fun s_18 r_19 => some (s_18, r_19)) else some (s_13, (-1))))))))))
set_option maxHeartbeats 8000000 in
set_option maxRecDepth 100000 in
theorem cc_Face_span (l : Launch) (D : va_G) (cT : Nat → ClassId) (tt : Nat → Nat) (b1 b : Nat) (hb1 : b1 ≤ b) (n : Nat) (σ : gb_S) (p1 : Int32) (p2 : Int32) (p3 : Int32) (p4 : Int32) (σE : gb_S) (rE : Int32) (h : cs_Face_span n σ p1 p2 p3 p4 = some (σE, rE)) : Met l yX11_span (.code yX11_span cX11_span 6 (some FieldType.int) :: gb_wA) ({ frames := 5, cells := 0, slots := 0, locals := 124 }) (gb_Pc D cT tt b1 [.ref (b + 0), .int p1, .int p2, .int p3, .int p4] (fun h => va_P D vwCl (gb_wl b (gb_CW cT b σ)) h)) (gb_Qi (fun r h => r = rE ∧ va_P D vwCl (gb_wl b (gb_CW cT b σE)) h) (gb_fr b 135)) 0 0 (gb_fr b 135) := by
  refine Met.ofW (cc := cX11_span) (maxL := 6) (ret := (some FieldType.int)) (by decide) rfl ?_
  intro p e s m args below meth c s₁ B hml hv
  obtain ⟨rfl, hSt, hP⟩ := hv
  have hx := B.exec
  have hb := B.bytes
  have hr := B.returns
  have hts := atoms_spec (ws := .code yX11_span cX11_span 6 (some FieldType.int) :: gb_wA) B.pre
  have hq : ∀ w ∈ gb_wA, w.before _ s = true := fun w h => hts w (List.mem_cons_of_mem _ h)
  have hown : s.vm.findClass RX11 = some m.cls := findClass_of_methodNamed B.named
  have hlocks := B.notSynchronized
  clear B hts
  have hK := hSt.1
  have hS : va_S (gb_fr b 135) s.heap s.heap [] := va_S.rf
  have hl := lv_entry ([.ref (b + 0), .int p1, .int p2, .int p3, .int p4]) (n := 6) (Nat.le_of_ble_eq_true rfl)
  rw [lg_entry_eq]
  generalize (lg_sl ([.ref (b + 0), .int p1, .int p2, .int p3, .int p4]) ++ List.replicate (6 - (lg_sl ([.ref (b + 0), .int p1, .int p2, .int p3, .int p4])).length) Slot.unset).toArray = ls at hl ⊢
  replace hl : lv_has ls 6 [(0, .ref (b + 0)), (1, .int p1), (2, .int p2), (3, .int p3), (4, .int p4)] := hl
  unfold cs_Face_span at h
  refine lv_aload_n hx hb dX11_span_0 rfl (lv_at hl 0 rfl) ?_
  refine lv_iload_n hx hb dX11_span_1 rfl (lv_at hl 1 rfl) ?_
  obtain ⟨s_1, r_2, z_3, h⟩ := gb_cd_s h
  refine gb_callq (va_runV (C := RX11) (As := [.int p1]) (rest := []) ⟨hx, hb, hml, hown, hq⟩ (cc_Face_borderAt l D cT tt b1 b hb1 n σ p1 s_1 r_2 z_3) (cwV 1 hq (gb_gV w_593 w_595 s_1_7 w_1 w_596) rfl rfl rfl (by decide +kernel) ⟨Nat.le_of_ble_eq_true rfl, Nat.le_of_ble_eq_true rfl⟩) (gb_preV (r := (RX11, TX11, 10)) (ci := 9) (q0 := 0) hSt hP rfl (gb_at b rfl) hS (fun q h => Nat.le_trans hb1 h.1) hP) rfl rfl hl.1 rfl (lv_room (Nat.le_of_ble_eq_true rfl)) dX11_span_2 ⟨Nat.le_of_ble_eq_true rfl, Nat.le_of_ble_eq_true rfl⟩) hS (fun _ h => h) (fun _ h => h) (fun q_4 H locs hY hk hS => ?_)
  obtain ⟨hq_4, hP⟩ := hY
  subst hq_4
  rw [gb_onv]
  by_cases c_5 : r_2 = 0
  · rw [if_pos c_5] at h
    rw [gb_nv0 c_5]
    refine lv_astoreN (lv' := [(5, .null), (0, .ref (b + 0)), (1, .int p1), (2, .int p2), (3, .int p3), (4, .int p4)]) hx hb dX11_span_5 hl (by decide) rfl (fun ls hl => ?_)
    refine lv_aloadN hx hb dX11_span_7 (lv_at hl 0 rfl) ?_
    refine lv_ifnullN (tgt := 34) hx hb dX11_span_9 (by decide) ?_
    refine lv_iconst (v := (-1)) hx hb dX11_span_34 (by decide) ?_
    obtain ⟨e1, e2⟩ := gb_eq2 h
    exact W.iret (v := (-1)) hx hb hr (fun t ht hW => gb_ri ht ⟨e2, by rw [← e1]; exact hP⟩ hS) hS.2.2 dX11_span_35
  rw [if_neg c_5] at h
  rw [gb_nv1 c_5]
  obtain ⟨z_6, h⟩ := gb_kk_s h
  refine lv_astore (lv' := [(5, .ref (b + r_2)), (0, .ref (b + 0)), (1, .int p1), (2, .int p2), (3, .int p3), (4, .int p4)]) hx hb dX11_span_5 hl (by decide) rfl (fun ls hl => ?_)
  refine lv_aload hx hb dX11_span_7 (lv_at hl 0 rfl) ?_
  refine lv_ifnull hx hb dX11_span_9 ?_
  refine lv_aload hx hb dX11_span_12 (lv_at hl 0 rfl) ?_
  refine lv_iload_n hx hb dX11_span_14 rfl (lv_at hl 3 rfl) ?_
  obtain ⟨s_7, r_8, z_9, h⟩ := gb_cd_s h
  refine gb_calli (va_runV (C := RX0) (As := [.int p2]) (rest := []) ⟨hx, hb, hml, hown, hq⟩ (cc_Border_hasPath_B l D cT tt b1 b hb1 n s_1 r_2 p2 s_7 r_8 z_9) (cwV 1 hq (gb_gV w_620 w_608 w_609 w_4 w_610) rfl rfl rfl (by decide +kernel) ⟨Nat.le_of_ble_eq_true rfl, Nat.le_of_ble_eq_true rfl⟩) (gb_preV (r := (RX0, TX0, 1)) (ci := 0) (q0 := r_2) hSt hP rfl (gb_at b (gb_cB z_6).1) hS (fun q h => Nat.le_trans hb1 h.1) hP) rfl rfl hl.1 rfl (lv_room (Nat.le_of_ble_eq_true rfl)) dX11_span_15 ⟨Nat.le_of_ble_eq_true rfl, Nat.le_of_ble_eq_true rfl⟩) hS (fun _ h => h) (fun _ h => h) (fun q_10 H locs hY hk hS => ?_)
  obtain ⟨hq_10, hP⟩ := hY
  replace hq_10 := hq_10.symm
  subst hq_10
  refine lv_if_eq (tgt := 34) hx hb dX11_span_18 (by decide) (fun c_11 => ?_) (fun c_11 => ?_)
  · rw [if_pos c_11] at h
    refine lv_iconst (v := (-1)) hx hb dX11_span_34 (by decide) ?_
    obtain ⟨e1, e2⟩ := gb_eq2 h
    exact W.iret (v := (-1)) hx hb hr (fun t ht hW => gb_ri ht ⟨e2, by rw [← e1]; exact hP⟩ hS) hS.2.2 dX11_span_35
  · rw [if_neg c_11] at h
    refine lv_iload_n hx hb dX11_span_21 rfl (lv_at hl 4 rfl) ?_
    refine lv_if_lt (tgt := 34) hx hb dX11_span_22 (by decide) (fun c_12 => ?_) (fun c_12 => ?_)
    · rw [if_pos c_12] at h
      refine lv_iconst (v := (-1)) hx hb dX11_span_34 (by decide) ?_
      obtain ⟨e1, e2⟩ := gb_eq2 h
      exact W.iret (v := (-1)) hx hb hr (fun t ht hW => gb_ri ht ⟨e2, by rw [← e1]; exact hP⟩ hS) hS.2.2 dX11_span_35
    · rw [if_neg c_12] at h
      refine lv_iload_n hx hb dX11_span_25 rfl (lv_at hl 4 rfl) ?_
      refine lv_aload hx hb dX11_span_26 (lv_at hl 0 rfl) ?_
      obtain ⟨s_13, r_14, z_15, h⟩ := gb_cd_s h
      refine gb_calli (va_runV (C := RX0) (As := []) (rest := [.int p3]) ⟨hx, hb, hml, hown, hq⟩ (cc_Border_geese_B l D cT tt b1 b hb1 n s_7 r_2 s_13 r_14 z_15) (cwV 0 hq (gb_gV w_598 w_477 w_478 w_4 w_479) rfl rfl rfl (by decide +kernel) ⟨Nat.le_of_ble_eq_true rfl, Nat.le_of_ble_eq_true rfl⟩) (gb_preV (r := (RX0, TX0, 1)) (ci := 0) (q0 := r_2) hSt hP rfl (gb_at b (gb_cB z_6).1) hS (fun q h => Nat.le_trans hb1 h.1) hP) rfl rfl hl.1 rfl (lv_room (Nat.le_of_ble_eq_true rfl)) dX11_span_28 ⟨Nat.le_of_ble_eq_true rfl, Nat.le_of_ble_eq_true rfl⟩) hS (fun _ h => h) (fun _ h => h) (fun q_16 H locs hY hk hS => ?_)
      obtain ⟨hq_16, hP⟩ := hY
      replace hq_16 := hq_16.symm
      subst hq_16
      refine lv_icmp_le (tgt := 36) hx hb dX11_span_31 (by decide) (fun c_17 => ?_) (fun c_17 => ?_)
      · rw [if_pos c_17] at h
        refine lv_aload_n hx hb dX11_span_36 rfl (lv_at hl 1 rfl) ?_
        refine va_get (ci := 9) (v := (.ref (b + 130))) (C := RX11) (T := TX11) (N := 10) hx hb hq i_X11 hown hK hP 0 (gb_at b rfl) rfl 8 (by decide) (hq _ w_323) (fun _ h9 => h9) rfl dX11_span_37 ?_
        refine lv_aload hx hb dX11_span_40 (lv_at hl 0 rfl) ?_
        refine lv_iload_n hx hb dX11_span_42 rfl (lv_at hl 3 rfl) ?_
        refine lv_iload_n hx hb dX11_span_43 rfl (lv_at hl 4 rfl) ?_
        refine lv_iload hx hb dX11_span_44 (lv_at hl 5 rfl) ?_
        obtain ⟨s_18, r_19, z_20, h⟩ := gb_cd_s h
        refine gb_calli (va_runV (C := RX2) (As := [.ref (b + r_2), .int p2, .int p3, .int p4]) (rest := []) ⟨hx, hb, hml, hown, hq⟩ (cc_Flocks_marksOfAny_B l D cT tt b1 b hb1 n s_13 r_2 p2 p3 p4 s_18 r_19 z_20) (cwV 4 hq (gb_gV w_978 w_979 w_980 w_13 w_981) rfl rfl rfl (by decide +kernel) ⟨Nat.le_of_ble_eq_true rfl, Nat.le_of_ble_eq_true rfl⟩) (gb_preV (r := (RX2, TX2, 6)) (ci := 2) (q0 := 130) hSt hP rfl (gb_at b rfl) hS (fun q h => Nat.le_trans hb1 h.1) hP) rfl rfl hl.1 rfl (lv_room (Nat.le_of_ble_eq_true rfl)) dX11_span_46 ⟨Nat.le_of_ble_eq_true rfl, Nat.le_of_ble_eq_true rfl⟩) hS (fun _ h => h) (fun _ h => h) (fun q_21 H locs hY hk hS => ?_)
        obtain ⟨hq_21, hP⟩ := hY
        replace hq_21 := hq_21.symm
        subst hq_21
        obtain ⟨e1, e2⟩ := gb_eq2 h
        exact W.iret (v := r_19) hx hb hr (fun t ht hW => gb_ri ht ⟨e2, by rw [← e1]; exact hP⟩ hS) hS.2.2 dX11_span_49
      · rw [if_neg c_17] at h
        refine lv_iconst (v := (-1)) hx hb dX11_span_34 (by decide) ?_
        obtain ⟨e1, e2⟩ := gb_eq2 h
        exact W.iret (v := (-1)) hx hb hr (fun t ht hW => gb_ri ht ⟨e2, by rw [← e1]; exact hP⟩ hS) hS.2.2 dX11_span_35
theorem dX11_split_0 : decode cX11_split 0 = .ok (.aload_n 0, 1) := dc_42 (show ((cX11_split.data.toList.drop 0).take 1).map UInt8.toNat = [42] by decide +kernel)
theorem dX11_split_1 : decode cX11_split 1 = .ok (.iload_n 1, 1) := dc_27 (show ((cX11_split.data.toList.drop 1).take 1).map UInt8.toNat = [27] by decide +kernel)
theorem dX11_split_2 : decode cX11_split 2 = .ok (.invokevirtual 113, 3) := dc_182 (show ((cX11_split.data.toList.drop 2).take 3).map UInt8.toNat = [182, 0, 113] by decide +kernel) rfl
theorem dX11_split_5 : decode cX11_split 5 = .ok (.astore 5, 2) := dc_58 (show ((cX11_split.data.toList.drop 5).take 2).map UInt8.toNat = [58, 5] by decide +kernel) rfl
theorem dX11_split_7 : decode cX11_split 7 = .ok (.aload 5, 2) := dc_25 (show ((cX11_split.data.toList.drop 7).take 2).map UInt8.toNat = [25, 5] by decide +kernel) rfl
theorem dX11_split_9 : decode cX11_split 9 = .ok (.ifnull 26, 3) := dc_198 (show ((cX11_split.data.toList.drop 9).take 3).map UInt8.toNat = [198, 0, 26] by decide +kernel) rfl
theorem dX11_split_35 : decode cX11_split 35 = .ok (.iconst (-1), 1) := dc_2 (show ((cX11_split.data.toList.drop 35).take 1).map UInt8.toNat = [2] by decide +kernel)
theorem dX11_split_36 : decode cX11_split 36 = .ok (.ireturn, 1) := dc_172 (show ((cX11_split.data.toList.drop 36).take 1).map UInt8.toNat = [172] by decide +kernel)
theorem dX11_split_12 : decode cX11_split 12 = .ok (.iload_n 2, 1) := dc_28 (show ((cX11_split.data.toList.drop 12).take 1).map UInt8.toNat = [28] by decide +kernel)
theorem dX11_split_13 : decode cX11_split 13 = .ok (.iload_n 3, 1) := dc_29 (show ((cX11_split.data.toList.drop 13).take 1).map UInt8.toNat = [29] by decide +kernel)
theorem dX11_split_14 : decode cX11_split 14 = .ok (.if_icmp .eq 21, 3) := dc_159 (show ((cX11_split.data.toList.drop 14).take 3).map UInt8.toNat = [159, 0, 21] by decide +kernel) rfl
theorem dX11_split_17 : decode cX11_split 17 = .ok (.aload 5, 2) := dc_25 (show ((cX11_split.data.toList.drop 17).take 2).map UInt8.toNat = [25, 5] by decide +kernel) rfl
theorem dX11_split_19 : decode cX11_split 19 = .ok (.iload_n 2, 1) := dc_28 (show ((cX11_split.data.toList.drop 19).take 1).map UInt8.toNat = [28] by decide +kernel)
theorem dX11_split_20 : decode cX11_split 20 = .ok (.invokevirtual 135, 3) := dc_182 (show ((cX11_split.data.toList.drop 20).take 3).map UInt8.toNat = [182, 0, 135] by decide +kernel) rfl
theorem dX11_split_23 : decode cX11_split 23 = .ok (.ifCond .eq 12, 3) := dc_153 (show ((cX11_split.data.toList.drop 23).take 3).map UInt8.toNat = [153, 0, 12] by decide +kernel) rfl
theorem dX11_split_26 : decode cX11_split 26 = .ok (.aload 5, 2) := dc_25 (show ((cX11_split.data.toList.drop 26).take 2).map UInt8.toNat = [25, 5] by decide +kernel) rfl
theorem dX11_split_28 : decode cX11_split 28 = .ok (.iload_n 3, 1) := dc_29 (show ((cX11_split.data.toList.drop 28).take 1).map UInt8.toNat = [29] by decide +kernel)
theorem dX11_split_29 : decode cX11_split 29 = .ok (.invokevirtual 135, 3) := dc_182 (show ((cX11_split.data.toList.drop 29).take 3).map UInt8.toNat = [182, 0, 135] by decide +kernel) rfl
theorem dX11_split_32 : decode cX11_split 32 = .ok (.ifCond .ne 5, 3) := dc_154 (show ((cX11_split.data.toList.drop 32).take 3).map UInt8.toNat = [154, 0, 5] by decide +kernel) rfl
theorem dX11_split_37 : decode cX11_split 37 = .ok (.aload_n 0, 1) := dc_42 (show ((cX11_split.data.toList.drop 37).take 1).map UInt8.toNat = [42] by decide +kernel)
theorem dX11_split_38 : decode cX11_split 38 = .ok (.getfield 70, 3) := dc_180 (show ((cX11_split.data.toList.drop 38).take 3).map UInt8.toNat = [180, 0, 70] by decide +kernel) rfl
theorem dX11_split_41 : decode cX11_split 41 = .ok (.aload 5, 2) := dc_25 (show ((cX11_split.data.toList.drop 41).take 2).map UInt8.toNat = [25, 5] by decide +kernel) rfl
theorem dX11_split_43 : decode cX11_split 43 = .ok (.iload_n 2, 1) := dc_28 (show ((cX11_split.data.toList.drop 43).take 1).map UInt8.toNat = [28] by decide +kernel)
theorem dX11_split_44 : decode cX11_split 44 = .ok (.iload_n 3, 1) := dc_29 (show ((cX11_split.data.toList.drop 44).take 1).map UInt8.toNat = [29] by decide +kernel)
theorem dX11_split_45 : decode cX11_split 45 = .ok (.invokevirtual 324, 3) := dc_182 (show ((cX11_split.data.toList.drop 45).take 3).map UInt8.toNat = [182, 1, 68] by decide +kernel) rfl
theorem dX2_evenest_0 : decode cX2_evenest 0 = .ok (.aload_n 0, 1) := dc_42 (show ((cX2_evenest.data.toList.drop 0).take 1).map UInt8.toNat = [42] by decide +kernel)
theorem dX2_evenest_1 : decode cX2_evenest 1 = .ok (.aload_n 1, 1) := dc_43 (show ((cX2_evenest.data.toList.drop 1).take 1).map UInt8.toNat = [43] by decide +kernel)
theorem dX2_evenest_2 : decode cX2_evenest 2 = .ok (.iload_n 2, 1) := dc_28 (show ((cX2_evenest.data.toList.drop 2).take 1).map UInt8.toNat = [28] by decide +kernel)
theorem dX2_evenest_3 : decode cX2_evenest 3 = .ok (.aload_n 0, 1) := dc_42 (show ((cX2_evenest.data.toList.drop 3).take 1).map UInt8.toNat = [42] by decide +kernel)
theorem dX2_evenest_4 : decode cX2_evenest 4 = .ok (.getfield 9, 3) := dc_180 (show ((cX2_evenest.data.toList.drop 4).take 3).map UInt8.toNat = [180, 0, 9] by decide +kernel) rfl
theorem dX2_evenest_7 : decode cX2_evenest 7 = .ok (.invokevirtual 39, 3) := dc_182 (show ((cX2_evenest.data.toList.drop 7).take 3).map UInt8.toNat = [182, 0, 39] by decide +kernel) rfl
theorem dX2_evenest_10 : decode cX2_evenest 10 = .ok (.aload_n 0, 1) := dc_42 (show ((cX2_evenest.data.toList.drop 10).take 1).map UInt8.toNat = [42] by decide +kernel)
theorem dX2_evenest_11 : decode cX2_evenest 11 = .ok (.aload_n 1, 1) := dc_43 (show ((cX2_evenest.data.toList.drop 11).take 1).map UInt8.toNat = [43] by decide +kernel)
theorem dX2_evenest_12 : decode cX2_evenest 12 = .ok (.iload_n 3, 1) := dc_29 (show ((cX2_evenest.data.toList.drop 12).take 1).map UInt8.toNat = [29] by decide +kernel)
theorem dX2_evenest_13 : decode cX2_evenest 13 = .ok (.aload_n 0, 1) := dc_42 (show ((cX2_evenest.data.toList.drop 13).take 1).map UInt8.toNat = [42] by decide +kernel)
theorem dX2_evenest_14 : decode cX2_evenest 14 = .ok (.getfield 15, 3) := dc_180 (show ((cX2_evenest.data.toList.drop 14).take 3).map UInt8.toNat = [180, 0, 15] by decide +kernel) rfl
theorem dX2_evenest_17 : decode cX2_evenest 17 = .ok (.invokevirtual 39, 3) := dc_182 (show ((cX2_evenest.data.toList.drop 17).take 3).map UInt8.toNat = [182, 0, 39] by decide +kernel) rfl
def cs_Flocks_sumUp_B_c132_44 (n : Nat) (k17 : gb_S → Nat → Int32 → Int32 → gb_CR Unit) : Nat → gb_S → Nat → Int32 → Int32 → Int32 → Int32 → Int32 → gb_CR Unit
  | 0, _, _, _, _, _, _, _ => none
  | mm + 1, σ, v1, v2, v4, v5, v6, v7 => gb_kk (gb_kB v1) ((if v6 ≤ v7 then gb_lt (v4 + 1) (fun x_21 => k17 σ v1 v2 x_21) else gb_ck v7 256 (gb_lt ((σ.1 132) (Int32.toNatClampNeg v7)) (fun x_23 => gb_ck (v6 + v7) 256 (gb_lt (gb_su σ 132 (upd (σ.1 132) (Int32.toNatClampNeg (v6 + v7)) (x_23 + v5))) (fun s_25 => gb_lt (v7 + 1) (fun x_26 => cs_Flocks_sumUp_B_c132_44 n k17 mm s_25 v1 v2 v4 v5 v6 x_26)))))))
def cs_Flocks_sumUp_B_c132_17 (n : Nat) : Nat → gb_S → Nat → Int32 → Int32 → gb_CR Unit
  | 0, _, _, _, _ => none
  | mm + 1, σ, v1, v2, v4 => gb_kk (gb_kB v1) (gb_cd (cs_Border_geese_B n σ v1) (fun s_9 r_10 => (if r_10 ≤ v4 then some (s_9, ()) else gb_cd (cs_Border_marksFirst_B n s_9 v1 v4 v2) (fun s_14 r_15 => gb_lt ((1 : Int32) <<< (v4 &&& 31)) (fun x_18 => cs_Flocks_sumUp_B_c132_44 n (fun σ v1 v2 v4 => cs_Flocks_sumUp_B_c132_17 n mm σ v1 v2 v4) n s_14 v1 v2 v4 r_15 x_18 0)))))
def cs_Flocks_sumUp_B_c132 (n : Nat) (σ : gb_S) (p1 : Nat) (p2 : Int32) : gb_CR Unit := gb_kk (gb_kB p1) (gb_cd (cs_Border_geese_B n σ p1) (fun s_2 r_3 => gb_lt (gb_su s_2 130 (upd (s_2.1 130) 4 ((1 : Int32) <<< (r_3 &&& 31)))) (fun s_6 => gb_lt (gb_su s_6 132 (upd (s_6.1 132) (Int32.toNatClampNeg 0) 0)) (fun s_7 => cs_Flocks_sumUp_B_c132_17 n n s_7 p1 p2 0))))
set_option maxHeartbeats 8000000 in
set_option maxRecDepth 100000 in
theorem cc_Flocks_sumUp_B_c132 (l : Launch) (D : va_G) (cT : Nat → ClassId) (tt : Nat → Nat) (b1 b : Nat) (hb1 : b1 ≤ b) (n : Nat) (σ : gb_S) (p1 : Nat) (p2 : Int32) (σE : gb_S) (rE : Unit) (h : cs_Flocks_sumUp_B_c132 n σ p1 p2 = some (σE, rE)) : Met l yX2_sumUp (.code yX2_sumUp cX2_sumUp 8 none :: gb_wA) ({ frames := 3, cells := 0, slots := 0, locals := 70 }) (gb_Pc D cT tt b1 [.ref (b + 130), .ref (b + p1), .int p2, .ref (b + 132)] (fun h => va_P D vwCl (gb_wl b (gb_CW cT b σ)) h)) (gb_Qv (fun h => va_P D vwCl (gb_wl b (gb_CW cT b σE)) h) (gb_fr b 135)) 0 0 (gb_fr b 135) := by
  refine Met.ofW (cc := cX2_sumUp) (maxL := 8) (ret := none) (by decide) rfl ?_
  intro p e s m args below meth c s₁ B hml hv
  obtain ⟨rfl, hSt, hP⟩ := hv
  have hx := B.exec
  have hb := B.bytes
  have hr := B.returns
  have hts := atoms_spec (ws := .code yX2_sumUp cX2_sumUp 8 none :: gb_wA) B.pre
  have hq : ∀ w ∈ gb_wA, w.before _ s = true := fun w h => hts w (List.mem_cons_of_mem _ h)
  have hown : s.vm.findClass RX2 = some m.cls := findClass_of_methodNamed B.named
  have hlocks := B.notSynchronized
  clear B hts
  have hK := hSt.1
  have hS : va_S (gb_fr b 135) s.heap s.heap [] := va_S.rf
  have hl := lv_entry ([.ref (b + 130), .ref (b + p1), .int p2, .ref (b + 132)]) (n := 8) (Nat.le_of_ble_eq_true rfl)
  rw [lg_entry_eq]
  generalize (lg_sl ([.ref (b + 130), .ref (b + p1), .int p2, .ref (b + 132)]) ++ List.replicate (8 - (lg_sl ([.ref (b + 130), .ref (b + p1), .int p2, .ref (b + 132)])).length) Slot.unset).toArray = ls at hl ⊢
  replace hl : lv_has ls 8 [(0, .ref (b + 130)), (1, .ref (b + p1)), (2, .int p2), (3, .ref (b + 132))] := hl
  have L44_2 : ∀ (k17 : gb_S → Nat → Int32 → Int32 → gb_CR Unit) (hk17 : ∀ (σ : gb_S) (v1 : Nat) (v2 : Int32) (v4 : Int32) (H : Heap) (locs : List Loc) (ls : Array Slot), k17 σ v1 v2 v4 = some (σE, rE) → va_P D vwCl (gb_wl b (gb_CW cT b σ)) H → va_S (gb_fr b 135) s.heap H locs → lv_has ls 8 [(1, .ref (b + v1)), (2, .int v2), (3, .ref (b + 132)), (4, .int v4)] → W p l e (headSpec (.code yX2_sumUp cX2_sumUp 8 none :: gb_wA) ({ frames := 3, cells := 0, slots := 0, locals := 70 })).room s m ([.ref (b + 130), .ref (b + p1), .int p2, .ref (b + 132)]).toArray below meth c H locs 0 0 (MQ below (gb_Qv (fun h => va_P D vwCl (gb_wl b (gb_CW cT b σE)) h) (gb_fr b 135)) ([.ref (b + 130), .ref (b + p1), .int p2, .ref (b + 132)]).toArray s 0 0 (gb_fr b 135)) (F0 m 17 ls [])) (mm : Nat) (σ : gb_S) (v1 : Nat) (v2 : Int32) (v4 : Int32) (v5 : Int32) (v6 : Int32) (v7 : Int32) (H : Heap) (locs : List Loc) (ls : Array Slot), cs_Flocks_sumUp_B_c132_44 n k17 mm σ v1 v2 v4 v5 v6 v7 = some (σE, rE) → va_P D vwCl (gb_wl b (gb_CW cT b σ)) H → va_S (gb_fr b 135) s.heap H locs → lv_has ls 8 [(1, .ref (b + v1)), (2, .int v2), (3, .ref (b + 132)), (4, .int v4), (5, .int v5), (6, .int v6), (7, .int v7)] → W p l e (headSpec (.code yX2_sumUp cX2_sumUp 8 none :: gb_wA) ({ frames := 3, cells := 0, slots := 0, locals := 70 })).room s m ([.ref (b + 130), .ref (b + p1), .int p2, .ref (b + 132)]).toArray below meth c H locs 0 0 (MQ below (gb_Qv (fun h => va_P D vwCl (gb_wl b (gb_CW cT b σE)) h) (gb_fr b 135)) ([.ref (b + 130), .ref (b + p1), .int p2, .ref (b + 132)]).toArray s 0 0 (gb_fr b 135)) (F0 m 44 ls []) := by
    clear h hP hS hl ls
    intro k17 hk17 mm
    induction mm with
    | zero =>
      intro σ v1 v2 v4 v5 v6 v7 H locs ls h
      cases h
    | succ mm ih =>
      intro σ v1 v2 v4 v5 v6 v7 H locs ls h hP hS hl
      rw [cs_Flocks_sumUp_B_c132_44] at h
      obtain ⟨z_19, h⟩ := gb_kk_s h
      refine lv_iload hx hb dX2_sumUp_44 (lv_at hl 6 rfl) ?_
      refine lv_iload hx hb dX2_sumUp_46 (lv_at hl 5 rfl) ?_
      refine lv_icmp_ge (tgt := 71) hx hb dX2_sumUp_48 (by decide) (fun c_20 => ?_) (fun c_20 => ?_)
      · rw [if_pos c_20] at h
        obtain ⟨x_21, ex_21⟩ : ∃ q, q = (v4 + 1) := ⟨_, rfl⟩
        replace h := gb_lt_s ex_21 h
        refine lv_iinc (v := x_21) (lv' := [(4, .int x_21), (1, .ref (b + v1)), (2, .int v2), (3, .ref (b + 132)), (5, .int v5), (6, .int v6), (7, .int v7)]) hx hb dX2_sumUp_71 hl (k := 3) rfl (by rw [ex_21]; rfl) (by decide) rfl (fun ls hl => ?_)
        refine lv_goto (tgt := 17) hx hb dX2_sumUp_74 (by decide) ?_
        exact hk17 _ _ _ _ _ _ _ h hP hS (lv_sub hl [1, 2, 3, 0] rfl)
      · rw [if_neg c_20] at h
        refine lv_aload_n hx hb dX2_sumUp_51 rfl (lv_at hl 2 rfl) ?_
        refine lv_iload hx hb dX2_sumUp_52 (lv_at hl 5 rfl) ?_
        refine lv_iload hx hb dX2_sumUp_54 (lv_at hl 6 rfl) ?_
        refine lv_iadd hx hb dX2_sumUp_56 ?_
        refine lv_aload_n hx hb dX2_sumUp_57 rfl (lv_at hl 2 rfl) ?_
        refine lv_iload hx hb dX2_sumUp_58 (lv_at hl 6 rfl) ?_
        obtain ⟨z_22, h⟩ := gb_ck_s h
        refine va_iald hx hb hK hP 132 0 (gb_at b rfl) rfl z_22 dX2_sumUp_60 ?_
        refine lv_topi (fun x_23 ex_23 => ?_)
        replace h := gb_lt_s ex_23 h
        refine lv_iload hx hb dX2_sumUp_61 (lv_at hl 4 rfl) ?_
        refine lv_iadd hx hb dX2_sumUp_63 ?_
        obtain ⟨z_24, h⟩ := gb_ck_s h
        refine va_iast (x := (x_23 + v5)) hx hb hK hP (gb_D (fun k h => ⟨Nat.le_add_right b k, Nat.add_lt_add_left h b⟩)) hS 132 0 (gb_at b rfl) rfl z_24 dX2_sumUp_64 (fun H locs hP hD hS => ?_)
        rw [gb_set] at hP
        obtain ⟨s_25, es_25⟩ : ∃ q, q = (gb_su σ 132 (upd (σ.1 132) (Int32.toNatClampNeg (v6 + v7)) (x_23 + v5))) := ⟨_, rfl⟩
        replace hP : va_P D vwCl (gb_wl b (gb_CW cT b s_25)) H := by rw [es_25]; exact hP
        replace h := gb_lt_s es_25 h
        obtain ⟨x_26, ex_26⟩ : ∃ q, q = (v7 + 1) := ⟨_, rfl⟩
        replace h := gb_lt_s ex_26 h
        refine lv_iinc (v := x_26) (lv' := [(7, .int x_26), (1, .ref (b + v1)), (2, .int v2), (3, .ref (b + 132)), (4, .int v4), (5, .int v5), (6, .int v6)]) hx hb dX2_sumUp_65 hl (k := 6) rfl (by rw [ex_26]; rfl) (by decide) rfl (fun ls hl => ?_)
        refine lv_goto (tgt := 44) hx hb dX2_sumUp_68 (by decide) ?_
        exact ih _ _ _ _ _ _ _ _ _ _ h hP hS (lv_sub hl [1, 2, 3, 4, 5, 6, 0] rfl)
  have L17_1 : ∀ (mm : Nat) (σ : gb_S) (v1 : Nat) (v2 : Int32) (v4 : Int32) (H : Heap) (locs : List Loc) (ls : Array Slot), cs_Flocks_sumUp_B_c132_17 n mm σ v1 v2 v4 = some (σE, rE) → va_P D vwCl (gb_wl b (gb_CW cT b σ)) H → va_S (gb_fr b 135) s.heap H locs → lv_has ls 8 [(1, .ref (b + v1)), (2, .int v2), (3, .ref (b + 132)), (4, .int v4)] → W p l e (headSpec (.code yX2_sumUp cX2_sumUp 8 none :: gb_wA) ({ frames := 3, cells := 0, slots := 0, locals := 70 })).room s m ([.ref (b + 130), .ref (b + p1), .int p2, .ref (b + 132)]).toArray below meth c H locs 0 0 (MQ below (gb_Qv (fun h => va_P D vwCl (gb_wl b (gb_CW cT b σE)) h) (gb_fr b 135)) ([.ref (b + 130), .ref (b + p1), .int p2, .ref (b + 132)]).toArray s 0 0 (gb_fr b 135)) (F0 m 17 ls []) := by
    clear h hP hS hl ls
    intro mm
    induction mm with
    | zero =>
      intro σ v1 v2 v4 H locs ls h
      cases h
    | succ mm ih =>
      intro σ v1 v2 v4 H locs ls h hP hS hl
      rw [cs_Flocks_sumUp_B_c132_17] at h
      obtain ⟨z_8, h⟩ := gb_kk_s h
      refine lv_iload hx hb dX2_sumUp_17 (lv_at hl 3 rfl) ?_
      refine lv_aload_n hx hb dX2_sumUp_19 rfl (lv_at hl 0 rfl) ?_
      obtain ⟨s_9, r_10, z_11, h⟩ := gb_cd_s h
      refine gb_calli (va_runV (C := RX0) (As := []) (rest := [.int v4]) ⟨hx, hb, hml, hown, hq⟩ (cc_Border_geese_B l D cT tt b1 b hb1 n σ v1 s_9 r_10 z_11) (cwV 0 hq (gb_gV w_986 w_477 w_478 w_4 w_479) rfl rfl rfl (by decide +kernel) ⟨Nat.le_of_ble_eq_true rfl, Nat.le_of_ble_eq_true rfl⟩) (gb_preV (r := (RX0, TX0, 1)) (ci := 0) (q0 := v1) hSt hP rfl (gb_at b (gb_cB z_8).1) hS (fun q h => Nat.le_trans hb1 h.1) hP) rfl rfl hl.1 rfl (lv_room (Nat.le_of_ble_eq_true rfl)) dX2_sumUp_20 ⟨Nat.le_of_ble_eq_true rfl, Nat.le_of_ble_eq_true rfl⟩) hS (fun _ h => h) (fun _ h => h) (fun q_12 H locs hY hk hS => ?_)
      obtain ⟨hq_12, hP⟩ := hY
      replace hq_12 := hq_12.symm
      subst hq_12
      refine lv_icmp_ge (tgt := 77) hx hb dX2_sumUp_23 (by decide) (fun c_13 => ?_) (fun c_13 => ?_)
      · rw [if_pos c_13] at h
        obtain ⟨e1, -⟩ := gb_eq2 h
        exact W.vret hx hb hr (fun t ht hW => gb_rv ht (by rw [← e1]; exact hP) hS) hS.2.2 dX2_sumUp_77
      · rw [if_neg c_13] at h
        refine lv_aload_n hx hb dX2_sumUp_26 rfl (lv_at hl 0 rfl) ?_
        refine lv_iload hx hb dX2_sumUp_27 (lv_at hl 3 rfl) ?_
        refine lv_iload_n hx hb dX2_sumUp_29 rfl (lv_at hl 1 rfl) ?_
        obtain ⟨s_14, r_15, z_16, h⟩ := gb_cd_s h
        refine gb_calli (va_runV (C := RX0) (As := [.int v4, .int v2]) (rest := []) ⟨hx, hb, hml, hown, hq⟩ (cc_Border_marksFirst_B l D cT tt b1 b hb1 n s_9 v1 v4 v2 s_14 r_15 z_16) (cwV 2 hq (gb_gV w_987 w_899 w_900 w_4 w_901) rfl rfl rfl (by decide +kernel) ⟨Nat.le_of_ble_eq_true rfl, Nat.le_of_ble_eq_true rfl⟩) (gb_preV (r := (RX0, TX0, 1)) (ci := 0) (q0 := v1) hSt hP rfl (gb_at b (gb_cB z_8).1) hS (fun q h => Nat.le_trans hb1 h.1) hP) rfl rfl hl.1 rfl (lv_room (Nat.le_of_ble_eq_true rfl)) dX2_sumUp_30 ⟨Nat.le_of_ble_eq_true rfl, Nat.le_of_ble_eq_true rfl⟩) hS (fun _ h => h) (fun _ h => h) (fun q_17 H locs hY hk hS => ?_)
        obtain ⟨hq_17, hP⟩ := hY
        replace hq_17 := hq_17.symm
        subst hq_17
        refine lv_istore (lv' := [(5, .int r_15), (1, .ref (b + v1)), (2, .int v2), (3, .ref (b + 132)), (4, .int v4)]) hx hb dX2_sumUp_33 hl (by decide) rfl (fun ls hl => ?_)
        refine lv_iconst (v := 1) hx hb dX2_sumUp_35 (by decide) ?_
        refine lv_iload hx hb dX2_sumUp_36 (lv_at hl 4 rfl) ?_
        refine lv_ishl hx hb dX2_sumUp_38 ?_
        refine lv_topi (fun x_18 ex_18 => ?_)
        replace h := gb_lt_s ex_18 h
        refine lv_istore (lv' := [(6, .int x_18), (5, .int r_15), (1, .ref (b + v1)), (2, .int v2), (3, .ref (b + 132)), (4, .int v4)]) hx hb dX2_sumUp_39 hl (by decide) rfl (fun ls hl => ?_)
        refine lv_iconst (v := 0) hx hb dX2_sumUp_41 (by decide) ?_
        refine lv_istore (lv' := [(7, .int 0), (6, .int x_18), (5, .int r_15), (1, .ref (b + v1)), (2, .int v2), (3, .ref (b + 132)), (4, .int v4)]) hx hb dX2_sumUp_42 hl (by decide) rfl (fun ls hl => ?_)
        exact L44_2 _ ih n _ _ _ _ _ _ _ _ _ _ h hP hS (lv_sub hl [3, 4, 5, 6, 2, 1, 0] rfl)
  unfold cs_Flocks_sumUp_B_c132 at h
  obtain ⟨z_1, h⟩ := gb_kk_s h
  refine lv_aload_n hx hb dX2_sumUp_0 rfl (lv_at hl 0 rfl) ?_
  refine lv_iconst (v := 1) hx hb dX2_sumUp_1 (by decide) ?_
  refine lv_aload_n hx hb dX2_sumUp_2 rfl (lv_at hl 1 rfl) ?_
  obtain ⟨s_2, r_3, z_4, h⟩ := gb_cd_s h
  refine gb_calli (va_runV (C := RX0) (As := []) (rest := [.int 1, .ref (b + 130)]) ⟨hx, hb, hml, hown, hq⟩ (cc_Border_geese_B l D cT tt b1 b hb1 n σ p1 s_2 r_3 z_4) (cwV 0 hq (gb_gV w_986 w_477 w_478 w_4 w_479) rfl rfl rfl (by decide +kernel) ⟨Nat.le_of_ble_eq_true rfl, Nat.le_of_ble_eq_true rfl⟩) (gb_preV (r := (RX0, TX0, 1)) (ci := 0) (q0 := p1) hSt hP rfl (gb_at b (gb_cB z_1).1) hS (fun q h => Nat.le_trans hb1 h.1) hP) rfl rfl hl.1 rfl (lv_room (Nat.le_of_ble_eq_true rfl)) dX2_sumUp_3 ⟨Nat.le_of_ble_eq_true rfl, Nat.le_of_ble_eq_true rfl⟩) hS (fun _ h => h) (fun _ h => h) (fun q_5 H locs hY hk hS => ?_)
  obtain ⟨hq_5, hP⟩ := hY
  replace hq_5 := hq_5.symm
  subst hq_5
  refine lv_ishl hx hb dX2_sumUp_6 ?_
  refine gb_put (ci := 2) (v := (.int ((1 : Int32) <<< (r_3 &&& 31)))) (ty := .int) (C := RX2) (T := TX2) (N := 6) hx hb hq i_X2 tyX2 tyX2_ok nmX2 hown hK hP (fun k h => ⟨Nat.le_add_right b k, Nat.add_lt_add_left h b⟩) hS rfl 130 rfl rfl 4 (by decide) (hq _ w_298) (fun _ h9 => h9) rfl (by decide +kernel) rfl rfl (Nat.le_of_ble_eq_true rfl) dX2_sumUp_7 (fun H locs hP hz_ hS => ?_)
  obtain ⟨s_6, es_6⟩ : ∃ q, q = (gb_su s_2 130 (upd (s_2.1 130) 4 ((1 : Int32) <<< (r_3 &&& 31)))) := ⟨_, rfl⟩
  replace hP : va_P D vwCl (gb_wl b (gb_CW cT b s_6)) H := by rw [es_6]; exact hP
  replace h := gb_lt_s es_6 h
  refine lv_aload_n hx hb dX2_sumUp_10 rfl (lv_at hl 3 rfl) ?_
  refine lv_iconst (v := 0) hx hb dX2_sumUp_11 (by decide) ?_
  refine lv_iconst (v := 0) hx hb dX2_sumUp_12 (by decide) ?_
  refine va_iast (x := 0) hx hb hK hP (gb_D (fun k h => ⟨Nat.le_add_right b k, Nat.add_lt_add_left h b⟩)) hS 132 0 (gb_at b rfl) rfl (gb_in rfl) dX2_sumUp_13 (fun H locs hP hD hS => ?_)
  rw [gb_set] at hP
  obtain ⟨s_7, es_7⟩ : ∃ q, q = (gb_su s_6 132 (upd (s_6.1 132) (Int32.toNatClampNeg 0) 0)) := ⟨_, rfl⟩
  replace hP : va_P D vwCl (gb_wl b (gb_CW cT b s_7)) H := by rw [es_7]; exact hP
  replace h := gb_lt_s es_7 h
  refine lv_iconst (v := 0) hx hb dX2_sumUp_14 (by decide) ?_
  refine lv_istore (lv' := [(4, .int 0), (0, .ref (b + 130)), (1, .ref (b + p1)), (2, .int p2), (3, .ref (b + 132))]) hx hb dX2_sumUp_15 hl (by decide) rfl (fun ls hl => ?_)
  exact L17_1 n _ _ _ _ _ _ _ h hP hS (lv_sub hl [2, 3, 4, 0] rfl)
theorem dX2_evenest_20 : decode cX2_evenest 20 = .ok (.aload_n 0, 1) := dc_42 (show ((cX2_evenest.data.toList.drop 20).take 1).map UInt8.toNat = [42] by decide +kernel)
theorem dX2_evenest_21 : decode cX2_evenest 21 = .ok (.aload_n 0, 1) := dc_42 (show ((cX2_evenest.data.toList.drop 21).take 1).map UInt8.toNat = [42] by decide +kernel)
theorem dX2_evenest_22 : decode cX2_evenest 22 = .ok (.getfield 15, 3) := dc_180 (show ((cX2_evenest.data.toList.drop 22).take 3).map UInt8.toNat = [180, 0, 15] by decide +kernel) rfl
theorem dX2_evenest_25 : decode cX2_evenest 25 = .ok (.aload_n 0, 1) := dc_42 (show ((cX2_evenest.data.toList.drop 25).take 1).map UInt8.toNat = [42] by decide +kernel)
theorem dX2_evenest_26 : decode cX2_evenest 26 = .ok (.getfield 31, 3) := dc_180 (show ((cX2_evenest.data.toList.drop 26).take 3).map UInt8.toNat = [180, 0, 31] by decide +kernel) rfl
theorem dX2_evenest_29 : decode cX2_evenest 29 = .ok (.iconst 1, 1) := dc_4 (show ((cX2_evenest.data.toList.drop 29).take 1).map UInt8.toNat = [4] by decide +kernel)
theorem dX2_evenest_30 : decode cX2_evenest 30 = .ok (.isub, 1) := dc_100 (show ((cX2_evenest.data.toList.drop 30).take 1).map UInt8.toNat = [100] by decide +kernel)
theorem dX2_evenest_31 : decode cX2_evenest 31 = .ok (.iaload, 1) := dc_46 (show ((cX2_evenest.data.toList.drop 31).take 1).map UInt8.toNat = [46] by decide +kernel)
theorem dX2_evenest_32 : decode cX2_evenest 32 = .ok (.putfield 49, 3) := dc_181 (show ((cX2_evenest.data.toList.drop 32).take 3).map UInt8.toNat = [181, 0, 49] by decide +kernel) rfl
theorem w_299 : (Cond.fieldLink "GooseBorder$Flocks" (49 : Nat) "GooseBorder$Flocks" "apart" "I") ∈ gb_wA := gb_t2 59 rfl rfl
theorem dX2_evenest_35 : decode cX2_evenest 35 = .ok (.iconst 0, 1) := dc_3 (show ((cX2_evenest.data.toList.drop 35).take 1).map UInt8.toNat = [3] by decide +kernel)
theorem dX2_evenest_36 : decode cX2_evenest 36 = .ok (.istore 4, 2) := dc_54 (show ((cX2_evenest.data.toList.drop 36).take 2).map UInt8.toNat = [54, 4] by decide +kernel) rfl
theorem dX2_evenest_38 : decode cX2_evenest 38 = .ok (.iconst 1, 1) := dc_4 (show ((cX2_evenest.data.toList.drop 38).take 1).map UInt8.toNat = [4] by decide +kernel)
theorem dX2_evenest_39 : decode cX2_evenest 39 = .ok (.istore 5, 2) := dc_54 (show ((cX2_evenest.data.toList.drop 39).take 2).map UInt8.toNat = [54, 5] by decide +kernel) rfl
theorem dX2_evenest_41 : decode cX2_evenest 41 = .ok (.iload 5, 2) := dc_21 (show ((cX2_evenest.data.toList.drop 41).take 2).map UInt8.toNat = [21, 5] by decide +kernel) rfl
theorem dX2_evenest_43 : decode cX2_evenest 43 = .ok (.aload_n 0, 1) := dc_42 (show ((cX2_evenest.data.toList.drop 43).take 1).map UInt8.toNat = [42] by decide +kernel)
theorem dX2_evenest_44 : decode cX2_evenest 44 = .ok (.getfield 31, 3) := dc_180 (show ((cX2_evenest.data.toList.drop 44).take 3).map UInt8.toNat = [180, 0, 31] by decide +kernel) rfl
theorem dX2_evenest_47 : decode cX2_evenest 47 = .ok (.if_icmp .ge 55, 3) := dc_162 (show ((cX2_evenest.data.toList.drop 47).take 3).map UInt8.toNat = [162, 0, 55] by decide +kernel) rfl
theorem dX2_evenest_102 : decode cX2_evenest 102 = .ok (.iload 4, 2) := dc_21 (show ((cX2_evenest.data.toList.drop 102).take 2).map UInt8.toNat = [21, 4] by decide +kernel) rfl
theorem dX2_evenest_104 : decode cX2_evenest 104 = .ok (.ireturn, 1) := dc_172 (show ((cX2_evenest.data.toList.drop 104).take 1).map UInt8.toNat = [172] by decide +kernel)
theorem dX2_evenest_50 : decode cX2_evenest 50 = .ok (.aload_n 0, 1) := dc_42 (show ((cX2_evenest.data.toList.drop 50).take 1).map UInt8.toNat = [42] by decide +kernel)
theorem dX2_evenest_51 : decode cX2_evenest 51 = .ok (.getfield 9, 3) := dc_180 (show ((cX2_evenest.data.toList.drop 51).take 3).map UInt8.toNat = [180, 0, 9] by decide +kernel) rfl
theorem dX2_evenest_54 : decode cX2_evenest 54 = .ok (.iload 5, 2) := dc_21 (show ((cX2_evenest.data.toList.drop 54).take 2).map UInt8.toNat = [21, 5] by decide +kernel) rfl
theorem dX2_evenest_56 : decode cX2_evenest 56 = .ok (.iaload, 1) := dc_46 (show ((cX2_evenest.data.toList.drop 56).take 1).map UInt8.toNat = [46] by decide +kernel)
theorem dX2_evenest_57 : decode cX2_evenest 57 = .ok (.aload_n 0, 1) := dc_42 (show ((cX2_evenest.data.toList.drop 57).take 1).map UInt8.toNat = [42] by decide +kernel)
theorem dX2_evenest_58 : decode cX2_evenest 58 = .ok (.getfield 15, 3) := dc_180 (show ((cX2_evenest.data.toList.drop 58).take 3).map UInt8.toNat = [180, 0, 15] by decide +kernel) rfl
theorem dX2_evenest_61 : decode cX2_evenest 61 = .ok (.aload_n 0, 1) := dc_42 (show ((cX2_evenest.data.toList.drop 61).take 1).map UInt8.toNat = [42] by decide +kernel)
theorem dX2_evenest_62 : decode cX2_evenest 62 = .ok (.getfield 31, 3) := dc_180 (show ((cX2_evenest.data.toList.drop 62).take 3).map UInt8.toNat = [180, 0, 31] by decide +kernel) rfl
theorem dX2_evenest_65 : decode cX2_evenest 65 = .ok (.iconst 1, 1) := dc_4 (show ((cX2_evenest.data.toList.drop 65).take 1).map UInt8.toNat = [4] by decide +kernel)
theorem dX2_evenest_66 : decode cX2_evenest 66 = .ok (.isub, 1) := dc_100 (show ((cX2_evenest.data.toList.drop 66).take 1).map UInt8.toNat = [100] by decide +kernel)
theorem dX2_evenest_67 : decode cX2_evenest 67 = .ok (.iload 5, 2) := dc_21 (show ((cX2_evenest.data.toList.drop 67).take 2).map UInt8.toNat = [21, 5] by decide +kernel) rfl
theorem dX2_evenest_69 : decode cX2_evenest 69 = .ok (.isub, 1) := dc_100 (show ((cX2_evenest.data.toList.drop 69).take 1).map UInt8.toNat = [100] by decide +kernel)
theorem dX2_evenest_70 : decode cX2_evenest 70 = .ok (.iaload, 1) := dc_46 (show ((cX2_evenest.data.toList.drop 70).take 1).map UInt8.toNat = [46] by decide +kernel)
theorem dX2_evenest_71 : decode cX2_evenest 71 = .ok (.isub, 1) := dc_100 (show ((cX2_evenest.data.toList.drop 71).take 1).map UInt8.toNat = [100] by decide +kernel)
theorem dX2_evenest_72 : decode cX2_evenest 72 = .ok (.invokestatic 52, 3) := dc_184 (show ((cX2_evenest.data.toList.drop 72).take 3).map UInt8.toNat = [184, 0, 52] by decide +kernel) rfl
theorem w_1002 : (Cond.methodLink "GooseBorder$Flocks" (52 : Nat) ({ cls := "java/lang/Math", name := "abs", desc := "(I)I" } : MethodName)) ∈ gb_wA := gb_t5 42 rfl rfl
theorem w_1003 : (Cond.static ({ cls := "java/lang/Math", name := "abs", desc := "(I)I" } : MethodName)) ∈ gb_wA := gb_t5 43 rfl rfl
theorem w_1004 : (Cond.code ({ cls := "java/lang/Math", name := "abs", desc := "(I)I" } : MethodName) prog_16_method_59_code (1 : Nat) (Option.some FieldType.int)) ∈ gb_wA := gb_t5 44 rfl rfl
theorem dX2_evenest_75 : decode cX2_evenest 75 = .ok (.istore 6, 2) := dc_54 (show ((cX2_evenest.data.toList.drop 75).take 2).map UInt8.toNat = [54, 6] by decide +kernel) rfl
theorem dX2_evenest_77 : decode cX2_evenest 77 = .ok (.iload 6, 2) := dc_21 (show ((cX2_evenest.data.toList.drop 77).take 2).map UInt8.toNat = [21, 6] by decide +kernel) rfl
theorem dX2_evenest_79 : decode cX2_evenest 79 = .ok (.aload_n 0, 1) := dc_42 (show ((cX2_evenest.data.toList.drop 79).take 1).map UInt8.toNat = [42] by decide +kernel)
theorem dX2_evenest_80 : decode cX2_evenest 80 = .ok (.getfield 49, 3) := dc_180 (show ((cX2_evenest.data.toList.drop 80).take 3).map UInt8.toNat = [180, 0, 49] by decide +kernel) rfl
theorem dX2_evenest_83 : decode cX2_evenest 83 = .ok (.if_icmp .ge 13, 3) := dc_162 (show ((cX2_evenest.data.toList.drop 83).take 3).map UInt8.toNat = [162, 0, 13] by decide +kernel) rfl
theorem dX2_evenest_96 : decode cX2_evenest 96 = .ok (.iinc 5 1, 3) := dc_132 (show ((cX2_evenest.data.toList.drop 96).take 3).map UInt8.toNat = [132, 5, 1] by decide +kernel) rfl
theorem dX2_evenest_99 : decode cX2_evenest 99 = .ok (.goto (-58), 3) := dc_167 (show ((cX2_evenest.data.toList.drop 99).take 3).map UInt8.toNat = [167, 255, 198] by decide +kernel) rfl
theorem dX2_evenest_86 : decode cX2_evenest 86 = .ok (.aload_n 0, 1) := dc_42 (show ((cX2_evenest.data.toList.drop 86).take 1).map UInt8.toNat = [42] by decide +kernel)
theorem dX2_evenest_87 : decode cX2_evenest 87 = .ok (.iload 6, 2) := dc_21 (show ((cX2_evenest.data.toList.drop 87).take 2).map UInt8.toNat = [21, 6] by decide +kernel) rfl
theorem dX2_evenest_89 : decode cX2_evenest 89 = .ok (.putfield 49, 3) := dc_181 (show ((cX2_evenest.data.toList.drop 89).take 3).map UInt8.toNat = [181, 0, 49] by decide +kernel) rfl
theorem dX2_evenest_92 : decode cX2_evenest 92 = .ok (.iload 5, 2) := dc_21 (show ((cX2_evenest.data.toList.drop 92).take 2).map UInt8.toNat = [21, 5] by decide +kernel) rfl
theorem dX2_evenest_94 : decode cX2_evenest 94 = .ok (.istore 4, 2) := dc_54 (show ((cX2_evenest.data.toList.drop 94).take 2).map UInt8.toNat = [54, 4] by decide +kernel) rfl
def cs_Flocks_evenest_B_41 (n : Nat) : Nat → gb_S → Int32 → Int32 → gb_CR Int32
  | 0, _, _, _ => none
  | mm + 1, σ, v4, v5 => (if (σ.1 130 4) ≤ v5 then some (σ, v4) else gb_ck v5 256 (gb_lt ((σ.1 131) (Int32.toNatClampNeg v5)) (fun x_15 => gb_ck (((σ.1 130 4) - 1) - v5) 256 (gb_lt ((σ.1 132) (Int32.toNatClampNeg (((σ.1 130 4) - 1) - v5))) (fun x_17 => gb_lt (if 0 ≤ (x_15 - x_17) then (x_15 - x_17) else 0 - (x_15 - x_17)) (fun x_18 => (if (σ.1 130 5) ≤ x_18 then gb_lt (v5 + 1) (fun x_20 => cs_Flocks_evenest_B_41 n mm σ v4 x_20) else gb_lt (gb_su σ 130 (upd (σ.1 130) 5 x_18)) (fun s_21 => gb_lt (v5 + 1) (fun x_22 => cs_Flocks_evenest_B_41 n mm s_21 v5 x_22)))))))))
def cs_Flocks_evenest_B (n : Nat) (σ : gb_S) (p1 : Nat) (p2 : Int32) (p3 : Int32) : gb_CR Int32 := gb_kk (gb_kB p1) (gb_cd (cs_Flocks_sumUp_B_c131 n σ p1 p2) (fun s_2 _ => gb_cd (cs_Flocks_sumUp_B_c132 n s_2 p1 p3) (fun s_6 _ => gb_ck ((s_6.1 130 4) - 1) 256 (gb_lt ((s_6.1 132) (Int32.toNatClampNeg ((s_6.1 130 4) - 1))) (fun x_11 => gb_lt (gb_su s_6 130 (upd (s_6.1 130) 5 x_11)) (fun s_12 => cs_Flocks_evenest_B_41 n n s_12 0 1))))))
set_option maxHeartbeats 8000000 in
set_option maxRecDepth 100000 in
theorem cc_Flocks_evenest_B (l : Launch) (D : va_G) (cT : Nat → ClassId) (tt : Nat → Nat) (b1 b : Nat) (hb1 : b1 ≤ b) (n : Nat) (σ : gb_S) (p1 : Nat) (p2 : Int32) (p3 : Int32) (σE : gb_S) (rE : Int32) (h : cs_Flocks_evenest_B n σ p1 p2 p3 = some (σE, rE)) : Met l yX2_evenest (.code yX2_evenest cX2_evenest 7 (some FieldType.int) :: gb_wA) ({ frames := 4, cells := 0, slots := 0, locals := 97 }) (gb_Pc D cT tt b1 [.ref (b + 130), .ref (b + p1), .int p2, .int p3] (fun h => va_P D vwCl (gb_wl b (gb_CW cT b σ)) h)) (gb_Qi (fun r h => r = rE ∧ va_P D vwCl (gb_wl b (gb_CW cT b σE)) h) (gb_fr b 135)) 0 0 (gb_fr b 135) := by
  refine Met.ofW (cc := cX2_evenest) (maxL := 7) (ret := (some FieldType.int)) (by decide) rfl ?_
  intro p e s m args below meth c s₁ B hml hv
  obtain ⟨rfl, hSt, hP⟩ := hv
  have hx := B.exec
  have hb := B.bytes
  have hr := B.returns
  have hts := atoms_spec (ws := .code yX2_evenest cX2_evenest 7 (some FieldType.int) :: gb_wA) B.pre
  have hq : ∀ w ∈ gb_wA, w.before _ s = true := fun w h => hts w (List.mem_cons_of_mem _ h)
  have hown : s.vm.findClass RX2 = some m.cls := findClass_of_methodNamed B.named
  have hlocks := B.notSynchronized
  clear B hts
  have hK := hSt.1
  have hS : va_S (gb_fr b 135) s.heap s.heap [] := va_S.rf
  have hl := lv_entry ([.ref (b + 130), .ref (b + p1), .int p2, .int p3]) (n := 7) (Nat.le_of_ble_eq_true rfl)
  rw [lg_entry_eq]
  generalize (lg_sl ([.ref (b + 130), .ref (b + p1), .int p2, .int p3]) ++ List.replicate (7 - (lg_sl ([.ref (b + 130), .ref (b + p1), .int p2, .int p3])).length) Slot.unset).toArray = ls at hl ⊢
  replace hl : lv_has ls 7 [(0, .ref (b + 130)), (1, .ref (b + p1)), (2, .int p2), (3, .int p3)] := hl
  have L41_1 : ∀ (mm : Nat) (σ : gb_S) (v4 : Int32) (v5 : Int32) (H : Heap) (locs : List Loc) (ls : Array Slot), cs_Flocks_evenest_B_41 n mm σ v4 v5 = some (σE, rE) → va_P D vwCl (gb_wl b (gb_CW cT b σ)) H → va_S (gb_fr b 135) s.heap H locs → lv_has ls 7 [(0, .ref (b + 130)), (4, .int v4), (5, .int v5)] → W p l e (headSpec (.code yX2_evenest cX2_evenest 7 (some FieldType.int) :: gb_wA) ({ frames := 4, cells := 0, slots := 0, locals := 97 })).room s m ([.ref (b + 130), .ref (b + p1), .int p2, .int p3]).toArray below meth c H locs 0 0 (MQ below (gb_Qi (fun r h => r = rE ∧ va_P D vwCl (gb_wl b (gb_CW cT b σE)) h) (gb_fr b 135)) ([.ref (b + 130), .ref (b + p1), .int p2, .int p3]).toArray s 0 0 (gb_fr b 135)) (F0 m 41 ls []) := by
    clear h hP hS hl ls
    intro mm
    induction mm with
    | zero =>
      intro σ v4 v5 H locs ls h
      cases h
    | succ mm ih =>
      intro σ v4 v5 H locs ls h hP hS hl
      rw [cs_Flocks_evenest_B_41] at h
      refine lv_iload hx hb dX2_evenest_41 (lv_at hl 2 rfl) ?_
      refine lv_aload_n hx hb dX2_evenest_43 rfl (lv_at hl 0 rfl) ?_
      refine va_get (ci := 2) (v := (.int (σ.1 130 4))) (C := RX2) (T := TX2) (N := 6) hx hb hq i_X2 hown hK hP 130 (gb_at b rfl) rfl 4 (by decide) (hq _ w_298) (fun _ h9 => h9) rfl dX2_evenest_44 ?_
      refine lv_icmp_ge (tgt := 102) hx hb dX2_evenest_47 (by decide) (fun c_13 => ?_) (fun c_13 => ?_)
      · rw [if_pos c_13] at h
        refine lv_iload hx hb dX2_evenest_102 (lv_at hl 1 rfl) ?_
        obtain ⟨e1, e2⟩ := gb_eq2 h
        exact W.iret (v := v4) hx hb hr (fun t ht hW => gb_ri ht ⟨e2, by rw [← e1]; exact hP⟩ hS) hS.2.2 dX2_evenest_104
      · rw [if_neg c_13] at h
        refine lv_aload_n hx hb dX2_evenest_50 rfl (lv_at hl 0 rfl) ?_
        refine va_get (ci := 2) (v := (.ref (b + 131))) (C := RX2) (T := TX2) (N := 6) hx hb hq i_X2 hown hK hP 130 (gb_at b rfl) rfl 0 (by decide) (hq _ w_294) (fun _ h9 => h9) rfl dX2_evenest_51 ?_
        refine lv_iload hx hb dX2_evenest_54 (lv_at hl 2 rfl) ?_
        obtain ⟨z_14, h⟩ := gb_ck_s h
        refine va_iald hx hb hK hP 131 0 (gb_at b rfl) rfl z_14 dX2_evenest_56 ?_
        refine lv_topi (fun x_15 ex_15 => ?_)
        replace h := gb_lt_s ex_15 h
        refine lv_aload_n hx hb dX2_evenest_57 rfl (lv_at hl 0 rfl) ?_
        refine va_get (ci := 2) (v := (.ref (b + 132))) (C := RX2) (T := TX2) (N := 6) hx hb hq i_X2 hown hK hP 130 (gb_at b rfl) rfl 1 (by decide) (hq _ w_295) (fun _ h9 => h9) rfl dX2_evenest_58 ?_
        refine lv_aload_n hx hb dX2_evenest_61 rfl (lv_at hl 0 rfl) ?_
        refine va_get (ci := 2) (v := (.int (σ.1 130 4))) (C := RX2) (T := TX2) (N := 6) hx hb hq i_X2 hown hK hP 130 (gb_at b rfl) rfl 4 (by decide) (hq _ w_298) (fun _ h9 => h9) rfl dX2_evenest_62 ?_
        refine lv_iconst (v := 1) hx hb dX2_evenest_65 (by decide) ?_
        refine lv_isub hx hb dX2_evenest_66 ?_
        refine lv_iload hx hb dX2_evenest_67 (lv_at hl 2 rfl) ?_
        refine lv_isub hx hb dX2_evenest_69 ?_
        obtain ⟨z_16, h⟩ := gb_ck_s h
        refine va_iald hx hb hK hP 132 0 (gb_at b rfl) rfl z_16 dX2_evenest_70 ?_
        refine lv_topi (fun x_17 ex_17 => ?_)
        replace h := gb_lt_s ex_17 h
        refine lv_isub hx hb dX2_evenest_71 ?_
        refine va_mabs hx hb (hml.trans hl.1.symm) hown (hq _ w_1002) (hq _ w_1003) (hq _ w_5) (hq _ w_1004) (Nat.le_of_ble_eq_true rfl) (Nat.le_of_ble_eq_true rfl) (Nat.le_of_ble_eq_true rfl) (Nat.le_of_ble_eq_true rfl) dX2_evenest_72 ?_
        refine lv_topi (fun x_18 ex_18 => ?_)
        replace h := gb_lt_s ex_18 h
        refine lv_istore (lv' := [(6, .int x_18), (0, .ref (b + 130)), (4, .int v4), (5, .int v5)]) hx hb dX2_evenest_75 hl (by decide) rfl (fun ls hl => ?_)
        refine lv_iload hx hb dX2_evenest_77 (lv_at hl 0 rfl) ?_
        refine lv_aload_n hx hb dX2_evenest_79 rfl (lv_at hl 1 rfl) ?_
        refine va_get (ci := 2) (v := (.int (σ.1 130 5))) (C := RX2) (T := TX2) (N := 6) hx hb hq i_X2 hown hK hP 130 (gb_at b rfl) rfl 5 (by decide) (hq _ w_299) (fun _ h9 => h9) rfl dX2_evenest_80 ?_
        refine lv_icmp_ge (tgt := 96) hx hb dX2_evenest_83 (by decide) (fun c_19 => ?_) (fun c_19 => ?_)
        · rw [if_pos c_19] at h
          obtain ⟨x_20, ex_20⟩ : ∃ q, q = (v5 + 1) := ⟨_, rfl⟩
          replace h := gb_lt_s ex_20 h
          refine lv_iinc (v := x_20) (lv' := [(5, .int x_20), (6, .int x_18), (0, .ref (b + 130)), (4, .int v4)]) hx hb dX2_evenest_96 hl (k := 3) rfl (by rw [ex_20]; rfl) (by decide) rfl (fun ls hl => ?_)
          refine lv_goto (tgt := 41) hx hb dX2_evenest_99 (by decide) ?_
          exact ih _ _ _ _ _ _ h hP hS (lv_sub hl [2, 3, 0] rfl)
        · rw [if_neg c_19] at h
          refine lv_aload_n hx hb dX2_evenest_86 rfl (lv_at hl 1 rfl) ?_
          refine lv_iload hx hb dX2_evenest_87 (lv_at hl 0 rfl) ?_
          refine gb_put (ci := 2) (v := (.int x_18)) (ty := .int) (C := RX2) (T := TX2) (N := 6) hx hb hq i_X2 tyX2 tyX2_ok nmX2 hown hK hP (fun k h => ⟨Nat.le_add_right b k, Nat.add_lt_add_left h b⟩) hS rfl 130 rfl rfl 5 (by decide) (hq _ w_299) (fun _ h9 => h9) rfl (by decide +kernel) rfl rfl (Nat.le_of_ble_eq_true rfl) dX2_evenest_89 (fun H locs hP hz_ hS => ?_)
          obtain ⟨s_21, es_21⟩ : ∃ q, q = (gb_su σ 130 (upd (σ.1 130) 5 x_18)) := ⟨_, rfl⟩
          replace hP : va_P D vwCl (gb_wl b (gb_CW cT b s_21)) H := by rw [es_21]; exact hP
          replace h := gb_lt_s es_21 h
          refine lv_iload hx hb dX2_evenest_92 (lv_at hl 3 rfl) ?_
          refine lv_istore (lv' := [(4, .int v5), (6, .int x_18), (0, .ref (b + 130)), (5, .int v5)]) hx hb dX2_evenest_94 hl (by decide) rfl (fun ls hl => ?_)
          obtain ⟨x_22, ex_22⟩ : ∃ q, q = (v5 + 1) := ⟨_, rfl⟩
          replace h := gb_lt_s ex_22 h
          refine lv_iinc (v := x_22) (lv' := [(5, .int x_22), (4, .int v5), (6, .int x_18), (0, .ref (b + 130))]) hx hb dX2_evenest_96 hl (k := 3) rfl (by rw [ex_22]; rfl) (by decide) rfl (fun ls hl => ?_)
          refine lv_goto (tgt := 41) hx hb dX2_evenest_99 (by decide) ?_
          exact ih _ _ _ _ _ _ h hP hS (lv_sub hl [3, 1, 0] rfl)
  unfold cs_Flocks_evenest_B at h
  obtain ⟨z_1, h⟩ := gb_kk_s h
  refine lv_aload_n hx hb dX2_evenest_0 rfl (lv_at hl 0 rfl) ?_
  refine lv_aload_n hx hb dX2_evenest_1 rfl (lv_at hl 1 rfl) ?_
  refine lv_iload_n hx hb dX2_evenest_2 rfl (lv_at hl 2 rfl) ?_
  refine lv_aload_n hx hb dX2_evenest_3 rfl (lv_at hl 0 rfl) ?_
  refine va_get (ci := 2) (v := (.ref (b + 131))) (C := RX2) (T := TX2) (N := 6) hx hb hq i_X2 hown hK hP 130 (gb_at b rfl) rfl 0 (by decide) (hq _ w_294) (fun _ h9 => h9) rfl dX2_evenest_4 ?_
  obtain ⟨s_2, r_3, z_4, h⟩ := gb_cd_s h
  refine gb_callv (va_runV (C := RX2) (As := [.ref (b + p1), .int p2, .ref (b + 131)]) (rest := []) ⟨hx, hb, hml, hown, hq⟩ (cc_Flocks_sumUp_B_c131 l D cT tt b1 b hb1 n σ p1 p2 s_2 r_3 z_4) (cwV 3 hq (gb_gV w_982 w_984 s_2_10 w_13 w_985) rfl rfl rfl (by decide +kernel) ⟨Nat.le_of_ble_eq_true rfl, Nat.le_of_ble_eq_true rfl⟩) (gb_preV (r := (RX2, TX2, 6)) (ci := 2) (q0 := 130) hSt hP rfl (gb_at b rfl) hS (fun q h => Nat.le_trans hb1 h.1) hP) rfl rfl hl.1 rfl (lv_room (Nat.le_of_ble_eq_true rfl)) dX2_evenest_7 ⟨Nat.le_of_ble_eq_true rfl, Nat.le_of_ble_eq_true rfl⟩) hS (fun _ h => h) (fun _ h => h) (fun H locs hY hk hS => ?_)
  have hP := hY
  refine lv_aload_n hx hb dX2_evenest_10 rfl (lv_at hl 0 rfl) ?_
  refine lv_aload_n hx hb dX2_evenest_11 rfl (lv_at hl 1 rfl) ?_
  refine lv_iload_n hx hb dX2_evenest_12 rfl (lv_at hl 3 rfl) ?_
  refine lv_aload_n hx hb dX2_evenest_13 rfl (lv_at hl 0 rfl) ?_
  refine va_get (ci := 2) (v := (.ref (b + 132))) (C := RX2) (T := TX2) (N := 6) hx hb hq i_X2 hown hK hP 130 (gb_at b rfl) rfl 1 (by decide) (hq _ w_295) (fun _ h9 => h9) rfl dX2_evenest_14 ?_
  obtain ⟨s_6, r_7, z_8, h⟩ := gb_cd_s h
  refine gb_callv (va_runV (C := RX2) (As := [.ref (b + p1), .int p3, .ref (b + 132)]) (rest := []) ⟨hx, hb, hml, hown, hq⟩ (cc_Flocks_sumUp_B_c132 l D cT tt b1 b hb1 n s_2 p1 p3 s_6 r_7 z_8) (cwV 3 hq (gb_gV w_982 w_984 s_2_10 w_13 w_985) rfl rfl rfl (by decide +kernel) ⟨Nat.le_of_ble_eq_true rfl, Nat.le_of_ble_eq_true rfl⟩) (gb_preV (r := (RX2, TX2, 6)) (ci := 2) (q0 := 130) hSt hP rfl (gb_at b rfl) hS (fun q h => Nat.le_trans hb1 h.1) hP) rfl rfl hl.1 rfl (lv_room (Nat.le_of_ble_eq_true rfl)) dX2_evenest_17 ⟨Nat.le_of_ble_eq_true rfl, Nat.le_of_ble_eq_true rfl⟩) hS (fun _ h => h) (fun _ h => h) (fun H locs hY hk hS => ?_)
  have hP := hY
  refine lv_aload_n hx hb dX2_evenest_20 rfl (lv_at hl 0 rfl) ?_
  refine lv_aload_n hx hb dX2_evenest_21 rfl (lv_at hl 0 rfl) ?_
  refine va_get (ci := 2) (v := (.ref (b + 132))) (C := RX2) (T := TX2) (N := 6) hx hb hq i_X2 hown hK hP 130 (gb_at b rfl) rfl 1 (by decide) (hq _ w_295) (fun _ h9 => h9) rfl dX2_evenest_22 ?_
  refine lv_aload_n hx hb dX2_evenest_25 rfl (lv_at hl 0 rfl) ?_
  refine va_get (ci := 2) (v := (.int (s_6.1 130 4))) (C := RX2) (T := TX2) (N := 6) hx hb hq i_X2 hown hK hP 130 (gb_at b rfl) rfl 4 (by decide) (hq _ w_298) (fun _ h9 => h9) rfl dX2_evenest_26 ?_
  refine lv_iconst (v := 1) hx hb dX2_evenest_29 (by decide) ?_
  refine lv_isub hx hb dX2_evenest_30 ?_
  obtain ⟨z_10, h⟩ := gb_ck_s h
  refine va_iald hx hb hK hP 132 0 (gb_at b rfl) rfl z_10 dX2_evenest_31 ?_
  refine lv_topi (fun x_11 ex_11 => ?_)
  replace h := gb_lt_s ex_11 h
  refine gb_put (ci := 2) (v := (.int x_11)) (ty := .int) (C := RX2) (T := TX2) (N := 6) hx hb hq i_X2 tyX2 tyX2_ok nmX2 hown hK hP (fun k h => ⟨Nat.le_add_right b k, Nat.add_lt_add_left h b⟩) hS rfl 130 rfl rfl 5 (by decide) (hq _ w_299) (fun _ h9 => h9) rfl (by decide +kernel) rfl rfl (Nat.le_of_ble_eq_true rfl) dX2_evenest_32 (fun H locs hP hz_ hS => ?_)
  obtain ⟨s_12, es_12⟩ : ∃ q, q = (gb_su s_6 130 (upd (s_6.1 130) 5 x_11)) := ⟨_, rfl⟩
  replace hP : va_P D vwCl (gb_wl b (gb_CW cT b s_12)) H := by rw [es_12]; exact hP
  replace h := gb_lt_s es_12 h
  refine lv_iconst (v := 0) hx hb dX2_evenest_35 (by decide) ?_
  refine lv_istore (lv' := [(4, .int 0), (0, .ref (b + 130)), (1, .ref (b + p1)), (2, .int p2), (3, .int p3)]) hx hb dX2_evenest_36 hl (by decide) rfl (fun ls hl => ?_)
  refine lv_iconst (v := 1) hx hb dX2_evenest_38 (by decide) ?_
  refine lv_istore (lv' := [(5, .int 1), (4, .int 0), (0, .ref (b + 130)), (1, .ref (b + p1)), (2, .int p2), (3, .int p3)]) hx hb dX2_evenest_39 hl (by decide) rfl (fun ls hl => ?_)
  exact L41_1 n _ _ _ _ _ _ h hP hS (lv_sub hl [2, 1, 0] rfl)
theorem w_1001 : (Cond.code ({ cls := "GooseBorder$Flocks", name := "evenest", desc := "(LGooseBorder$Border;II)I" } : MethodName) prog_4_method_4_code (7 : Nat) (Option.some FieldType.int)) ∈ gb_wA := gb_t5 41 rfl rfl
theorem w_998 : (Cond.methodLink "GooseBorder" (324 : Nat) ({ cls := "GooseBorder$Flocks", name := "evenest", desc := "(LGooseBorder$Border;II)I" } : MethodName)) ∈ gb_wA := gb_t5 38 rfl rfl
theorem w_999 : (Cond.instanceMethod ({ cls := "GooseBorder$Flocks", name := "evenest", desc := "(LGooseBorder$Border;II)I" } : MethodName)) ∈ gb_wA := gb_t5 39 rfl rfl
theorem w_1000 : (Cond.selects "GooseBorder$Flocks" ({ cls := "GooseBorder$Flocks", name := "evenest", desc := "(LGooseBorder$Border;II)I" } : MethodName) ({ cls := "GooseBorder$Flocks", name := "evenest", desc := "(LGooseBorder$Border;II)I" } : MethodName)) ∈ gb_wA := gb_t5 40 rfl rfl
theorem dX11_split_48 : decode cX11_split 48 = .ok (.istore 6, 2) := dc_54 (show ((cX11_split.data.toList.drop 48).take 2).map UInt8.toNat = [54, 6] by decide +kernel) rfl
theorem dX11_split_50 : decode cX11_split 50 = .ok (.iload 4, 2) := dc_21 (show ((cX11_split.data.toList.drop 50).take 2).map UInt8.toNat = [21, 4] by decide +kernel) rfl
theorem dX11_split_52 : decode cX11_split 52 = .ok (.ifCond .eq 13, 3) := dc_153 (show ((cX11_split.data.toList.drop 52).take 3).map UInt8.toNat = [153, 0, 13] by decide +kernel) rfl
theorem dX11_split_65 : decode cX11_split 65 = .ok (.iload 6, 2) := dc_21 (show ((cX11_split.data.toList.drop 65).take 2).map UInt8.toNat = [21, 6] by decide +kernel) rfl
theorem dX11_split_67 : decode cX11_split 67 = .ok (.ireturn, 1) := dc_172 (show ((cX11_split.data.toList.drop 67).take 1).map UInt8.toNat = [172] by decide +kernel)
theorem dX11_split_55 : decode cX11_split 55 = .ok (.aload_n 0, 1) := dc_42 (show ((cX11_split.data.toList.drop 55).take 1).map UInt8.toNat = [42] by decide +kernel)
theorem dX11_split_56 : decode cX11_split 56 = .ok (.getfield 70, 3) := dc_180 (show ((cX11_split.data.toList.drop 56).take 3).map UInt8.toNat = [180, 0, 70] by decide +kernel) rfl
theorem dX11_split_59 : decode cX11_split 59 = .ok (.getfield 328, 3) := dc_180 (show ((cX11_split.data.toList.drop 59).take 3).map UInt8.toNat = [180, 1, 72] by decide +kernel) rfl
theorem w_300 : (Cond.fieldLink "GooseBorder" (328 : Nat) "GooseBorder$Flocks" "apart" "I") ∈ gb_wA := gb_t2 60 rfl rfl
theorem dX11_split_62 : decode cX11_split 62 = .ok (.goto 5, 3) := dc_167 (show ((cX11_split.data.toList.drop 62).take 3).map UInt8.toNat = [167, 0, 5] by decide +kernel) rfl
def cs_Face_split (n : Nat) (σ : gb_S) (p1 : Int32) (p2 : Int32) (p3 : Int32) (p4 : Int32) : gb_CR Int32 := gb_cd (cs_Face_borderAt n σ p1) (fun s_1 r_2 => (if r_2 = 0 then some (s_1, (-1)) else gb_kk (gb_kB r_2) ((if p2 = p3 then some (s_1, (-1)) else gb_cd (cs_Border_hasPath_B n s_1 r_2 p2) (fun s_8 r_9 => (if r_9 = 0 then some (s_8, (-1)) else gb_cd (cs_Border_hasPath_B n s_8 r_2 p3) (fun s_13 r_14 => (if r_14 = 0 then some (s_13, (-1)) else gb_cd (cs_Flocks_evenest_B n s_13 r_2 p2 p3) (fun s_18 r_19 => (if p4 = 0 then some (s_18, r_19) else some (s_18, (s_18.1 130 5))))))))))))
set_option maxHeartbeats 8000000 in
set_option maxRecDepth 100000 in
theorem cc_Face_split (l : Launch) (D : va_G) (cT : Nat → ClassId) (tt : Nat → Nat) (b1 b : Nat) (hb1 : b1 ≤ b) (n : Nat) (σ : gb_S) (p1 : Int32) (p2 : Int32) (p3 : Int32) (p4 : Int32) (σE : gb_S) (rE : Int32) (h : cs_Face_split n σ p1 p2 p3 p4 = some (σE, rE)) : Met l yX11_split (.code yX11_split cX11_split 7 (some FieldType.int) :: gb_wA) ({ frames := 5, cells := 0, slots := 0, locals := 123 }) (gb_Pc D cT tt b1 [.ref (b + 0), .int p1, .int p2, .int p3, .int p4] (fun h => va_P D vwCl (gb_wl b (gb_CW cT b σ)) h)) (gb_Qi (fun r h => r = rE ∧ va_P D vwCl (gb_wl b (gb_CW cT b σE)) h) (gb_fr b 135)) 0 0 (gb_fr b 135) := by
  refine Met.ofW (cc := cX11_split) (maxL := 7) (ret := (some FieldType.int)) (by decide) rfl ?_
  intro p e s m args below meth c s₁ B hml hv
  obtain ⟨rfl, hSt, hP⟩ := hv
  have hx := B.exec
  have hb := B.bytes
  have hr := B.returns
  have hts := atoms_spec (ws := .code yX11_split cX11_split 7 (some FieldType.int) :: gb_wA) B.pre
  have hq : ∀ w ∈ gb_wA, w.before _ s = true := fun w h => hts w (List.mem_cons_of_mem _ h)
  have hown : s.vm.findClass RX11 = some m.cls := findClass_of_methodNamed B.named
  have hlocks := B.notSynchronized
  clear B hts
  have hK := hSt.1
  have hS : va_S (gb_fr b 135) s.heap s.heap [] := va_S.rf
  have hl := lv_entry ([.ref (b + 0), .int p1, .int p2, .int p3, .int p4]) (n := 7) (Nat.le_of_ble_eq_true rfl)
  rw [lg_entry_eq]
  generalize (lg_sl ([.ref (b + 0), .int p1, .int p2, .int p3, .int p4]) ++ List.replicate (7 - (lg_sl ([.ref (b + 0), .int p1, .int p2, .int p3, .int p4])).length) Slot.unset).toArray = ls at hl ⊢
  replace hl : lv_has ls 7 [(0, .ref (b + 0)), (1, .int p1), (2, .int p2), (3, .int p3), (4, .int p4)] := hl
  unfold cs_Face_split at h
  refine lv_aload_n hx hb dX11_split_0 rfl (lv_at hl 0 rfl) ?_
  refine lv_iload_n hx hb dX11_split_1 rfl (lv_at hl 1 rfl) ?_
  obtain ⟨s_1, r_2, z_3, h⟩ := gb_cd_s h
  refine gb_callq (va_runV (C := RX11) (As := [.int p1]) (rest := []) ⟨hx, hb, hml, hown, hq⟩ (cc_Face_borderAt l D cT tt b1 b hb1 n σ p1 s_1 r_2 z_3) (cwV 1 hq (gb_gV w_593 w_595 s_1_7 w_1 w_596) rfl rfl rfl (by decide +kernel) ⟨Nat.le_of_ble_eq_true rfl, Nat.le_of_ble_eq_true rfl⟩) (gb_preV (r := (RX11, TX11, 10)) (ci := 9) (q0 := 0) hSt hP rfl (gb_at b rfl) hS (fun q h => Nat.le_trans hb1 h.1) hP) rfl rfl hl.1 rfl (lv_room (Nat.le_of_ble_eq_true rfl)) dX11_split_2 ⟨Nat.le_of_ble_eq_true rfl, Nat.le_of_ble_eq_true rfl⟩) hS (fun _ h => h) (fun _ h => h) (fun q_4 H locs hY hk hS => ?_)
  obtain ⟨hq_4, hP⟩ := hY
  subst hq_4
  rw [gb_onv]
  by_cases c_5 : r_2 = 0
  · rw [if_pos c_5] at h
    rw [gb_nv0 c_5]
    refine lv_astoreN (lv' := [(5, .null), (0, .ref (b + 0)), (1, .int p1), (2, .int p2), (3, .int p3), (4, .int p4)]) hx hb dX11_split_5 hl (by decide) rfl (fun ls hl => ?_)
    refine lv_aloadN hx hb dX11_split_7 (lv_at hl 0 rfl) ?_
    refine lv_ifnullN (tgt := 35) hx hb dX11_split_9 (by decide) ?_
    refine lv_iconst (v := (-1)) hx hb dX11_split_35 (by decide) ?_
    obtain ⟨e1, e2⟩ := gb_eq2 h
    exact W.iret (v := (-1)) hx hb hr (fun t ht hW => gb_ri ht ⟨e2, by rw [← e1]; exact hP⟩ hS) hS.2.2 dX11_split_36
  rw [if_neg c_5] at h
  rw [gb_nv1 c_5]
  obtain ⟨z_6, h⟩ := gb_kk_s h
  refine lv_astore (lv' := [(5, .ref (b + r_2)), (0, .ref (b + 0)), (1, .int p1), (2, .int p2), (3, .int p3), (4, .int p4)]) hx hb dX11_split_5 hl (by decide) rfl (fun ls hl => ?_)
  refine lv_aload hx hb dX11_split_7 (lv_at hl 0 rfl) ?_
  refine lv_ifnull hx hb dX11_split_9 ?_
  refine lv_iload_n hx hb dX11_split_12 rfl (lv_at hl 3 rfl) ?_
  refine lv_iload_n hx hb dX11_split_13 rfl (lv_at hl 4 rfl) ?_
  refine lv_icmp_eq (tgt := 35) hx hb dX11_split_14 (by decide) (fun c_7 => ?_) (fun c_7 => ?_)
  · rw [if_pos c_7] at h
    refine lv_iconst (v := (-1)) hx hb dX11_split_35 (by decide) ?_
    obtain ⟨e1, e2⟩ := gb_eq2 h
    exact W.iret (v := (-1)) hx hb hr (fun t ht hW => gb_ri ht ⟨e2, by rw [← e1]; exact hP⟩ hS) hS.2.2 dX11_split_36
  · rw [if_neg c_7] at h
    refine lv_aload hx hb dX11_split_17 (lv_at hl 0 rfl) ?_
    refine lv_iload_n hx hb dX11_split_19 rfl (lv_at hl 3 rfl) ?_
    obtain ⟨s_8, r_9, z_10, h⟩ := gb_cd_s h
    refine gb_calli (va_runV (C := RX0) (As := [.int p2]) (rest := []) ⟨hx, hb, hml, hown, hq⟩ (cc_Border_hasPath_B l D cT tt b1 b hb1 n s_1 r_2 p2 s_8 r_9 z_10) (cwV 1 hq (gb_gV w_620 w_608 w_609 w_4 w_610) rfl rfl rfl (by decide +kernel) ⟨Nat.le_of_ble_eq_true rfl, Nat.le_of_ble_eq_true rfl⟩) (gb_preV (r := (RX0, TX0, 1)) (ci := 0) (q0 := r_2) hSt hP rfl (gb_at b (gb_cB z_6).1) hS (fun q h => Nat.le_trans hb1 h.1) hP) rfl rfl hl.1 rfl (lv_room (Nat.le_of_ble_eq_true rfl)) dX11_split_20 ⟨Nat.le_of_ble_eq_true rfl, Nat.le_of_ble_eq_true rfl⟩) hS (fun _ h => h) (fun _ h => h) (fun q_11 H locs hY hk hS => ?_)
    obtain ⟨hq_11, hP⟩ := hY
    replace hq_11 := hq_11.symm
    subst hq_11
    refine lv_if_eq (tgt := 35) hx hb dX11_split_23 (by decide) (fun c_12 => ?_) (fun c_12 => ?_)
    · rw [if_pos c_12] at h
      refine lv_iconst (v := (-1)) hx hb dX11_split_35 (by decide) ?_
      obtain ⟨e1, e2⟩ := gb_eq2 h
      exact W.iret (v := (-1)) hx hb hr (fun t ht hW => gb_ri ht ⟨e2, by rw [← e1]; exact hP⟩ hS) hS.2.2 dX11_split_36
    · rw [if_neg c_12] at h
      refine lv_aload hx hb dX11_split_26 (lv_at hl 0 rfl) ?_
      refine lv_iload_n hx hb dX11_split_28 rfl (lv_at hl 4 rfl) ?_
      obtain ⟨s_13, r_14, z_15, h⟩ := gb_cd_s h
      refine gb_calli (va_runV (C := RX0) (As := [.int p3]) (rest := []) ⟨hx, hb, hml, hown, hq⟩ (cc_Border_hasPath_B l D cT tt b1 b hb1 n s_8 r_2 p3 s_13 r_14 z_15) (cwV 1 hq (gb_gV w_620 w_608 w_609 w_4 w_610) rfl rfl rfl (by decide +kernel) ⟨Nat.le_of_ble_eq_true rfl, Nat.le_of_ble_eq_true rfl⟩) (gb_preV (r := (RX0, TX0, 1)) (ci := 0) (q0 := r_2) hSt hP rfl (gb_at b (gb_cB z_6).1) hS (fun q h => Nat.le_trans hb1 h.1) hP) rfl rfl hl.1 rfl (lv_room (Nat.le_of_ble_eq_true rfl)) dX11_split_29 ⟨Nat.le_of_ble_eq_true rfl, Nat.le_of_ble_eq_true rfl⟩) hS (fun _ h => h) (fun _ h => h) (fun q_16 H locs hY hk hS => ?_)
      obtain ⟨hq_16, hP⟩ := hY
      replace hq_16 := hq_16.symm
      subst hq_16
      refine lv_if_ne (tgt := 37) hx hb dX11_split_32 (by decide) (fun c_17 => ?_) (fun c_17 => ?_)
      · rw [if_neg c_17] at h
        refine lv_aload_n hx hb dX11_split_37 rfl (lv_at hl 1 rfl) ?_
        refine va_get (ci := 9) (v := (.ref (b + 130))) (C := RX11) (T := TX11) (N := 10) hx hb hq i_X11 hown hK hP 0 (gb_at b rfl) rfl 8 (by decide) (hq _ w_323) (fun _ h9 => h9) rfl dX11_split_38 ?_
        refine lv_aload hx hb dX11_split_41 (lv_at hl 0 rfl) ?_
        refine lv_iload_n hx hb dX11_split_43 rfl (lv_at hl 3 rfl) ?_
        refine lv_iload_n hx hb dX11_split_44 rfl (lv_at hl 4 rfl) ?_
        obtain ⟨s_18, r_19, z_20, h⟩ := gb_cd_s h
        refine gb_calli (va_runV (C := RX2) (As := [.ref (b + r_2), .int p2, .int p3]) (rest := []) ⟨hx, hb, hml, hown, hq⟩ (cc_Flocks_evenest_B l D cT tt b1 b hb1 n s_13 r_2 p2 p3 s_18 r_19 z_20) (cwV 3 hq (gb_gV w_998 w_999 w_1000 w_13 w_1001) rfl rfl rfl (by decide +kernel) ⟨Nat.le_of_ble_eq_true rfl, Nat.le_of_ble_eq_true rfl⟩) (gb_preV (r := (RX2, TX2, 6)) (ci := 2) (q0 := 130) hSt hP rfl (gb_at b rfl) hS (fun q h => Nat.le_trans hb1 h.1) hP) rfl rfl hl.1 rfl (lv_room (Nat.le_of_ble_eq_true rfl)) dX11_split_45 ⟨Nat.le_of_ble_eq_true rfl, Nat.le_of_ble_eq_true rfl⟩) hS (fun _ h => h) (fun _ h => h) (fun q_21 H locs hY hk hS => ?_)
        obtain ⟨hq_21, hP⟩ := hY
        replace hq_21 := hq_21.symm
        subst hq_21
        refine lv_istore (lv' := [(6, .int r_19), (5, .ref (b + r_2)), (0, .ref (b + 0)), (1, .int p1), (2, .int p2), (3, .int p3), (4, .int p4)]) hx hb dX11_split_48 hl (by decide) rfl (fun ls hl => ?_)
        refine lv_iload hx hb dX11_split_50 (lv_at hl 6 rfl) ?_
        refine lv_if_eq (tgt := 65) hx hb dX11_split_52 (by decide) (fun c_22 => ?_) (fun c_22 => ?_)
        · rw [if_pos c_22] at h
          refine lv_iload hx hb dX11_split_65 (lv_at hl 0 rfl) ?_
          obtain ⟨e1, e2⟩ := gb_eq2 h
          exact W.iret (v := r_19) hx hb hr (fun t ht hW => gb_ri ht ⟨e2, by rw [← e1]; exact hP⟩ hS) hS.2.2 dX11_split_67
        · rw [if_neg c_22] at h
          refine lv_aload_n hx hb dX11_split_55 rfl (lv_at hl 2 rfl) ?_
          refine va_get (ci := 9) (v := (.ref (b + 130))) (C := RX11) (T := TX11) (N := 10) hx hb hq i_X11 hown hK hP 0 (gb_at b rfl) rfl 8 (by decide) (hq _ w_323) (fun _ h9 => h9) rfl dX11_split_56 ?_
          refine va_get (ci := 2) (v := (.int (s_18.1 130 5))) (C := RX2) (T := TX2) (N := 6) hx hb hq i_X2 hown hK hP 130 (gb_at b rfl) rfl 5 (by decide) (hq _ w_300) (fun _ h9 => h9) rfl dX11_split_59 ?_
          refine lv_goto (tgt := 67) hx hb dX11_split_62 (by decide) ?_
          obtain ⟨e1, e2⟩ := gb_eq2 h
          exact W.iret (v := (s_18.1 130 5)) hx hb hr (fun t ht hW => gb_ri ht ⟨e2, by rw [← e1]; exact hP⟩ hS) hS.2.2 dX11_split_67
      · rw [if_pos c_17] at h
        refine lv_iconst (v := (-1)) hx hb dX11_split_35 (by decide) ?_
        obtain ⟨e1, e2⟩ := gb_eq2 h
        exact W.iret (v := (-1)) hx hb hr (fun t ht hW => gb_ri ht ⟨e2, by rw [← e1]; exact hP⟩ hS) hS.2.2 dX11_split_36
theorem dX11_backs_0 : decode cX11_backs 0 = .ok (.aload_n 0, 1) := dc_42 (show ((cX11_backs.data.toList.drop 0).take 1).map UInt8.toNat = [42] by decide +kernel)
theorem dX11_backs_1 : decode cX11_backs 1 = .ok (.iload_n 1, 1) := dc_27 (show ((cX11_backs.data.toList.drop 1).take 1).map UInt8.toNat = [27] by decide +kernel)
theorem dX11_backs_2 : decode cX11_backs 2 = .ok (.invokevirtual 113, 3) := dc_182 (show ((cX11_backs.data.toList.drop 2).take 3).map UInt8.toNat = [182, 0, 113] by decide +kernel) rfl
theorem dX11_backs_5 : decode cX11_backs 5 = .ok (.astore 5, 2) := dc_58 (show ((cX11_backs.data.toList.drop 5).take 2).map UInt8.toNat = [58, 5] by decide +kernel) rfl
theorem dX11_backs_7 : decode cX11_backs 7 = .ok (.aload 5, 2) := dc_25 (show ((cX11_backs.data.toList.drop 7).take 2).map UInt8.toNat = [25, 5] by decide +kernel) rfl
theorem dX11_backs_9 : decode cX11_backs 9 = .ok (.ifnull 23, 3) := dc_198 (show ((cX11_backs.data.toList.drop 9).take 3).map UInt8.toNat = [198, 0, 23] by decide +kernel) rfl
theorem dX11_backs_32 : decode cX11_backs 32 = .ok (.iconst (-1), 1) := dc_2 (show ((cX11_backs.data.toList.drop 32).take 1).map UInt8.toNat = [2] by decide +kernel)
theorem dX11_backs_33 : decode cX11_backs 33 = .ok (.ireturn, 1) := dc_172 (show ((cX11_backs.data.toList.drop 33).take 1).map UInt8.toNat = [172] by decide +kernel)
theorem dX11_backs_12 : decode cX11_backs 12 = .ok (.aload 5, 2) := dc_25 (show ((cX11_backs.data.toList.drop 12).take 2).map UInt8.toNat = [25, 5] by decide +kernel) rfl
theorem dX11_backs_14 : decode cX11_backs 14 = .ok (.iload_n 2, 1) := dc_28 (show ((cX11_backs.data.toList.drop 14).take 1).map UInt8.toNat = [28] by decide +kernel)
theorem dX11_backs_15 : decode cX11_backs 15 = .ok (.invokevirtual 135, 3) := dc_182 (show ((cX11_backs.data.toList.drop 15).take 3).map UInt8.toNat = [182, 0, 135] by decide +kernel) rfl
theorem dX11_backs_18 : decode cX11_backs 18 = .ok (.ifCond .eq 14, 3) := dc_153 (show ((cX11_backs.data.toList.drop 18).take 3).map UInt8.toNat = [153, 0, 14] by decide +kernel) rfl
theorem dX11_backs_21 : decode cX11_backs 21 = .ok (.iload_n 3, 1) := dc_29 (show ((cX11_backs.data.toList.drop 21).take 1).map UInt8.toNat = [29] by decide +kernel)
theorem dX11_backs_22 : decode cX11_backs 22 = .ok (.ifCond .lt 10, 3) := dc_155 (show ((cX11_backs.data.toList.drop 22).take 3).map UInt8.toNat = [155, 0, 10] by decide +kernel) rfl
theorem dX11_backs_25 : decode cX11_backs 25 = .ok (.iload_n 3, 1) := dc_29 (show ((cX11_backs.data.toList.drop 25).take 1).map UInt8.toNat = [29] by decide +kernel)
theorem dX11_backs_26 : decode cX11_backs 26 = .ok (.sipush 9999, 3) := dc_17 (show ((cX11_backs.data.toList.drop 26).take 3).map UInt8.toNat = [17, 39, 15] by decide +kernel) rfl
theorem dX11_backs_29 : decode cX11_backs 29 = .ok (.if_icmp .le 5, 3) := dc_164 (show ((cX11_backs.data.toList.drop 29).take 3).map UInt8.toNat = [164, 0, 5] by decide +kernel) rfl
theorem dX11_backs_34 : decode cX11_backs 34 = .ok (.aload_n 0, 1) := dc_42 (show ((cX11_backs.data.toList.drop 34).take 1).map UInt8.toNat = [42] by decide +kernel)
theorem dX11_backs_35 : decode cX11_backs 35 = .ok (.getfield 70, 3) := dc_180 (show ((cX11_backs.data.toList.drop 35).take 3).map UInt8.toNat = [180, 0, 70] by decide +kernel) rfl
theorem dX11_backs_38 : decode cX11_backs 38 = .ok (.aload 5, 2) := dc_25 (show ((cX11_backs.data.toList.drop 38).take 2).map UInt8.toNat = [25, 5] by decide +kernel) rfl
theorem dX11_backs_40 : decode cX11_backs 40 = .ok (.iload_n 2, 1) := dc_28 (show ((cX11_backs.data.toList.drop 40).take 1).map UInt8.toNat = [28] by decide +kernel)
theorem dX11_backs_41 : decode cX11_backs 41 = .ok (.iload_n 3, 1) := dc_29 (show ((cX11_backs.data.toList.drop 41).take 1).map UInt8.toNat = [29] by decide +kernel)
theorem dX11_backs_42 : decode cX11_backs 42 = .ok (.invokevirtual 331, 3) := dc_182 (show ((cX11_backs.data.toList.drop 42).take 3).map UInt8.toNat = [182, 1, 75] by decide +kernel) rfl
theorem dX2_fewestBackwards_0 : decode cX2_fewestBackwards 0 = .ok (.aload_n 0, 1) := dc_42 (show ((cX2_fewestBackwards.data.toList.drop 0).take 1).map UInt8.toNat = [42] by decide +kernel)
theorem dX2_fewestBackwards_1 : decode cX2_fewestBackwards 1 = .ok (.aload_n 1, 1) := dc_43 (show ((cX2_fewestBackwards.data.toList.drop 1).take 1).map UInt8.toNat = [43] by decide +kernel)
theorem dX2_fewestBackwards_2 : decode cX2_fewestBackwards 2 = .ok (.iload_n 2, 1) := dc_28 (show ((cX2_fewestBackwards.data.toList.drop 2).take 1).map UInt8.toNat = [28] by decide +kernel)
theorem dX2_fewestBackwards_3 : decode cX2_fewestBackwards 3 = .ok (.aload_n 0, 1) := dc_42 (show ((cX2_fewestBackwards.data.toList.drop 3).take 1).map UInt8.toNat = [42] by decide +kernel)
theorem dX2_fewestBackwards_4 : decode cX2_fewestBackwards 4 = .ok (.getfield 9, 3) := dc_180 (show ((cX2_fewestBackwards.data.toList.drop 4).take 3).map UInt8.toNat = [180, 0, 9] by decide +kernel) rfl
theorem dX2_fewestBackwards_7 : decode cX2_fewestBackwards 7 = .ok (.invokevirtual 39, 3) := dc_182 (show ((cX2_fewestBackwards.data.toList.drop 7).take 3).map UInt8.toNat = [182, 0, 39] by decide +kernel) rfl
theorem dX2_fewestBackwards_10 : decode cX2_fewestBackwards 10 = .ok (.aload_n 0, 1) := dc_42 (show ((cX2_fewestBackwards.data.toList.drop 10).take 1).map UInt8.toNat = [42] by decide +kernel)
theorem dX2_fewestBackwards_11 : decode cX2_fewestBackwards 11 = .ok (.getfield 31, 3) := dc_180 (show ((cX2_fewestBackwards.data.toList.drop 11).take 3).map UInt8.toNat = [180, 0, 31] by decide +kernel) rfl
theorem dX2_fewestBackwards_14 : decode cX2_fewestBackwards 14 = .ok (.iconst 1, 1) := dc_4 (show ((cX2_fewestBackwards.data.toList.drop 14).take 1).map UInt8.toNat = [4] by decide +kernel)
theorem dX2_fewestBackwards_15 : decode cX2_fewestBackwards 15 = .ok (.isub, 1) := dc_100 (show ((cX2_fewestBackwards.data.toList.drop 15).take 1).map UInt8.toNat = [100] by decide +kernel)
theorem dX2_fewestBackwards_16 : decode cX2_fewestBackwards 16 = .ok (.istore 4, 2) := dc_54 (show ((cX2_fewestBackwards.data.toList.drop 16).take 2).map UInt8.toNat = [54, 4] by decide +kernel) rfl
theorem dX2_fewestBackwards_18 : decode cX2_fewestBackwards 18 = .ok (.iconst 0, 1) := dc_3 (show ((cX2_fewestBackwards.data.toList.drop 18).take 1).map UInt8.toNat = [3] by decide +kernel)
theorem dX2_fewestBackwards_19 : decode cX2_fewestBackwards 19 = .ok (.istore 5, 2) := dc_54 (show ((cX2_fewestBackwards.data.toList.drop 19).take 2).map UInt8.toNat = [54, 5] by decide +kernel) rfl
theorem dX2_fewestBackwards_21 : decode cX2_fewestBackwards 21 = .ok (.iload 5, 2) := dc_21 (show ((cX2_fewestBackwards.data.toList.drop 21).take 2).map UInt8.toNat = [21, 5] by decide +kernel) rfl
theorem dX2_fewestBackwards_23 : decode cX2_fewestBackwards 23 = .ok (.aload_n 0, 1) := dc_42 (show ((cX2_fewestBackwards.data.toList.drop 23).take 1).map UInt8.toNat = [42] by decide +kernel)
theorem dX2_fewestBackwards_24 : decode cX2_fewestBackwards 24 = .ok (.getfield 31, 3) := dc_180 (show ((cX2_fewestBackwards.data.toList.drop 24).take 3).map UInt8.toNat = [180, 0, 31] by decide +kernel) rfl
theorem dX2_fewestBackwards_27 : decode cX2_fewestBackwards 27 = .ok (.if_icmp .ge 63, 3) := dc_162 (show ((cX2_fewestBackwards.data.toList.drop 27).take 3).map UInt8.toNat = [162, 0, 63] by decide +kernel) rfl
theorem dX2_fewestBackwards_90 : decode cX2_fewestBackwards 90 = .ok (.iload 4, 2) := dc_21 (show ((cX2_fewestBackwards.data.toList.drop 90).take 2).map UInt8.toNat = [21, 4] by decide +kernel) rfl
theorem dX2_fewestBackwards_92 : decode cX2_fewestBackwards 92 = .ok (.ireturn, 1) := dc_172 (show ((cX2_fewestBackwards.data.toList.drop 92).take 1).map UInt8.toNat = [172] by decide +kernel)
theorem dX2_fewestBackwards_30 : decode cX2_fewestBackwards 30 = .ok (.aload_n 0, 1) := dc_42 (show ((cX2_fewestBackwards.data.toList.drop 30).take 1).map UInt8.toNat = [42] by decide +kernel)
theorem dX2_fewestBackwards_31 : decode cX2_fewestBackwards 31 = .ok (.getfield 9, 3) := dc_180 (show ((cX2_fewestBackwards.data.toList.drop 31).take 3).map UInt8.toNat = [180, 0, 9] by decide +kernel) rfl
theorem dX2_fewestBackwards_34 : decode cX2_fewestBackwards 34 = .ok (.aload_n 0, 1) := dc_42 (show ((cX2_fewestBackwards.data.toList.drop 34).take 1).map UInt8.toNat = [42] by decide +kernel)
theorem dX2_fewestBackwards_35 : decode cX2_fewestBackwards 35 = .ok (.getfield 31, 3) := dc_180 (show ((cX2_fewestBackwards.data.toList.drop 35).take 3).map UInt8.toNat = [180, 0, 31] by decide +kernel) rfl
theorem dX2_fewestBackwards_38 : decode cX2_fewestBackwards 38 = .ok (.iconst 1, 1) := dc_4 (show ((cX2_fewestBackwards.data.toList.drop 38).take 1).map UInt8.toNat = [4] by decide +kernel)
theorem dX2_fewestBackwards_39 : decode cX2_fewestBackwards 39 = .ok (.isub, 1) := dc_100 (show ((cX2_fewestBackwards.data.toList.drop 39).take 1).map UInt8.toNat = [100] by decide +kernel)
theorem dX2_fewestBackwards_40 : decode cX2_fewestBackwards 40 = .ok (.iaload, 1) := dc_46 (show ((cX2_fewestBackwards.data.toList.drop 40).take 1).map UInt8.toNat = [46] by decide +kernel)
theorem dX2_fewestBackwards_41 : decode cX2_fewestBackwards 41 = .ok (.iconst 2, 1) := dc_5 (show ((cX2_fewestBackwards.data.toList.drop 41).take 1).map UInt8.toNat = [5] by decide +kernel)
theorem dX2_fewestBackwards_42 : decode cX2_fewestBackwards 42 = .ok (.aload_n 0, 1) := dc_42 (show ((cX2_fewestBackwards.data.toList.drop 42).take 1).map UInt8.toNat = [42] by decide +kernel)
theorem dX2_fewestBackwards_43 : decode cX2_fewestBackwards 43 = .ok (.getfield 9, 3) := dc_180 (show ((cX2_fewestBackwards.data.toList.drop 43).take 3).map UInt8.toNat = [180, 0, 9] by decide +kernel) rfl
theorem dX2_fewestBackwards_46 : decode cX2_fewestBackwards 46 = .ok (.iload 5, 2) := dc_21 (show ((cX2_fewestBackwards.data.toList.drop 46).take 2).map UInt8.toNat = [21, 5] by decide +kernel) rfl
theorem dX2_fewestBackwards_48 : decode cX2_fewestBackwards 48 = .ok (.iaload, 1) := dc_46 (show ((cX2_fewestBackwards.data.toList.drop 48).take 1).map UInt8.toNat = [46] by decide +kernel)
theorem dX2_fewestBackwards_49 : decode cX2_fewestBackwards 49 = .ok (.imul, 1) := dc_104 (show ((cX2_fewestBackwards.data.toList.drop 49).take 1).map UInt8.toNat = [104] by decide +kernel)
theorem dX2_fewestBackwards_50 : decode cX2_fewestBackwards 50 = .ok (.isub, 1) := dc_100 (show ((cX2_fewestBackwards.data.toList.drop 50).take 1).map UInt8.toNat = [100] by decide +kernel)
theorem dX2_fewestBackwards_51 : decode cX2_fewestBackwards 51 = .ok (.iload_n 3, 1) := dc_29 (show ((cX2_fewestBackwards.data.toList.drop 51).take 1).map UInt8.toNat = [29] by decide +kernel)
theorem dX2_fewestBackwards_52 : decode cX2_fewestBackwards 52 = .ok (.if_icmp .gt 7, 3) := dc_163 (show ((cX2_fewestBackwards.data.toList.drop 52).take 3).map UInt8.toNat = [163, 0, 7] by decide +kernel) rfl
theorem dX2_fewestBackwards_59 : decode cX2_fewestBackwards 59 = .ok (.iconst 0, 1) := dc_3 (show ((cX2_fewestBackwards.data.toList.drop 59).take 1).map UInt8.toNat = [3] by decide +kernel)
theorem dX2_fewestBackwards_60 : decode cX2_fewestBackwards 60 = .ok (.istore 6, 2) := dc_54 (show ((cX2_fewestBackwards.data.toList.drop 60).take 2).map UInt8.toNat = [54, 6] by decide +kernel) rfl
theorem dX2_fewestBackwards_62 : decode cX2_fewestBackwards 62 = .ok (.iload 6, 2) := dc_21 (show ((cX2_fewestBackwards.data.toList.drop 62).take 2).map UInt8.toNat = [21, 6] by decide +kernel) rfl
theorem dX2_fewestBackwards_64 : decode cX2_fewestBackwards 64 = .ok (.ifCond .eq 20, 3) := dc_153 (show ((cX2_fewestBackwards.data.toList.drop 64).take 3).map UInt8.toNat = [153, 0, 20] by decide +kernel) rfl
theorem dX2_fewestBackwards_84 : decode cX2_fewestBackwards 84 = .ok (.iinc 5 1, 3) := dc_132 (show ((cX2_fewestBackwards.data.toList.drop 84).take 3).map UInt8.toNat = [132, 5, 1] by decide +kernel) rfl
theorem dX2_fewestBackwards_87 : decode cX2_fewestBackwards 87 = .ok (.goto (-66), 3) := dc_167 (show ((cX2_fewestBackwards.data.toList.drop 87).take 3).map UInt8.toNat = [167, 255, 190] by decide +kernel) rfl
theorem dX2_fewestBackwards_67 : decode cX2_fewestBackwards 67 = .ok (.iload 5, 2) := dc_21 (show ((cX2_fewestBackwards.data.toList.drop 67).take 2).map UInt8.toNat = [21, 5] by decide +kernel) rfl
theorem dX2_fewestBackwards_69 : decode cX2_fewestBackwards 69 = .ok (.invokestatic 43, 3) := dc_184 (show ((cX2_fewestBackwards.data.toList.drop 69).take 3).map UInt8.toNat = [184, 0, 43] by decide +kernel) rfl
theorem dX2_fewestBackwards_72 : decode cX2_fewestBackwards 72 = .ok (.iload 4, 2) := dc_21 (show ((cX2_fewestBackwards.data.toList.drop 72).take 2).map UInt8.toNat = [21, 4] by decide +kernel) rfl
theorem dX2_fewestBackwards_74 : decode cX2_fewestBackwards 74 = .ok (.invokestatic 43, 3) := dc_184 (show ((cX2_fewestBackwards.data.toList.drop 74).take 3).map UInt8.toNat = [184, 0, 43] by decide +kernel) rfl
theorem dX2_fewestBackwards_77 : decode cX2_fewestBackwards 77 = .ok (.if_icmp .ge 7, 3) := dc_162 (show ((cX2_fewestBackwards.data.toList.drop 77).take 3).map UInt8.toNat = [162, 0, 7] by decide +kernel) rfl
theorem dX2_fewestBackwards_80 : decode cX2_fewestBackwards 80 = .ok (.iload 5, 2) := dc_21 (show ((cX2_fewestBackwards.data.toList.drop 80).take 2).map UInt8.toNat = [21, 5] by decide +kernel) rfl
theorem dX2_fewestBackwards_82 : decode cX2_fewestBackwards 82 = .ok (.istore 4, 2) := dc_54 (show ((cX2_fewestBackwards.data.toList.drop 82).take 2).map UInt8.toNat = [54, 4] by decide +kernel) rfl
theorem dX2_fewestBackwards_55 : decode cX2_fewestBackwards 55 = .ok (.iconst 1, 1) := dc_4 (show ((cX2_fewestBackwards.data.toList.drop 55).take 1).map UInt8.toNat = [4] by decide +kernel)
theorem dX2_fewestBackwards_56 : decode cX2_fewestBackwards 56 = .ok (.goto 4, 3) := dc_167 (show ((cX2_fewestBackwards.data.toList.drop 56).take 3).map UInt8.toNat = [167, 0, 4] by decide +kernel) rfl
def cs_Flocks_fewestBackwards_B_21 (n : Nat) : Nat → gb_S → Int32 → Int32 → Int32 → gb_CR Int32
  | 0, _, _, _, _ => none
  | mm + 1, σ, v3, v4, v5 => (if (σ.1 130 4) ≤ v5 then some (σ, v4) else gb_ck ((σ.1 130 4) - 1) 256 (gb_lt ((σ.1 131) (Int32.toNatClampNeg ((σ.1 130 4) - 1))) (fun x_9 => gb_ck v5 256 (gb_lt ((σ.1 131) (Int32.toNatClampNeg v5)) (fun x_11 => (if v3 < (x_9 - ((2 : Int32) * x_11)) then (if (0 : Int32) = 0 then gb_lt (v5 + 1) (fun x_14 => cs_Flocks_fewestBackwards_B_21 n mm σ v3 v4 x_14) else gb_cd (cs_java_lang_Integer_bitCount n σ v5) (fun s_15 r_16 => gb_cd (cs_java_lang_Integer_bitCount n s_15 v4) (fun s_19 r_20 => (if r_20 ≤ r_16 then gb_lt (v5 + 1) (fun x_24 => cs_Flocks_fewestBackwards_B_21 n mm s_19 v3 v4 x_24) else gb_lt (v5 + 1) (fun x_25 => cs_Flocks_fewestBackwards_B_21 n mm s_19 v3 v5 x_25))))) else (if (1 : Int32) = 0 then gb_lt (v5 + 1) (fun x_27 => cs_Flocks_fewestBackwards_B_21 n mm σ v3 v4 x_27) else gb_cd (cs_java_lang_Integer_bitCount n σ v5) (fun s_28 r_29 => gb_cd (cs_java_lang_Integer_bitCount n s_28 v4) (fun s_32 r_33 => (if r_33 ≤ r_29 then gb_lt (v5 + 1) (fun x_37 => cs_Flocks_fewestBackwards_B_21 n mm s_32 v3 v4 x_37) else gb_lt (v5 + 1) (fun x_38 => cs_Flocks_fewestBackwards_B_21 n mm s_32 v3 v5 x_38)))))))))))
def cs_Flocks_fewestBackwards_B (n : Nat) (σ : gb_S) (p1 : Nat) (p2 : Int32) (p3 : Int32) : gb_CR Int32 := gb_kk (gb_kB p1) (gb_cd (cs_Flocks_sumUp_B_c131 n σ p1 p2) (fun s_2 _ => gb_lt ((s_2.1 130 4) - 1) (fun x_6 => cs_Flocks_fewestBackwards_B_21 n n s_2 p3 x_6 0)))
set_option maxHeartbeats 8000000 in
set_option maxRecDepth 100000 in
theorem cc_Flocks_fewestBackwards_B (l : Launch) (D : va_G) (cT : Nat → ClassId) (tt : Nat → Nat) (b1 b : Nat) (hb1 : b1 ≤ b) (n : Nat) (σ : gb_S) (p1 : Nat) (p2 : Int32) (p3 : Int32) (σE : gb_S) (rE : Int32) (h : cs_Flocks_fewestBackwards_B n σ p1 p2 p3 = some (σE, rE)) : Met l yX2_fewestBackwards (.code yX2_fewestBackwards cX2_fewestBackwards 7 (some FieldType.int) :: gb_wA) ({ frames := 4, cells := 0, slots := 0, locals := 97 }) (gb_Pc D cT tt b1 [.ref (b + 130), .ref (b + p1), .int p2, .int p3] (fun h => va_P D vwCl (gb_wl b (gb_CW cT b σ)) h)) (gb_Qi (fun r h => r = rE ∧ va_P D vwCl (gb_wl b (gb_CW cT b σE)) h) (gb_fr b 135)) 0 0 (gb_fr b 135) := by
  refine Met.ofW (cc := cX2_fewestBackwards) (maxL := 7) (ret := (some FieldType.int)) (by decide) rfl ?_
  intro p e s m args below meth c s₁ B hml hv
  obtain ⟨rfl, hSt, hP⟩ := hv
  have hx := B.exec
  have hb := B.bytes
  have hr := B.returns
  have hts := atoms_spec (ws := .code yX2_fewestBackwards cX2_fewestBackwards 7 (some FieldType.int) :: gb_wA) B.pre
  have hq : ∀ w ∈ gb_wA, w.before _ s = true := fun w h => hts w (List.mem_cons_of_mem _ h)
  have hown : s.vm.findClass RX2 = some m.cls := findClass_of_methodNamed B.named
  have hlocks := B.notSynchronized
  clear B hts
  have hK := hSt.1
  have hS : va_S (gb_fr b 135) s.heap s.heap [] := va_S.rf
  have hl := lv_entry ([.ref (b + 130), .ref (b + p1), .int p2, .int p3]) (n := 7) (Nat.le_of_ble_eq_true rfl)
  rw [lg_entry_eq]
  generalize (lg_sl ([.ref (b + 130), .ref (b + p1), .int p2, .int p3]) ++ List.replicate (7 - (lg_sl ([.ref (b + 130), .ref (b + p1), .int p2, .int p3])).length) Slot.unset).toArray = ls at hl ⊢
  replace hl : lv_has ls 7 [(0, .ref (b + 130)), (1, .ref (b + p1)), (2, .int p2), (3, .int p3)] := hl
  have L21_1 : ∀ (mm : Nat) (σ : gb_S) (v3 : Int32) (v4 : Int32) (v5 : Int32) (H : Heap) (locs : List Loc) (ls : Array Slot), cs_Flocks_fewestBackwards_B_21 n mm σ v3 v4 v5 = some (σE, rE) → va_P D vwCl (gb_wl b (gb_CW cT b σ)) H → va_S (gb_fr b 135) s.heap H locs → lv_has ls 7 [(0, .ref (b + 130)), (3, .int v3), (4, .int v4), (5, .int v5)] → W p l e (headSpec (.code yX2_fewestBackwards cX2_fewestBackwards 7 (some FieldType.int) :: gb_wA) ({ frames := 4, cells := 0, slots := 0, locals := 97 })).room s m ([.ref (b + 130), .ref (b + p1), .int p2, .int p3]).toArray below meth c H locs 0 0 (MQ below (gb_Qi (fun r h => r = rE ∧ va_P D vwCl (gb_wl b (gb_CW cT b σE)) h) (gb_fr b 135)) ([.ref (b + 130), .ref (b + p1), .int p2, .int p3]).toArray s 0 0 (gb_fr b 135)) (F0 m 21 ls []) := by
    clear h hP hS hl ls
    intro mm
    induction mm with
    | zero =>
      intro σ v3 v4 v5 H locs ls h
      cases h
    | succ mm ih =>
      intro σ v3 v4 v5 H locs ls h hP hS hl
      rw [cs_Flocks_fewestBackwards_B_21] at h
      refine lv_iload hx hb dX2_fewestBackwards_21 (lv_at hl 3 rfl) ?_
      refine lv_aload_n hx hb dX2_fewestBackwards_23 rfl (lv_at hl 0 rfl) ?_
      refine va_get (ci := 2) (v := (.int (σ.1 130 4))) (C := RX2) (T := TX2) (N := 6) hx hb hq i_X2 hown hK hP 130 (gb_at b rfl) rfl 4 (by decide) (hq _ w_298) (fun _ h9 => h9) rfl dX2_fewestBackwards_24 ?_
      refine lv_icmp_ge (tgt := 90) hx hb dX2_fewestBackwards_27 (by decide) (fun c_7 => ?_) (fun c_7 => ?_)
      · rw [if_pos c_7] at h
        refine lv_iload hx hb dX2_fewestBackwards_90 (lv_at hl 2 rfl) ?_
        obtain ⟨e1, e2⟩ := gb_eq2 h
        exact W.iret (v := v4) hx hb hr (fun t ht hW => gb_ri ht ⟨e2, by rw [← e1]; exact hP⟩ hS) hS.2.2 dX2_fewestBackwards_92
      · rw [if_neg c_7] at h
        refine lv_aload_n hx hb dX2_fewestBackwards_30 rfl (lv_at hl 0 rfl) ?_
        refine va_get (ci := 2) (v := (.ref (b + 131))) (C := RX2) (T := TX2) (N := 6) hx hb hq i_X2 hown hK hP 130 (gb_at b rfl) rfl 0 (by decide) (hq _ w_294) (fun _ h9 => h9) rfl dX2_fewestBackwards_31 ?_
        refine lv_aload_n hx hb dX2_fewestBackwards_34 rfl (lv_at hl 0 rfl) ?_
        refine va_get (ci := 2) (v := (.int (σ.1 130 4))) (C := RX2) (T := TX2) (N := 6) hx hb hq i_X2 hown hK hP 130 (gb_at b rfl) rfl 4 (by decide) (hq _ w_298) (fun _ h9 => h9) rfl dX2_fewestBackwards_35 ?_
        refine lv_iconst (v := 1) hx hb dX2_fewestBackwards_38 (by decide) ?_
        refine lv_isub hx hb dX2_fewestBackwards_39 ?_
        obtain ⟨z_8, h⟩ := gb_ck_s h
        refine va_iald hx hb hK hP 131 0 (gb_at b rfl) rfl z_8 dX2_fewestBackwards_40 ?_
        refine lv_topi (fun x_9 ex_9 => ?_)
        replace h := gb_lt_s ex_9 h
        refine lv_iconst (v := 2) hx hb dX2_fewestBackwards_41 (by decide) ?_
        refine lv_aload_n hx hb dX2_fewestBackwards_42 rfl (lv_at hl 0 rfl) ?_
        refine va_get (ci := 2) (v := (.ref (b + 131))) (C := RX2) (T := TX2) (N := 6) hx hb hq i_X2 hown hK hP 130 (gb_at b rfl) rfl 0 (by decide) (hq _ w_294) (fun _ h9 => h9) rfl dX2_fewestBackwards_43 ?_
        refine lv_iload hx hb dX2_fewestBackwards_46 (lv_at hl 3 rfl) ?_
        obtain ⟨z_10, h⟩ := gb_ck_s h
        refine va_iald hx hb hK hP 131 0 (gb_at b rfl) rfl z_10 dX2_fewestBackwards_48 ?_
        refine lv_topi (fun x_11 ex_11 => ?_)
        replace h := gb_lt_s ex_11 h
        refine lv_imul hx hb dX2_fewestBackwards_49 ?_
        refine lv_isub hx hb dX2_fewestBackwards_50 ?_
        refine lv_iload_n hx hb dX2_fewestBackwards_51 rfl (lv_at hl 1 rfl) ?_
        refine lv_icmp_gt (tgt := 59) hx hb dX2_fewestBackwards_52 (by decide) (fun c_12 => ?_) (fun c_12 => ?_)
        · rw [if_pos c_12] at h
          refine lv_iconst (v := 0) hx hb dX2_fewestBackwards_59 (by decide) ?_
          refine lv_istore (lv' := [(6, .int 0), (0, .ref (b + 130)), (3, .int v3), (4, .int v4), (5, .int v5)]) hx hb dX2_fewestBackwards_60 hl (by decide) rfl (fun ls hl => ?_)
          refine lv_iload hx hb dX2_fewestBackwards_62 (lv_at hl 0 rfl) ?_
          refine lv_if_eq (tgt := 84) hx hb dX2_fewestBackwards_64 (by decide) (fun c_13 => ?_) (fun c_13 => ?_)
          · rw [if_pos c_13] at h
            obtain ⟨x_14, ex_14⟩ : ∃ q, q = (v5 + 1) := ⟨_, rfl⟩
            replace h := gb_lt_s ex_14 h
            refine lv_iinc (v := x_14) (lv' := [(5, .int x_14), (6, .int 0), (0, .ref (b + 130)), (3, .int v3), (4, .int v4)]) hx hb dX2_fewestBackwards_84 hl (k := 4) rfl (by rw [ex_14]; rfl) (by decide) rfl (fun ls hl => ?_)
            refine lv_goto (tgt := 21) hx hb dX2_fewestBackwards_87 (by decide) ?_
            exact ih _ _ _ _ _ _ _ h hP hS (lv_sub hl [2, 3, 4, 0] rfl)
          · rw [if_neg c_13] at h
            refine lv_iload hx hb dX2_fewestBackwards_67 (lv_at hl 4 rfl) ?_
            obtain ⟨s_15, r_16, z_17, h⟩ := gb_cd_s h
            refine gb_calli (va_runS (As := [.int v5]) (rest := []) ⟨hx, hb, hml, hown, hq⟩ (cc_java_lang_Integer_bitCount l D cT tt b1 b hb1 n σ v5 s_15 r_16 z_17) (va_cwS 1 hq (gb_gS w_988 w_989 w_21 w_990) rfl rfl rfl (by decide +kernel) ⟨Nat.le_of_ble_eq_true rfl, Nat.le_of_ble_eq_true rfl⟩) (gb_preS hSt hS (fun q h => Nat.le_trans hb1 h.1) hP) rfl rfl hl.1 rfl (lv_room (Nat.le_of_ble_eq_true rfl)) dX2_fewestBackwards_69 ⟨Nat.le_of_ble_eq_true rfl, Nat.le_of_ble_eq_true rfl⟩) hS (fun _ h => h) (fun _ h => h) (fun q_18 H locs hY hk hS => ?_)
            obtain ⟨hq_18, hP⟩ := hY
            replace hq_18 := hq_18.symm
            subst hq_18
            refine lv_iload hx hb dX2_fewestBackwards_72 (lv_at hl 3 rfl) ?_
            obtain ⟨s_19, r_20, z_21, h⟩ := gb_cd_s h
            refine gb_calli (va_runS (As := [.int v4]) (rest := [.int r_16]) ⟨hx, hb, hml, hown, hq⟩ (cc_java_lang_Integer_bitCount l D cT tt b1 b hb1 n s_15 v4 s_19 r_20 z_21) (va_cwS 1 hq (gb_gS w_988 w_989 w_21 w_990) rfl rfl rfl (by decide +kernel) ⟨Nat.le_of_ble_eq_true rfl, Nat.le_of_ble_eq_true rfl⟩) (gb_preS hSt hS (fun q h => Nat.le_trans hb1 h.1) hP) rfl rfl hl.1 rfl (lv_room (Nat.le_of_ble_eq_true rfl)) dX2_fewestBackwards_74 ⟨Nat.le_of_ble_eq_true rfl, Nat.le_of_ble_eq_true rfl⟩) hS (fun _ h => h) (fun _ h => h) (fun q_22 H locs hY hk hS => ?_)
            obtain ⟨hq_22, hP⟩ := hY
            replace hq_22 := hq_22.symm
            subst hq_22
            refine lv_icmp_ge (tgt := 84) hx hb dX2_fewestBackwards_77 (by decide) (fun c_23 => ?_) (fun c_23 => ?_)
            · rw [if_pos c_23] at h
              obtain ⟨x_24, ex_24⟩ : ∃ q, q = (v5 + 1) := ⟨_, rfl⟩
              replace h := gb_lt_s ex_24 h
              refine lv_iinc (v := x_24) (lv' := [(5, .int x_24), (6, .int 0), (0, .ref (b + 130)), (3, .int v3), (4, .int v4)]) hx hb dX2_fewestBackwards_84 hl (k := 4) rfl (by rw [ex_24]; rfl) (by decide) rfl (fun ls hl => ?_)
              refine lv_goto (tgt := 21) hx hb dX2_fewestBackwards_87 (by decide) ?_
              exact ih _ _ _ _ _ _ _ h hP hS (lv_sub hl [2, 3, 4, 0] rfl)
            · rw [if_neg c_23] at h
              refine lv_iload hx hb dX2_fewestBackwards_80 (lv_at hl 4 rfl) ?_
              refine lv_istore (lv' := [(4, .int v5), (6, .int 0), (0, .ref (b + 130)), (3, .int v3), (5, .int v5)]) hx hb dX2_fewestBackwards_82 hl (by decide) rfl (fun ls hl => ?_)
              obtain ⟨x_25, ex_25⟩ : ∃ q, q = (v5 + 1) := ⟨_, rfl⟩
              replace h := gb_lt_s ex_25 h
              refine lv_iinc (v := x_25) (lv' := [(5, .int x_25), (4, .int v5), (6, .int 0), (0, .ref (b + 130)), (3, .int v3)]) hx hb dX2_fewestBackwards_84 hl (k := 4) rfl (by rw [ex_25]; rfl) (by decide) rfl (fun ls hl => ?_)
              refine lv_goto (tgt := 21) hx hb dX2_fewestBackwards_87 (by decide) ?_
              exact ih _ _ _ _ _ _ _ h hP hS (lv_sub hl [3, 4, 1, 0] rfl)
        · rw [if_neg c_12] at h
          refine lv_iconst (v := 1) hx hb dX2_fewestBackwards_55 (by decide) ?_
          refine lv_goto (tgt := 60) hx hb dX2_fewestBackwards_56 (by decide) ?_
          refine lv_istore (lv' := [(6, .int 1), (0, .ref (b + 130)), (3, .int v3), (4, .int v4), (5, .int v5)]) hx hb dX2_fewestBackwards_60 hl (by decide) rfl (fun ls hl => ?_)
          refine lv_iload hx hb dX2_fewestBackwards_62 (lv_at hl 0 rfl) ?_
          refine lv_if_eq (tgt := 84) hx hb dX2_fewestBackwards_64 (by decide) (fun c_26 => ?_) (fun c_26 => ?_)
          · rw [if_pos c_26] at h
            obtain ⟨x_27, ex_27⟩ : ∃ q, q = (v5 + 1) := ⟨_, rfl⟩
            replace h := gb_lt_s ex_27 h
            refine lv_iinc (v := x_27) (lv' := [(5, .int x_27), (6, .int 1), (0, .ref (b + 130)), (3, .int v3), (4, .int v4)]) hx hb dX2_fewestBackwards_84 hl (k := 4) rfl (by rw [ex_27]; rfl) (by decide) rfl (fun ls hl => ?_)
            refine lv_goto (tgt := 21) hx hb dX2_fewestBackwards_87 (by decide) ?_
            exact ih _ _ _ _ _ _ _ h hP hS (lv_sub hl [2, 3, 4, 0] rfl)
          · rw [if_neg c_26] at h
            refine lv_iload hx hb dX2_fewestBackwards_67 (lv_at hl 4 rfl) ?_
            obtain ⟨s_28, r_29, z_30, h⟩ := gb_cd_s h
            refine gb_calli (va_runS (As := [.int v5]) (rest := []) ⟨hx, hb, hml, hown, hq⟩ (cc_java_lang_Integer_bitCount l D cT tt b1 b hb1 n σ v5 s_28 r_29 z_30) (va_cwS 1 hq (gb_gS w_988 w_989 w_21 w_990) rfl rfl rfl (by decide +kernel) ⟨Nat.le_of_ble_eq_true rfl, Nat.le_of_ble_eq_true rfl⟩) (gb_preS hSt hS (fun q h => Nat.le_trans hb1 h.1) hP) rfl rfl hl.1 rfl (lv_room (Nat.le_of_ble_eq_true rfl)) dX2_fewestBackwards_69 ⟨Nat.le_of_ble_eq_true rfl, Nat.le_of_ble_eq_true rfl⟩) hS (fun _ h => h) (fun _ h => h) (fun q_31 H locs hY hk hS => ?_)
            obtain ⟨hq_31, hP⟩ := hY
            replace hq_31 := hq_31.symm
            subst hq_31
            refine lv_iload hx hb dX2_fewestBackwards_72 (lv_at hl 3 rfl) ?_
            obtain ⟨s_32, r_33, z_34, h⟩ := gb_cd_s h
            refine gb_calli (va_runS (As := [.int v4]) (rest := [.int r_29]) ⟨hx, hb, hml, hown, hq⟩ (cc_java_lang_Integer_bitCount l D cT tt b1 b hb1 n s_28 v4 s_32 r_33 z_34) (va_cwS 1 hq (gb_gS w_988 w_989 w_21 w_990) rfl rfl rfl (by decide +kernel) ⟨Nat.le_of_ble_eq_true rfl, Nat.le_of_ble_eq_true rfl⟩) (gb_preS hSt hS (fun q h => Nat.le_trans hb1 h.1) hP) rfl rfl hl.1 rfl (lv_room (Nat.le_of_ble_eq_true rfl)) dX2_fewestBackwards_74 ⟨Nat.le_of_ble_eq_true rfl, Nat.le_of_ble_eq_true rfl⟩) hS (fun _ h => h) (fun _ h => h) (fun q_35 H locs hY hk hS => ?_)
            obtain ⟨hq_35, hP⟩ := hY
            replace hq_35 := hq_35.symm
            subst hq_35
            refine lv_icmp_ge (tgt := 84) hx hb dX2_fewestBackwards_77 (by decide) (fun c_36 => ?_) (fun c_36 => ?_)
            · rw [if_pos c_36] at h
              obtain ⟨x_37, ex_37⟩ : ∃ q, q = (v5 + 1) := ⟨_, rfl⟩
              replace h := gb_lt_s ex_37 h
              refine lv_iinc (v := x_37) (lv' := [(5, .int x_37), (6, .int 1), (0, .ref (b + 130)), (3, .int v3), (4, .int v4)]) hx hb dX2_fewestBackwards_84 hl (k := 4) rfl (by rw [ex_37]; rfl) (by decide) rfl (fun ls hl => ?_)
              refine lv_goto (tgt := 21) hx hb dX2_fewestBackwards_87 (by decide) ?_
              exact ih _ _ _ _ _ _ _ h hP hS (lv_sub hl [2, 3, 4, 0] rfl)
            · rw [if_neg c_36] at h
              refine lv_iload hx hb dX2_fewestBackwards_80 (lv_at hl 4 rfl) ?_
              refine lv_istore (lv' := [(4, .int v5), (6, .int 1), (0, .ref (b + 130)), (3, .int v3), (5, .int v5)]) hx hb dX2_fewestBackwards_82 hl (by decide) rfl (fun ls hl => ?_)
              obtain ⟨x_38, ex_38⟩ : ∃ q, q = (v5 + 1) := ⟨_, rfl⟩
              replace h := gb_lt_s ex_38 h
              refine lv_iinc (v := x_38) (lv' := [(5, .int x_38), (4, .int v5), (6, .int 1), (0, .ref (b + 130)), (3, .int v3)]) hx hb dX2_fewestBackwards_84 hl (k := 4) rfl (by rw [ex_38]; rfl) (by decide) rfl (fun ls hl => ?_)
              refine lv_goto (tgt := 21) hx hb dX2_fewestBackwards_87 (by decide) ?_
              exact ih _ _ _ _ _ _ _ h hP hS (lv_sub hl [3, 4, 1, 0] rfl)
  unfold cs_Flocks_fewestBackwards_B at h
  obtain ⟨z_1, h⟩ := gb_kk_s h
  refine lv_aload_n hx hb dX2_fewestBackwards_0 rfl (lv_at hl 0 rfl) ?_
  refine lv_aload_n hx hb dX2_fewestBackwards_1 rfl (lv_at hl 1 rfl) ?_
  refine lv_iload_n hx hb dX2_fewestBackwards_2 rfl (lv_at hl 2 rfl) ?_
  refine lv_aload_n hx hb dX2_fewestBackwards_3 rfl (lv_at hl 0 rfl) ?_
  refine va_get (ci := 2) (v := (.ref (b + 131))) (C := RX2) (T := TX2) (N := 6) hx hb hq i_X2 hown hK hP 130 (gb_at b rfl) rfl 0 (by decide) (hq _ w_294) (fun _ h9 => h9) rfl dX2_fewestBackwards_4 ?_
  obtain ⟨s_2, r_3, z_4, h⟩ := gb_cd_s h
  refine gb_callv (va_runV (C := RX2) (As := [.ref (b + p1), .int p2, .ref (b + 131)]) (rest := []) ⟨hx, hb, hml, hown, hq⟩ (cc_Flocks_sumUp_B_c131 l D cT tt b1 b hb1 n σ p1 p2 s_2 r_3 z_4) (cwV 3 hq (gb_gV w_982 w_984 s_2_10 w_13 w_985) rfl rfl rfl (by decide +kernel) ⟨Nat.le_of_ble_eq_true rfl, Nat.le_of_ble_eq_true rfl⟩) (gb_preV (r := (RX2, TX2, 6)) (ci := 2) (q0 := 130) hSt hP rfl (gb_at b rfl) hS (fun q h => Nat.le_trans hb1 h.1) hP) rfl rfl hl.1 rfl (lv_room (Nat.le_of_ble_eq_true rfl)) dX2_fewestBackwards_7 ⟨Nat.le_of_ble_eq_true rfl, Nat.le_of_ble_eq_true rfl⟩) hS (fun _ h => h) (fun _ h => h) (fun H locs hY hk hS => ?_)
  have hP := hY
  refine lv_aload_n hx hb dX2_fewestBackwards_10 rfl (lv_at hl 0 rfl) ?_
  refine va_get (ci := 2) (v := (.int (s_2.1 130 4))) (C := RX2) (T := TX2) (N := 6) hx hb hq i_X2 hown hK hP 130 (gb_at b rfl) rfl 4 (by decide) (hq _ w_298) (fun _ h9 => h9) rfl dX2_fewestBackwards_11 ?_
  refine lv_iconst (v := 1) hx hb dX2_fewestBackwards_14 (by decide) ?_
  refine lv_isub hx hb dX2_fewestBackwards_15 ?_
  refine lv_topi (fun x_6 ex_6 => ?_)
  replace h := gb_lt_s ex_6 h
  refine lv_istore (lv' := [(4, .int x_6), (0, .ref (b + 130)), (1, .ref (b + p1)), (2, .int p2), (3, .int p3)]) hx hb dX2_fewestBackwards_16 hl (by decide) rfl (fun ls hl => ?_)
  refine lv_iconst (v := 0) hx hb dX2_fewestBackwards_18 (by decide) ?_
  refine lv_istore (lv' := [(5, .int 0), (4, .int x_6), (0, .ref (b + 130)), (1, .ref (b + p1)), (2, .int p2), (3, .int p3)]) hx hb dX2_fewestBackwards_19 hl (by decide) rfl (fun ls hl => ?_)
  exact L21_1 n _ _ _ _ _ _ _ h hP hS (lv_sub hl [2, 5, 1, 0] rfl)
theorem w_1012 : (Cond.code ({ cls := "GooseBorder$Flocks", name := "fewestBackwards", desc := "(LGooseBorder$Border;II)I" } : MethodName) prog_4_method_5_code (7 : Nat) (Option.some FieldType.int)) ∈ gb_wA := gb_t5 52 rfl rfl
theorem w_1009 : (Cond.methodLink "GooseBorder" (331 : Nat) ({ cls := "GooseBorder$Flocks", name := "fewestBackwards", desc := "(LGooseBorder$Border;II)I" } : MethodName)) ∈ gb_wA := gb_t5 49 rfl rfl
theorem w_1010 : (Cond.instanceMethod ({ cls := "GooseBorder$Flocks", name := "fewestBackwards", desc := "(LGooseBorder$Border;II)I" } : MethodName)) ∈ gb_wA := gb_t5 50 rfl rfl
theorem w_1011 : (Cond.selects "GooseBorder$Flocks" ({ cls := "GooseBorder$Flocks", name := "fewestBackwards", desc := "(LGooseBorder$Border;II)I" } : MethodName) ({ cls := "GooseBorder$Flocks", name := "fewestBackwards", desc := "(LGooseBorder$Border;II)I" } : MethodName)) ∈ gb_wA := gb_t5 51 rfl rfl
theorem dX11_backs_45 : decode cX11_backs 45 = .ok (.istore 6, 2) := dc_54 (show ((cX11_backs.data.toList.drop 45).take 2).map UInt8.toNat = [54, 6] by decide +kernel) rfl
theorem dX11_backs_47 : decode cX11_backs 47 = .ok (.iload 4, 2) := dc_21 (show ((cX11_backs.data.toList.drop 47).take 2).map UInt8.toNat = [21, 4] by decide +kernel) rfl
theorem dX11_backs_49 : decode cX11_backs 49 = .ok (.ifCond .eq 11, 3) := dc_153 (show ((cX11_backs.data.toList.drop 49).take 3).map UInt8.toNat = [153, 0, 11] by decide +kernel) rfl
theorem dX11_backs_60 : decode cX11_backs 60 = .ok (.iload 6, 2) := dc_21 (show ((cX11_backs.data.toList.drop 60).take 2).map UInt8.toNat = [21, 6] by decide +kernel) rfl
theorem dX11_backs_62 : decode cX11_backs 62 = .ok (.ireturn, 1) := dc_172 (show ((cX11_backs.data.toList.drop 62).take 1).map UInt8.toNat = [172] by decide +kernel)
theorem dX11_backs_52 : decode cX11_backs 52 = .ok (.iload 6, 2) := dc_21 (show ((cX11_backs.data.toList.drop 52).take 2).map UInt8.toNat = [21, 6] by decide +kernel) rfl
theorem dX11_backs_54 : decode cX11_backs 54 = .ok (.invokestatic 334, 3) := dc_184 (show ((cX11_backs.data.toList.drop 54).take 3).map UInt8.toNat = [184, 1, 78] by decide +kernel) rfl
theorem w_1013 : (Cond.methodLink "GooseBorder" (334 : Nat) ({ cls := "java/lang/Integer", name := "bitCount", desc := "(I)I" } : MethodName)) ∈ gb_wA := gb_t5 53 rfl rfl
theorem dX11_backs_57 : decode cX11_backs 57 = .ok (.goto 5, 3) := dc_167 (show ((cX11_backs.data.toList.drop 57).take 3).map UInt8.toNat = [167, 0, 5] by decide +kernel) rfl
def cs_Face_backs (n : Nat) (σ : gb_S) (p1 : Int32) (p2 : Int32) (p3 : Int32) (p4 : Int32) : gb_CR Int32 := gb_cd (cs_Face_borderAt n σ p1) (fun s_1 r_2 => (if r_2 = 0 then some (s_1, (-1)) else gb_kk (gb_kB r_2) (gb_cd (cs_Border_hasPath_B n s_1 r_2 p2) (fun s_7 r_8 => (if r_8 = 0 then some (s_7, (-1)) else (if p3 < 0 then some (s_7, (-1)) else (if p3 ≤ 9999 then gb_cd (cs_Flocks_fewestBackwards_B n s_7 r_2 p2 p3) (fun s_14 r_15 => (if p4 = 0 then some (s_14, r_15) else gb_cd (cs_java_lang_Integer_bitCount n s_14 r_15) (fun s_19 r_20 => some (s_19, r_20)))) else some (s_7, (-1)))))))))
set_option maxHeartbeats 8000000 in
set_option maxRecDepth 100000 in
theorem cc_Face_backs (l : Launch) (D : va_G) (cT : Nat → ClassId) (tt : Nat → Nat) (b1 b : Nat) (hb1 : b1 ≤ b) (n : Nat) (σ : gb_S) (p1 : Int32) (p2 : Int32) (p3 : Int32) (p4 : Int32) (σE : gb_S) (rE : Int32) (h : cs_Face_backs n σ p1 p2 p3 p4 = some (σE, rE)) : Met l yX11_backs (.code yX11_backs cX11_backs 7 (some FieldType.int) :: gb_wA) ({ frames := 5, cells := 0, slots := 0, locals := 123 }) (gb_Pc D cT tt b1 [.ref (b + 0), .int p1, .int p2, .int p3, .int p4] (fun h => va_P D vwCl (gb_wl b (gb_CW cT b σ)) h)) (gb_Qi (fun r h => r = rE ∧ va_P D vwCl (gb_wl b (gb_CW cT b σE)) h) (gb_fr b 135)) 0 0 (gb_fr b 135) := by
  refine Met.ofW (cc := cX11_backs) (maxL := 7) (ret := (some FieldType.int)) (by decide) rfl ?_
  intro p e s m args below meth c s₁ B hml hv
  obtain ⟨rfl, hSt, hP⟩ := hv
  have hx := B.exec
  have hb := B.bytes
  have hr := B.returns
  have hts := atoms_spec (ws := .code yX11_backs cX11_backs 7 (some FieldType.int) :: gb_wA) B.pre
  have hq : ∀ w ∈ gb_wA, w.before _ s = true := fun w h => hts w (List.mem_cons_of_mem _ h)
  have hown : s.vm.findClass RX11 = some m.cls := findClass_of_methodNamed B.named
  have hlocks := B.notSynchronized
  clear B hts
  have hK := hSt.1
  have hS : va_S (gb_fr b 135) s.heap s.heap [] := va_S.rf
  have hl := lv_entry ([.ref (b + 0), .int p1, .int p2, .int p3, .int p4]) (n := 7) (Nat.le_of_ble_eq_true rfl)
  rw [lg_entry_eq]
  generalize (lg_sl ([.ref (b + 0), .int p1, .int p2, .int p3, .int p4]) ++ List.replicate (7 - (lg_sl ([.ref (b + 0), .int p1, .int p2, .int p3, .int p4])).length) Slot.unset).toArray = ls at hl ⊢
  replace hl : lv_has ls 7 [(0, .ref (b + 0)), (1, .int p1), (2, .int p2), (3, .int p3), (4, .int p4)] := hl
  unfold cs_Face_backs at h
  refine lv_aload_n hx hb dX11_backs_0 rfl (lv_at hl 0 rfl) ?_
  refine lv_iload_n hx hb dX11_backs_1 rfl (lv_at hl 1 rfl) ?_
  obtain ⟨s_1, r_2, z_3, h⟩ := gb_cd_s h
  refine gb_callq (va_runV (C := RX11) (As := [.int p1]) (rest := []) ⟨hx, hb, hml, hown, hq⟩ (cc_Face_borderAt l D cT tt b1 b hb1 n σ p1 s_1 r_2 z_3) (cwV 1 hq (gb_gV w_593 w_595 s_1_7 w_1 w_596) rfl rfl rfl (by decide +kernel) ⟨Nat.le_of_ble_eq_true rfl, Nat.le_of_ble_eq_true rfl⟩) (gb_preV (r := (RX11, TX11, 10)) (ci := 9) (q0 := 0) hSt hP rfl (gb_at b rfl) hS (fun q h => Nat.le_trans hb1 h.1) hP) rfl rfl hl.1 rfl (lv_room (Nat.le_of_ble_eq_true rfl)) dX11_backs_2 ⟨Nat.le_of_ble_eq_true rfl, Nat.le_of_ble_eq_true rfl⟩) hS (fun _ h => h) (fun _ h => h) (fun q_4 H locs hY hk hS => ?_)
  obtain ⟨hq_4, hP⟩ := hY
  subst hq_4
  rw [gb_onv]
  by_cases c_5 : r_2 = 0
  · rw [if_pos c_5] at h
    rw [gb_nv0 c_5]
    refine lv_astoreN (lv' := [(5, .null), (0, .ref (b + 0)), (1, .int p1), (2, .int p2), (3, .int p3), (4, .int p4)]) hx hb dX11_backs_5 hl (by decide) rfl (fun ls hl => ?_)
    refine lv_aloadN hx hb dX11_backs_7 (lv_at hl 0 rfl) ?_
    refine lv_ifnullN (tgt := 32) hx hb dX11_backs_9 (by decide) ?_
    refine lv_iconst (v := (-1)) hx hb dX11_backs_32 (by decide) ?_
    obtain ⟨e1, e2⟩ := gb_eq2 h
    exact W.iret (v := (-1)) hx hb hr (fun t ht hW => gb_ri ht ⟨e2, by rw [← e1]; exact hP⟩ hS) hS.2.2 dX11_backs_33
  rw [if_neg c_5] at h
  rw [gb_nv1 c_5]
  obtain ⟨z_6, h⟩ := gb_kk_s h
  refine lv_astore (lv' := [(5, .ref (b + r_2)), (0, .ref (b + 0)), (1, .int p1), (2, .int p2), (3, .int p3), (4, .int p4)]) hx hb dX11_backs_5 hl (by decide) rfl (fun ls hl => ?_)
  refine lv_aload hx hb dX11_backs_7 (lv_at hl 0 rfl) ?_
  refine lv_ifnull hx hb dX11_backs_9 ?_
  refine lv_aload hx hb dX11_backs_12 (lv_at hl 0 rfl) ?_
  refine lv_iload_n hx hb dX11_backs_14 rfl (lv_at hl 3 rfl) ?_
  obtain ⟨s_7, r_8, z_9, h⟩ := gb_cd_s h
  refine gb_calli (va_runV (C := RX0) (As := [.int p2]) (rest := []) ⟨hx, hb, hml, hown, hq⟩ (cc_Border_hasPath_B l D cT tt b1 b hb1 n s_1 r_2 p2 s_7 r_8 z_9) (cwV 1 hq (gb_gV w_620 w_608 w_609 w_4 w_610) rfl rfl rfl (by decide +kernel) ⟨Nat.le_of_ble_eq_true rfl, Nat.le_of_ble_eq_true rfl⟩) (gb_preV (r := (RX0, TX0, 1)) (ci := 0) (q0 := r_2) hSt hP rfl (gb_at b (gb_cB z_6).1) hS (fun q h => Nat.le_trans hb1 h.1) hP) rfl rfl hl.1 rfl (lv_room (Nat.le_of_ble_eq_true rfl)) dX11_backs_15 ⟨Nat.le_of_ble_eq_true rfl, Nat.le_of_ble_eq_true rfl⟩) hS (fun _ h => h) (fun _ h => h) (fun q_10 H locs hY hk hS => ?_)
  obtain ⟨hq_10, hP⟩ := hY
  replace hq_10 := hq_10.symm
  subst hq_10
  refine lv_if_eq (tgt := 32) hx hb dX11_backs_18 (by decide) (fun c_11 => ?_) (fun c_11 => ?_)
  · rw [if_pos c_11] at h
    refine lv_iconst (v := (-1)) hx hb dX11_backs_32 (by decide) ?_
    obtain ⟨e1, e2⟩ := gb_eq2 h
    exact W.iret (v := (-1)) hx hb hr (fun t ht hW => gb_ri ht ⟨e2, by rw [← e1]; exact hP⟩ hS) hS.2.2 dX11_backs_33
  · rw [if_neg c_11] at h
    refine lv_iload_n hx hb dX11_backs_21 rfl (lv_at hl 4 rfl) ?_
    refine lv_if_lt (tgt := 32) hx hb dX11_backs_22 (by decide) (fun c_12 => ?_) (fun c_12 => ?_)
    · rw [if_pos c_12] at h
      refine lv_iconst (v := (-1)) hx hb dX11_backs_32 (by decide) ?_
      obtain ⟨e1, e2⟩ := gb_eq2 h
      exact W.iret (v := (-1)) hx hb hr (fun t ht hW => gb_ri ht ⟨e2, by rw [← e1]; exact hP⟩ hS) hS.2.2 dX11_backs_33
    · rw [if_neg c_12] at h
      refine lv_iload_n hx hb dX11_backs_25 rfl (lv_at hl 4 rfl) ?_
      refine lv_sipush (v := 9999) hx hb dX11_backs_26 (by decide) ?_
      refine lv_icmp_le (tgt := 34) hx hb dX11_backs_29 (by decide) (fun c_13 => ?_) (fun c_13 => ?_)
      · rw [if_pos c_13] at h
        refine lv_aload_n hx hb dX11_backs_34 rfl (lv_at hl 1 rfl) ?_
        refine va_get (ci := 9) (v := (.ref (b + 130))) (C := RX11) (T := TX11) (N := 10) hx hb hq i_X11 hown hK hP 0 (gb_at b rfl) rfl 8 (by decide) (hq _ w_323) (fun _ h9 => h9) rfl dX11_backs_35 ?_
        refine lv_aload hx hb dX11_backs_38 (lv_at hl 0 rfl) ?_
        refine lv_iload_n hx hb dX11_backs_40 rfl (lv_at hl 3 rfl) ?_
        refine lv_iload_n hx hb dX11_backs_41 rfl (lv_at hl 4 rfl) ?_
        obtain ⟨s_14, r_15, z_16, h⟩ := gb_cd_s h
        refine gb_calli (va_runV (C := RX2) (As := [.ref (b + r_2), .int p2, .int p3]) (rest := []) ⟨hx, hb, hml, hown, hq⟩ (cc_Flocks_fewestBackwards_B l D cT tt b1 b hb1 n s_7 r_2 p2 p3 s_14 r_15 z_16) (cwV 3 hq (gb_gV w_1009 w_1010 w_1011 w_13 w_1012) rfl rfl rfl (by decide +kernel) ⟨Nat.le_of_ble_eq_true rfl, Nat.le_of_ble_eq_true rfl⟩) (gb_preV (r := (RX2, TX2, 6)) (ci := 2) (q0 := 130) hSt hP rfl (gb_at b rfl) hS (fun q h => Nat.le_trans hb1 h.1) hP) rfl rfl hl.1 rfl (lv_room (Nat.le_of_ble_eq_true rfl)) dX11_backs_42 ⟨Nat.le_of_ble_eq_true rfl, Nat.le_of_ble_eq_true rfl⟩) hS (fun _ h => h) (fun _ h => h) (fun q_17 H locs hY hk hS => ?_)
        obtain ⟨hq_17, hP⟩ := hY
        replace hq_17 := hq_17.symm
        subst hq_17
        refine lv_istore (lv' := [(6, .int r_15), (5, .ref (b + r_2)), (0, .ref (b + 0)), (1, .int p1), (2, .int p2), (3, .int p3), (4, .int p4)]) hx hb dX11_backs_45 hl (by decide) rfl (fun ls hl => ?_)
        refine lv_iload hx hb dX11_backs_47 (lv_at hl 6 rfl) ?_
        refine lv_if_eq (tgt := 60) hx hb dX11_backs_49 (by decide) (fun c_18 => ?_) (fun c_18 => ?_)
        · rw [if_pos c_18] at h
          refine lv_iload hx hb dX11_backs_60 (lv_at hl 0 rfl) ?_
          obtain ⟨e1, e2⟩ := gb_eq2 h
          exact W.iret (v := r_15) hx hb hr (fun t ht hW => gb_ri ht ⟨e2, by rw [← e1]; exact hP⟩ hS) hS.2.2 dX11_backs_62
        · rw [if_neg c_18] at h
          refine lv_iload hx hb dX11_backs_52 (lv_at hl 0 rfl) ?_
          obtain ⟨s_19, r_20, z_21, h⟩ := gb_cd_s h
          refine gb_calli (va_runS (As := [.int r_15]) (rest := []) ⟨hx, hb, hml, hown, hq⟩ (cc_java_lang_Integer_bitCount l D cT tt b1 b hb1 n s_14 r_15 s_19 r_20 z_21) (va_cwS 1 hq (gb_gS w_1013 w_989 w_21 w_990) rfl rfl rfl (by decide +kernel) ⟨Nat.le_of_ble_eq_true rfl, Nat.le_of_ble_eq_true rfl⟩) (gb_preS hSt hS (fun q h => Nat.le_trans hb1 h.1) hP) rfl rfl hl.1 rfl (lv_room (Nat.le_of_ble_eq_true rfl)) dX11_backs_54 ⟨Nat.le_of_ble_eq_true rfl, Nat.le_of_ble_eq_true rfl⟩) hS (fun _ h => h) (fun _ h => h) (fun q_22 H locs hY hk hS => ?_)
          obtain ⟨hq_22, hP⟩ := hY
          replace hq_22 := hq_22.symm
          subst hq_22
          refine lv_goto (tgt := 62) hx hb dX11_backs_57 (by decide) ?_
          obtain ⟨e1, e2⟩ := gb_eq2 h
          exact W.iret (v := r_20) hx hb hr (fun t ht hW => gb_ri ht ⟨e2, by rw [← e1]; exact hP⟩ hS) hS.2.2 dX11_backs_62
      · rw [if_neg c_13] at h
        refine lv_iconst (v := (-1)) hx hb dX11_backs_32 (by decide) ?_
        obtain ⟨e1, e2⟩ := gb_eq2 h
        exact W.iret (v := (-1)) hx hb hr (fun t ht hW => gb_ri ht ⟨e2, by rw [← e1]; exact hP⟩ hS) hS.2.2 dX11_backs_33
theorem dX11_near_0 : decode cX11_near 0 = .ok (.aload_n 0, 1) := dc_42 (show ((cX11_near.data.toList.drop 0).take 1).map UInt8.toNat = [42] by decide +kernel)
theorem dX11_near_1 : decode cX11_near 1 = .ok (.iload_n 1, 1) := dc_27 (show ((cX11_near.data.toList.drop 1).take 1).map UInt8.toNat = [27] by decide +kernel)
theorem dX11_near_2 : decode cX11_near 2 = .ok (.invokevirtual 113, 3) := dc_182 (show ((cX11_near.data.toList.drop 2).take 3).map UInt8.toNat = [182, 0, 113] by decide +kernel) rfl
theorem dX11_near_5 : decode cX11_near 5 = .ok (.astore 4, 2) := dc_58 (show ((cX11_near.data.toList.drop 5).take 2).map UInt8.toNat = [58, 4] by decide +kernel) rfl
theorem dX11_near_7 : decode cX11_near 7 = .ok (.aload_n 0, 1) := dc_42 (show ((cX11_near.data.toList.drop 7).take 1).map UInt8.toNat = [42] by decide +kernel)
theorem dX11_near_8 : decode cX11_near 8 = .ok (.iload_n 2, 1) := dc_28 (show ((cX11_near.data.toList.drop 8).take 1).map UInt8.toNat = [28] by decide +kernel)
theorem dX11_near_9 : decode cX11_near 9 = .ok (.invokevirtual 160, 3) := dc_182 (show ((cX11_near.data.toList.drop 9).take 3).map UInt8.toNat = [182, 0, 160] by decide +kernel) rfl
theorem dX11_near_12 : decode cX11_near 12 = .ok (.astore 5, 2) := dc_58 (show ((cX11_near.data.toList.drop 12).take 2).map UInt8.toNat = [58, 5] by decide +kernel) rfl
theorem dX11_near_14 : decode cX11_near 14 = .ok (.aload 4, 2) := dc_25 (show ((cX11_near.data.toList.drop 14).take 2).map UInt8.toNat = [25, 4] by decide +kernel) rfl
theorem dX11_near_16 : decode cX11_near 16 = .ok (.ifnull 35, 3) := dc_198 (show ((cX11_near.data.toList.drop 16).take 3).map UInt8.toNat = [198, 0, 35] by decide +kernel) rfl
theorem dX11_near_51 : decode cX11_near 51 = .ok (.iconst (-1), 1) := dc_2 (show ((cX11_near.data.toList.drop 51).take 1).map UInt8.toNat = [2] by decide +kernel)
theorem dX11_near_52 : decode cX11_near 52 = .ok (.ireturn, 1) := dc_172 (show ((cX11_near.data.toList.drop 52).take 1).map UInt8.toNat = [172] by decide +kernel)
theorem dX11_near_19 : decode cX11_near 19 = .ok (.aload 5, 2) := dc_25 (show ((cX11_near.data.toList.drop 19).take 2).map UInt8.toNat = [25, 5] by decide +kernel) rfl
theorem dX11_near_21 : decode cX11_near 21 = .ok (.ifnull 30, 3) := dc_198 (show ((cX11_near.data.toList.drop 21).take 3).map UInt8.toNat = [198, 0, 30] by decide +kernel) rfl
theorem dX11_near_24 : decode cX11_near 24 = .ok (.iload_n 3, 1) := dc_29 (show ((cX11_near.data.toList.drop 24).take 1).map UInt8.toNat = [29] by decide +kernel)
theorem dX11_near_25 : decode cX11_near 25 = .ok (.ifCond .lt 26, 3) := dc_155 (show ((cX11_near.data.toList.drop 25).take 3).map UInt8.toNat = [155, 0, 26] by decide +kernel) rfl
theorem dX11_near_28 : decode cX11_near 28 = .ok (.iload_n 3, 1) := dc_29 (show ((cX11_near.data.toList.drop 28).take 1).map UInt8.toNat = [29] by decide +kernel)
theorem dX11_near_29 : decode cX11_near 29 = .ok (.aload 5, 2) := dc_25 (show ((cX11_near.data.toList.drop 29).take 2).map UInt8.toNat = [25, 5] by decide +kernel) rfl
theorem dX11_near_31 : decode cX11_near 31 = .ok (.invokevirtual 339, 3) := dc_182 (show ((cX11_near.data.toList.drop 31).take 3).map UInt8.toNat = [182, 1, 83] by decide +kernel) rfl
theorem w_1018 : (Cond.methodLink "GooseBorder" (339 : Nat) ({ cls := "GooseBorder$Dawn", name := "size", desc := "()I" } : MethodName)) ∈ gb_wA := gb_t5 58 rfl rfl
theorem dX11_near_34 : decode cX11_near 34 = .ok (.if_icmp .ge 17, 3) := dc_162 (show ((cX11_near.data.toList.drop 34).take 3).map UInt8.toNat = [162, 0, 17] by decide +kernel) rfl
theorem dX11_near_37 : decode cX11_near 37 = .ok (.aload 4, 2) := dc_25 (show ((cX11_near.data.toList.drop 37).take 2).map UInt8.toNat = [25, 4] by decide +kernel) rfl
theorem dX11_near_39 : decode cX11_near 39 = .ok (.aload 5, 2) := dc_25 (show ((cX11_near.data.toList.drop 39).take 2).map UInt8.toNat = [25, 5] by decide +kernel) rfl
theorem dX11_near_41 : decode cX11_near 41 = .ok (.iload_n 3, 1) := dc_29 (show ((cX11_near.data.toList.drop 41).take 1).map UInt8.toNat = [29] by decide +kernel)
theorem dX11_near_42 : decode cX11_near 42 = .ok (.invokevirtual 340, 3) := dc_182 (show ((cX11_near.data.toList.drop 42).take 3).map UInt8.toNat = [182, 1, 84] by decide +kernel) rfl
theorem w_1019 : (Cond.methodLink "GooseBorder" (340 : Nat) ({ cls := "GooseBorder$Dawn", name := "pathSeen", desc := "(I)I" } : MethodName)) ∈ gb_wA := gb_t5 59 rfl rfl
theorem dX11_near_45 : decode cX11_near 45 = .ok (.invokevirtual 135, 3) := dc_182 (show ((cX11_near.data.toList.drop 45).take 3).map UInt8.toNat = [182, 0, 135] by decide +kernel) rfl
theorem dX11_near_48 : decode cX11_near 48 = .ok (.ifCond .ne 5, 3) := dc_154 (show ((cX11_near.data.toList.drop 48).take 3).map UInt8.toNat = [154, 0, 5] by decide +kernel) rfl
theorem dX11_near_53 : decode cX11_near 53 = .ok (.aload_n 0, 1) := dc_42 (show ((cX11_near.data.toList.drop 53).take 1).map UInt8.toNat = [42] by decide +kernel)
theorem dX11_near_54 : decode cX11_near 54 = .ok (.getfield 70, 3) := dc_180 (show ((cX11_near.data.toList.drop 54).take 3).map UInt8.toNat = [180, 0, 70] by decide +kernel) rfl
theorem dX11_near_57 : decode cX11_near 57 = .ok (.aload 4, 2) := dc_25 (show ((cX11_near.data.toList.drop 57).take 2).map UInt8.toNat = [25, 4] by decide +kernel) rfl
theorem dX11_near_59 : decode cX11_near 59 = .ok (.aload 5, 2) := dc_25 (show ((cX11_near.data.toList.drop 59).take 2).map UInt8.toNat = [25, 5] by decide +kernel) rfl
theorem dX11_near_61 : decode cX11_near 61 = .ok (.iload_n 3, 1) := dc_29 (show ((cX11_near.data.toList.drop 61).take 1).map UInt8.toNat = [29] by decide +kernel)
theorem dX11_near_62 : decode cX11_near 62 = .ok (.invokevirtual 340, 3) := dc_182 (show ((cX11_near.data.toList.drop 62).take 3).map UInt8.toNat = [182, 1, 84] by decide +kernel) rfl
theorem dX11_near_65 : decode cX11_near 65 = .ok (.aload 5, 2) := dc_25 (show ((cX11_near.data.toList.drop 65).take 2).map UInt8.toNat = [25, 5] by decide +kernel) rfl
theorem dX11_near_67 : decode cX11_near 67 = .ok (.iload_n 3, 1) := dc_29 (show ((cX11_near.data.toList.drop 67).take 1).map UInt8.toNat = [29] by decide +kernel)
theorem dX11_near_68 : decode cX11_near 68 = .ok (.invokevirtual 343, 3) := dc_182 (show ((cX11_near.data.toList.drop 68).take 3).map UInt8.toNat = [182, 1, 87] by decide +kernel) rfl
theorem w_1020 : (Cond.methodLink "GooseBorder" (343 : Nat) ({ cls := "GooseBorder$Dawn", name := "marksSeen", desc := "(I)I" } : MethodName)) ∈ gb_wA := gb_t5 60 rfl rfl
theorem dX11_near_71 : decode cX11_near 71 = .ok (.invokevirtual 346, 3) := dc_182 (show ((cX11_near.data.toList.drop 71).take 3).map UInt8.toNat = [182, 1, 90] by decide +kernel) rfl
theorem dX2_nearest_0 : decode cX2_nearest 0 = .ok (.aload_n 0, 1) := dc_42 (show ((cX2_nearest.data.toList.drop 0).take 1).map UInt8.toNat = [42] by decide +kernel)
theorem dX2_nearest_1 : decode cX2_nearest 1 = .ok (.aload_n 1, 1) := dc_43 (show ((cX2_nearest.data.toList.drop 1).take 1).map UInt8.toNat = [43] by decide +kernel)
theorem dX2_nearest_2 : decode cX2_nearest 2 = .ok (.iload_n 2, 1) := dc_28 (show ((cX2_nearest.data.toList.drop 2).take 1).map UInt8.toNat = [28] by decide +kernel)
theorem dX2_nearest_3 : decode cX2_nearest 3 = .ok (.aload_n 0, 1) := dc_42 (show ((cX2_nearest.data.toList.drop 3).take 1).map UInt8.toNat = [42] by decide +kernel)
theorem dX2_nearest_4 : decode cX2_nearest 4 = .ok (.getfield 9, 3) := dc_180 (show ((cX2_nearest.data.toList.drop 4).take 3).map UInt8.toNat = [180, 0, 9] by decide +kernel) rfl
theorem dX2_nearest_7 : decode cX2_nearest 7 = .ok (.invokevirtual 39, 3) := dc_182 (show ((cX2_nearest.data.toList.drop 7).take 3).map UInt8.toNat = [182, 0, 39] by decide +kernel) rfl
theorem dX2_nearest_10 : decode cX2_nearest 10 = .ok (.iconst 0, 1) := dc_3 (show ((cX2_nearest.data.toList.drop 10).take 1).map UInt8.toNat = [3] by decide +kernel)
theorem dX2_nearest_11 : decode cX2_nearest 11 = .ok (.istore 4, 2) := dc_54 (show ((cX2_nearest.data.toList.drop 11).take 2).map UInt8.toNat = [54, 4] by decide +kernel) rfl
theorem dX2_nearest_13 : decode cX2_nearest 13 = .ok (.iconst 1, 1) := dc_4 (show ((cX2_nearest.data.toList.drop 13).take 1).map UInt8.toNat = [4] by decide +kernel)
theorem dX2_nearest_14 : decode cX2_nearest 14 = .ok (.istore 5, 2) := dc_54 (show ((cX2_nearest.data.toList.drop 14).take 2).map UInt8.toNat = [54, 5] by decide +kernel) rfl
theorem dX2_nearest_16 : decode cX2_nearest 16 = .ok (.iload 5, 2) := dc_21 (show ((cX2_nearest.data.toList.drop 16).take 2).map UInt8.toNat = [21, 5] by decide +kernel) rfl
theorem dX2_nearest_18 : decode cX2_nearest 18 = .ok (.aload_n 0, 1) := dc_42 (show ((cX2_nearest.data.toList.drop 18).take 1).map UInt8.toNat = [42] by decide +kernel)
theorem dX2_nearest_19 : decode cX2_nearest 19 = .ok (.getfield 31, 3) := dc_180 (show ((cX2_nearest.data.toList.drop 19).take 3).map UInt8.toNat = [180, 0, 31] by decide +kernel) rfl
theorem dX2_nearest_22 : decode cX2_nearest 22 = .ok (.if_icmp .ge 40, 3) := dc_162 (show ((cX2_nearest.data.toList.drop 22).take 3).map UInt8.toNat = [162, 0, 40] by decide +kernel) rfl
theorem dX2_nearest_62 : decode cX2_nearest 62 = .ok (.iload 4, 2) := dc_21 (show ((cX2_nearest.data.toList.drop 62).take 2).map UInt8.toNat = [21, 4] by decide +kernel) rfl
theorem dX2_nearest_64 : decode cX2_nearest 64 = .ok (.ireturn, 1) := dc_172 (show ((cX2_nearest.data.toList.drop 64).take 1).map UInt8.toNat = [172] by decide +kernel)
theorem dX2_nearest_25 : decode cX2_nearest 25 = .ok (.aload_n 0, 1) := dc_42 (show ((cX2_nearest.data.toList.drop 25).take 1).map UInt8.toNat = [42] by decide +kernel)
theorem dX2_nearest_26 : decode cX2_nearest 26 = .ok (.getfield 9, 3) := dc_180 (show ((cX2_nearest.data.toList.drop 26).take 3).map UInt8.toNat = [180, 0, 9] by decide +kernel) rfl
theorem dX2_nearest_29 : decode cX2_nearest 29 = .ok (.iload 5, 2) := dc_21 (show ((cX2_nearest.data.toList.drop 29).take 2).map UInt8.toNat = [21, 5] by decide +kernel) rfl
theorem dX2_nearest_31 : decode cX2_nearest 31 = .ok (.iaload, 1) := dc_46 (show ((cX2_nearest.data.toList.drop 31).take 1).map UInt8.toNat = [46] by decide +kernel)
theorem dX2_nearest_32 : decode cX2_nearest 32 = .ok (.iload_n 3, 1) := dc_29 (show ((cX2_nearest.data.toList.drop 32).take 1).map UInt8.toNat = [29] by decide +kernel)
theorem dX2_nearest_33 : decode cX2_nearest 33 = .ok (.isub, 1) := dc_100 (show ((cX2_nearest.data.toList.drop 33).take 1).map UInt8.toNat = [100] by decide +kernel)
theorem dX2_nearest_34 : decode cX2_nearest 34 = .ok (.invokestatic 52, 3) := dc_184 (show ((cX2_nearest.data.toList.drop 34).take 3).map UInt8.toNat = [184, 0, 52] by decide +kernel) rfl
theorem dX2_nearest_37 : decode cX2_nearest 37 = .ok (.aload_n 0, 1) := dc_42 (show ((cX2_nearest.data.toList.drop 37).take 1).map UInt8.toNat = [42] by decide +kernel)
theorem dX2_nearest_38 : decode cX2_nearest 38 = .ok (.getfield 9, 3) := dc_180 (show ((cX2_nearest.data.toList.drop 38).take 3).map UInt8.toNat = [180, 0, 9] by decide +kernel) rfl
theorem dX2_nearest_41 : decode cX2_nearest 41 = .ok (.iload 4, 2) := dc_21 (show ((cX2_nearest.data.toList.drop 41).take 2).map UInt8.toNat = [21, 4] by decide +kernel) rfl
theorem dX2_nearest_43 : decode cX2_nearest 43 = .ok (.iaload, 1) := dc_46 (show ((cX2_nearest.data.toList.drop 43).take 1).map UInt8.toNat = [46] by decide +kernel)
theorem dX2_nearest_44 : decode cX2_nearest 44 = .ok (.iload_n 3, 1) := dc_29 (show ((cX2_nearest.data.toList.drop 44).take 1).map UInt8.toNat = [29] by decide +kernel)
theorem dX2_nearest_45 : decode cX2_nearest 45 = .ok (.isub, 1) := dc_100 (show ((cX2_nearest.data.toList.drop 45).take 1).map UInt8.toNat = [100] by decide +kernel)
theorem dX2_nearest_46 : decode cX2_nearest 46 = .ok (.invokestatic 52, 3) := dc_184 (show ((cX2_nearest.data.toList.drop 46).take 3).map UInt8.toNat = [184, 0, 52] by decide +kernel) rfl
theorem dX2_nearest_49 : decode cX2_nearest 49 = .ok (.if_icmp .ge 7, 3) := dc_162 (show ((cX2_nearest.data.toList.drop 49).take 3).map UInt8.toNat = [162, 0, 7] by decide +kernel) rfl
theorem dX2_nearest_56 : decode cX2_nearest 56 = .ok (.iinc 5 1, 3) := dc_132 (show ((cX2_nearest.data.toList.drop 56).take 3).map UInt8.toNat = [132, 5, 1] by decide +kernel) rfl
theorem dX2_nearest_59 : decode cX2_nearest 59 = .ok (.goto (-43), 3) := dc_167 (show ((cX2_nearest.data.toList.drop 59).take 3).map UInt8.toNat = [167, 255, 213] by decide +kernel) rfl
theorem dX2_nearest_52 : decode cX2_nearest 52 = .ok (.iload 5, 2) := dc_21 (show ((cX2_nearest.data.toList.drop 52).take 2).map UInt8.toNat = [21, 5] by decide +kernel) rfl
theorem dX2_nearest_54 : decode cX2_nearest 54 = .ok (.istore 4, 2) := dc_54 (show ((cX2_nearest.data.toList.drop 54).take 2).map UInt8.toNat = [54, 4] by decide +kernel) rfl
def cs_Flocks_nearest_B_16 (n : Nat) : Nat → gb_S → Int32 → Int32 → Int32 → gb_CR Int32
  | 0, _, _, _, _ => none
  | mm + 1, σ, v3, v4, v5 => (if (σ.1 130 4) ≤ v5 then some (σ, v4) else gb_ck v5 256 (gb_lt ((σ.1 131) (Int32.toNatClampNeg v5)) (fun x_8 => gb_lt (if 0 ≤ (x_8 - v3) then (x_8 - v3) else 0 - (x_8 - v3)) (fun x_9 => gb_ck v4 256 (gb_lt ((σ.1 131) (Int32.toNatClampNeg v4)) (fun x_11 => gb_lt (if 0 ≤ (x_11 - v3) then (x_11 - v3) else 0 - (x_11 - v3)) (fun x_12 => (if x_12 ≤ x_9 then gb_lt (v5 + 1) (fun x_14 => cs_Flocks_nearest_B_16 n mm σ v3 v4 x_14) else gb_lt (v5 + 1) (fun x_15 => cs_Flocks_nearest_B_16 n mm σ v3 v5 x_15)))))))))
def cs_Flocks_nearest_B (n : Nat) (σ : gb_S) (p1 : Nat) (p2 : Int32) (p3 : Int32) : gb_CR Int32 := gb_kk (gb_kB p1) (gb_cd (cs_Flocks_sumUp_B_c131 n σ p1 p2) (fun s_2 _ => cs_Flocks_nearest_B_16 n n s_2 p3 0 1))
set_option maxHeartbeats 8000000 in
set_option maxRecDepth 100000 in
theorem cc_Flocks_nearest_B (l : Launch) (D : va_G) (cT : Nat → ClassId) (tt : Nat → Nat) (b1 b : Nat) (hb1 : b1 ≤ b) (n : Nat) (σ : gb_S) (p1 : Nat) (p2 : Int32) (p3 : Int32) (σE : gb_S) (rE : Int32) (h : cs_Flocks_nearest_B n σ p1 p2 p3 = some (σE, rE)) : Met l yX2_nearest (.code yX2_nearest cX2_nearest 6 (some FieldType.int) :: gb_wA) ({ frames := 4, cells := 0, slots := 0, locals := 97 }) (gb_Pc D cT tt b1 [.ref (b + 130), .ref (b + p1), .int p2, .int p3] (fun h => va_P D vwCl (gb_wl b (gb_CW cT b σ)) h)) (gb_Qi (fun r h => r = rE ∧ va_P D vwCl (gb_wl b (gb_CW cT b σE)) h) (gb_fr b 135)) 0 0 (gb_fr b 135) := by
  refine Met.ofW (cc := cX2_nearest) (maxL := 6) (ret := (some FieldType.int)) (by decide) rfl ?_
  intro p e s m args below meth c s₁ B hml hv
  obtain ⟨rfl, hSt, hP⟩ := hv
  have hx := B.exec
  have hb := B.bytes
  have hr := B.returns
  have hts := atoms_spec (ws := .code yX2_nearest cX2_nearest 6 (some FieldType.int) :: gb_wA) B.pre
  have hq : ∀ w ∈ gb_wA, w.before _ s = true := fun w h => hts w (List.mem_cons_of_mem _ h)
  have hown : s.vm.findClass RX2 = some m.cls := findClass_of_methodNamed B.named
  have hlocks := B.notSynchronized
  clear B hts
  have hK := hSt.1
  have hS : va_S (gb_fr b 135) s.heap s.heap [] := va_S.rf
  have hl := lv_entry ([.ref (b + 130), .ref (b + p1), .int p2, .int p3]) (n := 6) (Nat.le_of_ble_eq_true rfl)
  rw [lg_entry_eq]
  generalize (lg_sl ([.ref (b + 130), .ref (b + p1), .int p2, .int p3]) ++ List.replicate (6 - (lg_sl ([.ref (b + 130), .ref (b + p1), .int p2, .int p3])).length) Slot.unset).toArray = ls at hl ⊢
  replace hl : lv_has ls 6 [(0, .ref (b + 130)), (1, .ref (b + p1)), (2, .int p2), (3, .int p3)] := hl
  have L16_1 : ∀ (mm : Nat) (σ : gb_S) (v3 : Int32) (v4 : Int32) (v5 : Int32) (H : Heap) (locs : List Loc) (ls : Array Slot), cs_Flocks_nearest_B_16 n mm σ v3 v4 v5 = some (σE, rE) → va_P D vwCl (gb_wl b (gb_CW cT b σ)) H → va_S (gb_fr b 135) s.heap H locs → lv_has ls 6 [(0, .ref (b + 130)), (3, .int v3), (4, .int v4), (5, .int v5)] → W p l e (headSpec (.code yX2_nearest cX2_nearest 6 (some FieldType.int) :: gb_wA) ({ frames := 4, cells := 0, slots := 0, locals := 97 })).room s m ([.ref (b + 130), .ref (b + p1), .int p2, .int p3]).toArray below meth c H locs 0 0 (MQ below (gb_Qi (fun r h => r = rE ∧ va_P D vwCl (gb_wl b (gb_CW cT b σE)) h) (gb_fr b 135)) ([.ref (b + 130), .ref (b + p1), .int p2, .int p3]).toArray s 0 0 (gb_fr b 135)) (F0 m 16 ls []) := by
    clear h hP hS hl ls
    intro mm
    induction mm with
    | zero =>
      intro σ v3 v4 v5 H locs ls h
      cases h
    | succ mm ih =>
      intro σ v3 v4 v5 H locs ls h hP hS hl
      rw [cs_Flocks_nearest_B_16] at h
      refine lv_iload hx hb dX2_nearest_16 (lv_at hl 3 rfl) ?_
      refine lv_aload_n hx hb dX2_nearest_18 rfl (lv_at hl 0 rfl) ?_
      refine va_get (ci := 2) (v := (.int (σ.1 130 4))) (C := RX2) (T := TX2) (N := 6) hx hb hq i_X2 hown hK hP 130 (gb_at b rfl) rfl 4 (by decide) (hq _ w_298) (fun _ h9 => h9) rfl dX2_nearest_19 ?_
      refine lv_icmp_ge (tgt := 62) hx hb dX2_nearest_22 (by decide) (fun c_6 => ?_) (fun c_6 => ?_)
      · rw [if_pos c_6] at h
        refine lv_iload hx hb dX2_nearest_62 (lv_at hl 2 rfl) ?_
        obtain ⟨e1, e2⟩ := gb_eq2 h
        exact W.iret (v := v4) hx hb hr (fun t ht hW => gb_ri ht ⟨e2, by rw [← e1]; exact hP⟩ hS) hS.2.2 dX2_nearest_64
      · rw [if_neg c_6] at h
        refine lv_aload_n hx hb dX2_nearest_25 rfl (lv_at hl 0 rfl) ?_
        refine va_get (ci := 2) (v := (.ref (b + 131))) (C := RX2) (T := TX2) (N := 6) hx hb hq i_X2 hown hK hP 130 (gb_at b rfl) rfl 0 (by decide) (hq _ w_294) (fun _ h9 => h9) rfl dX2_nearest_26 ?_
        refine lv_iload hx hb dX2_nearest_29 (lv_at hl 3 rfl) ?_
        obtain ⟨z_7, h⟩ := gb_ck_s h
        refine va_iald hx hb hK hP 131 0 (gb_at b rfl) rfl z_7 dX2_nearest_31 ?_
        refine lv_topi (fun x_8 ex_8 => ?_)
        replace h := gb_lt_s ex_8 h
        refine lv_iload_n hx hb dX2_nearest_32 rfl (lv_at hl 1 rfl) ?_
        refine lv_isub hx hb dX2_nearest_33 ?_
        refine va_mabs hx hb (hml.trans hl.1.symm) hown (hq _ w_1002) (hq _ w_1003) (hq _ w_5) (hq _ w_1004) (Nat.le_of_ble_eq_true rfl) (Nat.le_of_ble_eq_true rfl) (Nat.le_of_ble_eq_true rfl) (Nat.le_of_ble_eq_true rfl) dX2_nearest_34 ?_
        refine lv_topi (fun x_9 ex_9 => ?_)
        replace h := gb_lt_s ex_9 h
        refine lv_aload_n hx hb dX2_nearest_37 rfl (lv_at hl 0 rfl) ?_
        refine va_get (ci := 2) (v := (.ref (b + 131))) (C := RX2) (T := TX2) (N := 6) hx hb hq i_X2 hown hK hP 130 (gb_at b rfl) rfl 0 (by decide) (hq _ w_294) (fun _ h9 => h9) rfl dX2_nearest_38 ?_
        refine lv_iload hx hb dX2_nearest_41 (lv_at hl 2 rfl) ?_
        obtain ⟨z_10, h⟩ := gb_ck_s h
        refine va_iald hx hb hK hP 131 0 (gb_at b rfl) rfl z_10 dX2_nearest_43 ?_
        refine lv_topi (fun x_11 ex_11 => ?_)
        replace h := gb_lt_s ex_11 h
        refine lv_iload_n hx hb dX2_nearest_44 rfl (lv_at hl 1 rfl) ?_
        refine lv_isub hx hb dX2_nearest_45 ?_
        refine va_mabs hx hb (hml.trans hl.1.symm) hown (hq _ w_1002) (hq _ w_1003) (hq _ w_5) (hq _ w_1004) (Nat.le_of_ble_eq_true rfl) (Nat.le_of_ble_eq_true rfl) (Nat.le_of_ble_eq_true rfl) (Nat.le_of_ble_eq_true rfl) dX2_nearest_46 ?_
        refine lv_topi (fun x_12 ex_12 => ?_)
        replace h := gb_lt_s ex_12 h
        refine lv_icmp_ge (tgt := 56) hx hb dX2_nearest_49 (by decide) (fun c_13 => ?_) (fun c_13 => ?_)
        · rw [if_pos c_13] at h
          obtain ⟨x_14, ex_14⟩ : ∃ q, q = (v5 + 1) := ⟨_, rfl⟩
          replace h := gb_lt_s ex_14 h
          refine lv_iinc (v := x_14) (lv' := [(5, .int x_14), (0, .ref (b + 130)), (3, .int v3), (4, .int v4)]) hx hb dX2_nearest_56 hl (k := 3) rfl (by rw [ex_14]; rfl) (by decide) rfl (fun ls hl => ?_)
          refine lv_goto (tgt := 16) hx hb dX2_nearest_59 (by decide) ?_
          exact ih _ _ _ _ _ _ _ h hP hS (lv_sub hl [1, 2, 3, 0] rfl)
        · rw [if_neg c_13] at h
          refine lv_iload hx hb dX2_nearest_52 (lv_at hl 3 rfl) ?_
          refine lv_istore (lv' := [(4, .int v5), (0, .ref (b + 130)), (3, .int v3), (5, .int v5)]) hx hb dX2_nearest_54 hl (by decide) rfl (fun ls hl => ?_)
          obtain ⟨x_15, ex_15⟩ : ∃ q, q = (v5 + 1) := ⟨_, rfl⟩
          replace h := gb_lt_s ex_15 h
          refine lv_iinc (v := x_15) (lv' := [(5, .int x_15), (4, .int v5), (0, .ref (b + 130)), (3, .int v3)]) hx hb dX2_nearest_56 hl (k := 3) rfl (by rw [ex_15]; rfl) (by decide) rfl (fun ls hl => ?_)
          refine lv_goto (tgt := 16) hx hb dX2_nearest_59 (by decide) ?_
          exact ih _ _ _ _ _ _ _ h hP hS (lv_sub hl [2, 3, 1, 0] rfl)
  unfold cs_Flocks_nearest_B at h
  obtain ⟨z_1, h⟩ := gb_kk_s h
  refine lv_aload_n hx hb dX2_nearest_0 rfl (lv_at hl 0 rfl) ?_
  refine lv_aload_n hx hb dX2_nearest_1 rfl (lv_at hl 1 rfl) ?_
  refine lv_iload_n hx hb dX2_nearest_2 rfl (lv_at hl 2 rfl) ?_
  refine lv_aload_n hx hb dX2_nearest_3 rfl (lv_at hl 0 rfl) ?_
  refine va_get (ci := 2) (v := (.ref (b + 131))) (C := RX2) (T := TX2) (N := 6) hx hb hq i_X2 hown hK hP 130 (gb_at b rfl) rfl 0 (by decide) (hq _ w_294) (fun _ h9 => h9) rfl dX2_nearest_4 ?_
  obtain ⟨s_2, r_3, z_4, h⟩ := gb_cd_s h
  refine gb_callv (va_runV (C := RX2) (As := [.ref (b + p1), .int p2, .ref (b + 131)]) (rest := []) ⟨hx, hb, hml, hown, hq⟩ (cc_Flocks_sumUp_B_c131 l D cT tt b1 b hb1 n σ p1 p2 s_2 r_3 z_4) (cwV 3 hq (gb_gV w_982 w_984 s_2_10 w_13 w_985) rfl rfl rfl (by decide +kernel) ⟨Nat.le_of_ble_eq_true rfl, Nat.le_of_ble_eq_true rfl⟩) (gb_preV (r := (RX2, TX2, 6)) (ci := 2) (q0 := 130) hSt hP rfl (gb_at b rfl) hS (fun q h => Nat.le_trans hb1 h.1) hP) rfl rfl hl.1 rfl (lv_room (Nat.le_of_ble_eq_true rfl)) dX2_nearest_7 ⟨Nat.le_of_ble_eq_true rfl, Nat.le_of_ble_eq_true rfl⟩) hS (fun _ h => h) (fun _ h => h) (fun H locs hY hk hS => ?_)
  have hP := hY
  refine lv_iconst (v := 0) hx hb dX2_nearest_10 (by decide) ?_
  refine lv_istore (lv' := [(4, .int 0), (0, .ref (b + 130)), (1, .ref (b + p1)), (2, .int p2), (3, .int p3)]) hx hb dX2_nearest_11 hl (by decide) rfl (fun ls hl => ?_)
  refine lv_iconst (v := 1) hx hb dX2_nearest_13 (by decide) ?_
  refine lv_istore (lv' := [(5, .int 1), (4, .int 0), (0, .ref (b + 130)), (1, .ref (b + p1)), (2, .int p2), (3, .int p3)]) hx hb dX2_nearest_14 hl (by decide) rfl (fun ls hl => ?_)
  exact L16_1 n _ _ _ _ _ _ _ h hP hS (lv_sub hl [2, 5, 1, 0] rfl)
theorem w_1024 : (Cond.code ({ cls := "GooseBorder$Flocks", name := "nearest", desc := "(LGooseBorder$Border;II)I" } : MethodName) prog_4_method_6_code (6 : Nat) (Option.some FieldType.int)) ∈ gb_wA := gb_t5 64 rfl rfl
theorem w_1021 : (Cond.methodLink "GooseBorder" (346 : Nat) ({ cls := "GooseBorder$Flocks", name := "nearest", desc := "(LGooseBorder$Border;II)I" } : MethodName)) ∈ gb_wA := gb_t5 61 rfl rfl
theorem w_1022 : (Cond.instanceMethod ({ cls := "GooseBorder$Flocks", name := "nearest", desc := "(LGooseBorder$Border;II)I" } : MethodName)) ∈ gb_wA := gb_t5 62 rfl rfl
theorem w_1023 : (Cond.selects "GooseBorder$Flocks" ({ cls := "GooseBorder$Flocks", name := "nearest", desc := "(LGooseBorder$Border;II)I" } : MethodName) ({ cls := "GooseBorder$Flocks", name := "nearest", desc := "(LGooseBorder$Border;II)I" } : MethodName)) ∈ gb_wA := gb_t5 63 rfl rfl
theorem dX11_near_74 : decode cX11_near 74 = .ok (.ireturn, 1) := dc_172 (show ((cX11_near.data.toList.drop 74).take 1).map UInt8.toNat = [172] by decide +kernel)
def cs_Face_near (n : Nat) (σ : gb_S) (p1 : Int32) (p2 : Int32) (p3 : Int32) : gb_CR Int32 := gb_cd (cs_Face_borderAt n σ p1) (fun s_1 r_2 => (if r_2 = 0 then gb_cd (cs_Face_dawnAt n s_1 p2) (fun s_6 r_7 => (if r_7 = 0 then some (s_6, (-1)) else gb_kk (gb_kD r_7) (some (s_6, (-1))))) else gb_kk (gb_kB r_2) (gb_cd (cs_Face_dawnAt n s_1 p2) (fun s_13 r_14 => (if r_14 = 0 then some (s_13, (-1)) else gb_kk (gb_kD r_14) ((if p3 < 0 then some (s_13, (-1)) else gb_cd (cs_Lines_size_D n s_13 r_14) (fun s_20 r_21 => (if r_21 ≤ p3 then some (s_20, (-1)) else gb_cd (cs_Dawn_pathSeen_D n s_20 r_14 p3) (fun s_25 r_26 => gb_cd (cs_Border_hasPath_B n s_25 r_2 r_26) (fun s_29 r_30 => (if r_30 = 0 then some (s_29, (-1)) else gb_cd (cs_Dawn_pathSeen_D n s_29 r_14 p3) (fun s_34 r_35 => gb_cd (cs_Dawn_marksSeen_D n s_34 r_14 p3) (fun s_38 r_39 => gb_cd (cs_Flocks_nearest_B n s_38 r_2 r_35 r_39) (fun s_42 r_43 => some (s_42, r_43))))))))))))))))
set_option maxHeartbeats 8000000 in
set_option maxRecDepth 100000 in
theorem cc_Face_near (l : Launch) (D : va_G) (cT : Nat → ClassId) (tt : Nat → Nat) (b1 b : Nat) (hb1 : b1 ≤ b) (n : Nat) (σ : gb_S) (p1 : Int32) (p2 : Int32) (p3 : Int32) (σE : gb_S) (rE : Int32) (h : cs_Face_near n σ p1 p2 p3 = some (σE, rE)) : Met l yX11_near (.code yX11_near cX11_near 6 (some FieldType.int) :: gb_wA) ({ frames := 5, cells := 0, slots := 0, locals := 122 }) (gb_Pc D cT tt b1 [.ref (b + 0), .int p1, .int p2, .int p3] (fun h => va_P D vwCl (gb_wl b (gb_CW cT b σ)) h)) (gb_Qi (fun r h => r = rE ∧ va_P D vwCl (gb_wl b (gb_CW cT b σE)) h) (gb_fr b 135)) 0 0 (gb_fr b 135) := by
  refine Met.ofW (cc := cX11_near) (maxL := 6) (ret := (some FieldType.int)) (by decide) rfl ?_
  intro p e s m args below meth c s₁ B hml hv
  obtain ⟨rfl, hSt, hP⟩ := hv
  have hx := B.exec
  have hb := B.bytes
  have hr := B.returns
  have hts := atoms_spec (ws := .code yX11_near cX11_near 6 (some FieldType.int) :: gb_wA) B.pre
  have hq : ∀ w ∈ gb_wA, w.before _ s = true := fun w h => hts w (List.mem_cons_of_mem _ h)
  have hown : s.vm.findClass RX11 = some m.cls := findClass_of_methodNamed B.named
  have hlocks := B.notSynchronized
  clear B hts
  have hK := hSt.1
  have hS : va_S (gb_fr b 135) s.heap s.heap [] := va_S.rf
  have hl := lv_entry ([.ref (b + 0), .int p1, .int p2, .int p3]) (n := 6) (Nat.le_of_ble_eq_true rfl)
  rw [lg_entry_eq]
  generalize (lg_sl ([.ref (b + 0), .int p1, .int p2, .int p3]) ++ List.replicate (6 - (lg_sl ([.ref (b + 0), .int p1, .int p2, .int p3])).length) Slot.unset).toArray = ls at hl ⊢
  replace hl : lv_has ls 6 [(0, .ref (b + 0)), (1, .int p1), (2, .int p2), (3, .int p3)] := hl
  unfold cs_Face_near at h
  refine lv_aload_n hx hb dX11_near_0 rfl (lv_at hl 0 rfl) ?_
  refine lv_iload_n hx hb dX11_near_1 rfl (lv_at hl 1 rfl) ?_
  obtain ⟨s_1, r_2, z_3, h⟩ := gb_cd_s h
  refine gb_callq (va_runV (C := RX11) (As := [.int p1]) (rest := []) ⟨hx, hb, hml, hown, hq⟩ (cc_Face_borderAt l D cT tt b1 b hb1 n σ p1 s_1 r_2 z_3) (cwV 1 hq (gb_gV w_593 w_595 s_1_7 w_1 w_596) rfl rfl rfl (by decide +kernel) ⟨Nat.le_of_ble_eq_true rfl, Nat.le_of_ble_eq_true rfl⟩) (gb_preV (r := (RX11, TX11, 10)) (ci := 9) (q0 := 0) hSt hP rfl (gb_at b rfl) hS (fun q h => Nat.le_trans hb1 h.1) hP) rfl rfl hl.1 rfl (lv_room (Nat.le_of_ble_eq_true rfl)) dX11_near_2 ⟨Nat.le_of_ble_eq_true rfl, Nat.le_of_ble_eq_true rfl⟩) hS (fun _ h => h) (fun _ h => h) (fun q_4 H locs hY hk hS => ?_)
  obtain ⟨hq_4, hP⟩ := hY
  subst hq_4
  rw [gb_onv]
  by_cases c_5 : r_2 = 0
  · rw [if_pos c_5] at h
    rw [gb_nv0 c_5]
    refine lv_astoreN (lv' := [(4, .null), (0, .ref (b + 0)), (1, .int p1), (2, .int p2), (3, .int p3)]) hx hb dX11_near_5 hl (by decide) rfl (fun ls hl => ?_)
    refine lv_aload_n hx hb dX11_near_7 rfl (lv_at hl 1 rfl) ?_
    refine lv_iload_n hx hb dX11_near_8 rfl (lv_at hl 3 rfl) ?_
    obtain ⟨s_6, r_7, z_8, h⟩ := gb_cd_s h
    refine gb_callq (va_runV (C := RX11) (As := [.int p2]) (rest := []) ⟨hx, hb, hml, hown, hq⟩ (cc_Face_dawnAt l D cT tt b1 b hb1 n s_1 p2 s_6 r_7 z_8) (cwV 1 hq (gb_gV w_667 w_669 s_1_10 w_1 w_670) rfl rfl rfl (by decide +kernel) ⟨Nat.le_of_ble_eq_true rfl, Nat.le_of_ble_eq_true rfl⟩) (gb_preV (r := (RX11, TX11, 10)) (ci := 9) (q0 := 0) hSt hP rfl (gb_at b rfl) hS (fun q h => Nat.le_trans hb1 h.1) hP) rfl rfl hl.1 rfl (lv_room (Nat.le_of_ble_eq_true rfl)) dX11_near_9 ⟨Nat.le_of_ble_eq_true rfl, Nat.le_of_ble_eq_true rfl⟩) hS (fun _ h => h) (fun _ h => h) (fun q_9 H locs hY hk hS => ?_)
    obtain ⟨hq_9, hP⟩ := hY
    subst hq_9
    rw [gb_onv]
    by_cases c_10 : r_7 = 0
    · rw [if_pos c_10] at h
      rw [gb_nv0 c_10]
      refine lv_astoreN (lv' := [(5, .null), (4, .null), (0, .ref (b + 0)), (1, .int p1), (2, .int p2), (3, .int p3)]) hx hb dX11_near_12 hl (by decide) rfl (fun ls hl => ?_)
      refine lv_aloadN hx hb dX11_near_14 (lv_at hl 1 rfl) ?_
      refine lv_ifnullN (tgt := 51) hx hb dX11_near_16 (by decide) ?_
      refine lv_iconst (v := (-1)) hx hb dX11_near_51 (by decide) ?_
      obtain ⟨e1, e2⟩ := gb_eq2 h
      exact W.iret (v := (-1)) hx hb hr (fun t ht hW => gb_ri ht ⟨e2, by rw [← e1]; exact hP⟩ hS) hS.2.2 dX11_near_52
    rw [if_neg c_10] at h
    rw [gb_nv1 c_10]
    obtain ⟨z_11, h⟩ := gb_kk_s h
    refine lv_astore (lv' := [(5, .ref (b + r_7)), (4, .null), (0, .ref (b + 0)), (1, .int p1), (2, .int p2), (3, .int p3)]) hx hb dX11_near_12 hl (by decide) rfl (fun ls hl => ?_)
    refine lv_aloadN hx hb dX11_near_14 (lv_at hl 1 rfl) ?_
    refine lv_ifnullN (tgt := 51) hx hb dX11_near_16 (by decide) ?_
    refine lv_iconst (v := (-1)) hx hb dX11_near_51 (by decide) ?_
    obtain ⟨e1, e2⟩ := gb_eq2 h
    exact W.iret (v := (-1)) hx hb hr (fun t ht hW => gb_ri ht ⟨e2, by rw [← e1]; exact hP⟩ hS) hS.2.2 dX11_near_52
  rw [if_neg c_5] at h
  rw [gb_nv1 c_5]
  obtain ⟨z_12, h⟩ := gb_kk_s h
  refine lv_astore (lv' := [(4, .ref (b + r_2)), (0, .ref (b + 0)), (1, .int p1), (2, .int p2), (3, .int p3)]) hx hb dX11_near_5 hl (by decide) rfl (fun ls hl => ?_)
  refine lv_aload_n hx hb dX11_near_7 rfl (lv_at hl 1 rfl) ?_
  refine lv_iload_n hx hb dX11_near_8 rfl (lv_at hl 3 rfl) ?_
  obtain ⟨s_13, r_14, z_15, h⟩ := gb_cd_s h
  refine gb_callq (va_runV (C := RX11) (As := [.int p2]) (rest := []) ⟨hx, hb, hml, hown, hq⟩ (cc_Face_dawnAt l D cT tt b1 b hb1 n s_1 p2 s_13 r_14 z_15) (cwV 1 hq (gb_gV w_667 w_669 s_1_10 w_1 w_670) rfl rfl rfl (by decide +kernel) ⟨Nat.le_of_ble_eq_true rfl, Nat.le_of_ble_eq_true rfl⟩) (gb_preV (r := (RX11, TX11, 10)) (ci := 9) (q0 := 0) hSt hP rfl (gb_at b rfl) hS (fun q h => Nat.le_trans hb1 h.1) hP) rfl rfl hl.1 rfl (lv_room (Nat.le_of_ble_eq_true rfl)) dX11_near_9 ⟨Nat.le_of_ble_eq_true rfl, Nat.le_of_ble_eq_true rfl⟩) hS (fun _ h => h) (fun _ h => h) (fun q_16 H locs hY hk hS => ?_)
  obtain ⟨hq_16, hP⟩ := hY
  subst hq_16
  rw [gb_onv]
  by_cases c_17 : r_14 = 0
  · rw [if_pos c_17] at h
    rw [gb_nv0 c_17]
    refine lv_astoreN (lv' := [(5, .null), (4, .ref (b + r_2)), (0, .ref (b + 0)), (1, .int p1), (2, .int p2), (3, .int p3)]) hx hb dX11_near_12 hl (by decide) rfl (fun ls hl => ?_)
    refine lv_aload hx hb dX11_near_14 (lv_at hl 1 rfl) ?_
    refine lv_ifnull hx hb dX11_near_16 ?_
    refine lv_aloadN hx hb dX11_near_19 (lv_at hl 0 rfl) ?_
    refine lv_ifnullN (tgt := 51) hx hb dX11_near_21 (by decide) ?_
    refine lv_iconst (v := (-1)) hx hb dX11_near_51 (by decide) ?_
    obtain ⟨e1, e2⟩ := gb_eq2 h
    exact W.iret (v := (-1)) hx hb hr (fun t ht hW => gb_ri ht ⟨e2, by rw [← e1]; exact hP⟩ hS) hS.2.2 dX11_near_52
  rw [if_neg c_17] at h
  rw [gb_nv1 c_17]
  obtain ⟨z_18, h⟩ := gb_kk_s h
  refine lv_astore (lv' := [(5, .ref (b + r_14)), (4, .ref (b + r_2)), (0, .ref (b + 0)), (1, .int p1), (2, .int p2), (3, .int p3)]) hx hb dX11_near_12 hl (by decide) rfl (fun ls hl => ?_)
  refine lv_aload hx hb dX11_near_14 (lv_at hl 1 rfl) ?_
  refine lv_ifnull hx hb dX11_near_16 ?_
  refine lv_aload hx hb dX11_near_19 (lv_at hl 0 rfl) ?_
  refine lv_ifnull hx hb dX11_near_21 ?_
  refine lv_iload_n hx hb dX11_near_24 rfl (lv_at hl 5 rfl) ?_
  refine lv_if_lt (tgt := 51) hx hb dX11_near_25 (by decide) (fun c_19 => ?_) (fun c_19 => ?_)
  · rw [if_pos c_19] at h
    refine lv_iconst (v := (-1)) hx hb dX11_near_51 (by decide) ?_
    obtain ⟨e1, e2⟩ := gb_eq2 h
    exact W.iret (v := (-1)) hx hb hr (fun t ht hW => gb_ri ht ⟨e2, by rw [← e1]; exact hP⟩ hS) hS.2.2 dX11_near_52
  · rw [if_neg c_19] at h
    refine lv_iload_n hx hb dX11_near_28 rfl (lv_at hl 5 rfl) ?_
    refine lv_aload hx hb dX11_near_29 (lv_at hl 0 rfl) ?_
    obtain ⟨s_20, r_21, z_22, h⟩ := gb_cd_s h
    refine gb_calli (va_runU (x := ⟨"GooseBorder$Dawn", "size", "()I"⟩) (C := RX1) (owner := "GooseBorder$Lines") (As := []) (rest := [.int p3]) ⟨hx, hb, hml, hown, hq⟩ (cc_Lines_size_D l D cT tt b1 b hb1 n s_13 r_14 s_20 r_21 z_22) (va_cwU (owner := "GooseBorder$Lines") (C := RX1) 0 hq (gb_gU w_1018 w_535 w_537 w_484 w_6 w_489) rfl rfl rfl rfl (by decide +kernel) ⟨Nat.le_of_ble_eq_true rfl, Nat.le_of_ble_eq_true rfl⟩) (gb_preV (r := (RX1, TX1, 4)) (ci := 1) (q0 := r_14) hSt hP rfl (gb_at b (gb_cD z_18).1) hS (fun q h => Nat.le_trans hb1 h.1) hP) rfl rfl hl.1 rfl (lv_room (Nat.le_of_ble_eq_true rfl)) dX11_near_31 ⟨Nat.le_of_ble_eq_true rfl, Nat.le_of_ble_eq_true rfl⟩) hS (fun _ h => h) (fun _ h => h) (fun q_23 H locs hY hk hS => ?_)
    obtain ⟨hq_23, hP⟩ := hY
    replace hq_23 := hq_23.symm
    subst hq_23
    refine lv_icmp_ge (tgt := 51) hx hb dX11_near_34 (by decide) (fun c_24 => ?_) (fun c_24 => ?_)
    · rw [if_pos c_24] at h
      refine lv_iconst (v := (-1)) hx hb dX11_near_51 (by decide) ?_
      obtain ⟨e1, e2⟩ := gb_eq2 h
      exact W.iret (v := (-1)) hx hb hr (fun t ht hW => gb_ri ht ⟨e2, by rw [← e1]; exact hP⟩ hS) hS.2.2 dX11_near_52
    · rw [if_neg c_24] at h
      refine lv_aload hx hb dX11_near_37 (lv_at hl 1 rfl) ?_
      refine lv_aload hx hb dX11_near_39 (lv_at hl 0 rfl) ?_
      refine lv_iload_n hx hb dX11_near_41 rfl (lv_at hl 5 rfl) ?_
      obtain ⟨s_25, r_26, z_27, h⟩ := gb_cd_s h
      refine gb_calli (va_runV (C := RX1) (As := [.int p3]) (rest := [.ref (b + r_2)]) ⟨hx, hb, hml, hown, hq⟩ (cc_Dawn_pathSeen_D l D cT tt b1 b hb1 n s_20 r_14 p3 s_25 r_26 z_27) (cwV 1 hq (gb_gV w_1019 w_539 w_540 w_9 w_541) rfl rfl rfl (by decide +kernel) ⟨Nat.le_of_ble_eq_true rfl, Nat.le_of_ble_eq_true rfl⟩) (gb_preV (r := (RX1, TX1, 4)) (ci := 1) (q0 := r_14) hSt hP rfl (gb_at b (gb_cD z_18).1) hS (fun q h => Nat.le_trans hb1 h.1) hP) rfl rfl hl.1 rfl (lv_room (Nat.le_of_ble_eq_true rfl)) dX11_near_42 ⟨Nat.le_of_ble_eq_true rfl, Nat.le_of_ble_eq_true rfl⟩) hS (fun _ h => h) (fun _ h => h) (fun q_28 H locs hY hk hS => ?_)
      obtain ⟨hq_28, hP⟩ := hY
      replace hq_28 := hq_28.symm
      subst hq_28
      obtain ⟨s_29, r_30, z_31, h⟩ := gb_cd_s h
      refine gb_calli (va_runV (C := RX0) (As := [.int r_26]) (rest := []) ⟨hx, hb, hml, hown, hq⟩ (cc_Border_hasPath_B l D cT tt b1 b hb1 n s_25 r_2 r_26 s_29 r_30 z_31) (cwV 1 hq (gb_gV w_620 w_608 w_609 w_4 w_610) rfl rfl rfl (by decide +kernel) ⟨Nat.le_of_ble_eq_true rfl, Nat.le_of_ble_eq_true rfl⟩) (gb_preV (r := (RX0, TX0, 1)) (ci := 0) (q0 := r_2) hSt hP rfl (gb_at b (gb_cB z_12).1) hS (fun q h => Nat.le_trans hb1 h.1) hP) rfl rfl hl.1 rfl (lv_room (Nat.le_of_ble_eq_true rfl)) dX11_near_45 ⟨Nat.le_of_ble_eq_true rfl, Nat.le_of_ble_eq_true rfl⟩) hS (fun _ h => h) (fun _ h => h) (fun q_32 H locs hY hk hS => ?_)
      obtain ⟨hq_32, hP⟩ := hY
      replace hq_32 := hq_32.symm
      subst hq_32
      refine lv_if_ne (tgt := 53) hx hb dX11_near_48 (by decide) (fun c_33 => ?_) (fun c_33 => ?_)
      · rw [if_neg c_33] at h
        refine lv_aload_n hx hb dX11_near_53 rfl (lv_at hl 2 rfl) ?_
        refine va_get (ci := 9) (v := (.ref (b + 130))) (C := RX11) (T := TX11) (N := 10) hx hb hq i_X11 hown hK hP 0 (gb_at b rfl) rfl 8 (by decide) (hq _ w_323) (fun _ h9 => h9) rfl dX11_near_54 ?_
        refine lv_aload hx hb dX11_near_57 (lv_at hl 1 rfl) ?_
        refine lv_aload hx hb dX11_near_59 (lv_at hl 0 rfl) ?_
        refine lv_iload_n hx hb dX11_near_61 rfl (lv_at hl 5 rfl) ?_
        obtain ⟨s_34, r_35, z_36, h⟩ := gb_cd_s h
        refine gb_calli (va_runV (C := RX1) (As := [.int p3]) (rest := [.ref (b + r_2), .ref (b + 130)]) ⟨hx, hb, hml, hown, hq⟩ (cc_Dawn_pathSeen_D l D cT tt b1 b hb1 n s_29 r_14 p3 s_34 r_35 z_36) (cwV 1 hq (gb_gV w_1019 w_539 w_540 w_9 w_541) rfl rfl rfl (by decide +kernel) ⟨Nat.le_of_ble_eq_true rfl, Nat.le_of_ble_eq_true rfl⟩) (gb_preV (r := (RX1, TX1, 4)) (ci := 1) (q0 := r_14) hSt hP rfl (gb_at b (gb_cD z_18).1) hS (fun q h => Nat.le_trans hb1 h.1) hP) rfl rfl hl.1 rfl (lv_room (Nat.le_of_ble_eq_true rfl)) dX11_near_62 ⟨Nat.le_of_ble_eq_true rfl, Nat.le_of_ble_eq_true rfl⟩) hS (fun _ h => h) (fun _ h => h) (fun q_37 H locs hY hk hS => ?_)
        obtain ⟨hq_37, hP⟩ := hY
        replace hq_37 := hq_37.symm
        subst hq_37
        refine lv_aload hx hb dX11_near_65 (lv_at hl 0 rfl) ?_
        refine lv_iload_n hx hb dX11_near_67 rfl (lv_at hl 5 rfl) ?_
        obtain ⟨s_38, r_39, z_40, h⟩ := gb_cd_s h
        refine gb_calli (va_runV (C := RX1) (As := [.int p3]) (rest := [.int r_35, .ref (b + r_2), .ref (b + 130)]) ⟨hx, hb, hml, hown, hq⟩ (cc_Dawn_marksSeen_D l D cT tt b1 b hb1 n s_34 r_14 p3 s_38 r_39 z_40) (cwV 1 hq (gb_gV w_1020 w_859 w_860 w_9 w_861) rfl rfl rfl (by decide +kernel) ⟨Nat.le_of_ble_eq_true rfl, Nat.le_of_ble_eq_true rfl⟩) (gb_preV (r := (RX1, TX1, 4)) (ci := 1) (q0 := r_14) hSt hP rfl (gb_at b (gb_cD z_18).1) hS (fun q h => Nat.le_trans hb1 h.1) hP) rfl rfl hl.1 rfl (lv_room (Nat.le_of_ble_eq_true rfl)) dX11_near_68 ⟨Nat.le_of_ble_eq_true rfl, Nat.le_of_ble_eq_true rfl⟩) hS (fun _ h => h) (fun _ h => h) (fun q_41 H locs hY hk hS => ?_)
        obtain ⟨hq_41, hP⟩ := hY
        replace hq_41 := hq_41.symm
        subst hq_41
        obtain ⟨s_42, r_43, z_44, h⟩ := gb_cd_s h
        refine gb_calli (va_runV (C := RX2) (As := [.ref (b + r_2), .int r_35, .int r_39]) (rest := []) ⟨hx, hb, hml, hown, hq⟩ (cc_Flocks_nearest_B l D cT tt b1 b hb1 n s_38 r_2 r_35 r_39 s_42 r_43 z_44) (cwV 3 hq (gb_gV w_1021 w_1022 w_1023 w_13 w_1024) rfl rfl rfl (by decide +kernel) ⟨Nat.le_of_ble_eq_true rfl, Nat.le_of_ble_eq_true rfl⟩) (gb_preV (r := (RX2, TX2, 6)) (ci := 2) (q0 := 130) hSt hP rfl (gb_at b rfl) hS (fun q h => Nat.le_trans hb1 h.1) hP) rfl rfl hl.1 rfl (lv_room (Nat.le_of_ble_eq_true rfl)) dX11_near_71 ⟨Nat.le_of_ble_eq_true rfl, Nat.le_of_ble_eq_true rfl⟩) hS (fun _ h => h) (fun _ h => h) (fun q_45 H locs hY hk hS => ?_)
        obtain ⟨hq_45, hP⟩ := hY
        replace hq_45 := hq_45.symm
        subst hq_45
        obtain ⟨e1, e2⟩ := gb_eq2 h
        exact W.iret (v := r_43) hx hb hr (fun t ht hW => gb_ri ht ⟨e2, by rw [← e1]; exact hP⟩ hS) hS.2.2 dX11_near_74
      · rw [if_pos c_33] at h
        refine lv_iconst (v := (-1)) hx hb dX11_near_51 (by decide) ?_
        obtain ⟨e1, e2⟩ := gb_eq2 h
        exact W.iret (v := (-1)) hx hb hr (fun t ht hW => gb_ri ht ⟨e2, by rw [← e1]; exact hP⟩ hS) hS.2.2 dX11_near_52
theorem dX11_thrift_0 : decode cX11_thrift 0 = .ok (.aload_n 0, 1) := dc_42 (show ((cX11_thrift.data.toList.drop 0).take 1).map UInt8.toNat = [42] by decide +kernel)
theorem dX11_thrift_1 : decode cX11_thrift 1 = .ok (.iload_n 1, 1) := dc_27 (show ((cX11_thrift.data.toList.drop 1).take 1).map UInt8.toNat = [27] by decide +kernel)
theorem dX11_thrift_2 : decode cX11_thrift 2 = .ok (.invokevirtual 113, 3) := dc_182 (show ((cX11_thrift.data.toList.drop 2).take 3).map UInt8.toNat = [182, 0, 113] by decide +kernel) rfl
theorem dX11_thrift_5 : decode cX11_thrift 5 = .ok (.astore_n 2, 1) := dc_77 (show ((cX11_thrift.data.toList.drop 5).take 1).map UInt8.toNat = [77] by decide +kernel)
theorem dX11_thrift_6 : decode cX11_thrift 6 = .ok (.aload_n 2, 1) := dc_44 (show ((cX11_thrift.data.toList.drop 6).take 1).map UInt8.toNat = [44] by decide +kernel)
theorem dX11_thrift_7 : decode cX11_thrift 7 = .ok (.ifnonnull 7, 3) := dc_199 (show ((cX11_thrift.data.toList.drop 7).take 3).map UInt8.toNat = [199, 0, 7] by decide +kernel) rfl
theorem dX11_thrift_10 : decode cX11_thrift 10 = .ok (.iconst (-1), 1) := dc_2 (show ((cX11_thrift.data.toList.drop 10).take 1).map UInt8.toNat = [2] by decide +kernel)
theorem dX11_thrift_11 : decode cX11_thrift 11 = .ok (.goto 11, 3) := dc_167 (show ((cX11_thrift.data.toList.drop 11).take 3).map UInt8.toNat = [167, 0, 11] by decide +kernel) rfl
theorem dX11_thrift_22 : decode cX11_thrift 22 = .ok (.ireturn, 1) := dc_172 (show ((cX11_thrift.data.toList.drop 22).take 1).map UInt8.toNat = [172] by decide +kernel)
theorem dX11_thrift_14 : decode cX11_thrift 14 = .ok (.aload_n 0, 1) := dc_42 (show ((cX11_thrift.data.toList.drop 14).take 1).map UInt8.toNat = [42] by decide +kernel)
theorem dX11_thrift_15 : decode cX11_thrift 15 = .ok (.getfield 70, 3) := dc_180 (show ((cX11_thrift.data.toList.drop 15).take 3).map UInt8.toNat = [180, 0, 70] by decide +kernel) rfl
theorem dX11_thrift_18 : decode cX11_thrift 18 = .ok (.aload_n 2, 1) := dc_44 (show ((cX11_thrift.data.toList.drop 18).take 1).map UInt8.toNat = [44] by decide +kernel)
theorem dX11_thrift_19 : decode cX11_thrift 19 = .ok (.invokevirtual 349, 3) := dc_182 (show ((cX11_thrift.data.toList.drop 19).take 3).map UInt8.toNat = [182, 1, 93] by decide +kernel) rfl
theorem dX2_thriftiest_0 : decode cX2_thriftiest 0 = .ok (.aload_n 0, 1) := dc_42 (show ((cX2_thriftiest.data.toList.drop 0).take 1).map UInt8.toNat = [42] by decide +kernel)
theorem dX2_thriftiest_1 : decode cX2_thriftiest 1 = .ok (.iconst 1, 1) := dc_4 (show ((cX2_thriftiest.data.toList.drop 1).take 1).map UInt8.toNat = [4] by decide +kernel)
theorem dX2_thriftiest_2 : decode cX2_thriftiest 2 = .ok (.aload_n 1, 1) := dc_43 (show ((cX2_thriftiest.data.toList.drop 2).take 1).map UInt8.toNat = [43] by decide +kernel)
theorem dX2_thriftiest_3 : decode cX2_thriftiest 3 = .ok (.invokevirtual 25, 3) := dc_182 (show ((cX2_thriftiest.data.toList.drop 3).take 3).map UInt8.toNat = [182, 0, 25] by decide +kernel) rfl
theorem dX2_thriftiest_6 : decode cX2_thriftiest 6 = .ok (.ishl, 1) := dc_120 (show ((cX2_thriftiest.data.toList.drop 6).take 1).map UInt8.toNat = [120] by decide +kernel)
theorem dX2_thriftiest_7 : decode cX2_thriftiest 7 = .ok (.putfield 31, 3) := dc_181 (show ((cX2_thriftiest.data.toList.drop 7).take 3).map UInt8.toNat = [181, 0, 31] by decide +kernel) rfl
theorem dX2_thriftiest_10 : decode cX2_thriftiest 10 = .ok (.aload_n 0, 1) := dc_42 (show ((cX2_thriftiest.data.toList.drop 10).take 1).map UInt8.toNat = [42] by decide +kernel)
theorem dX2_thriftiest_11 : decode cX2_thriftiest 11 = .ok (.getfield 18, 3) := dc_180 (show ((cX2_thriftiest.data.toList.drop 11).take 3).map UInt8.toNat = [180, 0, 18] by decide +kernel) rfl
theorem dX2_thriftiest_14 : decode cX2_thriftiest 14 = .ok (.iconst 0, 1) := dc_3 (show ((cX2_thriftiest.data.toList.drop 14).take 1).map UInt8.toNat = [3] by decide +kernel)
theorem dX2_thriftiest_15 : decode cX2_thriftiest 15 = .ok (.lconst 1, 1) := dc_10 (show ((cX2_thriftiest.data.toList.drop 15).take 1).map UInt8.toNat = [10] by decide +kernel)
theorem dX2_thriftiest_16 : decode cX2_thriftiest 16 = .ok (.lastore, 1) := dc_80 (show ((cX2_thriftiest.data.toList.drop 16).take 1).map UInt8.toNat = [80] by decide +kernel)
theorem dX2_thriftiest_17 : decode cX2_thriftiest 17 = .ok (.aload_n 1, 1) := dc_43 (show ((cX2_thriftiest.data.toList.drop 17).take 1).map UInt8.toNat = [43] by decide +kernel)
theorem dX2_thriftiest_18 : decode cX2_thriftiest 18 = .ok (.invokevirtual 57, 3) := dc_182 (show ((cX2_thriftiest.data.toList.drop 18).take 3).map UInt8.toNat = [182, 0, 57] by decide +kernel) rfl
theorem w_1033 : (Cond.methodLink "GooseBorder$Flocks" (57 : Nat) ({ cls := "GooseBorder$Border", name := "paths", desc := "()I" } : MethodName)) ∈ gb_wA := gb_t5 73 rfl rfl
theorem dX2_thriftiest_21 : decode cX2_thriftiest 21 = .ok (.ifCond .ne 5, 3) := dc_154 (show ((cX2_thriftiest.data.toList.drop 21).take 3).map UInt8.toNat = [154, 0, 5] by decide +kernel) rfl
theorem dX2_thriftiest_26 : decode cX2_thriftiest 26 = .ok (.iconst 1, 1) := dc_4 (show ((cX2_thriftiest.data.toList.drop 26).take 1).map UInt8.toNat = [4] by decide +kernel)
theorem dX2_thriftiest_27 : decode cX2_thriftiest 27 = .ok (.istore_n 2, 1) := dc_61 (show ((cX2_thriftiest.data.toList.drop 27).take 1).map UInt8.toNat = [61] by decide +kernel)
theorem dX2_thriftiest_28 : decode cX2_thriftiest 28 = .ok (.iload_n 2, 1) := dc_28 (show ((cX2_thriftiest.data.toList.drop 28).take 1).map UInt8.toNat = [28] by decide +kernel)
theorem dX2_thriftiest_29 : decode cX2_thriftiest 29 = .ok (.aload_n 0, 1) := dc_42 (show ((cX2_thriftiest.data.toList.drop 29).take 1).map UInt8.toNat = [42] by decide +kernel)
theorem dX2_thriftiest_30 : decode cX2_thriftiest 30 = .ok (.getfield 31, 3) := dc_180 (show ((cX2_thriftiest.data.toList.drop 30).take 3).map UInt8.toNat = [180, 0, 31] by decide +kernel) rfl
theorem dX2_thriftiest_33 : decode cX2_thriftiest 33 = .ok (.if_icmp .ge 68, 3) := dc_162 (show ((cX2_thriftiest.data.toList.drop 33).take 3).map UInt8.toNat = [162, 0, 68] by decide +kernel) rfl
theorem dX2_thriftiest_101 : decode cX2_thriftiest 101 = .ok (.iconst (-1), 1) := dc_2 (show ((cX2_thriftiest.data.toList.drop 101).take 1).map UInt8.toNat = [2] by decide +kernel)
theorem dX2_thriftiest_102 : decode cX2_thriftiest 102 = .ok (.ireturn, 1) := dc_172 (show ((cX2_thriftiest.data.toList.drop 102).take 1).map UInt8.toNat = [172] by decide +kernel)
theorem dX2_thriftiest_36 : decode cX2_thriftiest 36 = .ok (.iload_n 2, 1) := dc_28 (show ((cX2_thriftiest.data.toList.drop 36).take 1).map UInt8.toNat = [28] by decide +kernel)
theorem dX2_thriftiest_37 : decode cX2_thriftiest 37 = .ok (.invokestatic 43, 3) := dc_184 (show ((cX2_thriftiest.data.toList.drop 37).take 3).map UInt8.toNat = [184, 0, 43] by decide +kernel) rfl
theorem dX2_thriftiest_40 : decode cX2_thriftiest 40 = .ok (.iconst 1, 1) := dc_4 (show ((cX2_thriftiest.data.toList.drop 40).take 1).map UInt8.toNat = [4] by decide +kernel)
theorem dX2_thriftiest_41 : decode cX2_thriftiest 41 = .ok (.isub, 1) := dc_100 (show ((cX2_thriftiest.data.toList.drop 41).take 1).map UInt8.toNat = [100] by decide +kernel)
theorem dX2_thriftiest_42 : decode cX2_thriftiest 42 = .ok (.istore_n 3, 1) := dc_62 (show ((cX2_thriftiest.data.toList.drop 42).take 1).map UInt8.toNat = [62] by decide +kernel)
theorem dX2_thriftiest_43 : decode cX2_thriftiest 43 = .ok (.aload_n 0, 1) := dc_42 (show ((cX2_thriftiest.data.toList.drop 43).take 1).map UInt8.toNat = [42] by decide +kernel)
theorem dX2_thriftiest_44 : decode cX2_thriftiest 44 = .ok (.getfield 18, 3) := dc_180 (show ((cX2_thriftiest.data.toList.drop 44).take 3).map UInt8.toNat = [180, 0, 18] by decide +kernel) rfl
theorem dX2_thriftiest_47 : decode cX2_thriftiest 47 = .ok (.iload_n 2, 1) := dc_28 (show ((cX2_thriftiest.data.toList.drop 47).take 1).map UInt8.toNat = [28] by decide +kernel)
theorem dX2_thriftiest_48 : decode cX2_thriftiest 48 = .ok (.iload_n 3, 1) := dc_29 (show ((cX2_thriftiest.data.toList.drop 48).take 1).map UInt8.toNat = [29] by decide +kernel)
theorem dX2_thriftiest_49 : decode cX2_thriftiest 49 = .ok (.aload_n 1, 1) := dc_43 (show ((cX2_thriftiest.data.toList.drop 49).take 1).map UInt8.toNat = [43] by decide +kernel)
theorem dX2_thriftiest_50 : decode cX2_thriftiest 50 = .ok (.invokevirtual 57, 3) := dc_182 (show ((cX2_thriftiest.data.toList.drop 50).take 3).map UInt8.toNat = [182, 0, 57] by decide +kernel) rfl
theorem dX2_thriftiest_53 : decode cX2_thriftiest 53 = .ok (.if_icmp .ge 17, 3) := dc_162 (show ((cX2_thriftiest.data.toList.drop 53).take 3).map UInt8.toNat = [162, 0, 17] by decide +kernel) rfl
theorem dX2_thriftiest_70 : decode cX2_thriftiest 70 = .ok (.lconst 0, 1) := dc_9 (show ((cX2_thriftiest.data.toList.drop 70).take 1).map UInt8.toNat = [9] by decide +kernel)
theorem dX2_thriftiest_71 : decode cX2_thriftiest 71 = .ok (.lastore, 1) := dc_80 (show ((cX2_thriftiest.data.toList.drop 71).take 1).map UInt8.toNat = [80] by decide +kernel)
theorem dX2_thriftiest_72 : decode cX2_thriftiest 72 = .ok (.aload_n 0, 1) := dc_42 (show ((cX2_thriftiest.data.toList.drop 72).take 1).map UInt8.toNat = [42] by decide +kernel)
theorem dX2_thriftiest_73 : decode cX2_thriftiest 73 = .ok (.getfield 18, 3) := dc_180 (show ((cX2_thriftiest.data.toList.drop 73).take 3).map UInt8.toNat = [180, 0, 18] by decide +kernel) rfl
theorem dX2_thriftiest_76 : decode cX2_thriftiest 76 = .ok (.iload_n 2, 1) := dc_28 (show ((cX2_thriftiest.data.toList.drop 76).take 1).map UInt8.toNat = [28] by decide +kernel)
theorem dX2_thriftiest_77 : decode cX2_thriftiest 77 = .ok (.laload, 1) := dc_47 (show ((cX2_thriftiest.data.toList.drop 77).take 1).map UInt8.toNat = [47] by decide +kernel)
theorem dX2_thriftiest_78 : decode cX2_thriftiest 78 = .ok (.lconst 1, 1) := dc_10 (show ((cX2_thriftiest.data.toList.drop 78).take 1).map UInt8.toNat = [10] by decide +kernel)
theorem dX2_thriftiest_79 : decode cX2_thriftiest 79 = .ok (.lcmp, 1) := dc_148 (show ((cX2_thriftiest.data.toList.drop 79).take 1).map UInt8.toNat = [148] by decide +kernel)
theorem dX2_thriftiest_80 : decode cX2_thriftiest 80 = .ok (.ifCond .ne 15, 3) := dc_154 (show ((cX2_thriftiest.data.toList.drop 80).take 3).map UInt8.toNat = [154, 0, 15] by decide +kernel) rfl
theorem dX2_thriftiest_95 : decode cX2_thriftiest 95 = .ok (.iinc 2 1, 3) := dc_132 (show ((cX2_thriftiest.data.toList.drop 95).take 3).map UInt8.toNat = [132, 2, 1] by decide +kernel) rfl
theorem dX2_thriftiest_98 : decode cX2_thriftiest 98 = .ok (.goto (-70), 3) := dc_167 (show ((cX2_thriftiest.data.toList.drop 98).take 3).map UInt8.toNat = [167, 255, 186] by decide +kernel) rfl
theorem dX2_thriftiest_83 : decode cX2_thriftiest 83 = .ok (.iload_n 3, 1) := dc_29 (show ((cX2_thriftiest.data.toList.drop 83).take 1).map UInt8.toNat = [29] by decide +kernel)
theorem dX2_thriftiest_84 : decode cX2_thriftiest 84 = .ok (.aload_n 1, 1) := dc_43 (show ((cX2_thriftiest.data.toList.drop 84).take 1).map UInt8.toNat = [43] by decide +kernel)
theorem dX2_thriftiest_85 : decode cX2_thriftiest 85 = .ok (.invokevirtual 57, 3) := dc_182 (show ((cX2_thriftiest.data.toList.drop 85).take 3).map UInt8.toNat = [182, 0, 57] by decide +kernel) rfl
theorem dX2_thriftiest_88 : decode cX2_thriftiest 88 = .ok (.iconst 1, 1) := dc_4 (show ((cX2_thriftiest.data.toList.drop 88).take 1).map UInt8.toNat = [4] by decide +kernel)
theorem dX2_thriftiest_89 : decode cX2_thriftiest 89 = .ok (.isub, 1) := dc_100 (show ((cX2_thriftiest.data.toList.drop 89).take 1).map UInt8.toNat = [100] by decide +kernel)
theorem dX2_thriftiest_90 : decode cX2_thriftiest 90 = .ok (.if_icmp .ne 5, 3) := dc_160 (show ((cX2_thriftiest.data.toList.drop 90).take 3).map UInt8.toNat = [160, 0, 5] by decide +kernel) rfl
theorem dX2_thriftiest_93 : decode cX2_thriftiest 93 = .ok (.iload_n 2, 1) := dc_28 (show ((cX2_thriftiest.data.toList.drop 93).take 1).map UInt8.toNat = [28] by decide +kernel)
theorem dX2_thriftiest_94 : decode cX2_thriftiest 94 = .ok (.ireturn, 1) := dc_172 (show ((cX2_thriftiest.data.toList.drop 94).take 1).map UInt8.toNat = [172] by decide +kernel)
theorem dX2_thriftiest_56 : decode cX2_thriftiest 56 = .ok (.aload_n 0, 1) := dc_42 (show ((cX2_thriftiest.data.toList.drop 56).take 1).map UInt8.toNat = [42] by decide +kernel)
theorem dX2_thriftiest_57 : decode cX2_thriftiest 57 = .ok (.aload_n 1, 1) := dc_43 (show ((cX2_thriftiest.data.toList.drop 57).take 1).map UInt8.toNat = [43] by decide +kernel)
theorem dX2_thriftiest_58 : decode cX2_thriftiest 58 = .ok (.iload_n 2, 1) := dc_28 (show ((cX2_thriftiest.data.toList.drop 58).take 1).map UInt8.toNat = [28] by decide +kernel)
theorem dX2_thriftiest_59 : decode cX2_thriftiest 59 = .ok (.iload_n 3, 1) := dc_29 (show ((cX2_thriftiest.data.toList.drop 59).take 1).map UInt8.toNat = [29] by decide +kernel)
theorem dX2_thriftiest_60 : decode cX2_thriftiest 60 = .ok (.invokevirtual 60, 3) := dc_182 (show ((cX2_thriftiest.data.toList.drop 60).take 3).map UInt8.toNat = [182, 0, 60] by decide +kernel) rfl
theorem dX2_paysAll_0 : decode cX2_paysAll 0 = .ok (.iconst 0, 1) := dc_3 (show ((cX2_paysAll.data.toList.drop 0).take 1).map UInt8.toNat = [3] by decide +kernel)
theorem dX2_paysAll_1 : decode cX2_paysAll 1 = .ok (.istore 4, 2) := dc_54 (show ((cX2_paysAll.data.toList.drop 1).take 2).map UInt8.toNat = [54, 4] by decide +kernel) rfl
theorem dX2_paysAll_3 : decode cX2_paysAll 3 = .ok (.iload 4, 2) := dc_21 (show ((cX2_paysAll.data.toList.drop 3).take 2).map UInt8.toNat = [21, 4] by decide +kernel) rfl
theorem dX2_paysAll_5 : decode cX2_paysAll 5 = .ok (.aload_n 1, 1) := dc_43 (show ((cX2_paysAll.data.toList.drop 5).take 1).map UInt8.toNat = [43] by decide +kernel)
theorem dX2_paysAll_6 : decode cX2_paysAll 6 = .ok (.invokevirtual 25, 3) := dc_182 (show ((cX2_paysAll.data.toList.drop 6).take 3).map UInt8.toNat = [182, 0, 25] by decide +kernel) rfl
theorem dX2_paysAll_9 : decode cX2_paysAll 9 = .ok (.if_icmp .ge 54, 3) := dc_162 (show ((cX2_paysAll.data.toList.drop 9).take 3).map UInt8.toNat = [162, 0, 54] by decide +kernel) rfl
theorem dX2_paysAll_63 : decode cX2_paysAll 63 = .ok (.iconst 0, 1) := dc_3 (show ((cX2_paysAll.data.toList.drop 63).take 1).map UInt8.toNat = [3] by decide +kernel)
theorem dX2_paysAll_64 : decode cX2_paysAll 64 = .ok (.ireturn, 1) := dc_172 (show ((cX2_paysAll.data.toList.drop 64).take 1).map UInt8.toNat = [172] by decide +kernel)
theorem dX2_paysAll_12 : decode cX2_paysAll 12 = .ok (.iload_n 2, 1) := dc_28 (show ((cX2_paysAll.data.toList.drop 12).take 1).map UInt8.toNat = [28] by decide +kernel)
theorem dX2_paysAll_13 : decode cX2_paysAll 13 = .ok (.iconst 1, 1) := dc_4 (show ((cX2_paysAll.data.toList.drop 13).take 1).map UInt8.toNat = [4] by decide +kernel)
theorem dX2_paysAll_14 : decode cX2_paysAll 14 = .ok (.iload 4, 2) := dc_21 (show ((cX2_paysAll.data.toList.drop 14).take 2).map UInt8.toNat = [21, 4] by decide +kernel) rfl
theorem dX2_paysAll_16 : decode cX2_paysAll 16 = .ok (.ishl, 1) := dc_120 (show ((cX2_paysAll.data.toList.drop 16).take 1).map UInt8.toNat = [120] by decide +kernel)
theorem dX2_paysAll_17 : decode cX2_paysAll 17 = .ok (.iconst (-1), 1) := dc_2 (show ((cX2_paysAll.data.toList.drop 17).take 1).map UInt8.toNat = [2] by decide +kernel)
theorem dX2_paysAll_18 : decode cX2_paysAll 18 = .ok (.ixor, 1) := dc_130 (show ((cX2_paysAll.data.toList.drop 18).take 1).map UInt8.toNat = [130] by decide +kernel)
theorem dX2_paysAll_19 : decode cX2_paysAll 19 = .ok (.iand, 1) := dc_126 (show ((cX2_paysAll.data.toList.drop 19).take 1).map UInt8.toNat = [126] by decide +kernel)
theorem dX2_paysAll_20 : decode cX2_paysAll 20 = .ok (.istore 5, 2) := dc_54 (show ((cX2_paysAll.data.toList.drop 20).take 2).map UInt8.toNat = [54, 5] by decide +kernel) rfl
theorem dX2_paysAll_22 : decode cX2_paysAll 22 = .ok (.iload 5, 2) := dc_21 (show ((cX2_paysAll.data.toList.drop 22).take 2).map UInt8.toNat = [21, 5] by decide +kernel) rfl
theorem dX2_paysAll_24 : decode cX2_paysAll 24 = .ok (.iload_n 2, 1) := dc_28 (show ((cX2_paysAll.data.toList.drop 24).take 1).map UInt8.toNat = [28] by decide +kernel)
theorem dX2_paysAll_25 : decode cX2_paysAll 25 = .ok (.if_icmp .eq 32, 3) := dc_159 (show ((cX2_paysAll.data.toList.drop 25).take 3).map UInt8.toNat = [159, 0, 32] by decide +kernel) rfl
theorem dX2_paysAll_57 : decode cX2_paysAll 57 = .ok (.iinc 4 1, 3) := dc_132 (show ((cX2_paysAll.data.toList.drop 57).take 3).map UInt8.toNat = [132, 4, 1] by decide +kernel) rfl
theorem dX2_paysAll_60 : decode cX2_paysAll 60 = .ok (.goto (-57), 3) := dc_167 (show ((cX2_paysAll.data.toList.drop 60).take 3).map UInt8.toNat = [167, 255, 199] by decide +kernel) rfl
theorem dX2_paysAll_28 : decode cX2_paysAll 28 = .ok (.aload_n 0, 1) := dc_42 (show ((cX2_paysAll.data.toList.drop 28).take 1).map UInt8.toNat = [42] by decide +kernel)
theorem dX2_paysAll_29 : decode cX2_paysAll 29 = .ok (.getfield 18, 3) := dc_180 (show ((cX2_paysAll.data.toList.drop 29).take 3).map UInt8.toNat = [180, 0, 18] by decide +kernel) rfl
theorem dX2_paysAll_32 : decode cX2_paysAll 32 = .ok (.iload 5, 2) := dc_21 (show ((cX2_paysAll.data.toList.drop 32).take 2).map UInt8.toNat = [21, 5] by decide +kernel) rfl
theorem dX2_paysAll_34 : decode cX2_paysAll 34 = .ok (.laload, 1) := dc_47 (show ((cX2_paysAll.data.toList.drop 34).take 1).map UInt8.toNat = [47] by decide +kernel)
theorem dX2_paysAll_35 : decode cX2_paysAll 35 = .ok (.lconst 1, 1) := dc_10 (show ((cX2_paysAll.data.toList.drop 35).take 1).map UInt8.toNat = [10] by decide +kernel)
theorem dX2_paysAll_36 : decode cX2_paysAll 36 = .ok (.lcmp, 1) := dc_148 (show ((cX2_paysAll.data.toList.drop 36).take 1).map UInt8.toNat = [148] by decide +kernel)
theorem dX2_paysAll_37 : decode cX2_paysAll 37 = .ok (.ifCond .ne 20, 3) := dc_154 (show ((cX2_paysAll.data.toList.drop 37).take 3).map UInt8.toNat = [154, 0, 20] by decide +kernel) rfl
theorem dX2_paysAll_40 : decode cX2_paysAll 40 = .ok (.aload_n 1, 1) := dc_43 (show ((cX2_paysAll.data.toList.drop 40).take 1).map UInt8.toNat = [43] by decide +kernel)
theorem dX2_paysAll_41 : decode cX2_paysAll 41 = .ok (.iload_n 3, 1) := dc_29 (show ((cX2_paysAll.data.toList.drop 41).take 1).map UInt8.toNat = [29] by decide +kernel)
theorem dX2_paysAll_42 : decode cX2_paysAll 42 = .ok (.aload_n 1, 1) := dc_43 (show ((cX2_paysAll.data.toList.drop 42).take 1).map UInt8.toNat = [43] by decide +kernel)
theorem dX2_paysAll_43 : decode cX2_paysAll 43 = .ok (.iload 4, 2) := dc_21 (show ((cX2_paysAll.data.toList.drop 43).take 2).map UInt8.toNat = [21, 4] by decide +kernel) rfl
theorem dX2_paysAll_45 : decode cX2_paysAll 45 = .ok (.iload_n 3, 1) := dc_29 (show ((cX2_paysAll.data.toList.drop 45).take 1).map UInt8.toNat = [29] by decide +kernel)
theorem dX2_paysAll_46 : decode cX2_paysAll 46 = .ok (.invokevirtual 35, 3) := dc_182 (show ((cX2_paysAll.data.toList.drop 46).take 3).map UInt8.toNat = [182, 0, 35] by decide +kernel) rfl
theorem dX2_paysAll_49 : decode cX2_paysAll 49 = .ok (.invokevirtual 64, 3) := dc_182 (show ((cX2_paysAll.data.toList.drop 49).take 3).map UInt8.toNat = [182, 0, 64] by decide +kernel) rfl
theorem w_1038 : (Cond.methodLink "GooseBorder$Flocks" (64 : Nat) ({ cls := "GooseBorder$Border", name := "payOf", desc := "(II)I" } : MethodName)) ∈ gb_wA := gb_t5 78 rfl rfl
theorem dX2_paysAll_52 : decode cX2_paysAll 52 = .ok (.ifCond .le 5, 3) := dc_158 (show ((cX2_paysAll.data.toList.drop 52).take 3).map UInt8.toNat = [158, 0, 5] by decide +kernel) rfl
theorem dX2_paysAll_55 : decode cX2_paysAll 55 = .ok (.iconst 1, 1) := dc_4 (show ((cX2_paysAll.data.toList.drop 55).take 1).map UInt8.toNat = [4] by decide +kernel)
theorem dX2_paysAll_56 : decode cX2_paysAll 56 = .ok (.ireturn, 1) := dc_172 (show ((cX2_paysAll.data.toList.drop 56).take 1).map UInt8.toNat = [172] by decide +kernel)
def cs_Flocks_paysAll_B_3 (n : Nat) : Nat → gb_S → Nat → Int32 → Int32 → Int32 → gb_CR Int32
  | 0, _, _, _, _, _ => none
  | mm + 1, σ, v1, v2, v3, v4 => gb_kk (gb_kB v1) (gb_cd (cs_Border_geese_B n σ v1) (fun s_3 r_4 => (if r_4 ≤ v4 then some (s_3, 0) else gb_lt (v2 &&& (((1 : Int32) <<< (v4 &&& 31)) ^^^ (-1))) (fun x_8 => (if x_8 = v2 then gb_lt (v4 + 1) (fun x_10 => cs_Flocks_paysAll_B_3 n mm s_3 v1 v2 v3 x_10) else gb_kk (gb_kJ (s_3.2.1 4)) (gb_ck x_8 256 (gb_lt ((s_3.2.2 (s_3.2.1 4)) (Int32.toNatClampNeg x_8)) (fun x_13 => (if (lg_cmp x_13 (1 : Int64)) = 0 then gb_cd (cs_Border_marksFirst_B n s_3 v1 v4 v3) (fun s_16 r_17 => gb_cd (cs_Border_payOf_B n s_16 v1 v3 r_17) (fun s_20 r_21 => (if r_21 ≤ 0 then gb_lt (v4 + 1) (fun x_25 => cs_Flocks_paysAll_B_3 n mm s_20 v1 v2 v3 x_25) else some (s_20, 1)))) else gb_lt (v4 + 1) (fun x_15 => cs_Flocks_paysAll_B_3 n mm s_3 v1 v2 v3 x_15))))))))))
def cs_Flocks_paysAll_B (n : Nat) (σ : gb_S) (p1 : Nat) (p2 : Int32) (p3 : Int32) : gb_CR Int32 := gb_kk (gb_kB p1) (cs_Flocks_paysAll_B_3 n n σ p1 p2 p3 0)
set_option maxHeartbeats 8000000 in
set_option maxRecDepth 100000 in
theorem cc_Flocks_paysAll_B (l : Launch) (D : va_G) (cT : Nat → ClassId) (tt : Nat → Nat) (b1 b : Nat) (hb1 : b1 ≤ b) (n : Nat) (σ : gb_S) (p1 : Nat) (p2 : Int32) (p3 : Int32) (σE : gb_S) (rE : Int32) (h : cs_Flocks_paysAll_B n σ p1 p2 p3 = some (σE, rE)) : Met l yX2_paysAll (.code yX2_paysAll cX2_paysAll 6 (some FieldType.boolean) :: gb_wA) ({ frames := 3, cells := 0, slots := 0, locals := 70 }) (gb_Pc D cT tt b1 [.ref (b + 130), .ref (b + p1), .int p2, .int p3] (fun h => va_P D vwCl (gb_wl b (gb_CW cT b σ)) h)) (gb_Qi (fun r h => r = rE ∧ va_P D vwCl (gb_wl b (gb_CW cT b σE)) h) (gb_fr b 135)) 0 0 (gb_fr b 135) := by
  refine Met.ofW (cc := cX2_paysAll) (maxL := 6) (ret := (some FieldType.boolean)) (by decide) rfl ?_
  intro p e s m args below meth c s₁ B hml hv
  obtain ⟨rfl, hSt, hP⟩ := hv
  have hx := B.exec
  have hb := B.bytes
  have hr := B.returns
  have hts := atoms_spec (ws := .code yX2_paysAll cX2_paysAll 6 (some FieldType.boolean) :: gb_wA) B.pre
  have hq : ∀ w ∈ gb_wA, w.before _ s = true := fun w h => hts w (List.mem_cons_of_mem _ h)
  have hown : s.vm.findClass RX2 = some m.cls := findClass_of_methodNamed B.named
  have hlocks := B.notSynchronized
  clear B hts
  have hK := hSt.1
  have hS : va_S (gb_fr b 135) s.heap s.heap [] := va_S.rf
  have hl := lv_entry ([.ref (b + 130), .ref (b + p1), .int p2, .int p3]) (n := 6) (Nat.le_of_ble_eq_true rfl)
  rw [lg_entry_eq]
  generalize (lg_sl ([.ref (b + 130), .ref (b + p1), .int p2, .int p3]) ++ List.replicate (6 - (lg_sl ([.ref (b + 130), .ref (b + p1), .int p2, .int p3])).length) Slot.unset).toArray = ls at hl ⊢
  replace hl : lv_has ls 6 [(0, .ref (b + 130)), (1, .ref (b + p1)), (2, .int p2), (3, .int p3)] := hl
  have L3_1 : ∀ (mm : Nat) (σ : gb_S) (v1 : Nat) (v2 : Int32) (v3 : Int32) (v4 : Int32) (H : Heap) (locs : List Loc) (ls : Array Slot), cs_Flocks_paysAll_B_3 n mm σ v1 v2 v3 v4 = some (σE, rE) → va_P D vwCl (gb_wl b (gb_CW cT b σ)) H → va_S (gb_fr b 135) s.heap H locs → lv_has ls 6 [(0, .ref (b + 130)), (1, .ref (b + v1)), (2, .int v2), (3, .int v3), (4, .int v4)] → W p l e (headSpec (.code yX2_paysAll cX2_paysAll 6 (some FieldType.boolean) :: gb_wA) ({ frames := 3, cells := 0, slots := 0, locals := 70 })).room s m ([.ref (b + 130), .ref (b + p1), .int p2, .int p3]).toArray below meth c H locs 0 0 (MQ below (gb_Qi (fun r h => r = rE ∧ va_P D vwCl (gb_wl b (gb_CW cT b σE)) h) (gb_fr b 135)) ([.ref (b + 130), .ref (b + p1), .int p2, .int p3]).toArray s 0 0 (gb_fr b 135)) (F0 m 3 ls []) := by
    clear h hP hS hl ls
    intro mm
    induction mm with
    | zero =>
      intro σ v1 v2 v3 v4 H locs ls h
      cases h
    | succ mm ih =>
      intro σ v1 v2 v3 v4 H locs ls h hP hS hl
      rw [cs_Flocks_paysAll_B_3] at h
      obtain ⟨z_2, h⟩ := gb_kk_s h
      refine lv_iload hx hb dX2_paysAll_3 (lv_at hl 4 rfl) ?_
      refine lv_aload_n hx hb dX2_paysAll_5 rfl (lv_at hl 1 rfl) ?_
      obtain ⟨s_3, r_4, z_5, h⟩ := gb_cd_s h
      refine gb_calli (va_runV (C := RX0) (As := []) (rest := [.int v4]) ⟨hx, hb, hml, hown, hq⟩ (cc_Border_geese_B l D cT tt b1 b hb1 n σ v1 s_3 r_4 z_5) (cwV 0 hq (gb_gV w_986 w_477 w_478 w_4 w_479) rfl rfl rfl (by decide +kernel) ⟨Nat.le_of_ble_eq_true rfl, Nat.le_of_ble_eq_true rfl⟩) (gb_preV (r := (RX0, TX0, 1)) (ci := 0) (q0 := v1) hSt hP rfl (gb_at b (gb_cB z_2).1) hS (fun q h => Nat.le_trans hb1 h.1) hP) rfl rfl hl.1 rfl (lv_room (Nat.le_of_ble_eq_true rfl)) dX2_paysAll_6 ⟨Nat.le_of_ble_eq_true rfl, Nat.le_of_ble_eq_true rfl⟩) hS (fun _ h => h) (fun _ h => h) (fun q_6 H locs hY hk hS => ?_)
      obtain ⟨hq_6, hP⟩ := hY
      replace hq_6 := hq_6.symm
      subst hq_6
      refine lv_icmp_ge (tgt := 63) hx hb dX2_paysAll_9 (by decide) (fun c_7 => ?_) (fun c_7 => ?_)
      · rw [if_pos c_7] at h
        refine lv_iconst (v := 0) hx hb dX2_paysAll_63 (by decide) ?_
        obtain ⟨e1, e2⟩ := gb_eq2 h
        exact W.zret (v := 0) hx hb hr (by decide) (fun t ht hW => gb_ri ht ⟨e2, by rw [← e1]; exact hP⟩ hS) hS.2.2 dX2_paysAll_64
      · rw [if_neg c_7] at h
        refine lv_iload_n hx hb dX2_paysAll_12 rfl (lv_at hl 2 rfl) ?_
        refine lv_iconst (v := 1) hx hb dX2_paysAll_13 (by decide) ?_
        refine lv_iload hx hb dX2_paysAll_14 (lv_at hl 4 rfl) ?_
        refine lv_ishl hx hb dX2_paysAll_16 ?_
        refine lv_iconst (v := (-1)) hx hb dX2_paysAll_17 (by decide) ?_
        refine lv_ixor hx hb dX2_paysAll_18 ?_
        refine lv_iand hx hb dX2_paysAll_19 ?_
        refine lv_topi (fun x_8 ex_8 => ?_)
        replace h := gb_lt_s ex_8 h
        refine lv_istore (lv' := [(5, .int x_8), (0, .ref (b + 130)), (1, .ref (b + v1)), (2, .int v2), (3, .int v3), (4, .int v4)]) hx hb dX2_paysAll_20 hl (by decide) rfl (fun ls hl => ?_)
        refine lv_iload hx hb dX2_paysAll_22 (lv_at hl 0 rfl) ?_
        refine lv_iload_n hx hb dX2_paysAll_24 rfl (lv_at hl 3 rfl) ?_
        refine lv_icmp_eq (tgt := 57) hx hb dX2_paysAll_25 (by decide) (fun c_9 => ?_) (fun c_9 => ?_)
        · rw [if_pos c_9] at h
          obtain ⟨x_10, ex_10⟩ : ∃ q, q = (v4 + 1) := ⟨_, rfl⟩
          replace h := gb_lt_s ex_10 h
          refine lv_iinc (v := x_10) (lv' := [(4, .int x_10), (5, .int x_8), (0, .ref (b + 130)), (1, .ref (b + v1)), (2, .int v2), (3, .int v3)]) hx hb dX2_paysAll_57 hl (k := 5) rfl (by rw [ex_10]; rfl) (by decide) rfl (fun ls hl => ?_)
          refine lv_goto (tgt := 3) hx hb dX2_paysAll_60 (by decide) ?_
          exact ih _ _ _ _ _ _ _ _ h hP hS (lv_sub hl [2, 3, 4, 5, 0] rfl)
        · rw [if_neg c_9] at h
          refine lv_aload_n hx hb dX2_paysAll_28 rfl (lv_at hl 1 rfl) ?_
          obtain ⟨z_11, h⟩ := gb_kk_s h
          refine va_get (ci := 2) (v := (.ref (b + (s_3.2.1 4)))) (C := RX2) (T := TX2) (N := 6) hx hb hq i_X2 hown hK hP 130 (gb_at b rfl) rfl 2 (by decide) (hq _ w_296) (fun _ h9 => h9) rfl dX2_paysAll_29 ?_
          refine lv_iload hx hb dX2_paysAll_32 (lv_at hl 0 rfl) ?_
          obtain ⟨z_12, h⟩ := gb_ck_s h
          refine va_lald hx hb hK hP (s_3.2.1 4) 3 (gb_at b (gb_cJ z_11)) rfl z_12 dX2_paysAll_34 ?_
          refine lv_topl (fun x_13 ex_13 => ?_)
          replace h := gb_lt_s ex_13 h
          refine lv_lconst (v := 1) hx hb dX2_paysAll_35 (by decide) ?_
          refine W.lcmp hx hb dX2_paysAll_36 ?_
          refine lv_if_ne (tgt := 57) hx hb dX2_paysAll_37 (by decide) (fun c_14 => ?_) (fun c_14 => ?_)
          · rw [if_neg c_14] at h
            obtain ⟨x_15, ex_15⟩ : ∃ q, q = (v4 + 1) := ⟨_, rfl⟩
            replace h := gb_lt_s ex_15 h
            refine lv_iinc (v := x_15) (lv' := [(4, .int x_15), (5, .int x_8), (0, .ref (b + 130)), (1, .ref (b + v1)), (2, .int v2), (3, .int v3)]) hx hb dX2_paysAll_57 hl (k := 5) rfl (by rw [ex_15]; rfl) (by decide) rfl (fun ls hl => ?_)
            refine lv_goto (tgt := 3) hx hb dX2_paysAll_60 (by decide) ?_
            exact ih _ _ _ _ _ _ _ _ h hP hS (lv_sub hl [2, 3, 4, 5, 0] rfl)
          · rw [if_pos c_14] at h
            refine lv_aload_n hx hb dX2_paysAll_40 rfl (lv_at hl 2 rfl) ?_
            refine lv_iload_n hx hb dX2_paysAll_41 rfl (lv_at hl 4 rfl) ?_
            refine lv_aload_n hx hb dX2_paysAll_42 rfl (lv_at hl 2 rfl) ?_
            refine lv_iload hx hb dX2_paysAll_43 (lv_at hl 5 rfl) ?_
            refine lv_iload_n hx hb dX2_paysAll_45 rfl (lv_at hl 4 rfl) ?_
            obtain ⟨s_16, r_17, z_18, h⟩ := gb_cd_s h
            refine gb_calli (va_runV (C := RX0) (As := [.int v4, .int v3]) (rest := [.int v3, .ref (b + v1)]) ⟨hx, hb, hml, hown, hq⟩ (cc_Border_marksFirst_B l D cT tt b1 b hb1 n s_3 v1 v4 v3 s_16 r_17 z_18) (cwV 2 hq (gb_gV w_987 w_899 w_900 w_4 w_901) rfl rfl rfl (by decide +kernel) ⟨Nat.le_of_ble_eq_true rfl, Nat.le_of_ble_eq_true rfl⟩) (gb_preV (r := (RX0, TX0, 1)) (ci := 0) (q0 := v1) hSt hP rfl (gb_at b (gb_cB z_2).1) hS (fun q h => Nat.le_trans hb1 h.1) hP) rfl rfl hl.1 rfl (lv_room (Nat.le_of_ble_eq_true rfl)) dX2_paysAll_46 ⟨Nat.le_of_ble_eq_true rfl, Nat.le_of_ble_eq_true rfl⟩) hS (fun _ h => h) (fun _ h => h) (fun q_19 H locs hY hk hS => ?_)
            obtain ⟨hq_19, hP⟩ := hY
            replace hq_19 := hq_19.symm
            subst hq_19
            obtain ⟨s_20, r_21, z_22, h⟩ := gb_cd_s h
            refine gb_calli (va_runV (C := RX0) (As := [.int v3, .int r_17]) (rest := []) ⟨hx, hb, hml, hown, hq⟩ (cc_Border_payOf_B l D cT tt b1 b hb1 n s_16 v1 v3 r_17 s_20 r_21 z_22) (cwV 2 hq (gb_gV w_1038 w_784 w_785 w_4 w_786) rfl rfl rfl (by decide +kernel) ⟨Nat.le_of_ble_eq_true rfl, Nat.le_of_ble_eq_true rfl⟩) (gb_preV (r := (RX0, TX0, 1)) (ci := 0) (q0 := v1) hSt hP rfl (gb_at b (gb_cB z_2).1) hS (fun q h => Nat.le_trans hb1 h.1) hP) rfl rfl hl.1 rfl (lv_room (Nat.le_of_ble_eq_true rfl)) dX2_paysAll_49 ⟨Nat.le_of_ble_eq_true rfl, Nat.le_of_ble_eq_true rfl⟩) hS (fun _ h => h) (fun _ h => h) (fun q_23 H locs hY hk hS => ?_)
            obtain ⟨hq_23, hP⟩ := hY
            replace hq_23 := hq_23.symm
            subst hq_23
            refine lv_if_le (tgt := 57) hx hb dX2_paysAll_52 (by decide) (fun c_24 => ?_) (fun c_24 => ?_)
            · rw [if_pos c_24] at h
              obtain ⟨x_25, ex_25⟩ : ∃ q, q = (v4 + 1) := ⟨_, rfl⟩
              replace h := gb_lt_s ex_25 h
              refine lv_iinc (v := x_25) (lv' := [(4, .int x_25), (5, .int x_8), (0, .ref (b + 130)), (1, .ref (b + v1)), (2, .int v2), (3, .int v3)]) hx hb dX2_paysAll_57 hl (k := 5) rfl (by rw [ex_25]; rfl) (by decide) rfl (fun ls hl => ?_)
              refine lv_goto (tgt := 3) hx hb dX2_paysAll_60 (by decide) ?_
              exact ih _ _ _ _ _ _ _ _ h hP hS (lv_sub hl [2, 3, 4, 5, 0] rfl)
            · rw [if_neg c_24] at h
              refine lv_iconst (v := 1) hx hb dX2_paysAll_55 (by decide) ?_
              obtain ⟨e1, e2⟩ := gb_eq2 h
              exact W.zret (v := 1) hx hb hr (by decide) (fun t ht hW => gb_ri ht ⟨e2, by rw [← e1]; exact hP⟩ hS) hS.2.2 dX2_paysAll_56
  unfold cs_Flocks_paysAll_B at h
  obtain ⟨z_1, h⟩ := gb_kk_s h
  refine lv_iconst (v := 0) hx hb dX2_paysAll_0 (by decide) ?_
  refine lv_istore (lv' := [(4, .int 0), (0, .ref (b + 130)), (1, .ref (b + p1)), (2, .int p2), (3, .int p3)]) hx hb dX2_paysAll_1 hl (by decide) rfl (fun ls hl => ?_)
  exact L3_1 n _ _ _ _ _ _ _ _ h hP hS (lv_sub hl [1, 2, 3, 4, 0] rfl)
theorem w_1037 : (Cond.code ({ cls := "GooseBorder$Flocks", name := "paysAll", desc := "(LGooseBorder$Border;II)Z" } : MethodName) prog_4_method_8_code (6 : Nat) (Option.some FieldType.boolean)) ∈ gb_wA := gb_t5 77 rfl rfl
theorem w_1034 : (Cond.methodLink "GooseBorder$Flocks" (60 : Nat) ({ cls := "GooseBorder$Flocks", name := "paysAll", desc := "(LGooseBorder$Border;II)Z" } : MethodName)) ∈ gb_wA := gb_t5 74 rfl rfl
theorem w_1036 : (Cond.instanceMethod ({ cls := "GooseBorder$Flocks", name := "paysAll", desc := "(LGooseBorder$Border;II)Z" } : MethodName)) ∈ gb_wA := gb_t5 76 rfl rfl
theorem s_2_11 : Cond.selects "GooseBorder$Flocks" (⟨"GooseBorder$Flocks", "paysAll", "(LGooseBorder$Border;II)Z"⟩ : MethodName) (⟨"GooseBorder$Flocks", "paysAll", "(LGooseBorder$Border;II)Z"⟩ : MethodName) ∈ gb_wA := gb_s2 11 rfl rfl
theorem dX2_thriftiest_63 : decode cX2_thriftiest 63 = .ok (.ifCond .eq 7, 3) := dc_153 (show ((cX2_thriftiest.data.toList.drop 63).take 3).map UInt8.toNat = [153, 0, 7] by decide +kernel) rfl
theorem dX2_thriftiest_66 : decode cX2_thriftiest 66 = .ok (.lconst 1, 1) := dc_10 (show ((cX2_thriftiest.data.toList.drop 66).take 1).map UInt8.toNat = [10] by decide +kernel)
theorem dX2_thriftiest_67 : decode cX2_thriftiest 67 = .ok (.goto 4, 3) := dc_167 (show ((cX2_thriftiest.data.toList.drop 67).take 3).map UInt8.toNat = [167, 0, 4] by decide +kernel) rfl
theorem dX2_thriftiest_24 : decode cX2_thriftiest 24 = .ok (.iconst 0, 1) := dc_3 (show ((cX2_thriftiest.data.toList.drop 24).take 1).map UInt8.toNat = [3] by decide +kernel)
theorem dX2_thriftiest_25 : decode cX2_thriftiest 25 = .ok (.ireturn, 1) := dc_172 (show ((cX2_thriftiest.data.toList.drop 25).take 1).map UInt8.toNat = [172] by decide +kernel)
def cs_Flocks_thriftiest_B_71 (n : Nat) (k28 : gb_S → Nat → Int32 → gb_CR Int32) (σ : gb_S) (v1 : Nat) (v2 : Int32) (v3 : Int32) (t0 : Int64) (t1 : Int32) (t2 : Nat) : gb_CR Int32 := gb_kk (gb_kB v1) (gb_kk (gb_kJ t2) (gb_ck t1 256 (gb_lt (gb_sg σ t2 (vp_updL (σ.2.2 t2) (Int32.toNatClampNeg t1) t0)) (fun s_32 => gb_kk (gb_kJ (s_32.2.1 4)) (gb_ck v2 256 (gb_lt ((s_32.2.2 (s_32.2.1 4)) (Int32.toNatClampNeg v2)) (fun x_35 => (if (lg_cmp x_35 (1 : Int64)) = 0 then gb_cd (cs_Border_paths_B n s_32 v1) (fun s_38 r_39 => (if v3 = (r_39 - 1) then some (s_38, v2) else gb_lt (v2 + 1) (fun x_43 => k28 s_38 v1 x_43))) else gb_lt (v2 + 1) (fun x_37 => k28 s_32 v1 x_37)))))))))
def cs_Flocks_thriftiest_B_70 (n : Nat) (k28 : gb_S → Nat → Int32 → gb_CR Int32) (σ : gb_S) (v1 : Nat) (v2 : Int32) (v3 : Int32) (t0 : Int32) (t1 : Nat) : gb_CR Int32 := gb_kk (gb_kB v1) (gb_kk (gb_kJ t1) (cs_Flocks_thriftiest_B_71 n k28 σ v1 v2 v3 (0 : Int64) t0 t1))
def cs_Flocks_thriftiest_B_28 (n : Nat) : Nat → gb_S → Nat → Int32 → gb_CR Int32
  | 0, _, _, _ => none
  | mm + 1, σ, v1, v2 => gb_kk (gb_kB v1) ((if (σ.1 130 4) ≤ v2 then some (σ, (-1)) else gb_cd (cs_java_lang_Integer_bitCount n σ v2) (fun s_16 r_17 => gb_lt (r_17 - 1) (fun x_20 => gb_kk (gb_kJ (s_16.2.1 4)) (gb_cd (cs_Border_paths_B n s_16 v1) (fun s_22 r_23 => (if r_23 ≤ x_20 then cs_Flocks_thriftiest_B_70 n (fun σ v1 v2 => cs_Flocks_thriftiest_B_28 n mm σ v1 v2) s_22 v1 v2 x_20 v2 (s_16.2.1 4) else gb_cd (cs_Flocks_paysAll_B n s_22 v1 v2 x_20) (fun s_44 r_45 => (if r_45 = 0 then cs_Flocks_thriftiest_B_70 n (fun σ v1 v2 => cs_Flocks_thriftiest_B_28 n mm σ v1 v2) s_44 v1 v2 x_20 v2 (s_16.2.1 4) else cs_Flocks_thriftiest_B_71 n (fun σ v1 v2 => cs_Flocks_thriftiest_B_28 n mm σ v1 v2) s_44 v1 v2 x_20 (1 : Int64) v2 (s_16.2.1 4))))))))))
def cs_Flocks_thriftiest_B (n : Nat) (σ : gb_S) (p1 : Nat) : gb_CR Int32 := gb_kk (gb_kB p1) (gb_cd (cs_Border_geese_B n σ p1) (fun s_2 r_3 => gb_lt (gb_su s_2 130 (upd (s_2.1 130) 4 ((1 : Int32) <<< (r_3 &&& 31)))) (fun s_6 => gb_kk (gb_kJ (s_6.2.1 4)) (gb_lt (gb_sg s_6 (s_6.2.1 4) (vp_updL (s_6.2.2 (s_6.2.1 4)) (Int32.toNatClampNeg 0) (1 : Int64))) (fun s_8 => gb_cd (cs_Border_paths_B n s_8 p1) (fun s_9 r_10 => (if r_10 = 0 then some (s_9, 0) else cs_Flocks_thriftiest_B_28 n n s_9 p1 1)))))))
set_option maxHeartbeats 8000000 in
set_option maxRecDepth 100000 in
theorem cc_Flocks_thriftiest_B (l : Launch) (D : va_G) (cT : Nat → ClassId) (tt : Nat → Nat) (b1 b : Nat) (hb1 : b1 ≤ b) (n : Nat) (σ : gb_S) (p1 : Nat) (σE : gb_S) (rE : Int32) (h : cs_Flocks_thriftiest_B n σ p1 = some (σE, rE)) : Met l yX2_thriftiest (.code yX2_thriftiest cX2_thriftiest 4 (some FieldType.int) :: gb_wA) ({ frames := 4, cells := 0, slots := 0, locals := 95 }) (gb_Pc D cT tt b1 [.ref (b + 130), .ref (b + p1)] (fun h => va_P D vwCl (gb_wl b (gb_CW cT b σ)) h)) (gb_Qi (fun r h => r = rE ∧ va_P D vwCl (gb_wl b (gb_CW cT b σE)) h) (gb_fr b 135)) 0 0 (gb_fr b 135) := by
  refine Met.ofW (cc := cX2_thriftiest) (maxL := 4) (ret := (some FieldType.int)) (by decide) rfl ?_
  intro p e s m args below meth c s₁ B hml hv
  obtain ⟨rfl, hSt, hP⟩ := hv
  have hx := B.exec
  have hb := B.bytes
  have hr := B.returns
  have hts := atoms_spec (ws := .code yX2_thriftiest cX2_thriftiest 4 (some FieldType.int) :: gb_wA) B.pre
  have hq : ∀ w ∈ gb_wA, w.before _ s = true := fun w h => hts w (List.mem_cons_of_mem _ h)
  have hown : s.vm.findClass RX2 = some m.cls := findClass_of_methodNamed B.named
  have hlocks := B.notSynchronized
  clear B hts
  have hK := hSt.1
  have hS : va_S (gb_fr b 135) s.heap s.heap [] := va_S.rf
  have hl := lv_entry ([.ref (b + 130), .ref (b + p1)]) (n := 4) (Nat.le_of_ble_eq_true rfl)
  rw [lg_entry_eq]
  generalize (lg_sl ([.ref (b + 130), .ref (b + p1)]) ++ List.replicate (4 - (lg_sl ([.ref (b + 130), .ref (b + p1)])).length) Slot.unset).toArray = ls at hl ⊢
  replace hl : lv_has ls 4 [(0, .ref (b + 130)), (1, .ref (b + p1))] := hl
  have L71_3 : ∀ (k28 : gb_S → Nat → Int32 → gb_CR Int32) (hk28 : ∀ (σ : gb_S) (v1 : Nat) (v2 : Int32) (H : Heap) (locs : List Loc) (ls : Array Slot), k28 σ v1 v2 = some (σE, rE) → va_P D vwCl (gb_wl b (gb_CW cT b σ)) H → va_S (gb_fr b 135) s.heap H locs → lv_has ls 4 [(0, .ref (b + 130)), (1, .ref (b + v1)), (2, .int v2)] → W p l e (headSpec (.code yX2_thriftiest cX2_thriftiest 4 (some FieldType.int) :: gb_wA) ({ frames := 4, cells := 0, slots := 0, locals := 95 })).room s m ([.ref (b + 130), .ref (b + p1)]).toArray below meth c H locs 0 0 (MQ below (gb_Qi (fun r h => r = rE ∧ va_P D vwCl (gb_wl b (gb_CW cT b σE)) h) (gb_fr b 135)) ([.ref (b + 130), .ref (b + p1)]).toArray s 0 0 (gb_fr b 135)) (F0 m 28 ls [])) (σ : gb_S) (v1 : Nat) (v2 : Int32) (v3 : Int32) (t0 : Int64) (t1 : Int32) (t2 : Nat) (H : Heap) (locs : List Loc) (ls : Array Slot), cs_Flocks_thriftiest_B_71 n k28 σ v1 v2 v3 t0 t1 t2 = some (σE, rE) → va_P D vwCl (gb_wl b (gb_CW cT b σ)) H → va_S (gb_fr b 135) s.heap H locs → lv_has ls 4 [(0, .ref (b + 130)), (1, .ref (b + v1)), (2, .int v2), (3, .int v3)] → W p l e (headSpec (.code yX2_thriftiest cX2_thriftiest 4 (some FieldType.int) :: gb_wA) ({ frames := 4, cells := 0, slots := 0, locals := 95 })).room s m ([.ref (b + 130), .ref (b + p1)]).toArray below meth c H locs 0 0 (MQ below (gb_Qi (fun r h => r = rE ∧ va_P D vwCl (gb_wl b (gb_CW cT b σE)) h) (gb_fr b 135)) ([.ref (b + 130), .ref (b + p1)]).toArray s 0 0 (gb_fr b 135)) (F0 m 71 ls [.long t0, .int t1, .ref (b + t2)]) := by
    clear h hP hS hl ls
    intro k28 hk28 σ v1 v2 v3 t0 t1 t2 H locs ls h hP hS hl
    unfold cs_Flocks_thriftiest_B_71 at h
    obtain ⟨z_29, h⟩ := gb_kk_s h
    obtain ⟨z_30, h⟩ := gb_kk_s h
    obtain ⟨z_31, h⟩ := gb_ck_s h
    refine va_last (x := t0) hx hb hK hP (gb_D (fun k h => ⟨Nat.le_add_right b k, Nat.add_lt_add_left h b⟩)) hS t2 3 (gb_at b (gb_cJ z_30)) rfl z_31 dX2_thriftiest_71 (fun H locs hP hD hS => ?_)
    rw [gb_set] at hP
    obtain ⟨s_32, es_32⟩ : ∃ q, q = (gb_sg σ t2 (vp_updL (σ.2.2 t2) (Int32.toNatClampNeg t1) t0)) := ⟨_, rfl⟩
    replace hP : va_P D vwCl (gb_wl b (gb_CW cT b s_32)) H := by rw [es_32, ← gb_wJ z_30]; exact hP
    replace h := gb_lt_s es_32 h
    refine lv_aload_n hx hb dX2_thriftiest_72 rfl (lv_at hl 0 rfl) ?_
    obtain ⟨z_33, h⟩ := gb_kk_s h
    refine va_get (ci := 2) (v := (.ref (b + (s_32.2.1 4)))) (C := RX2) (T := TX2) (N := 6) hx hb hq i_X2 hown hK hP 130 (gb_at b rfl) rfl 2 (by decide) (hq _ w_296) (fun _ h9 => h9) rfl dX2_thriftiest_73 ?_
    refine lv_iload_n hx hb dX2_thriftiest_76 rfl (lv_at hl 2 rfl) ?_
    obtain ⟨z_34, h⟩ := gb_ck_s h
    refine va_lald hx hb hK hP (s_32.2.1 4) 3 (gb_at b (gb_cJ z_33)) rfl z_34 dX2_thriftiest_77 ?_
    refine lv_topl (fun x_35 ex_35 => ?_)
    replace h := gb_lt_s ex_35 h
    refine lv_lconst (v := 1) hx hb dX2_thriftiest_78 (by decide) ?_
    refine W.lcmp hx hb dX2_thriftiest_79 ?_
    refine lv_if_ne (tgt := 95) hx hb dX2_thriftiest_80 (by decide) (fun c_36 => ?_) (fun c_36 => ?_)
    · rw [if_neg c_36] at h
      obtain ⟨x_37, ex_37⟩ : ∃ q, q = (v2 + 1) := ⟨_, rfl⟩
      replace h := gb_lt_s ex_37 h
      refine lv_iinc (v := x_37) (lv' := [(2, .int x_37), (0, .ref (b + 130)), (1, .ref (b + v1)), (3, .int v3)]) hx hb dX2_thriftiest_95 hl (k := 2) rfl (by rw [ex_37]; rfl) (by decide) rfl (fun ls hl => ?_)
      refine lv_goto (tgt := 28) hx hb dX2_thriftiest_98 (by decide) ?_
      exact hk28 _ _ _ _ _ _ h hP hS (lv_sub hl [1, 2, 0] rfl)
    · rw [if_pos c_36] at h
      refine lv_iload_n hx hb dX2_thriftiest_83 rfl (lv_at hl 3 rfl) ?_
      refine lv_aload_n hx hb dX2_thriftiest_84 rfl (lv_at hl 1 rfl) ?_
      obtain ⟨s_38, r_39, z_40, h⟩ := gb_cd_s h
      refine gb_calli (va_runV (C := RX0) (As := []) (rest := [.int v3]) ⟨hx, hb, hml, hown, hq⟩ (cc_Border_paths_B l D cT tt b1 b hb1 n s_32 v1 s_38 r_39 z_40) (cwV 0 hq (gb_gV w_1033 w_473 w_474 w_4 w_475) rfl rfl rfl (by decide +kernel) ⟨Nat.le_of_ble_eq_true rfl, Nat.le_of_ble_eq_true rfl⟩) (gb_preV (r := (RX0, TX0, 1)) (ci := 0) (q0 := v1) hSt hP rfl (gb_at b (gb_cB z_29).1) hS (fun q h => Nat.le_trans hb1 h.1) hP) rfl rfl hl.1 rfl (lv_room (Nat.le_of_ble_eq_true rfl)) dX2_thriftiest_85 ⟨Nat.le_of_ble_eq_true rfl, Nat.le_of_ble_eq_true rfl⟩) hS (fun _ h => h) (fun _ h => h) (fun q_41 H locs hY hk hS => ?_)
      obtain ⟨hq_41, hP⟩ := hY
      replace hq_41 := hq_41.symm
      subst hq_41
      refine lv_iconst (v := 1) hx hb dX2_thriftiest_88 (by decide) ?_
      refine lv_isub hx hb dX2_thriftiest_89 ?_
      refine lv_icmp_ne (tgt := 95) hx hb dX2_thriftiest_90 (by decide) (fun c_42 => ?_) (fun c_42 => ?_)
      · rw [if_neg c_42] at h
        obtain ⟨x_43, ex_43⟩ : ∃ q, q = (v2 + 1) := ⟨_, rfl⟩
        replace h := gb_lt_s ex_43 h
        refine lv_iinc (v := x_43) (lv' := [(2, .int x_43), (0, .ref (b + 130)), (1, .ref (b + v1)), (3, .int v3)]) hx hb dX2_thriftiest_95 hl (k := 2) rfl (by rw [ex_43]; rfl) (by decide) rfl (fun ls hl => ?_)
        refine lv_goto (tgt := 28) hx hb dX2_thriftiest_98 (by decide) ?_
        exact hk28 _ _ _ _ _ _ h hP hS (lv_sub hl [1, 2, 0] rfl)
      · rw [if_pos c_42] at h
        refine lv_iload_n hx hb dX2_thriftiest_93 rfl (lv_at hl 2 rfl) ?_
        obtain ⟨e1, e2⟩ := gb_eq2 h
        exact W.iret (v := v2) hx hb hr (fun t ht hW => gb_ri ht ⟨e2, by rw [← e1]; exact hP⟩ hS) hS.2.2 dX2_thriftiest_94
  have L70_2 : ∀ (k28 : gb_S → Nat → Int32 → gb_CR Int32) (hk28 : ∀ (σ : gb_S) (v1 : Nat) (v2 : Int32) (H : Heap) (locs : List Loc) (ls : Array Slot), k28 σ v1 v2 = some (σE, rE) → va_P D vwCl (gb_wl b (gb_CW cT b σ)) H → va_S (gb_fr b 135) s.heap H locs → lv_has ls 4 [(0, .ref (b + 130)), (1, .ref (b + v1)), (2, .int v2)] → W p l e (headSpec (.code yX2_thriftiest cX2_thriftiest 4 (some FieldType.int) :: gb_wA) ({ frames := 4, cells := 0, slots := 0, locals := 95 })).room s m ([.ref (b + 130), .ref (b + p1)]).toArray below meth c H locs 0 0 (MQ below (gb_Qi (fun r h => r = rE ∧ va_P D vwCl (gb_wl b (gb_CW cT b σE)) h) (gb_fr b 135)) ([.ref (b + 130), .ref (b + p1)]).toArray s 0 0 (gb_fr b 135)) (F0 m 28 ls [])) (σ : gb_S) (v1 : Nat) (v2 : Int32) (v3 : Int32) (t0 : Int32) (t1 : Nat) (H : Heap) (locs : List Loc) (ls : Array Slot), cs_Flocks_thriftiest_B_70 n k28 σ v1 v2 v3 t0 t1 = some (σE, rE) → va_P D vwCl (gb_wl b (gb_CW cT b σ)) H → va_S (gb_fr b 135) s.heap H locs → lv_has ls 4 [(0, .ref (b + 130)), (1, .ref (b + v1)), (2, .int v2), (3, .int v3)] → W p l e (headSpec (.code yX2_thriftiest cX2_thriftiest 4 (some FieldType.int) :: gb_wA) ({ frames := 4, cells := 0, slots := 0, locals := 95 })).room s m ([.ref (b + 130), .ref (b + p1)]).toArray below meth c H locs 0 0 (MQ below (gb_Qi (fun r h => r = rE ∧ va_P D vwCl (gb_wl b (gb_CW cT b σE)) h) (gb_fr b 135)) ([.ref (b + 130), .ref (b + p1)]).toArray s 0 0 (gb_fr b 135)) (F0 m 70 ls [.int t0, .ref (b + t1)]) := by
    clear h hP hS hl ls
    intro k28 hk28 σ v1 v2 v3 t0 t1 H locs ls h hP hS hl
    unfold cs_Flocks_thriftiest_B_70 at h
    obtain ⟨z_27, h⟩ := gb_kk_s h
    obtain ⟨z_28, h⟩ := gb_kk_s h
    refine lv_lconst (v := 0) hx hb dX2_thriftiest_70 (by decide) ?_
    exact L71_3 k28 hk28 _ _ _ _ _ _ _ _ _ _ h hP hS (lv_sub hl [0, 1, 2, 3] rfl)
  have L28_1 : ∀ (mm : Nat) (σ : gb_S) (v1 : Nat) (v2 : Int32) (H : Heap) (locs : List Loc) (ls : Array Slot), cs_Flocks_thriftiest_B_28 n mm σ v1 v2 = some (σE, rE) → va_P D vwCl (gb_wl b (gb_CW cT b σ)) H → va_S (gb_fr b 135) s.heap H locs → lv_has ls 4 [(0, .ref (b + 130)), (1, .ref (b + v1)), (2, .int v2)] → W p l e (headSpec (.code yX2_thriftiest cX2_thriftiest 4 (some FieldType.int) :: gb_wA) ({ frames := 4, cells := 0, slots := 0, locals := 95 })).room s m ([.ref (b + 130), .ref (b + p1)]).toArray below meth c H locs 0 0 (MQ below (gb_Qi (fun r h => r = rE ∧ va_P D vwCl (gb_wl b (gb_CW cT b σE)) h) (gb_fr b 135)) ([.ref (b + 130), .ref (b + p1)]).toArray s 0 0 (gb_fr b 135)) (F0 m 28 ls []) := by
    clear h hP hS hl ls
    intro mm
    induction mm with
    | zero =>
      intro σ v1 v2 H locs ls h
      cases h
    | succ mm ih =>
      intro σ v1 v2 H locs ls h hP hS hl
      rw [cs_Flocks_thriftiest_B_28] at h
      obtain ⟨z_14, h⟩ := gb_kk_s h
      refine lv_iload_n hx hb dX2_thriftiest_28 rfl (lv_at hl 2 rfl) ?_
      refine lv_aload_n hx hb dX2_thriftiest_29 rfl (lv_at hl 0 rfl) ?_
      refine va_get (ci := 2) (v := (.int (σ.1 130 4))) (C := RX2) (T := TX2) (N := 6) hx hb hq i_X2 hown hK hP 130 (gb_at b rfl) rfl 4 (by decide) (hq _ w_298) (fun _ h9 => h9) rfl dX2_thriftiest_30 ?_
      refine lv_icmp_ge (tgt := 101) hx hb dX2_thriftiest_33 (by decide) (fun c_15 => ?_) (fun c_15 => ?_)
      · rw [if_pos c_15] at h
        refine lv_iconst (v := (-1)) hx hb dX2_thriftiest_101 (by decide) ?_
        obtain ⟨e1, e2⟩ := gb_eq2 h
        exact W.iret (v := (-1)) hx hb hr (fun t ht hW => gb_ri ht ⟨e2, by rw [← e1]; exact hP⟩ hS) hS.2.2 dX2_thriftiest_102
      · rw [if_neg c_15] at h
        refine lv_iload_n hx hb dX2_thriftiest_36 rfl (lv_at hl 2 rfl) ?_
        obtain ⟨s_16, r_17, z_18, h⟩ := gb_cd_s h
        refine gb_calli (va_runS (As := [.int v2]) (rest := []) ⟨hx, hb, hml, hown, hq⟩ (cc_java_lang_Integer_bitCount l D cT tt b1 b hb1 n σ v2 s_16 r_17 z_18) (va_cwS 1 hq (gb_gS w_988 w_989 w_21 w_990) rfl rfl rfl (by decide +kernel) ⟨Nat.le_of_ble_eq_true rfl, Nat.le_of_ble_eq_true rfl⟩) (gb_preS hSt hS (fun q h => Nat.le_trans hb1 h.1) hP) rfl rfl hl.1 rfl (lv_room (Nat.le_of_ble_eq_true rfl)) dX2_thriftiest_37 ⟨Nat.le_of_ble_eq_true rfl, Nat.le_of_ble_eq_true rfl⟩) hS (fun _ h => h) (fun _ h => h) (fun q_19 H locs hY hk hS => ?_)
        obtain ⟨hq_19, hP⟩ := hY
        replace hq_19 := hq_19.symm
        subst hq_19
        refine lv_iconst (v := 1) hx hb dX2_thriftiest_40 (by decide) ?_
        refine lv_isub hx hb dX2_thriftiest_41 ?_
        refine lv_topi (fun x_20 ex_20 => ?_)
        replace h := gb_lt_s ex_20 h
        refine lv_istore_n (lv' := [(3, .int x_20), (0, .ref (b + 130)), (1, .ref (b + v1)), (2, .int v2)]) hx hb dX2_thriftiest_42 rfl hl (by decide) rfl (fun ls hl => ?_)
        refine lv_aload_n hx hb dX2_thriftiest_43 rfl (lv_at hl 1 rfl) ?_
        obtain ⟨z_21, h⟩ := gb_kk_s h
        refine va_get (ci := 2) (v := (.ref (b + (s_16.2.1 4)))) (C := RX2) (T := TX2) (N := 6) hx hb hq i_X2 hown hK hP 130 (gb_at b rfl) rfl 2 (by decide) (hq _ w_296) (fun _ h9 => h9) rfl dX2_thriftiest_44 ?_
        refine lv_iload_n hx hb dX2_thriftiest_47 rfl (lv_at hl 3 rfl) ?_
        refine lv_iload_n hx hb dX2_thriftiest_48 rfl (lv_at hl 0 rfl) ?_
        refine lv_aload_n hx hb dX2_thriftiest_49 rfl (lv_at hl 2 rfl) ?_
        obtain ⟨s_22, r_23, z_24, h⟩ := gb_cd_s h
        refine gb_calli (va_runV (C := RX0) (As := []) (rest := [.int x_20, .int v2, .ref (b + (s_16.2.1 4))]) ⟨hx, hb, hml, hown, hq⟩ (cc_Border_paths_B l D cT tt b1 b hb1 n s_16 v1 s_22 r_23 z_24) (cwV 0 hq (gb_gV w_1033 w_473 w_474 w_4 w_475) rfl rfl rfl (by decide +kernel) ⟨Nat.le_of_ble_eq_true rfl, Nat.le_of_ble_eq_true rfl⟩) (gb_preV (r := (RX0, TX0, 1)) (ci := 0) (q0 := v1) hSt hP rfl (gb_at b (gb_cB z_14).1) hS (fun q h => Nat.le_trans hb1 h.1) hP) rfl rfl hl.1 rfl (lv_room (Nat.le_of_ble_eq_true rfl)) dX2_thriftiest_50 ⟨Nat.le_of_ble_eq_true rfl, Nat.le_of_ble_eq_true rfl⟩) hS (fun _ h => h) (fun _ h => h) (fun q_25 H locs hY hk hS => ?_)
        obtain ⟨hq_25, hP⟩ := hY
        replace hq_25 := hq_25.symm
        subst hq_25
        refine lv_icmp_ge (tgt := 70) hx hb dX2_thriftiest_53 (by decide) (fun c_26 => ?_) (fun c_26 => ?_)
        · rw [if_pos c_26] at h
          exact L70_2 _ ih _ _ _ _ _ _ _ _ _ h hP hS (lv_sub hl [1, 2, 3, 0] rfl)
        · rw [if_neg c_26] at h
          refine lv_aload_n hx hb dX2_thriftiest_56 rfl (lv_at hl 1 rfl) ?_
          refine lv_aload_n hx hb dX2_thriftiest_57 rfl (lv_at hl 2 rfl) ?_
          refine lv_iload_n hx hb dX2_thriftiest_58 rfl (lv_at hl 3 rfl) ?_
          refine lv_iload_n hx hb dX2_thriftiest_59 rfl (lv_at hl 0 rfl) ?_
          obtain ⟨s_44, r_45, z_46, h⟩ := gb_cd_s h
          refine gb_calli (va_runV (C := RX2) (As := [.ref (b + v1), .int v2, .int x_20]) (rest := [.int v2, .ref (b + (s_16.2.1 4))]) ⟨hx, hb, hml, hown, hq⟩ (cc_Flocks_paysAll_B l D cT tt b1 b hb1 n s_22 v1 v2 x_20 s_44 r_45 z_46) (cwV 3 hq (gb_gV w_1034 w_1036 s_2_11 w_13 w_1037) rfl rfl rfl (by decide +kernel) ⟨Nat.le_of_ble_eq_true rfl, Nat.le_of_ble_eq_true rfl⟩) (gb_preV (r := (RX2, TX2, 6)) (ci := 2) (q0 := 130) hSt hP rfl (gb_at b rfl) hS (fun q h => Nat.le_trans hb1 h.1) hP) rfl rfl hl.1 rfl (lv_room (Nat.le_of_ble_eq_true rfl)) dX2_thriftiest_60 ⟨Nat.le_of_ble_eq_true rfl, Nat.le_of_ble_eq_true rfl⟩) hS (fun _ h => h) (fun _ h => h) (fun q_47 H locs hY hk hS => ?_)
          obtain ⟨hq_47, hP⟩ := hY
          replace hq_47 := hq_47.symm
          subst hq_47
          refine lv_if_eq (tgt := 70) hx hb dX2_thriftiest_63 (by decide) (fun c_48 => ?_) (fun c_48 => ?_)
          · rw [if_pos c_48] at h
            exact L70_2 _ ih _ _ _ _ _ _ _ _ _ h hP hS (lv_sub hl [1, 2, 3, 0] rfl)
          · rw [if_neg c_48] at h
            refine lv_lconst (v := 1) hx hb dX2_thriftiest_66 (by decide) ?_
            refine lv_goto (tgt := 71) hx hb dX2_thriftiest_67 (by decide) ?_
            exact L71_3 _ ih _ _ _ _ _ _ _ _ _ _ h hP hS (lv_sub hl [1, 2, 3, 0] rfl)
  unfold cs_Flocks_thriftiest_B at h
  obtain ⟨z_1, h⟩ := gb_kk_s h
  refine lv_aload_n hx hb dX2_thriftiest_0 rfl (lv_at hl 0 rfl) ?_
  refine lv_iconst (v := 1) hx hb dX2_thriftiest_1 (by decide) ?_
  refine lv_aload_n hx hb dX2_thriftiest_2 rfl (lv_at hl 1 rfl) ?_
  obtain ⟨s_2, r_3, z_4, h⟩ := gb_cd_s h
  refine gb_calli (va_runV (C := RX0) (As := []) (rest := [.int 1, .ref (b + 130)]) ⟨hx, hb, hml, hown, hq⟩ (cc_Border_geese_B l D cT tt b1 b hb1 n σ p1 s_2 r_3 z_4) (cwV 0 hq (gb_gV w_986 w_477 w_478 w_4 w_479) rfl rfl rfl (by decide +kernel) ⟨Nat.le_of_ble_eq_true rfl, Nat.le_of_ble_eq_true rfl⟩) (gb_preV (r := (RX0, TX0, 1)) (ci := 0) (q0 := p1) hSt hP rfl (gb_at b (gb_cB z_1).1) hS (fun q h => Nat.le_trans hb1 h.1) hP) rfl rfl hl.1 rfl (lv_room (Nat.le_of_ble_eq_true rfl)) dX2_thriftiest_3 ⟨Nat.le_of_ble_eq_true rfl, Nat.le_of_ble_eq_true rfl⟩) hS (fun _ h => h) (fun _ h => h) (fun q_5 H locs hY hk hS => ?_)
  obtain ⟨hq_5, hP⟩ := hY
  replace hq_5 := hq_5.symm
  subst hq_5
  refine lv_ishl hx hb dX2_thriftiest_6 ?_
  refine gb_put (ci := 2) (v := (.int ((1 : Int32) <<< (r_3 &&& 31)))) (ty := .int) (C := RX2) (T := TX2) (N := 6) hx hb hq i_X2 tyX2 tyX2_ok nmX2 hown hK hP (fun k h => ⟨Nat.le_add_right b k, Nat.add_lt_add_left h b⟩) hS rfl 130 rfl rfl 4 (by decide) (hq _ w_298) (fun _ h9 => h9) rfl (by decide +kernel) rfl rfl (Nat.le_of_ble_eq_true rfl) dX2_thriftiest_7 (fun H locs hP hz_ hS => ?_)
  obtain ⟨s_6, es_6⟩ : ∃ q, q = (gb_su s_2 130 (upd (s_2.1 130) 4 ((1 : Int32) <<< (r_3 &&& 31)))) := ⟨_, rfl⟩
  replace hP : va_P D vwCl (gb_wl b (gb_CW cT b s_6)) H := by rw [es_6]; exact hP
  replace h := gb_lt_s es_6 h
  refine lv_aload_n hx hb dX2_thriftiest_10 rfl (lv_at hl 0 rfl) ?_
  obtain ⟨z_7, h⟩ := gb_kk_s h
  refine va_get (ci := 2) (v := (.ref (b + (s_6.2.1 4)))) (C := RX2) (T := TX2) (N := 6) hx hb hq i_X2 hown hK hP 130 (gb_at b rfl) rfl 2 (by decide) (hq _ w_296) (fun _ h9 => h9) rfl dX2_thriftiest_11 ?_
  refine lv_iconst (v := 0) hx hb dX2_thriftiest_14 (by decide) ?_
  refine lv_lconst (v := 1) hx hb dX2_thriftiest_15 (by decide) ?_
  refine va_last (x := (1 : Int64)) hx hb hK hP (gb_D (fun k h => ⟨Nat.le_add_right b k, Nat.add_lt_add_left h b⟩)) hS (s_6.2.1 4) 3 (gb_at b (gb_cJ z_7)) rfl (gb_in rfl) dX2_thriftiest_16 (fun H locs hP hD hS => ?_)
  rw [gb_set] at hP
  obtain ⟨s_8, es_8⟩ : ∃ q, q = (gb_sg s_6 (s_6.2.1 4) (vp_updL (s_6.2.2 (s_6.2.1 4)) (Int32.toNatClampNeg 0) (1 : Int64))) := ⟨_, rfl⟩
  replace hP : va_P D vwCl (gb_wl b (gb_CW cT b s_8)) H := by rw [es_8, ← gb_wJ z_7]; exact hP
  replace h := gb_lt_s es_8 h
  refine lv_aload_n hx hb dX2_thriftiest_17 rfl (lv_at hl 1 rfl) ?_
  obtain ⟨s_9, r_10, z_11, h⟩ := gb_cd_s h
  refine gb_calli (va_runV (C := RX0) (As := []) (rest := []) ⟨hx, hb, hml, hown, hq⟩ (cc_Border_paths_B l D cT tt b1 b hb1 n s_8 p1 s_9 r_10 z_11) (cwV 0 hq (gb_gV w_1033 w_473 w_474 w_4 w_475) rfl rfl rfl (by decide +kernel) ⟨Nat.le_of_ble_eq_true rfl, Nat.le_of_ble_eq_true rfl⟩) (gb_preV (r := (RX0, TX0, 1)) (ci := 0) (q0 := p1) hSt hP rfl (gb_at b (gb_cB z_1).1) hS (fun q h => Nat.le_trans hb1 h.1) hP) rfl rfl hl.1 rfl (lv_room (Nat.le_of_ble_eq_true rfl)) dX2_thriftiest_18 ⟨Nat.le_of_ble_eq_true rfl, Nat.le_of_ble_eq_true rfl⟩) hS (fun _ h => h) (fun _ h => h) (fun q_12 H locs hY hk hS => ?_)
  obtain ⟨hq_12, hP⟩ := hY
  replace hq_12 := hq_12.symm
  subst hq_12
  refine lv_if_ne (tgt := 26) hx hb dX2_thriftiest_21 (by decide) (fun c_13 => ?_) (fun c_13 => ?_)
  · rw [if_neg c_13] at h
    refine lv_iconst (v := 1) hx hb dX2_thriftiest_26 (by decide) ?_
    refine lv_istore_n (lv' := [(2, .int 1), (0, .ref (b + 130)), (1, .ref (b + p1))]) hx hb dX2_thriftiest_27 rfl hl (by decide) rfl (fun ls hl => ?_)
    exact L28_1 n _ _ _ _ _ _ h hP hS (lv_sub hl [1, 2, 0] rfl)
  · rw [if_pos c_13] at h
    refine lv_iconst (v := 0) hx hb dX2_thriftiest_24 (by decide) ?_
    obtain ⟨e1, e2⟩ := gb_eq2 h
    exact W.iret (v := 0) hx hb hr (fun t ht hW => gb_ri ht ⟨e2, by rw [← e1]; exact hP⟩ hS) hS.2.2 dX2_thriftiest_25
theorem w_1032 : (Cond.code ({ cls := "GooseBorder$Flocks", name := "thriftiest", desc := "(LGooseBorder$Border;)I" } : MethodName) prog_4_method_7_code (4 : Nat) (Option.some FieldType.int)) ∈ gb_wA := gb_t5 72 rfl rfl
theorem w_1029 : (Cond.methodLink "GooseBorder" (349 : Nat) ({ cls := "GooseBorder$Flocks", name := "thriftiest", desc := "(LGooseBorder$Border;)I" } : MethodName)) ∈ gb_wA := gb_t5 69 rfl rfl
theorem w_1030 : (Cond.instanceMethod ({ cls := "GooseBorder$Flocks", name := "thriftiest", desc := "(LGooseBorder$Border;)I" } : MethodName)) ∈ gb_wA := gb_t5 70 rfl rfl
theorem w_1031 : (Cond.selects "GooseBorder$Flocks" ({ cls := "GooseBorder$Flocks", name := "thriftiest", desc := "(LGooseBorder$Border;)I" } : MethodName) ({ cls := "GooseBorder$Flocks", name := "thriftiest", desc := "(LGooseBorder$Border;)I" } : MethodName)) ∈ gb_wA := gb_t5 71 rfl rfl
def cs_Face_thrift (n : Nat) (σ : gb_S) (p1 : Int32) : gb_CR Int32 := gb_cd (cs_Face_borderAt n σ p1) (fun s_1 r_2 => (if r_2 = 0 then some (s_1, (-1)) else gb_kk (gb_kB r_2) (gb_cd (cs_Flocks_thriftiest_B n s_1 r_2) (fun s_7 r_8 => some (s_7, r_8)))))
set_option maxHeartbeats 8000000 in
set_option maxRecDepth 100000 in
theorem cc_Face_thrift (l : Launch) (D : va_G) (cT : Nat → ClassId) (tt : Nat → Nat) (b1 b : Nat) (hb1 : b1 ≤ b) (n : Nat) (σ : gb_S) (p1 : Int32) (σE : gb_S) (rE : Int32) (h : cs_Face_thrift n σ p1 = some (σE, rE)) : Met l yX11_thrift (.code yX11_thrift cX11_thrift 3 (some FieldType.int) :: gb_wA) ({ frames := 5, cells := 0, slots := 0, locals := 118 }) (gb_Pc D cT tt b1 [.ref (b + 0), .int p1] (fun h => va_P D vwCl (gb_wl b (gb_CW cT b σ)) h)) (gb_Qi (fun r h => r = rE ∧ va_P D vwCl (gb_wl b (gb_CW cT b σE)) h) (gb_fr b 135)) 0 0 (gb_fr b 135) := by
  refine Met.ofW (cc := cX11_thrift) (maxL := 3) (ret := (some FieldType.int)) (by decide) rfl ?_
  intro p e s m args below meth c s₁ B hml hv
  obtain ⟨rfl, hSt, hP⟩ := hv
  have hx := B.exec
  have hb := B.bytes
  have hr := B.returns
  have hts := atoms_spec (ws := .code yX11_thrift cX11_thrift 3 (some FieldType.int) :: gb_wA) B.pre
  have hq : ∀ w ∈ gb_wA, w.before _ s = true := fun w h => hts w (List.mem_cons_of_mem _ h)
  have hown : s.vm.findClass RX11 = some m.cls := findClass_of_methodNamed B.named
  have hlocks := B.notSynchronized
  clear B hts
  have hK := hSt.1
  have hS : va_S (gb_fr b 135) s.heap s.heap [] := va_S.rf
  have hl := lv_entry ([.ref (b + 0), .int p1]) (n := 3) (Nat.le_of_ble_eq_true rfl)
  rw [lg_entry_eq]
  generalize (lg_sl ([.ref (b + 0), .int p1]) ++ List.replicate (3 - (lg_sl ([.ref (b + 0), .int p1])).length) Slot.unset).toArray = ls at hl ⊢
  replace hl : lv_has ls 3 [(0, .ref (b + 0)), (1, .int p1)] := hl
  unfold cs_Face_thrift at h
  refine lv_aload_n hx hb dX11_thrift_0 rfl (lv_at hl 0 rfl) ?_
  refine lv_iload_n hx hb dX11_thrift_1 rfl (lv_at hl 1 rfl) ?_
  obtain ⟨s_1, r_2, z_3, h⟩ := gb_cd_s h
  refine gb_callq (va_runV (C := RX11) (As := [.int p1]) (rest := []) ⟨hx, hb, hml, hown, hq⟩ (cc_Face_borderAt l D cT tt b1 b hb1 n σ p1 s_1 r_2 z_3) (cwV 1 hq (gb_gV w_593 w_595 s_1_7 w_1 w_596) rfl rfl rfl (by decide +kernel) ⟨Nat.le_of_ble_eq_true rfl, Nat.le_of_ble_eq_true rfl⟩) (gb_preV (r := (RX11, TX11, 10)) (ci := 9) (q0 := 0) hSt hP rfl (gb_at b rfl) hS (fun q h => Nat.le_trans hb1 h.1) hP) rfl rfl hl.1 rfl (lv_room (Nat.le_of_ble_eq_true rfl)) dX11_thrift_2 ⟨Nat.le_of_ble_eq_true rfl, Nat.le_of_ble_eq_true rfl⟩) hS (fun _ h => h) (fun _ h => h) (fun q_4 H locs hY hk hS => ?_)
  obtain ⟨hq_4, hP⟩ := hY
  subst hq_4
  rw [gb_onv]
  by_cases c_5 : r_2 = 0
  · rw [if_pos c_5] at h
    rw [gb_nv0 c_5]
    refine lv_astore_nN (lv' := [(2, .null), (0, .ref (b + 0)), (1, .int p1)]) hx hb dX11_thrift_5 rfl hl (by decide) rfl (fun ls hl => ?_)
    refine lv_aload_nN hx hb dX11_thrift_6 rfl (lv_at hl 0 rfl) ?_
    refine lv_ifnonnullN hx hb dX11_thrift_7 ?_
    refine lv_iconst (v := (-1)) hx hb dX11_thrift_10 (by decide) ?_
    refine lv_goto (tgt := 22) hx hb dX11_thrift_11 (by decide) ?_
    obtain ⟨e1, e2⟩ := gb_eq2 h
    exact W.iret (v := (-1)) hx hb hr (fun t ht hW => gb_ri ht ⟨e2, by rw [← e1]; exact hP⟩ hS) hS.2.2 dX11_thrift_22
  rw [if_neg c_5] at h
  rw [gb_nv1 c_5]
  obtain ⟨z_6, h⟩ := gb_kk_s h
  refine lv_astore_n (lv' := [(2, .ref (b + r_2)), (0, .ref (b + 0)), (1, .int p1)]) hx hb dX11_thrift_5 rfl hl (by decide) rfl (fun ls hl => ?_)
  refine lv_aload_n hx hb dX11_thrift_6 rfl (lv_at hl 0 rfl) ?_
  refine lv_ifnonnull (tgt := 14) hx hb dX11_thrift_7 (by decide) ?_
  refine lv_aload_n hx hb dX11_thrift_14 rfl (lv_at hl 1 rfl) ?_
  refine va_get (ci := 9) (v := (.ref (b + 130))) (C := RX11) (T := TX11) (N := 10) hx hb hq i_X11 hown hK hP 0 (gb_at b rfl) rfl 8 (by decide) (hq _ w_323) (fun _ h9 => h9) rfl dX11_thrift_15 ?_
  refine lv_aload_n hx hb dX11_thrift_18 rfl (lv_at hl 0 rfl) ?_
  obtain ⟨s_7, r_8, z_9, h⟩ := gb_cd_s h
  refine gb_calli (va_runV (C := RX2) (As := [.ref (b + r_2)]) (rest := []) ⟨hx, hb, hml, hown, hq⟩ (cc_Flocks_thriftiest_B l D cT tt b1 b hb1 n s_1 r_2 s_7 r_8 z_9) (cwV 1 hq (gb_gV w_1029 w_1030 w_1031 w_13 w_1032) rfl rfl rfl (by decide +kernel) ⟨Nat.le_of_ble_eq_true rfl, Nat.le_of_ble_eq_true rfl⟩) (gb_preV (r := (RX2, TX2, 6)) (ci := 2) (q0 := 130) hSt hP rfl (gb_at b rfl) hS (fun q h => Nat.le_trans hb1 h.1) hP) rfl rfl hl.1 rfl (lv_room (Nat.le_of_ble_eq_true rfl)) dX11_thrift_19 ⟨Nat.le_of_ble_eq_true rfl, Nat.le_of_ble_eq_true rfl⟩) hS (fun _ h => h) (fun _ h => h) (fun q_10 H locs hY hk hS => ?_)
  obtain ⟨hq_10, hP⟩ := hY
  replace hq_10 := hq_10.symm
  subst hq_10
  obtain ⟨e1, e2⟩ := gb_eq2 h
  exact W.iret (v := r_8) hx hb hr (fun t ht hW => gb_ri ht ⟨e2, by rw [← e1]; exact hP⟩ hS) hS.2.2 dX11_thrift_22
theorem dX11_fits_0 : decode cX11_fits 0 = .ok (.aload_n 0, 1) := dc_42 (show ((cX11_fits.data.toList.drop 0).take 1).map UInt8.toNat = [42] by decide +kernel)
theorem dX11_fits_1 : decode cX11_fits 1 = .ok (.iload_n 1, 1) := dc_27 (show ((cX11_fits.data.toList.drop 1).take 1).map UInt8.toNat = [27] by decide +kernel)
theorem dX11_fits_2 : decode cX11_fits 2 = .ok (.invokevirtual 113, 3) := dc_182 (show ((cX11_fits.data.toList.drop 2).take 3).map UInt8.toNat = [182, 0, 113] by decide +kernel) rfl
theorem dX11_fits_5 : decode cX11_fits 5 = .ok (.astore_n 3, 1) := dc_78 (show ((cX11_fits.data.toList.drop 5).take 1).map UInt8.toNat = [78] by decide +kernel)
theorem dX11_fits_6 : decode cX11_fits 6 = .ok (.aload_n 0, 1) := dc_42 (show ((cX11_fits.data.toList.drop 6).take 1).map UInt8.toNat = [42] by decide +kernel)
theorem dX11_fits_7 : decode cX11_fits 7 = .ok (.iload_n 2, 1) := dc_28 (show ((cX11_fits.data.toList.drop 7).take 1).map UInt8.toNat = [28] by decide +kernel)
theorem dX11_fits_8 : decode cX11_fits 8 = .ok (.invokevirtual 160, 3) := dc_182 (show ((cX11_fits.data.toList.drop 8).take 3).map UInt8.toNat = [182, 0, 160] by decide +kernel) rfl
theorem dX11_fits_11 : decode cX11_fits 11 = .ok (.astore 4, 2) := dc_58 (show ((cX11_fits.data.toList.drop 11).take 2).map UInt8.toNat = [58, 4] by decide +kernel) rfl
theorem dX11_fits_13 : decode cX11_fits 13 = .ok (.aload_n 3, 1) := dc_45 (show ((cX11_fits.data.toList.drop 13).take 1).map UInt8.toNat = [45] by decide +kernel)
theorem dX11_fits_14 : decode cX11_fits 14 = .ok (.ifnull 8, 3) := dc_198 (show ((cX11_fits.data.toList.drop 14).take 3).map UInt8.toNat = [198, 0, 8] by decide +kernel) rfl
theorem dX11_fits_22 : decode cX11_fits 22 = .ok (.ldc2_w 353, 3) := dc_20 (show ((cX11_fits.data.toList.drop 22).take 3).map UInt8.toNat = [20, 1, 97] by decide +kernel) rfl
theorem w_1043 : (Cond.constantLong "GooseBorder" (353 : Nat) (-1 : Int64)) ∈ gb_wA := gb_t5 83 rfl rfl
theorem dX11_fits_25 : decode cX11_fits 25 = .ok (.lreturn, 1) := dc_173 (show ((cX11_fits.data.toList.drop 25).take 1).map UInt8.toNat = [173] by decide +kernel)
theorem dX11_fits_17 : decode cX11_fits 17 = .ok (.aload 4, 2) := dc_25 (show ((cX11_fits.data.toList.drop 17).take 2).map UInt8.toNat = [25, 4] by decide +kernel) rfl
theorem dX11_fits_19 : decode cX11_fits 19 = .ok (.ifnonnull 7, 3) := dc_199 (show ((cX11_fits.data.toList.drop 19).take 3).map UInt8.toNat = [199, 0, 7] by decide +kernel) rfl
theorem dX11_fits_26 : decode cX11_fits 26 = .ok (.aload_n 0, 1) := dc_42 (show ((cX11_fits.data.toList.drop 26).take 1).map UInt8.toNat = [42] by decide +kernel)
theorem dX11_fits_27 : decode cX11_fits 27 = .ok (.getfield 70, 3) := dc_180 (show ((cX11_fits.data.toList.drop 27).take 3).map UInt8.toNat = [180, 0, 70] by decide +kernel) rfl
theorem dX11_fits_30 : decode cX11_fits 30 = .ok (.aload_n 3, 1) := dc_45 (show ((cX11_fits.data.toList.drop 30).take 1).map UInt8.toNat = [45] by decide +kernel)
theorem dX11_fits_31 : decode cX11_fits 31 = .ok (.aload 4, 2) := dc_25 (show ((cX11_fits.data.toList.drop 31).take 2).map UInt8.toNat = [25, 4] by decide +kernel) rfl
theorem dX11_fits_33 : decode cX11_fits 33 = .ok (.iconst (-1), 1) := dc_2 (show ((cX11_fits.data.toList.drop 33).take 1).map UInt8.toNat = [2] by decide +kernel)
theorem dX11_fits_34 : decode cX11_fits 34 = .ok (.iconst (-1), 1) := dc_2 (show ((cX11_fits.data.toList.drop 34).take 1).map UInt8.toNat = [2] by decide +kernel)
theorem dX11_fits_35 : decode cX11_fits 35 = .ok (.invokevirtual 355, 3) := dc_182 (show ((cX11_fits.data.toList.drop 35).take 3).map UInt8.toNat = [182, 1, 99] by decide +kernel) rfl
theorem dX2_findWays_0 : decode cX2_findWays 0 = .ok (.aload_n 0, 1) := dc_42 (show ((cX2_findWays.data.toList.drop 0).take 1).map UInt8.toNat = [42] by decide +kernel)
theorem dX2_findWays_1 : decode cX2_findWays 1 = .ok (.iconst 1, 1) := dc_4 (show ((cX2_findWays.data.toList.drop 1).take 1).map UInt8.toNat = [4] by decide +kernel)
theorem dX2_findWays_2 : decode cX2_findWays 2 = .ok (.aload_n 1, 1) := dc_43 (show ((cX2_findWays.data.toList.drop 2).take 1).map UInt8.toNat = [43] by decide +kernel)
theorem dX2_findWays_3 : decode cX2_findWays 3 = .ok (.invokevirtual 25, 3) := dc_182 (show ((cX2_findWays.data.toList.drop 3).take 3).map UInt8.toNat = [182, 0, 25] by decide +kernel) rfl
theorem dX2_findWays_6 : decode cX2_findWays 6 = .ok (.ishl, 1) := dc_120 (show ((cX2_findWays.data.toList.drop 6).take 1).map UInt8.toNat = [120] by decide +kernel)
theorem dX2_findWays_7 : decode cX2_findWays 7 = .ok (.putfield 31, 3) := dc_181 (show ((cX2_findWays.data.toList.drop 7).take 3).map UInt8.toNat = [181, 0, 31] by decide +kernel) rfl
theorem dX2_findWays_10 : decode cX2_findWays 10 = .ok (.aload_n 0, 1) := dc_42 (show ((cX2_findWays.data.toList.drop 10).take 1).map UInt8.toNat = [42] by decide +kernel)
theorem dX2_findWays_11 : decode cX2_findWays 11 = .ok (.getfield 18, 3) := dc_180 (show ((cX2_findWays.data.toList.drop 11).take 3).map UInt8.toNat = [180, 0, 18] by decide +kernel) rfl
theorem dX2_findWays_14 : decode cX2_findWays 14 = .ok (.lconst 0, 1) := dc_9 (show ((cX2_findWays.data.toList.drop 14).take 1).map UInt8.toNat = [9] by decide +kernel)
theorem dX2_findWays_15 : decode cX2_findWays 15 = .ok (.invokestatic 67, 3) := dc_184 (show ((cX2_findWays.data.toList.drop 15).take 3).map UInt8.toNat = [184, 0, 67] by decide +kernel) rfl
theorem dJ7_fill_d0a16_0 : decode cJ7_fill_d0a16 0 = .ok (.iconst 0, 1) := dc_3 (show ((cJ7_fill_d0a16.data.toList.drop 0).take 1).map UInt8.toNat = [3] by decide +kernel)
theorem dJ7_fill_d0a16_1 : decode cJ7_fill_d0a16 1 = .ok (.istore_n 3, 1) := dc_62 (show ((cJ7_fill_d0a16.data.toList.drop 1).take 1).map UInt8.toNat = [62] by decide +kernel)
theorem dJ7_fill_d0a16_2 : decode cJ7_fill_d0a16 2 = .ok (.aload_n 0, 1) := dc_42 (show ((cJ7_fill_d0a16.data.toList.drop 2).take 1).map UInt8.toNat = [42] by decide +kernel)
theorem dJ7_fill_d0a16_3 : decode cJ7_fill_d0a16 3 = .ok (.arraylength, 1) := dc_190 (show ((cJ7_fill_d0a16.data.toList.drop 3).take 1).map UInt8.toNat = [190] by decide +kernel)
theorem dJ7_fill_d0a16_4 : decode cJ7_fill_d0a16 4 = .ok (.istore 4, 2) := dc_54 (show ((cJ7_fill_d0a16.data.toList.drop 4).take 2).map UInt8.toNat = [54, 4] by decide +kernel) rfl
theorem dJ7_fill_d0a16_6 : decode cJ7_fill_d0a16 6 = .ok (.iload_n 3, 1) := dc_29 (show ((cJ7_fill_d0a16.data.toList.drop 6).take 1).map UInt8.toNat = [29] by decide +kernel)
theorem dJ7_fill_d0a16_7 : decode cJ7_fill_d0a16 7 = .ok (.iload 4, 2) := dc_21 (show ((cJ7_fill_d0a16.data.toList.drop 7).take 2).map UInt8.toNat = [21, 4] by decide +kernel) rfl
theorem dJ7_fill_d0a16_9 : decode cJ7_fill_d0a16 9 = .ok (.if_icmp .ge 13, 3) := dc_162 (show ((cJ7_fill_d0a16.data.toList.drop 9).take 3).map UInt8.toNat = [162, 0, 13] by decide +kernel) rfl
theorem dJ7_fill_d0a16_22 : decode cJ7_fill_d0a16 22 = .ok (.return_, 1) := dc_177 (show ((cJ7_fill_d0a16.data.toList.drop 22).take 1).map UInt8.toNat = [177] by decide +kernel)
theorem dJ7_fill_d0a16_12 : decode cJ7_fill_d0a16 12 = .ok (.aload_n 0, 1) := dc_42 (show ((cJ7_fill_d0a16.data.toList.drop 12).take 1).map UInt8.toNat = [42] by decide +kernel)
theorem dJ7_fill_d0a16_13 : decode cJ7_fill_d0a16 13 = .ok (.iload_n 3, 1) := dc_29 (show ((cJ7_fill_d0a16.data.toList.drop 13).take 1).map UInt8.toNat = [29] by decide +kernel)
theorem dJ7_fill_d0a16_14 : decode cJ7_fill_d0a16 14 = .ok (.lload_n 1, 1) := dc_31 (show ((cJ7_fill_d0a16.data.toList.drop 14).take 1).map UInt8.toNat = [31] by decide +kernel)
theorem dJ7_fill_d0a16_15 : decode cJ7_fill_d0a16 15 = .ok (.lastore, 1) := dc_80 (show ((cJ7_fill_d0a16.data.toList.drop 15).take 1).map UInt8.toNat = [80] by decide +kernel)
theorem dJ7_fill_d0a16_16 : decode cJ7_fill_d0a16 16 = .ok (.iinc 3 1, 3) := dc_132 (show ((cJ7_fill_d0a16.data.toList.drop 16).take 3).map UInt8.toNat = [132, 3, 1] by decide +kernel) rfl
theorem dJ7_fill_d0a16_19 : decode cJ7_fill_d0a16 19 = .ok (.goto (-13), 3) := dc_167 (show ((cJ7_fill_d0a16.data.toList.drop 19).take 3).map UInt8.toNat = [167, 255, 243] by decide +kernel) rfl
def cs_java_util_Arrays_fillJ_J_6 (n : Nat) : Nat → gb_S → Nat → Int64 → Int32 → Int32 → gb_CR Unit
  | 0, _, _, _, _, _ => none
  | mm + 1, σ, v0, v1, v3, v4 => gb_kk (gb_kJ v0) ((if v4 ≤ v3 then some (σ, ()) else gb_ck v3 256 (gb_lt (gb_sg σ v0 (vp_updL (σ.2.2 v0) (Int32.toNatClampNeg v3) v1)) (fun s_5 => gb_lt (v3 + 1) (fun x_6 => cs_java_util_Arrays_fillJ_J_6 n mm s_5 v0 v1 x_6 v4)))))
def cs_java_util_Arrays_fillJ_J (n : Nat) (σ : gb_S) (p1 : Nat) (p2 : Int64) : gb_CR Unit := gb_kk (gb_kJ p1) (cs_java_util_Arrays_fillJ_J_6 n n σ p1 p2 0 256)
set_option maxHeartbeats 8000000 in
set_option maxRecDepth 100000 in
theorem cc_java_util_Arrays_fillJ_J (l : Launch) (D : va_G) (cT : Nat → ClassId) (tt : Nat → Nat) (b1 b : Nat) (hb1 : b1 ≤ b) (n : Nat) (σ : gb_S) (p1 : Nat) (p2 : Int64) (σE : gb_S) (rE : Unit) (h : cs_java_util_Arrays_fillJ_J n σ p1 p2 = some (σE, rE)) : Met l yJ7_fill_d0a16 (.code yJ7_fill_d0a16 cJ7_fill_d0a16 5 none :: gb_wA) ({ frames := 0, cells := 0, slots := 0, locals := 0 }) (gb_Pc D cT tt b1 [.ref (b + p1), .long p2] (fun h => va_P D vwCl (gb_wl b (gb_CW cT b σ)) h)) (gb_Qv (fun h => va_P D vwCl (gb_wl b (gb_CW cT b σE)) h) (gb_fr b 135)) 0 0 (gb_fr b 135) := by
  refine Met.ofW (cc := cJ7_fill_d0a16) (maxL := 5) (ret := none) (by decide) rfl ?_
  intro p e s m args below meth c s₁ B hml hv
  obtain ⟨rfl, hSt, hP⟩ := hv
  have hx := B.exec
  have hb := B.bytes
  have hr := B.returns
  have hts := atoms_spec (ws := .code yJ7_fill_d0a16 cJ7_fill_d0a16 5 none :: gb_wA) B.pre
  have hq : ∀ w ∈ gb_wA, w.before _ s = true := fun w h => hts w (List.mem_cons_of_mem _ h)
  have hown : s.vm.findClass RJ7 = some m.cls := findClass_of_methodNamed B.named
  have hlocks := B.notSynchronized
  clear B hts
  have hK := hSt.1
  have hS : va_S (gb_fr b 135) s.heap s.heap [] := va_S.rf
  have hl := lv_entry ([.ref (b + p1), .long p2]) (n := 5) (Nat.le_of_ble_eq_true rfl)
  rw [lg_entry_eq]
  generalize (lg_sl ([.ref (b + p1), .long p2]) ++ List.replicate (5 - (lg_sl ([.ref (b + p1), .long p2])).length) Slot.unset).toArray = ls at hl ⊢
  replace hl : lv_has ls 5 [(0, .ref (b + p1)), (1, .long p2)] := hl
  have L6_1 : ∀ (mm : Nat) (σ : gb_S) (v0 : Nat) (v1 : Int64) (v3 : Int32) (v4 : Int32) (H : Heap) (locs : List Loc) (ls : Array Slot), cs_java_util_Arrays_fillJ_J_6 n mm σ v0 v1 v3 v4 = some (σE, rE) → va_P D vwCl (gb_wl b (gb_CW cT b σ)) H → va_S (gb_fr b 135) s.heap H locs → lv_has ls 5 [(0, .ref (b + v0)), (1, .long v1), (3, .int v3), (4, .int v4)] → W p l e (headSpec (.code yJ7_fill_d0a16 cJ7_fill_d0a16 5 none :: gb_wA) ({ frames := 0, cells := 0, slots := 0, locals := 0 })).room s m ([.ref (b + p1), .long p2]).toArray below meth c H locs 0 0 (MQ below (gb_Qv (fun h => va_P D vwCl (gb_wl b (gb_CW cT b σE)) h) (gb_fr b 135)) ([.ref (b + p1), .long p2]).toArray s 0 0 (gb_fr b 135)) (F0 m 6 ls []) := by
    clear h hP hS hl ls
    intro mm
    induction mm with
    | zero =>
      intro σ v0 v1 v3 v4 H locs ls h
      cases h
    | succ mm ih =>
      intro σ v0 v1 v3 v4 H locs ls h hP hS hl
      rw [cs_java_util_Arrays_fillJ_J_6] at h
      obtain ⟨z_2, h⟩ := gb_kk_s h
      refine lv_iload_n hx hb dJ7_fill_d0a16_6 rfl (lv_at hl 2 rfl) ?_
      refine lv_iload hx hb dJ7_fill_d0a16_7 (lv_at hl 3 rfl) ?_
      refine lv_icmp_ge (tgt := 22) hx hb dJ7_fill_d0a16_9 (by decide) (fun c_3 => ?_) (fun c_3 => ?_)
      · rw [if_pos c_3] at h
        obtain ⟨e1, -⟩ := gb_eq2 h
        exact W.vret hx hb hr (fun t ht hW => gb_rv ht (by rw [← e1]; exact hP) hS) hS.2.2 dJ7_fill_d0a16_22
      · rw [if_neg c_3] at h
        refine lv_aload_n hx hb dJ7_fill_d0a16_12 rfl (lv_at hl 0 rfl) ?_
        refine lv_iload_n hx hb dJ7_fill_d0a16_13 rfl (lv_at hl 2 rfl) ?_
        refine lv_lload_n hx hb dJ7_fill_d0a16_14 rfl (lv_at hl 1 rfl) ?_
        obtain ⟨z_4, h⟩ := gb_ck_s h
        refine va_last (x := v1) hx hb hK hP (gb_D (fun k h => ⟨Nat.le_add_right b k, Nat.add_lt_add_left h b⟩)) hS v0 3 (gb_at b (gb_cJ z_2)) rfl z_4 dJ7_fill_d0a16_15 (fun H locs hP hD hS => ?_)
        rw [gb_set] at hP
        obtain ⟨s_5, es_5⟩ : ∃ q, q = (gb_sg σ v0 (vp_updL (σ.2.2 v0) (Int32.toNatClampNeg v3) v1)) := ⟨_, rfl⟩
        replace hP : va_P D vwCl (gb_wl b (gb_CW cT b s_5)) H := by rw [es_5, ← gb_wJ z_2]; exact hP
        replace h := gb_lt_s es_5 h
        obtain ⟨x_6, ex_6⟩ : ∃ q, q = (v3 + 1) := ⟨_, rfl⟩
        replace h := gb_lt_s ex_6 h
        refine lv_iinc (v := x_6) (lv' := [(3, .int x_6), (0, .ref (b + v0)), (1, .long v1), (4, .int v4)]) hx hb dJ7_fill_d0a16_16 hl (k := 2) rfl (by rw [ex_6]; rfl) (by decide) rfl (fun ls hl => ?_)
        refine lv_goto (tgt := 6) hx hb dJ7_fill_d0a16_19 (by decide) ?_
        exact ih _ _ _ _ _ _ _ _ h hP hS (lv_sub hl [1, 2, 0, 3] rfl)
  unfold cs_java_util_Arrays_fillJ_J at h
  obtain ⟨z_1, h⟩ := gb_kk_s h
  refine lv_iconst (v := 0) hx hb dJ7_fill_d0a16_0 (by decide) ?_
  refine lv_istore_n (lv' := [(3, .int 0), (0, .ref (b + p1)), (1, .long p2)]) hx hb dJ7_fill_d0a16_1 rfl hl (by decide) rfl (fun ls hl => ?_)
  refine lv_aload_n hx hb dJ7_fill_d0a16_2 rfl (lv_at hl 1 rfl) ?_
  refine va_alen (v := 256) hx hb hK hP p1 3 (gb_at b (gb_cJ z_1)) rfl rfl dJ7_fill_d0a16_3 ?_
  refine lv_istore (lv' := [(4, .int 256), (3, .int 0), (0, .ref (b + p1)), (1, .long p2)]) hx hb dJ7_fill_d0a16_4 hl (by decide) rfl (fun ls hl => ?_)
  exact L6_1 n _ _ _ _ _ _ _ _ h hP hS (lv_sub hl [2, 3, 1, 0] rfl)
theorem w_1050 : (Cond.code ({ cls := "java/util/Arrays", name := "fill", desc := "([JJ)V" } : MethodName) prog_21_method_101_code (5 : Nat) (Option.none : Option FieldType)) ∈ gb_wA := gb_t5 90 rfl rfl
theorem w_1048 : (Cond.methodLink "GooseBorder$Flocks" (67 : Nat) ({ cls := "java/util/Arrays", name := "fill", desc := "([JJ)V" } : MethodName)) ∈ gb_wA := gb_t5 88 rfl rfl
theorem w_1049 : (Cond.static ({ cls := "java/util/Arrays", name := "fill", desc := "([JJ)V" } : MethodName)) ∈ gb_wA := gb_t5 89 rfl rfl
theorem dX2_findWays_18 : decode cX2_findWays 18 = .ok (.aload_n 0, 1) := dc_42 (show ((cX2_findWays.data.toList.drop 18).take 1).map UInt8.toNat = [42] by decide +kernel)
theorem dX2_findWays_19 : decode cX2_findWays 19 = .ok (.getfield 18, 3) := dc_180 (show ((cX2_findWays.data.toList.drop 19).take 3).map UInt8.toNat = [180, 0, 18] by decide +kernel) rfl
theorem dX2_findWays_22 : decode cX2_findWays 22 = .ok (.iconst 0, 1) := dc_3 (show ((cX2_findWays.data.toList.drop 22).take 1).map UInt8.toNat = [3] by decide +kernel)
theorem dX2_findWays_23 : decode cX2_findWays 23 = .ok (.lconst 1, 1) := dc_10 (show ((cX2_findWays.data.toList.drop 23).take 1).map UInt8.toNat = [10] by decide +kernel)
theorem dX2_findWays_24 : decode cX2_findWays 24 = .ok (.lastore, 1) := dc_80 (show ((cX2_findWays.data.toList.drop 24).take 1).map UInt8.toNat = [80] by decide +kernel)
theorem dX2_findWays_25 : decode cX2_findWays 25 = .ok (.iconst 0, 1) := dc_3 (show ((cX2_findWays.data.toList.drop 25).take 1).map UInt8.toNat = [3] by decide +kernel)
theorem dX2_findWays_26 : decode cX2_findWays 26 = .ok (.istore 5, 2) := dc_54 (show ((cX2_findWays.data.toList.drop 26).take 2).map UInt8.toNat = [54, 5] by decide +kernel) rfl
theorem dX2_findWays_28 : decode cX2_findWays 28 = .ok (.iload 5, 2) := dc_21 (show ((cX2_findWays.data.toList.drop 28).take 2).map UInt8.toNat = [21, 5] by decide +kernel) rfl
theorem dX2_findWays_30 : decode cX2_findWays 30 = .ok (.aload_n 2, 1) := dc_44 (show ((cX2_findWays.data.toList.drop 30).take 1).map UInt8.toNat = [44] by decide +kernel)
theorem dX2_findWays_31 : decode cX2_findWays 31 = .ok (.invokevirtual 73, 3) := dc_182 (show ((cX2_findWays.data.toList.drop 31).take 3).map UInt8.toNat = [182, 0, 73] by decide +kernel) rfl
theorem w_1051 : (Cond.methodLink "GooseBorder$Flocks" (73 : Nat) ({ cls := "GooseBorder$Dawn", name := "size", desc := "()I" } : MethodName)) ∈ gb_wA := gb_t5 91 rfl rfl
theorem dX2_findWays_34 : decode cX2_findWays 34 = .ok (.if_icmp .ge 93, 3) := dc_162 (show ((cX2_findWays.data.toList.drop 34).take 3).map UInt8.toNat = [162, 0, 93] by decide +kernel) rfl
theorem dX2_findWays_127 : decode cX2_findWays 127 = .ok (.return_, 1) := dc_177 (show ((cX2_findWays.data.toList.drop 127).take 1).map UInt8.toNat = [177] by decide +kernel)
theorem dX2_findWays_37 : decode cX2_findWays 37 = .ok (.aload_n 2, 1) := dc_44 (show ((cX2_findWays.data.toList.drop 37).take 1).map UInt8.toNat = [44] by decide +kernel)
theorem dX2_findWays_38 : decode cX2_findWays 38 = .ok (.iload 5, 2) := dc_21 (show ((cX2_findWays.data.toList.drop 38).take 2).map UInt8.toNat = [21, 5] by decide +kernel) rfl
theorem dX2_findWays_40 : decode cX2_findWays 40 = .ok (.invokevirtual 78, 3) := dc_182 (show ((cX2_findWays.data.toList.drop 40).take 3).map UInt8.toNat = [182, 0, 78] by decide +kernel) rfl
theorem w_1052 : (Cond.methodLink "GooseBorder$Flocks" (78 : Nat) ({ cls := "GooseBorder$Dawn", name := "pathSeen", desc := "(I)I" } : MethodName)) ∈ gb_wA := gb_t5 92 rfl rfl
theorem dX2_findWays_43 : decode cX2_findWays 43 = .ok (.istore 6, 2) := dc_54 (show ((cX2_findWays.data.toList.drop 43).take 2).map UInt8.toNat = [54, 6] by decide +kernel) rfl
theorem dX2_findWays_45 : decode cX2_findWays 45 = .ok (.aload_n 1, 1) := dc_43 (show ((cX2_findWays.data.toList.drop 45).take 1).map UInt8.toNat = [43] by decide +kernel)
theorem dX2_findWays_46 : decode cX2_findWays 46 = .ok (.iload 6, 2) := dc_21 (show ((cX2_findWays.data.toList.drop 46).take 2).map UInt8.toNat = [21, 6] by decide +kernel) rfl
theorem dX2_findWays_48 : decode cX2_findWays 48 = .ok (.invokevirtual 81, 3) := dc_182 (show ((cX2_findWays.data.toList.drop 48).take 3).map UInt8.toNat = [182, 0, 81] by decide +kernel) rfl
theorem w_1053 : (Cond.methodLink "GooseBorder$Flocks" (81 : Nat) ({ cls := "GooseBorder$Border", name := "hasPath", desc := "(I)Z" } : MethodName)) ∈ gb_wA := gb_t5 93 rfl rfl
theorem dX2_findWays_51 : decode cX2_findWays 51 = .ok (.ifCond .eq 46, 3) := dc_153 (show ((cX2_findWays.data.toList.drop 51).take 3).map UInt8.toNat = [153, 0, 46] by decide +kernel) rfl
theorem dX2_findWays_97 : decode cX2_findWays 97 = .ok (.aload_n 2, 1) := dc_44 (show ((cX2_findWays.data.toList.drop 97).take 1).map UInt8.toNat = [44] by decide +kernel)
theorem dX2_findWays_98 : decode cX2_findWays 98 = .ok (.iload 5, 2) := dc_21 (show ((cX2_findWays.data.toList.drop 98).take 2).map UInt8.toNat = [21, 5] by decide +kernel) rfl
theorem dX2_findWays_100 : decode cX2_findWays 100 = .ok (.invokevirtual 85, 3) := dc_182 (show ((cX2_findWays.data.toList.drop 100).take 3).map UInt8.toNat = [182, 0, 85] by decide +kernel) rfl
theorem w_1054 : (Cond.methodLink "GooseBorder$Flocks" (85 : Nat) ({ cls := "GooseBorder$Dawn", name := "marksSeen", desc := "(I)I" } : MethodName)) ∈ gb_wA := gb_t5 94 rfl rfl
theorem dX2_findWays_103 : decode cX2_findWays 103 = .ok (.ifCond .ne 10, 3) := dc_154 (show ((cX2_findWays.data.toList.drop 103).take 3).map UInt8.toNat = [154, 0, 10] by decide +kernel) rfl
theorem dX2_findWays_113 : decode cX2_findWays 113 = .ok (.aload_n 0, 1) := dc_42 (show ((cX2_findWays.data.toList.drop 113).take 1).map UInt8.toNat = [42] by decide +kernel)
theorem dX2_findWays_114 : decode cX2_findWays 114 = .ok (.getfield 18, 3) := dc_180 (show ((cX2_findWays.data.toList.drop 114).take 3).map UInt8.toNat = [180, 0, 18] by decide +kernel) rfl
theorem dX2_findWays_117 : decode cX2_findWays 117 = .ok (.lconst 0, 1) := dc_9 (show ((cX2_findWays.data.toList.drop 117).take 1).map UInt8.toNat = [9] by decide +kernel)
theorem dX2_findWays_118 : decode cX2_findWays 118 = .ok (.invokestatic 67, 3) := dc_184 (show ((cX2_findWays.data.toList.drop 118).take 3).map UInt8.toNat = [184, 0, 67] by decide +kernel) rfl
theorem dX2_findWays_121 : decode cX2_findWays 121 = .ok (.iinc 5 1, 3) := dc_132 (show ((cX2_findWays.data.toList.drop 121).take 3).map UInt8.toNat = [132, 5, 1] by decide +kernel) rfl
theorem dX2_findWays_124 : decode cX2_findWays 124 = .ok (.goto (-96), 3) := dc_167 (show ((cX2_findWays.data.toList.drop 124).take 3).map UInt8.toNat = [167, 255, 160] by decide +kernel) rfl
theorem dX2_findWays_106 : decode cX2_findWays 106 = .ok (.iload 5, 2) := dc_21 (show ((cX2_findWays.data.toList.drop 106).take 2).map UInt8.toNat = [21, 5] by decide +kernel) rfl
theorem dX2_findWays_108 : decode cX2_findWays 108 = .ok (.iload 4, 2) := dc_21 (show ((cX2_findWays.data.toList.drop 108).take 2).map UInt8.toNat = [21, 4] by decide +kernel) rfl
theorem dX2_findWays_110 : decode cX2_findWays 110 = .ok (.if_icmp .ne 11, 3) := dc_160 (show ((cX2_findWays.data.toList.drop 110).take 3).map UInt8.toNat = [160, 0, 11] by decide +kernel) rfl
theorem dX2_findWays_54 : decode cX2_findWays 54 = .ok (.aload_n 0, 1) := dc_42 (show ((cX2_findWays.data.toList.drop 54).take 1).map UInt8.toNat = [42] by decide +kernel)
theorem dX2_findWays_55 : decode cX2_findWays 55 = .ok (.aload_n 1, 1) := dc_43 (show ((cX2_findWays.data.toList.drop 55).take 1).map UInt8.toNat = [43] by decide +kernel)
theorem dX2_findWays_56 : decode cX2_findWays 56 = .ok (.iload 6, 2) := dc_21 (show ((cX2_findWays.data.toList.drop 56).take 2).map UInt8.toNat = [21, 6] by decide +kernel) rfl
theorem dX2_findWays_58 : decode cX2_findWays 58 = .ok (.aload_n 0, 1) := dc_42 (show ((cX2_findWays.data.toList.drop 58).take 1).map UInt8.toNat = [42] by decide +kernel)
theorem dX2_findWays_59 : decode cX2_findWays 59 = .ok (.getfield 9, 3) := dc_180 (show ((cX2_findWays.data.toList.drop 59).take 3).map UInt8.toNat = [180, 0, 9] by decide +kernel) rfl
theorem dX2_findWays_62 : decode cX2_findWays 62 = .ok (.invokevirtual 39, 3) := dc_182 (show ((cX2_findWays.data.toList.drop 62).take 3).map UInt8.toNat = [182, 0, 39] by decide +kernel) rfl
theorem dX2_findWays_65 : decode cX2_findWays 65 = .ok (.aload_n 0, 1) := dc_42 (show ((cX2_findWays.data.toList.drop 65).take 1).map UInt8.toNat = [42] by decide +kernel)
theorem dX2_findWays_66 : decode cX2_findWays 66 = .ok (.aload_n 2, 1) := dc_44 (show ((cX2_findWays.data.toList.drop 66).take 1).map UInt8.toNat = [44] by decide +kernel)
theorem dX2_findWays_67 : decode cX2_findWays 67 = .ok (.iload 5, 2) := dc_21 (show ((cX2_findWays.data.toList.drop 67).take 2).map UInt8.toNat = [21, 5] by decide +kernel) rfl
theorem dX2_findWays_69 : decode cX2_findWays 69 = .ok (.invokevirtual 85, 3) := dc_182 (show ((cX2_findWays.data.toList.drop 69).take 3).map UInt8.toNat = [182, 0, 85] by decide +kernel) rfl
theorem dX2_findWays_72 : decode cX2_findWays 72 = .ok (.iload_n 3, 1) := dc_29 (show ((cX2_findWays.data.toList.drop 72).take 1).map UInt8.toNat = [29] by decide +kernel)
theorem dX2_findWays_73 : decode cX2_findWays 73 = .ok (.iconst (-1), 1) := dc_2 (show ((cX2_findWays.data.toList.drop 73).take 1).map UInt8.toNat = [2] by decide +kernel)
theorem dX2_findWays_74 : decode cX2_findWays 74 = .ok (.if_icmp .eq 16, 3) := dc_159 (show ((cX2_findWays.data.toList.drop 74).take 3).map UInt8.toNat = [159, 0, 16] by decide +kernel) rfl
theorem dX2_findWays_90 : decode cX2_findWays 90 = .ok (.iconst 0, 1) := dc_3 (show ((cX2_findWays.data.toList.drop 90).take 1).map UInt8.toNat = [3] by decide +kernel)
theorem dX2_findWays_91 : decode cX2_findWays 91 = .ok (.invokevirtual 88, 3) := dc_182 (show ((cX2_findWays.data.toList.drop 91).take 3).map UInt8.toNat = [182, 0, 88] by decide +kernel) rfl
theorem dX2_goBy_0 : decode cX2_goBy 0 = .ok (.aload_n 0, 1) := dc_42 (show ((cX2_goBy.data.toList.drop 0).take 1).map UInt8.toNat = [42] by decide +kernel)
theorem dX2_goBy_1 : decode cX2_goBy 1 = .ok (.getfield 22, 3) := dc_180 (show ((cX2_goBy.data.toList.drop 1).take 3).map UInt8.toNat = [180, 0, 22] by decide +kernel) rfl
theorem dX2_goBy_4 : decode cX2_goBy 4 = .ok (.lconst 0, 1) := dc_9 (show ((cX2_goBy.data.toList.drop 4).take 1).map UInt8.toNat = [9] by decide +kernel)
theorem dX2_goBy_5 : decode cX2_goBy 5 = .ok (.invokestatic 67, 3) := dc_184 (show ((cX2_goBy.data.toList.drop 5).take 3).map UInt8.toNat = [184, 0, 67] by decide +kernel) rfl
theorem dX2_goBy_8 : decode cX2_goBy 8 = .ok (.iconst 0, 1) := dc_3 (show ((cX2_goBy.data.toList.drop 8).take 1).map UInt8.toNat = [3] by decide +kernel)
theorem dX2_goBy_9 : decode cX2_goBy 9 = .ok (.istore_n 3, 1) := dc_62 (show ((cX2_goBy.data.toList.drop 9).take 1).map UInt8.toNat = [62] by decide +kernel)
theorem dX2_goBy_10 : decode cX2_goBy 10 = .ok (.iload_n 3, 1) := dc_29 (show ((cX2_goBy.data.toList.drop 10).take 1).map UInt8.toNat = [29] by decide +kernel)
theorem dX2_goBy_11 : decode cX2_goBy 11 = .ok (.aload_n 0, 1) := dc_42 (show ((cX2_goBy.data.toList.drop 11).take 1).map UInt8.toNat = [42] by decide +kernel)
theorem dX2_goBy_12 : decode cX2_goBy 12 = .ok (.getfield 31, 3) := dc_180 (show ((cX2_goBy.data.toList.drop 12).take 3).map UInt8.toNat = [180, 0, 31] by decide +kernel) rfl
theorem dX2_goBy_15 : decode cX2_goBy 15 = .ok (.if_icmp .ge 31, 3) := dc_162 (show ((cX2_goBy.data.toList.drop 15).take 3).map UInt8.toNat = [162, 0, 31] by decide +kernel) rfl
theorem dX2_goBy_46 : decode cX2_goBy 46 = .ok (.aload_n 0, 1) := dc_42 (show ((cX2_goBy.data.toList.drop 46).take 1).map UInt8.toNat = [42] by decide +kernel)
theorem dX2_goBy_47 : decode cX2_goBy 47 = .ok (.getfield 18, 3) := dc_180 (show ((cX2_goBy.data.toList.drop 47).take 3).map UInt8.toNat = [180, 0, 18] by decide +kernel) rfl
theorem dX2_goBy_50 : decode cX2_goBy 50 = .ok (.astore_n 3, 1) := dc_78 (show ((cX2_goBy.data.toList.drop 50).take 1).map UInt8.toNat = [78] by decide +kernel)
theorem dX2_goBy_51 : decode cX2_goBy 51 = .ok (.aload_n 0, 1) := dc_42 (show ((cX2_goBy.data.toList.drop 51).take 1).map UInt8.toNat = [42] by decide +kernel)
theorem dX2_goBy_52 : decode cX2_goBy 52 = .ok (.aload_n 0, 1) := dc_42 (show ((cX2_goBy.data.toList.drop 52).take 1).map UInt8.toNat = [42] by decide +kernel)
theorem dX2_goBy_53 : decode cX2_goBy 53 = .ok (.getfield 22, 3) := dc_180 (show ((cX2_goBy.data.toList.drop 53).take 3).map UInt8.toNat = [180, 0, 22] by decide +kernel) rfl
theorem dX2_goBy_56 : decode cX2_goBy 56 = .ok (.putfield 18, 3) := dc_181 (show ((cX2_goBy.data.toList.drop 56).take 3).map UInt8.toNat = [181, 0, 18] by decide +kernel) rfl
theorem dX2_goBy_59 : decode cX2_goBy 59 = .ok (.aload_n 0, 1) := dc_42 (show ((cX2_goBy.data.toList.drop 59).take 1).map UInt8.toNat = [42] by decide +kernel)
theorem dX2_goBy_60 : decode cX2_goBy 60 = .ok (.aload_n 3, 1) := dc_45 (show ((cX2_goBy.data.toList.drop 60).take 1).map UInt8.toNat = [45] by decide +kernel)
theorem dX2_goBy_61 : decode cX2_goBy 61 = .ok (.putfield 22, 3) := dc_181 (show ((cX2_goBy.data.toList.drop 61).take 3).map UInt8.toNat = [181, 0, 22] by decide +kernel) rfl
theorem dX2_goBy_64 : decode cX2_goBy 64 = .ok (.return_, 1) := dc_177 (show ((cX2_goBy.data.toList.drop 64).take 1).map UInt8.toNat = [177] by decide +kernel)
theorem dX2_goBy_18 : decode cX2_goBy 18 = .ok (.aload_n 0, 1) := dc_42 (show ((cX2_goBy.data.toList.drop 18).take 1).map UInt8.toNat = [42] by decide +kernel)
theorem dX2_goBy_19 : decode cX2_goBy 19 = .ok (.getfield 9, 3) := dc_180 (show ((cX2_goBy.data.toList.drop 19).take 3).map UInt8.toNat = [180, 0, 9] by decide +kernel) rfl
theorem dX2_goBy_22 : decode cX2_goBy 22 = .ok (.iload_n 3, 1) := dc_29 (show ((cX2_goBy.data.toList.drop 22).take 1).map UInt8.toNat = [29] by decide +kernel)
theorem dX2_goBy_23 : decode cX2_goBy 23 = .ok (.iaload, 1) := dc_46 (show ((cX2_goBy.data.toList.drop 23).take 1).map UInt8.toNat = [46] by decide +kernel)
theorem dX2_goBy_24 : decode cX2_goBy 24 = .ok (.iload_n 1, 1) := dc_27 (show ((cX2_goBy.data.toList.drop 24).take 1).map UInt8.toNat = [27] by decide +kernel)
theorem dX2_goBy_25 : decode cX2_goBy 25 = .ok (.if_icmp .ne 15, 3) := dc_160 (show ((cX2_goBy.data.toList.drop 25).take 3).map UInt8.toNat = [160, 0, 15] by decide +kernel) rfl
theorem dX2_goBy_40 : decode cX2_goBy 40 = .ok (.iinc 3 1, 3) := dc_132 (show ((cX2_goBy.data.toList.drop 40).take 3).map UInt8.toNat = [132, 3, 1] by decide +kernel) rfl
theorem dX2_goBy_43 : decode cX2_goBy 43 = .ok (.goto (-33), 3) := dc_167 (show ((cX2_goBy.data.toList.drop 43).take 3).map UInt8.toNat = [167, 255, 223] by decide +kernel) rfl
theorem dX2_goBy_28 : decode cX2_goBy 28 = .ok (.iload_n 3, 1) := dc_29 (show ((cX2_goBy.data.toList.drop 28).take 1).map UInt8.toNat = [29] by decide +kernel)
theorem dX2_goBy_29 : decode cX2_goBy 29 = .ok (.iload_n 2, 1) := dc_28 (show ((cX2_goBy.data.toList.drop 29).take 1).map UInt8.toNat = [28] by decide +kernel)
theorem dX2_goBy_30 : decode cX2_goBy 30 = .ok (.iand, 1) := dc_126 (show ((cX2_goBy.data.toList.drop 30).take 1).map UInt8.toNat = [126] by decide +kernel)
theorem dX2_goBy_31 : decode cX2_goBy 31 = .ok (.iload_n 2, 1) := dc_28 (show ((cX2_goBy.data.toList.drop 31).take 1).map UInt8.toNat = [28] by decide +kernel)
theorem dX2_goBy_32 : decode cX2_goBy 32 = .ok (.if_icmp .ne 8, 3) := dc_160 (show ((cX2_goBy.data.toList.drop 32).take 3).map UInt8.toNat = [160, 0, 8] by decide +kernel) rfl
theorem dX2_goBy_35 : decode cX2_goBy 35 = .ok (.aload_n 0, 1) := dc_42 (show ((cX2_goBy.data.toList.drop 35).take 1).map UInt8.toNat = [42] by decide +kernel)
theorem dX2_goBy_36 : decode cX2_goBy 36 = .ok (.iload_n 3, 1) := dc_29 (show ((cX2_goBy.data.toList.drop 36).take 1).map UInt8.toNat = [29] by decide +kernel)
theorem dX2_goBy_37 : decode cX2_goBy 37 = .ok (.invokevirtual 92, 3) := dc_182 (show ((cX2_goBy.data.toList.drop 37).take 3).map UInt8.toNat = [182, 0, 92] by decide +kernel) rfl
theorem dX2_addGoing_0 : decode cX2_addGoing 0 = .ok (.aload_n 0, 1) := dc_42 (show ((cX2_addGoing.data.toList.drop 0).take 1).map UInt8.toNat = [42] by decide +kernel)
theorem dX2_addGoing_1 : decode cX2_addGoing 1 = .ok (.getfield 31, 3) := dc_180 (show ((cX2_addGoing.data.toList.drop 1).take 3).map UInt8.toNat = [180, 0, 31] by decide +kernel) rfl
theorem dX2_addGoing_4 : decode cX2_addGoing 4 = .ok (.iconst 1, 1) := dc_4 (show ((cX2_addGoing.data.toList.drop 4).take 1).map UInt8.toNat = [4] by decide +kernel)
theorem dX2_addGoing_5 : decode cX2_addGoing 5 = .ok (.isub, 1) := dc_100 (show ((cX2_addGoing.data.toList.drop 5).take 1).map UInt8.toNat = [100] by decide +kernel)
theorem dX2_addGoing_6 : decode cX2_addGoing 6 = .ok (.iload_n 1, 1) := dc_27 (show ((cX2_addGoing.data.toList.drop 6).take 1).map UInt8.toNat = [27] by decide +kernel)
theorem dX2_addGoing_7 : decode cX2_addGoing 7 = .ok (.iconst (-1), 1) := dc_2 (show ((cX2_addGoing.data.toList.drop 7).take 1).map UInt8.toNat = [2] by decide +kernel)
theorem dX2_addGoing_8 : decode cX2_addGoing 8 = .ok (.ixor, 1) := dc_130 (show ((cX2_addGoing.data.toList.drop 8).take 1).map UInt8.toNat = [130] by decide +kernel)
theorem dX2_addGoing_9 : decode cX2_addGoing 9 = .ok (.iand, 1) := dc_126 (show ((cX2_addGoing.data.toList.drop 9).take 1).map UInt8.toNat = [126] by decide +kernel)
theorem dX2_addGoing_10 : decode cX2_addGoing 10 = .ok (.istore_n 2, 1) := dc_61 (show ((cX2_addGoing.data.toList.drop 10).take 1).map UInt8.toNat = [61] by decide +kernel)
theorem dX2_addGoing_11 : decode cX2_addGoing 11 = .ok (.iload_n 2, 1) := dc_28 (show ((cX2_addGoing.data.toList.drop 11).take 1).map UInt8.toNat = [28] by decide +kernel)
theorem dX2_addGoing_12 : decode cX2_addGoing 12 = .ok (.istore_n 3, 1) := dc_62 (show ((cX2_addGoing.data.toList.drop 12).take 1).map UInt8.toNat = [62] by decide +kernel)
theorem dX2_addGoing_13 : decode cX2_addGoing 13 = .ok (.iload_n 3, 1) := dc_29 (show ((cX2_addGoing.data.toList.drop 13).take 1).map UInt8.toNat = [29] by decide +kernel)
theorem dX2_addGoing_14 : decode cX2_addGoing 14 = .ok (.ifCond .le 29, 3) := dc_158 (show ((cX2_addGoing.data.toList.drop 14).take 3).map UInt8.toNat = [158, 0, 29] by decide +kernel) rfl
theorem dX2_addGoing_43 : decode cX2_addGoing 43 = .ok (.aload_n 0, 1) := dc_42 (show ((cX2_addGoing.data.toList.drop 43).take 1).map UInt8.toNat = [42] by decide +kernel)
theorem dX2_addGoing_44 : decode cX2_addGoing 44 = .ok (.getfield 22, 3) := dc_180 (show ((cX2_addGoing.data.toList.drop 44).take 3).map UInt8.toNat = [180, 0, 22] by decide +kernel) rfl
theorem dX2_addGoing_47 : decode cX2_addGoing 47 = .ok (.iload_n 1, 1) := dc_27 (show ((cX2_addGoing.data.toList.drop 47).take 1).map UInt8.toNat = [27] by decide +kernel)
theorem dX2_addGoing_48 : decode cX2_addGoing 48 = .ok (.dup2, 1) := dc_92 (show ((cX2_addGoing.data.toList.drop 48).take 1).map UInt8.toNat = [92] by decide +kernel)
theorem dX2_addGoing_49 : decode cX2_addGoing 49 = .ok (.laload, 1) := dc_47 (show ((cX2_addGoing.data.toList.drop 49).take 1).map UInt8.toNat = [47] by decide +kernel)
theorem dX2_addGoing_50 : decode cX2_addGoing 50 = .ok (.aload_n 0, 1) := dc_42 (show ((cX2_addGoing.data.toList.drop 50).take 1).map UInt8.toNat = [42] by decide +kernel)
theorem dX2_addGoing_51 : decode cX2_addGoing 51 = .ok (.getfield 18, 3) := dc_180 (show ((cX2_addGoing.data.toList.drop 51).take 3).map UInt8.toNat = [180, 0, 18] by decide +kernel) rfl
theorem dX2_addGoing_54 : decode cX2_addGoing 54 = .ok (.iconst 0, 1) := dc_3 (show ((cX2_addGoing.data.toList.drop 54).take 1).map UInt8.toNat = [3] by decide +kernel)
theorem dX2_addGoing_55 : decode cX2_addGoing 55 = .ok (.laload, 1) := dc_47 (show ((cX2_addGoing.data.toList.drop 55).take 1).map UInt8.toNat = [47] by decide +kernel)
theorem dX2_addGoing_56 : decode cX2_addGoing 56 = .ok (.ladd, 1) := dc_97 (show ((cX2_addGoing.data.toList.drop 56).take 1).map UInt8.toNat = [97] by decide +kernel)
theorem dX2_addGoing_57 : decode cX2_addGoing 57 = .ok (.lastore, 1) := dc_80 (show ((cX2_addGoing.data.toList.drop 57).take 1).map UInt8.toNat = [80] by decide +kernel)
theorem dX2_addGoing_58 : decode cX2_addGoing 58 = .ok (.return_, 1) := dc_177 (show ((cX2_addGoing.data.toList.drop 58).take 1).map UInt8.toNat = [177] by decide +kernel)
theorem dX2_addGoing_17 : decode cX2_addGoing 17 = .ok (.aload_n 0, 1) := dc_42 (show ((cX2_addGoing.data.toList.drop 17).take 1).map UInt8.toNat = [42] by decide +kernel)
theorem dX2_addGoing_18 : decode cX2_addGoing 18 = .ok (.getfield 22, 3) := dc_180 (show ((cX2_addGoing.data.toList.drop 18).take 3).map UInt8.toNat = [180, 0, 22] by decide +kernel) rfl
theorem dX2_addGoing_21 : decode cX2_addGoing 21 = .ok (.iload_n 3, 1) := dc_29 (show ((cX2_addGoing.data.toList.drop 21).take 1).map UInt8.toNat = [29] by decide +kernel)
theorem dX2_addGoing_22 : decode cX2_addGoing 22 = .ok (.iload_n 1, 1) := dc_27 (show ((cX2_addGoing.data.toList.drop 22).take 1).map UInt8.toNat = [27] by decide +kernel)
theorem dX2_addGoing_23 : decode cX2_addGoing 23 = .ok (.ior, 1) := dc_128 (show ((cX2_addGoing.data.toList.drop 23).take 1).map UInt8.toNat = [128] by decide +kernel)
theorem dX2_addGoing_24 : decode cX2_addGoing 24 = .ok (.dup2, 1) := dc_92 (show ((cX2_addGoing.data.toList.drop 24).take 1).map UInt8.toNat = [92] by decide +kernel)
theorem dX2_addGoing_25 : decode cX2_addGoing 25 = .ok (.laload, 1) := dc_47 (show ((cX2_addGoing.data.toList.drop 25).take 1).map UInt8.toNat = [47] by decide +kernel)
theorem dX2_addGoing_26 : decode cX2_addGoing 26 = .ok (.aload_n 0, 1) := dc_42 (show ((cX2_addGoing.data.toList.drop 26).take 1).map UInt8.toNat = [42] by decide +kernel)
theorem dX2_addGoing_27 : decode cX2_addGoing 27 = .ok (.getfield 18, 3) := dc_180 (show ((cX2_addGoing.data.toList.drop 27).take 3).map UInt8.toNat = [180, 0, 18] by decide +kernel) rfl
theorem dX2_addGoing_30 : decode cX2_addGoing 30 = .ok (.iload_n 3, 1) := dc_29 (show ((cX2_addGoing.data.toList.drop 30).take 1).map UInt8.toNat = [29] by decide +kernel)
theorem dX2_addGoing_31 : decode cX2_addGoing 31 = .ok (.laload, 1) := dc_47 (show ((cX2_addGoing.data.toList.drop 31).take 1).map UInt8.toNat = [47] by decide +kernel)
theorem dX2_addGoing_32 : decode cX2_addGoing 32 = .ok (.ladd, 1) := dc_97 (show ((cX2_addGoing.data.toList.drop 32).take 1).map UInt8.toNat = [97] by decide +kernel)
theorem dX2_addGoing_33 : decode cX2_addGoing 33 = .ok (.lastore, 1) := dc_80 (show ((cX2_addGoing.data.toList.drop 33).take 1).map UInt8.toNat = [80] by decide +kernel)
theorem dX2_addGoing_34 : decode cX2_addGoing 34 = .ok (.iload_n 3, 1) := dc_29 (show ((cX2_addGoing.data.toList.drop 34).take 1).map UInt8.toNat = [29] by decide +kernel)
theorem dX2_addGoing_35 : decode cX2_addGoing 35 = .ok (.iconst 1, 1) := dc_4 (show ((cX2_addGoing.data.toList.drop 35).take 1).map UInt8.toNat = [4] by decide +kernel)
theorem dX2_addGoing_36 : decode cX2_addGoing 36 = .ok (.isub, 1) := dc_100 (show ((cX2_addGoing.data.toList.drop 36).take 1).map UInt8.toNat = [100] by decide +kernel)
theorem dX2_addGoing_37 : decode cX2_addGoing 37 = .ok (.iload_n 2, 1) := dc_28 (show ((cX2_addGoing.data.toList.drop 37).take 1).map UInt8.toNat = [28] by decide +kernel)
theorem dX2_addGoing_38 : decode cX2_addGoing 38 = .ok (.iand, 1) := dc_126 (show ((cX2_addGoing.data.toList.drop 38).take 1).map UInt8.toNat = [126] by decide +kernel)
theorem dX2_addGoing_39 : decode cX2_addGoing 39 = .ok (.istore_n 3, 1) := dc_62 (show ((cX2_addGoing.data.toList.drop 39).take 1).map UInt8.toNat = [62] by decide +kernel)
theorem dX2_addGoing_40 : decode cX2_addGoing 40 = .ok (.goto (-27), 3) := dc_167 (show ((cX2_addGoing.data.toList.drop 40).take 3).map UInt8.toNat = [167, 255, 229] by decide +kernel) rfl
def cs_Flocks_addGoing_13 (n : Nat) : Nat → gb_S → Int32 → Int32 → Int32 → gb_CR Unit
  | 0, _, _, _, _ => none
  | mm + 1, σ, v1, v2, v3 => (if v3 ≤ 0 then gb_kk (gb_kJ (σ.2.1 5)) (gb_ck v1 256 (gb_lt ((σ.2.2 (σ.2.1 5)) (Int32.toNatClampNeg v1)) (fun x_5 => gb_kk (gb_kJ (σ.2.1 4)) (gb_lt ((σ.2.2 (σ.2.1 4)) (Int32.toNatClampNeg 0)) (fun x_7 => gb_ck v1 256 (gb_lt (gb_sg σ (σ.2.1 5) (vp_updL (σ.2.2 (σ.2.1 5)) (Int32.toNatClampNeg v1) (x_5 + x_7))) (fun s_9 => some (s_9, ())))))))) else gb_kk (gb_kJ (σ.2.1 5)) (gb_ck (v3 ||| v1) 256 (gb_lt ((σ.2.2 (σ.2.1 5)) (Int32.toNatClampNeg (v3 ||| v1))) (fun x_12 => gb_kk (gb_kJ (σ.2.1 4)) (gb_ck v3 256 (gb_lt ((σ.2.2 (σ.2.1 4)) (Int32.toNatClampNeg v3)) (fun x_15 => gb_ck (v3 ||| v1) 256 (gb_lt (gb_sg σ (σ.2.1 5) (vp_updL (σ.2.2 (σ.2.1 5)) (Int32.toNatClampNeg (v3 ||| v1)) (x_12 + x_15))) (fun s_17 => gb_lt ((v3 - 1) &&& v2) (fun x_18 => cs_Flocks_addGoing_13 n mm s_17 v1 v2 x_18))))))))))
def cs_Flocks_addGoing (n : Nat) (σ : gb_S) (p1 : Int32) : gb_CR Unit := gb_lt (((σ.1 130 4) - 1) &&& (p1 ^^^ (-1))) (fun x_1 => cs_Flocks_addGoing_13 n n σ p1 x_1 x_1)
set_option maxHeartbeats 8000000 in
set_option maxRecDepth 100000 in
theorem cc_Flocks_addGoing (l : Launch) (D : va_G) (cT : Nat → ClassId) (tt : Nat → Nat) (b1 b : Nat) (hb1 : b1 ≤ b) (n : Nat) (σ : gb_S) (p1 : Int32) (σE : gb_S) (rE : Unit) (h : cs_Flocks_addGoing n σ p1 = some (σE, rE)) : Met l yX2_addGoing (.code yX2_addGoing cX2_addGoing 4 none :: gb_wA) ({ frames := 0, cells := 0, slots := 0, locals := 0 }) (gb_Pc D cT tt b1 [.ref (b + 130), .int p1] (fun h => va_P D vwCl (gb_wl b (gb_CW cT b σ)) h)) (gb_Qv (fun h => va_P D vwCl (gb_wl b (gb_CW cT b σE)) h) (gb_fr b 135)) 0 0 (gb_fr b 135) := by
  refine Met.ofW (cc := cX2_addGoing) (maxL := 4) (ret := none) (by decide) rfl ?_
  intro p e s m args below meth c s₁ B hml hv
  obtain ⟨rfl, hSt, hP⟩ := hv
  have hx := B.exec
  have hb := B.bytes
  have hr := B.returns
  have hts := atoms_spec (ws := .code yX2_addGoing cX2_addGoing 4 none :: gb_wA) B.pre
  have hq : ∀ w ∈ gb_wA, w.before _ s = true := fun w h => hts w (List.mem_cons_of_mem _ h)
  have hown : s.vm.findClass RX2 = some m.cls := findClass_of_methodNamed B.named
  have hlocks := B.notSynchronized
  clear B hts
  have hK := hSt.1
  have hS : va_S (gb_fr b 135) s.heap s.heap [] := va_S.rf
  have hl := lv_entry ([.ref (b + 130), .int p1]) (n := 4) (Nat.le_of_ble_eq_true rfl)
  rw [lg_entry_eq]
  generalize (lg_sl ([.ref (b + 130), .int p1]) ++ List.replicate (4 - (lg_sl ([.ref (b + 130), .int p1])).length) Slot.unset).toArray = ls at hl ⊢
  replace hl : lv_has ls 4 [(0, .ref (b + 130)), (1, .int p1)] := hl
  have L13_1 : ∀ (mm : Nat) (σ : gb_S) (v1 : Int32) (v2 : Int32) (v3 : Int32) (H : Heap) (locs : List Loc) (ls : Array Slot), cs_Flocks_addGoing_13 n mm σ v1 v2 v3 = some (σE, rE) → va_P D vwCl (gb_wl b (gb_CW cT b σ)) H → va_S (gb_fr b 135) s.heap H locs → lv_has ls 4 [(0, .ref (b + 130)), (1, .int v1), (2, .int v2), (3, .int v3)] → W p l e (headSpec (.code yX2_addGoing cX2_addGoing 4 none :: gb_wA) ({ frames := 0, cells := 0, slots := 0, locals := 0 })).room s m ([.ref (b + 130), .int p1]).toArray below meth c H locs 0 0 (MQ below (gb_Qv (fun h => va_P D vwCl (gb_wl b (gb_CW cT b σE)) h) (gb_fr b 135)) ([.ref (b + 130), .int p1]).toArray s 0 0 (gb_fr b 135)) (F0 m 13 ls []) := by
    clear h hP hS hl ls
    intro mm
    induction mm with
    | zero =>
      intro σ v1 v2 v3 H locs ls h
      cases h
    | succ mm ih =>
      intro σ v1 v2 v3 H locs ls h hP hS hl
      rw [cs_Flocks_addGoing_13] at h
      refine lv_iload_n hx hb dX2_addGoing_13 rfl (lv_at hl 3 rfl) ?_
      refine lv_if_le (tgt := 43) hx hb dX2_addGoing_14 (by decide) (fun c_2 => ?_) (fun c_2 => ?_)
      · rw [if_pos c_2] at h
        refine lv_aload_n hx hb dX2_addGoing_43 rfl (lv_at hl 0 rfl) ?_
        obtain ⟨z_3, h⟩ := gb_kk_s h
        refine va_get (ci := 2) (v := (.ref (b + (σ.2.1 5)))) (C := RX2) (T := TX2) (N := 6) hx hb hq i_X2 hown hK hP 130 (gb_at b rfl) rfl 3 (by decide) (hq _ w_297) (fun _ h9 => h9) rfl dX2_addGoing_44 ?_
        refine lv_iload_n hx hb dX2_addGoing_47 rfl (lv_at hl 1 rfl) ?_
        refine lv_dup2_11 hx hb dX2_addGoing_48 rfl rfl ?_
        obtain ⟨z_4, h⟩ := gb_ck_s h
        refine va_lald hx hb hK hP (σ.2.1 5) 3 (gb_at b (gb_cJ z_3)) rfl z_4 dX2_addGoing_49 ?_
        refine lv_topl (fun x_5 ex_5 => ?_)
        replace h := gb_lt_s ex_5 h
        refine lv_aload_n hx hb dX2_addGoing_50 rfl (lv_at hl 0 rfl) ?_
        obtain ⟨z_6, h⟩ := gb_kk_s h
        refine va_get (ci := 2) (v := (.ref (b + (σ.2.1 4)))) (C := RX2) (T := TX2) (N := 6) hx hb hq i_X2 hown hK hP 130 (gb_at b rfl) rfl 2 (by decide) (hq _ w_296) (fun _ h9 => h9) rfl dX2_addGoing_51 ?_
        refine lv_iconst (v := 0) hx hb dX2_addGoing_54 (by decide) ?_
        refine va_lald hx hb hK hP (σ.2.1 4) 3 (gb_at b (gb_cJ z_6)) rfl (gb_in rfl) dX2_addGoing_55 ?_
        refine lv_topl (fun x_7 ex_7 => ?_)
        replace h := gb_lt_s ex_7 h
        refine lv_ladd hx hb dX2_addGoing_56 ?_
        obtain ⟨z_8, h⟩ := gb_ck_s h
        refine va_last (x := (x_5 + x_7)) hx hb hK hP (gb_D (fun k h => ⟨Nat.le_add_right b k, Nat.add_lt_add_left h b⟩)) hS (σ.2.1 5) 3 (gb_at b (gb_cJ z_3)) rfl z_8 dX2_addGoing_57 (fun H locs hP hD hS => ?_)
        rw [gb_set] at hP
        obtain ⟨s_9, es_9⟩ : ∃ q, q = (gb_sg σ (σ.2.1 5) (vp_updL (σ.2.2 (σ.2.1 5)) (Int32.toNatClampNeg v1) (x_5 + x_7))) := ⟨_, rfl⟩
        replace hP : va_P D vwCl (gb_wl b (gb_CW cT b s_9)) H := by rw [es_9, ← gb_wJ z_3]; exact hP
        replace h := gb_lt_s es_9 h
        obtain ⟨e1, -⟩ := gb_eq2 h
        exact W.vret hx hb hr (fun t ht hW => gb_rv ht (by rw [← e1]; exact hP) hS) hS.2.2 dX2_addGoing_58
      · rw [if_neg c_2] at h
        refine lv_aload_n hx hb dX2_addGoing_17 rfl (lv_at hl 0 rfl) ?_
        obtain ⟨z_10, h⟩ := gb_kk_s h
        refine va_get (ci := 2) (v := (.ref (b + (σ.2.1 5)))) (C := RX2) (T := TX2) (N := 6) hx hb hq i_X2 hown hK hP 130 (gb_at b rfl) rfl 3 (by decide) (hq _ w_297) (fun _ h9 => h9) rfl dX2_addGoing_18 ?_
        refine lv_iload_n hx hb dX2_addGoing_21 rfl (lv_at hl 3 rfl) ?_
        refine lv_iload_n hx hb dX2_addGoing_22 rfl (lv_at hl 1 rfl) ?_
        refine lv_ior hx hb dX2_addGoing_23 ?_
        refine lv_dup2_11 hx hb dX2_addGoing_24 rfl rfl ?_
        obtain ⟨z_11, h⟩ := gb_ck_s h
        refine va_lald hx hb hK hP (σ.2.1 5) 3 (gb_at b (gb_cJ z_10)) rfl z_11 dX2_addGoing_25 ?_
        refine lv_topl (fun x_12 ex_12 => ?_)
        replace h := gb_lt_s ex_12 h
        refine lv_aload_n hx hb dX2_addGoing_26 rfl (lv_at hl 0 rfl) ?_
        obtain ⟨z_13, h⟩ := gb_kk_s h
        refine va_get (ci := 2) (v := (.ref (b + (σ.2.1 4)))) (C := RX2) (T := TX2) (N := 6) hx hb hq i_X2 hown hK hP 130 (gb_at b rfl) rfl 2 (by decide) (hq _ w_296) (fun _ h9 => h9) rfl dX2_addGoing_27 ?_
        refine lv_iload_n hx hb dX2_addGoing_30 rfl (lv_at hl 3 rfl) ?_
        obtain ⟨z_14, h⟩ := gb_ck_s h
        refine va_lald hx hb hK hP (σ.2.1 4) 3 (gb_at b (gb_cJ z_13)) rfl z_14 dX2_addGoing_31 ?_
        refine lv_topl (fun x_15 ex_15 => ?_)
        replace h := gb_lt_s ex_15 h
        refine lv_ladd hx hb dX2_addGoing_32 ?_
        obtain ⟨z_16, h⟩ := gb_ck_s h
        refine va_last (x := (x_12 + x_15)) hx hb hK hP (gb_D (fun k h => ⟨Nat.le_add_right b k, Nat.add_lt_add_left h b⟩)) hS (σ.2.1 5) 3 (gb_at b (gb_cJ z_10)) rfl z_16 dX2_addGoing_33 (fun H locs hP hD hS => ?_)
        rw [gb_set] at hP
        obtain ⟨s_17, es_17⟩ : ∃ q, q = (gb_sg σ (σ.2.1 5) (vp_updL (σ.2.2 (σ.2.1 5)) (Int32.toNatClampNeg (v3 ||| v1)) (x_12 + x_15))) := ⟨_, rfl⟩
        replace hP : va_P D vwCl (gb_wl b (gb_CW cT b s_17)) H := by rw [es_17, ← gb_wJ z_10]; exact hP
        replace h := gb_lt_s es_17 h
        refine lv_iload_n hx hb dX2_addGoing_34 rfl (lv_at hl 3 rfl) ?_
        refine lv_iconst (v := 1) hx hb dX2_addGoing_35 (by decide) ?_
        refine lv_isub hx hb dX2_addGoing_36 ?_
        refine lv_iload_n hx hb dX2_addGoing_37 rfl (lv_at hl 2 rfl) ?_
        refine lv_iand hx hb dX2_addGoing_38 ?_
        refine lv_topi (fun x_18 ex_18 => ?_)
        replace h := gb_lt_s ex_18 h
        refine lv_istore_n (lv' := [(3, .int x_18), (0, .ref (b + 130)), (1, .int v1), (2, .int v2)]) hx hb dX2_addGoing_39 rfl hl (by decide) rfl (fun ls hl => ?_)
        refine lv_goto (tgt := 13) hx hb dX2_addGoing_40 (by decide) ?_
        exact ih _ _ _ _ _ _ _ h hP hS (lv_sub hl [1, 2, 3, 0] rfl)
  unfold cs_Flocks_addGoing at h
  refine lv_aload_n hx hb dX2_addGoing_0 rfl (lv_at hl 0 rfl) ?_
  refine va_get (ci := 2) (v := (.int (σ.1 130 4))) (C := RX2) (T := TX2) (N := 6) hx hb hq i_X2 hown hK hP 130 (gb_at b rfl) rfl 4 (by decide) (hq _ w_298) (fun _ h9 => h9) rfl dX2_addGoing_1 ?_
  refine lv_iconst (v := 1) hx hb dX2_addGoing_4 (by decide) ?_
  refine lv_isub hx hb dX2_addGoing_5 ?_
  refine lv_iload_n hx hb dX2_addGoing_6 rfl (lv_at hl 1 rfl) ?_
  refine lv_iconst (v := (-1)) hx hb dX2_addGoing_7 (by decide) ?_
  refine lv_ixor hx hb dX2_addGoing_8 ?_
  refine lv_iand hx hb dX2_addGoing_9 ?_
  refine lv_topi (fun x_1 ex_1 => ?_)
  replace h := gb_lt_s ex_1 h
  refine lv_istore_n (lv' := [(2, .int x_1), (0, .ref (b + 130)), (1, .int p1)]) hx hb dX2_addGoing_10 rfl hl (by decide) rfl (fun ls hl => ?_)
  refine lv_iload_n hx hb dX2_addGoing_11 rfl (lv_at hl 0 rfl) ?_
  refine lv_istore_n (lv' := [(3, .int x_1), (2, .int x_1), (0, .ref (b + 130)), (1, .int p1)]) hx hb dX2_addGoing_12 rfl hl (by decide) rfl (fun ls hl => ?_)
  exact L13_1 n _ _ _ _ _ _ _ h hP hS (lv_sub hl [2, 3, 1, 0] rfl)
theorem w_1062 : (Cond.code ({ cls := "GooseBorder$Flocks", name := "addGoing", desc := "(I)V" } : MethodName) prog_4_method_11_code (4 : Nat) (Option.none : Option FieldType)) ∈ gb_wA := gb_t5 102 rfl rfl
theorem w_1059 : (Cond.methodLink "GooseBorder$Flocks" (92 : Nat) ({ cls := "GooseBorder$Flocks", name := "addGoing", desc := "(I)V" } : MethodName)) ∈ gb_wA := gb_t5 99 rfl rfl
theorem w_1061 : (Cond.instanceMethod ({ cls := "GooseBorder$Flocks", name := "addGoing", desc := "(I)V" } : MethodName)) ∈ gb_wA := gb_t5 101 rfl rfl
theorem s_2_13 : Cond.selects "GooseBorder$Flocks" (⟨"GooseBorder$Flocks", "addGoing", "(I)V"⟩ : MethodName) (⟨"GooseBorder$Flocks", "addGoing", "(I)V"⟩ : MethodName) ∈ gb_wA := gb_s2 13 rfl rfl
def cs_Flocks_goBy_10 (n : Nat) : Nat → gb_S → Int32 → Int32 → Int32 → gb_CR Unit
  | 0, _, _, _, _ => none
  | mm + 1, σ, v1, v2, v3 => (if (σ.1 130 4) ≤ v3 then gb_kk (gb_kJ (σ.2.1 4)) (gb_kk (gb_kJ (σ.2.1 5)) (gb_lt (gb_sq σ 4 (σ.2.1 5)) (fun s_9 => gb_lt (gb_sq s_9 5 (σ.2.1 4)) (fun s_10 => some (s_10, ()))))) else gb_ck v3 256 (gb_lt ((σ.1 131) (Int32.toNatClampNeg v3)) (fun x_12 => (if x_12 = v1 then (if (v3 &&& v2) = v2 then gb_cd (cs_Flocks_addGoing n σ v3) (fun s_17 _ => gb_lt (v3 + 1) (fun x_21 => cs_Flocks_goBy_10 n mm s_17 v1 v2 x_21)) else gb_lt (v3 + 1) (fun x_16 => cs_Flocks_goBy_10 n mm σ v1 v2 x_16)) else gb_lt (v3 + 1) (fun x_14 => cs_Flocks_goBy_10 n mm σ v1 v2 x_14)))))
def cs_Flocks_goBy (n : Nat) (σ : gb_S) (p1 : Int32) (p2 : Int32) : gb_CR Unit := gb_kk (gb_kJ (σ.2.1 5)) (gb_cd (cs_java_util_Arrays_fillJ_J n σ (σ.2.1 5) (0 : Int64)) (fun s_2 _ => cs_Flocks_goBy_10 n n s_2 p1 p2 0))
set_option maxHeartbeats 8000000 in
set_option maxRecDepth 100000 in
theorem cc_Flocks_goBy (l : Launch) (D : va_G) (cT : Nat → ClassId) (tt : Nat → Nat) (b1 b : Nat) (hb1 : b1 ≤ b) (n : Nat) (σ : gb_S) (p1 : Int32) (p2 : Int32) (σE : gb_S) (rE : Unit) (h : cs_Flocks_goBy n σ p1 p2 = some (σE, rE)) : Met l yX2_goBy (.code yX2_goBy cX2_goBy 4 none :: gb_wA) ({ frames := 1, cells := 0, slots := 0, locals := 24 }) (gb_Pc D cT tt b1 [.ref (b + 130), .int p1, .int p2] (fun h => va_P D vwCl (gb_wl b (gb_CW cT b σ)) h)) (gb_Qv (fun h => va_P D vwCl (gb_wl b (gb_CW cT b σE)) h) (gb_fr b 135)) 0 0 (gb_fr b 135) := by
  refine Met.ofW (cc := cX2_goBy) (maxL := 4) (ret := none) (by decide) rfl ?_
  intro p e s m args below meth c s₁ B hml hv
  obtain ⟨rfl, hSt, hP⟩ := hv
  have hx := B.exec
  have hb := B.bytes
  have hr := B.returns
  have hts := atoms_spec (ws := .code yX2_goBy cX2_goBy 4 none :: gb_wA) B.pre
  have hq : ∀ w ∈ gb_wA, w.before _ s = true := fun w h => hts w (List.mem_cons_of_mem _ h)
  have hown : s.vm.findClass RX2 = some m.cls := findClass_of_methodNamed B.named
  have hlocks := B.notSynchronized
  clear B hts
  have hK := hSt.1
  have hS : va_S (gb_fr b 135) s.heap s.heap [] := va_S.rf
  have hl := lv_entry ([.ref (b + 130), .int p1, .int p2]) (n := 4) (Nat.le_of_ble_eq_true rfl)
  rw [lg_entry_eq]
  generalize (lg_sl ([.ref (b + 130), .int p1, .int p2]) ++ List.replicate (4 - (lg_sl ([.ref (b + 130), .int p1, .int p2])).length) Slot.unset).toArray = ls at hl ⊢
  replace hl : lv_has ls 4 [(0, .ref (b + 130)), (1, .int p1), (2, .int p2)] := hl
  have L10_1 : ∀ (mm : Nat) (σ : gb_S) (v1 : Int32) (v2 : Int32) (v3 : Int32) (H : Heap) (locs : List Loc) (ls : Array Slot), cs_Flocks_goBy_10 n mm σ v1 v2 v3 = some (σE, rE) → va_P D vwCl (gb_wl b (gb_CW cT b σ)) H → va_S (gb_fr b 135) s.heap H locs → lv_has ls 4 [(0, .ref (b + 130)), (1, .int v1), (2, .int v2), (3, .int v3)] → W p l e (headSpec (.code yX2_goBy cX2_goBy 4 none :: gb_wA) ({ frames := 1, cells := 0, slots := 0, locals := 24 })).room s m ([.ref (b + 130), .int p1, .int p2]).toArray below meth c H locs 0 0 (MQ below (gb_Qv (fun h => va_P D vwCl (gb_wl b (gb_CW cT b σE)) h) (gb_fr b 135)) ([.ref (b + 130), .int p1, .int p2]).toArray s 0 0 (gb_fr b 135)) (F0 m 10 ls []) := by
    clear h hP hS hl ls
    intro mm
    induction mm with
    | zero =>
      intro σ v1 v2 v3 H locs ls h
      cases h
    | succ mm ih =>
      intro σ v1 v2 v3 H locs ls h hP hS hl
      rw [cs_Flocks_goBy_10] at h
      refine lv_iload_n hx hb dX2_goBy_10 rfl (lv_at hl 3 rfl) ?_
      refine lv_aload_n hx hb dX2_goBy_11 rfl (lv_at hl 0 rfl) ?_
      refine va_get (ci := 2) (v := (.int (σ.1 130 4))) (C := RX2) (T := TX2) (N := 6) hx hb hq i_X2 hown hK hP 130 (gb_at b rfl) rfl 4 (by decide) (hq _ w_298) (fun _ h9 => h9) rfl dX2_goBy_12 ?_
      refine lv_icmp_ge (tgt := 46) hx hb dX2_goBy_15 (by decide) (fun c_6 => ?_) (fun c_6 => ?_)
      · rw [if_pos c_6] at h
        refine lv_aload_n hx hb dX2_goBy_46 rfl (lv_at hl 0 rfl) ?_
        obtain ⟨z_7, h⟩ := gb_kk_s h
        refine va_get (ci := 2) (v := (.ref (b + (σ.2.1 4)))) (C := RX2) (T := TX2) (N := 6) hx hb hq i_X2 hown hK hP 130 (gb_at b rfl) rfl 2 (by decide) (hq _ w_296) (fun _ h9 => h9) rfl dX2_goBy_47 ?_
        refine lv_astore_n (lv' := [(3, .ref (b + (σ.2.1 4))), (0, .ref (b + 130)), (1, .int v1), (2, .int v2)]) hx hb dX2_goBy_50 rfl hl (by decide) rfl (fun ls hl => ?_)
        refine lv_aload_n hx hb dX2_goBy_51 rfl (lv_at hl 1 rfl) ?_
        refine lv_aload_n hx hb dX2_goBy_52 rfl (lv_at hl 1 rfl) ?_
        obtain ⟨z_8, h⟩ := gb_kk_s h
        refine va_get (ci := 2) (v := (.ref (b + (σ.2.1 5)))) (C := RX2) (T := TX2) (N := 6) hx hb hq i_X2 hown hK hP 130 (gb_at b rfl) rfl 3 (by decide) (hq _ w_297) (fun _ h9 => h9) rfl dX2_goBy_53 ?_
        refine gb_put (ci := 2) (v := (.ref (b + (σ.2.1 5)))) (ty := .array .long) (C := RX2) (T := TX2) (N := 6) hx hb hq i_X2 tyX2 tyX2_ok nmX2 hown hK hP (fun k h => ⟨Nat.le_add_right b k, Nat.add_lt_add_left h b⟩) hS rfl 130 rfl rfl 2 (by decide) (hq _ w_296) (fun _ h9 => h9) rfl (by decide +kernel) rfl rfl (Nat.le_of_ble_eq_true rfl) dX2_goBy_56 (fun H locs hP hz_ hS => ?_)
        obtain ⟨s_9, es_9⟩ : ∃ q, q = (gb_sq σ 4 (σ.2.1 5)) := ⟨_, rfl⟩
        replace hP : va_P D vwCl (gb_wl b (gb_CW cT b s_9)) H := by rw [es_9]; exact hP
        replace h := gb_lt_s es_9 h
        refine lv_aload_n hx hb dX2_goBy_59 rfl (lv_at hl 1 rfl) ?_
        refine lv_aload_n hx hb dX2_goBy_60 rfl (lv_at hl 0 rfl) ?_
        refine gb_put (ci := 2) (v := (.ref (b + (σ.2.1 4)))) (ty := .array .long) (C := RX2) (T := TX2) (N := 6) hx hb hq i_X2 tyX2 tyX2_ok nmX2 hown hK hP (fun k h => ⟨Nat.le_add_right b k, Nat.add_lt_add_left h b⟩) hS rfl 130 rfl rfl 3 (by decide) (hq _ w_297) (fun _ h9 => h9) rfl (by decide +kernel) rfl rfl (Nat.le_of_ble_eq_true rfl) dX2_goBy_61 (fun H locs hP hz_ hS => ?_)
        obtain ⟨s_10, es_10⟩ : ∃ q, q = (gb_sq s_9 5 (σ.2.1 4)) := ⟨_, rfl⟩
        replace hP : va_P D vwCl (gb_wl b (gb_CW cT b s_10)) H := by rw [es_10]; exact hP
        replace h := gb_lt_s es_10 h
        obtain ⟨e1, -⟩ := gb_eq2 h
        exact W.vret hx hb hr (fun t ht hW => gb_rv ht (by rw [← e1]; exact hP) hS) hS.2.2 dX2_goBy_64
      · rw [if_neg c_6] at h
        refine lv_aload_n hx hb dX2_goBy_18 rfl (lv_at hl 0 rfl) ?_
        refine va_get (ci := 2) (v := (.ref (b + 131))) (C := RX2) (T := TX2) (N := 6) hx hb hq i_X2 hown hK hP 130 (gb_at b rfl) rfl 0 (by decide) (hq _ w_294) (fun _ h9 => h9) rfl dX2_goBy_19 ?_
        refine lv_iload_n hx hb dX2_goBy_22 rfl (lv_at hl 3 rfl) ?_
        obtain ⟨z_11, h⟩ := gb_ck_s h
        refine va_iald hx hb hK hP 131 0 (gb_at b rfl) rfl z_11 dX2_goBy_23 ?_
        refine lv_topi (fun x_12 ex_12 => ?_)
        replace h := gb_lt_s ex_12 h
        refine lv_iload_n hx hb dX2_goBy_24 rfl (lv_at hl 1 rfl) ?_
        refine lv_icmp_ne (tgt := 40) hx hb dX2_goBy_25 (by decide) (fun c_13 => ?_) (fun c_13 => ?_)
        · rw [if_neg c_13] at h
          obtain ⟨x_14, ex_14⟩ : ∃ q, q = (v3 + 1) := ⟨_, rfl⟩
          replace h := gb_lt_s ex_14 h
          refine lv_iinc (v := x_14) (lv' := [(3, .int x_14), (0, .ref (b + 130)), (1, .int v1), (2, .int v2)]) hx hb dX2_goBy_40 hl (k := 3) rfl (by rw [ex_14]; rfl) (by decide) rfl (fun ls hl => ?_)
          refine lv_goto (tgt := 10) hx hb dX2_goBy_43 (by decide) ?_
          exact ih _ _ _ _ _ _ _ h hP hS (lv_sub hl [1, 2, 3, 0] rfl)
        · rw [if_pos c_13] at h
          refine lv_iload_n hx hb dX2_goBy_28 rfl (lv_at hl 3 rfl) ?_
          refine lv_iload_n hx hb dX2_goBy_29 rfl (lv_at hl 2 rfl) ?_
          refine lv_iand hx hb dX2_goBy_30 ?_
          refine lv_iload_n hx hb dX2_goBy_31 rfl (lv_at hl 2 rfl) ?_
          refine lv_icmp_ne (tgt := 40) hx hb dX2_goBy_32 (by decide) (fun c_15 => ?_) (fun c_15 => ?_)
          · rw [if_neg c_15] at h
            obtain ⟨x_16, ex_16⟩ : ∃ q, q = (v3 + 1) := ⟨_, rfl⟩
            replace h := gb_lt_s ex_16 h
            refine lv_iinc (v := x_16) (lv' := [(3, .int x_16), (0, .ref (b + 130)), (1, .int v1), (2, .int v2)]) hx hb dX2_goBy_40 hl (k := 3) rfl (by rw [ex_16]; rfl) (by decide) rfl (fun ls hl => ?_)
            refine lv_goto (tgt := 10) hx hb dX2_goBy_43 (by decide) ?_
            exact ih _ _ _ _ _ _ _ h hP hS (lv_sub hl [1, 2, 3, 0] rfl)
          · rw [if_pos c_15] at h
            refine lv_aload_n hx hb dX2_goBy_35 rfl (lv_at hl 0 rfl) ?_
            refine lv_iload_n hx hb dX2_goBy_36 rfl (lv_at hl 3 rfl) ?_
            obtain ⟨s_17, r_18, z_19, h⟩ := gb_cd_s h
            refine gb_callv (va_runV (C := RX2) (As := [.int v3]) (rest := []) ⟨hx, hb, hml, hown, hq⟩ (cc_Flocks_addGoing l D cT tt b1 b hb1 n σ v3 s_17 r_18 z_19) (cwV 1 hq (gb_gV w_1059 w_1061 s_2_13 w_13 w_1062) rfl rfl rfl (by decide +kernel) ⟨Nat.le_of_ble_eq_true rfl, Nat.le_of_ble_eq_true rfl⟩) (gb_preV (r := (RX2, TX2, 6)) (ci := 2) (q0 := 130) hSt hP rfl (gb_at b rfl) hS (fun q h => Nat.le_trans hb1 h.1) hP) rfl rfl hl.1 rfl (lv_room (Nat.le_of_ble_eq_true rfl)) dX2_goBy_37 ⟨Nat.le_of_ble_eq_true rfl, Nat.le_of_ble_eq_true rfl⟩) hS (fun _ h => h) (fun _ h => h) (fun H locs hY hk hS => ?_)
            have hP := hY
            obtain ⟨x_21, ex_21⟩ : ∃ q, q = (v3 + 1) := ⟨_, rfl⟩
            replace h := gb_lt_s ex_21 h
            refine lv_iinc (v := x_21) (lv' := [(3, .int x_21), (0, .ref (b + 130)), (1, .int v1), (2, .int v2)]) hx hb dX2_goBy_40 hl (k := 3) rfl (by rw [ex_21]; rfl) (by decide) rfl (fun ls hl => ?_)
            refine lv_goto (tgt := 10) hx hb dX2_goBy_43 (by decide) ?_
            exact ih _ _ _ _ _ _ _ h hP hS (lv_sub hl [1, 2, 3, 0] rfl)
  unfold cs_Flocks_goBy at h
  refine lv_aload_n hx hb dX2_goBy_0 rfl (lv_at hl 0 rfl) ?_
  obtain ⟨z_1, h⟩ := gb_kk_s h
  refine va_get (ci := 2) (v := (.ref (b + (σ.2.1 5)))) (C := RX2) (T := TX2) (N := 6) hx hb hq i_X2 hown hK hP 130 (gb_at b rfl) rfl 3 (by decide) (hq _ w_297) (fun _ h9 => h9) rfl dX2_goBy_1 ?_
  refine lv_lconst (v := 0) hx hb dX2_goBy_4 (by decide) ?_
  obtain ⟨s_2, r_3, z_4, h⟩ := gb_cd_s h
  refine gb_callv (va_runS (As := [.ref (b + (σ.2.1 5)), .long (0 : Int64)]) (rest := []) ⟨hx, hb, hml, hown, hq⟩ (cc_java_util_Arrays_fillJ_J l D cT tt b1 b hb1 n σ (σ.2.1 5) (0 : Int64) s_2 r_3 z_4) (va_cwS 2 hq (gb_gS w_1048 w_1049 w_20 w_1050) rfl rfl rfl (by decide +kernel) ⟨Nat.le_of_ble_eq_true rfl, Nat.le_of_ble_eq_true rfl⟩) (gb_preS hSt hS (fun q h => Nat.le_trans hb1 h.1) hP) rfl rfl hl.1 rfl (lv_room (Nat.le_of_ble_eq_true rfl)) dX2_goBy_5 ⟨Nat.le_of_ble_eq_true rfl, Nat.le_of_ble_eq_true rfl⟩) hS (fun _ h => h) (fun _ h => h) (fun H locs hY hk hS => ?_)
  have hP := hY
  refine lv_iconst (v := 0) hx hb dX2_goBy_8 (by decide) ?_
  refine lv_istore_n (lv' := [(3, .int 0), (0, .ref (b + 130)), (1, .int p1), (2, .int p2)]) hx hb dX2_goBy_9 rfl hl (by decide) rfl (fun ls hl => ?_)
  exact L10_1 n _ _ _ _ _ _ _ h hP hS (lv_sub hl [1, 2, 3, 0] rfl)
theorem w_1058 : (Cond.code ({ cls := "GooseBorder$Flocks", name := "goBy", desc := "(II)V" } : MethodName) prog_4_method_10_code (4 : Nat) (Option.none : Option FieldType)) ∈ gb_wA := gb_t5 98 rfl rfl
theorem w_1055 : (Cond.methodLink "GooseBorder$Flocks" (88 : Nat) ({ cls := "GooseBorder$Flocks", name := "goBy", desc := "(II)V" } : MethodName)) ∈ gb_wA := gb_t5 95 rfl rfl
theorem w_1057 : (Cond.instanceMethod ({ cls := "GooseBorder$Flocks", name := "goBy", desc := "(II)V" } : MethodName)) ∈ gb_wA := gb_t5 97 rfl rfl
theorem s_2_12 : Cond.selects "GooseBorder$Flocks" (⟨"GooseBorder$Flocks", "goBy", "(II)V"⟩ : MethodName) (⟨"GooseBorder$Flocks", "goBy", "(II)V"⟩ : MethodName) ∈ gb_wA := gb_s2 12 rfl rfl
theorem dX2_findWays_94 : decode cX2_findWays 94 = .ok (.goto 27, 3) := dc_167 (show ((cX2_findWays.data.toList.drop 94).take 3).map UInt8.toNat = [167, 0, 27] by decide +kernel) rfl
theorem dX2_findWays_77 : decode cX2_findWays 77 = .ok (.iload 5, 2) := dc_21 (show ((cX2_findWays.data.toList.drop 77).take 2).map UInt8.toNat = [21, 5] by decide +kernel) rfl
theorem dX2_findWays_79 : decode cX2_findWays 79 = .ok (.iload 4, 2) := dc_21 (show ((cX2_findWays.data.toList.drop 79).take 2).map UInt8.toNat = [21, 4] by decide +kernel) rfl
theorem dX2_findWays_81 : decode cX2_findWays 81 = .ok (.if_icmp .ne 9, 3) := dc_160 (show ((cX2_findWays.data.toList.drop 81).take 3).map UInt8.toNat = [160, 0, 9] by decide +kernel) rfl
theorem dX2_findWays_84 : decode cX2_findWays 84 = .ok (.iconst 1, 1) := dc_4 (show ((cX2_findWays.data.toList.drop 84).take 1).map UInt8.toNat = [4] by decide +kernel)
theorem dX2_findWays_85 : decode cX2_findWays 85 = .ok (.iload_n 3, 1) := dc_29 (show ((cX2_findWays.data.toList.drop 85).take 1).map UInt8.toNat = [29] by decide +kernel)
theorem dX2_findWays_86 : decode cX2_findWays 86 = .ok (.ishl, 1) := dc_120 (show ((cX2_findWays.data.toList.drop 86).take 1).map UInt8.toNat = [120] by decide +kernel)
theorem dX2_findWays_87 : decode cX2_findWays 87 = .ok (.goto 4, 3) := dc_167 (show ((cX2_findWays.data.toList.drop 87).take 3).map UInt8.toNat = [167, 0, 4] by decide +kernel) rfl
def cs_Flocks_findWays_B_D_28 (n : Nat) : Nat → gb_S → Nat → Nat → Int32 → Int32 → Int32 → gb_CR Unit
  | 0, _, _, _, _, _, _ => none
  | mm + 1, σ, v1, v2, v3, v4, v5 => gb_kk (gb_kB v1) (gb_kk (gb_kD v2) (gb_cd (cs_Lines_size_D n σ v2) (fun s_17 r_18 => (if r_18 ≤ v5 then some (s_17, ()) else gb_cd (cs_Dawn_pathSeen_D n s_17 v2 v5) (fun s_22 r_23 => gb_cd (cs_Border_hasPath_B n s_22 v1 r_23) (fun s_26 r_27 => (if r_27 = 0 then gb_cd (cs_Dawn_marksSeen_D n s_26 v2 v5) (fun s_31 r_32 => (if r_32 = 0 then (if v5 = v4 then gb_kk (gb_kJ (s_31.2.1 4)) (gb_cd (cs_java_util_Arrays_fillJ_J n s_31 (s_31.2.1 4) (0 : Int64)) (fun s_45 _ => gb_lt (v5 + 1) (fun x_49 => cs_Flocks_findWays_B_D_28 n mm s_45 v1 v2 v3 v4 x_49))) else gb_lt (v5 + 1) (fun x_43 => cs_Flocks_findWays_B_D_28 n mm s_31 v1 v2 v3 v4 x_43)) else gb_kk (gb_kJ (s_31.2.1 4)) (gb_cd (cs_java_util_Arrays_fillJ_J n s_31 (s_31.2.1 4) (0 : Int64)) (fun s_37 _ => gb_lt (v5 + 1) (fun x_41 => cs_Flocks_findWays_B_D_28 n mm s_37 v1 v2 v3 v4 x_41))))) else gb_cd (cs_Flocks_sumUp_B_c131 n s_26 v1 r_23) (fun s_50 _ => gb_cd (cs_Dawn_marksSeen_D n s_50 v2 v5) (fun s_54 r_55 => (if v3 = (-1) then gb_cd (cs_Flocks_goBy n s_54 r_55 0) (fun s_59 _ => gb_lt (v5 + 1) (fun x_63 => cs_Flocks_findWays_B_D_28 n mm s_59 v1 v2 v3 v4 x_63)) else (if v5 = v4 then gb_cd (cs_Flocks_goBy n s_54 r_55 ((1 : Int32) <<< (v3 &&& 31))) (fun s_70 _ => gb_lt (v5 + 1) (fun x_74 => cs_Flocks_findWays_B_D_28 n mm s_70 v1 v2 v3 v4 x_74)) else gb_cd (cs_Flocks_goBy n s_54 r_55 0) (fun s_65 _ => gb_lt (v5 + 1) (fun x_69 => cs_Flocks_findWays_B_D_28 n mm s_65 v1 v2 v3 v4 x_69)))))))))))))
def cs_Flocks_findWays_B_D (n : Nat) (σ : gb_S) (p1 : Nat) (p2 : Nat) (p3 : Int32) (p4 : Int32) : gb_CR Unit := gb_kk (gb_kB p1) (gb_kk (gb_kD p2) (gb_cd (cs_Border_geese_B n σ p1) (fun s_3 r_4 => gb_lt (gb_su s_3 130 (upd (s_3.1 130) 4 ((1 : Int32) <<< (r_4 &&& 31)))) (fun s_7 => gb_kk (gb_kJ (s_7.2.1 4)) (gb_cd (cs_java_util_Arrays_fillJ_J n s_7 (s_7.2.1 4) (0 : Int64)) (fun s_9 _ => gb_kk (gb_kJ (s_9.2.1 4)) (gb_lt (gb_sg s_9 (s_9.2.1 4) (vp_updL (s_9.2.2 (s_9.2.1 4)) (Int32.toNatClampNeg 0) (1 : Int64))) (fun s_14 => cs_Flocks_findWays_B_D_28 n n s_14 p1 p2 p3 p4 0))))))))
set_option maxHeartbeats 8000000 in
set_option maxRecDepth 100000 in
theorem cc_Flocks_findWays_B_D (l : Launch) (D : va_G) (cT : Nat → ClassId) (tt : Nat → Nat) (b1 b : Nat) (hb1 : b1 ≤ b) (n : Nat) (σ : gb_S) (p1 : Nat) (p2 : Nat) (p3 : Int32) (p4 : Int32) (σE : gb_S) (rE : Unit) (h : cs_Flocks_findWays_B_D n σ p1 p2 p3 p4 = some (σE, rE)) : Met l yX2_findWays (.code yX2_findWays cX2_findWays 7 none :: gb_wA) ({ frames := 4, cells := 0, slots := 0, locals := 97 }) (gb_Pc D cT tt b1 [.ref (b + 130), .ref (b + p1), .ref (b + p2), .int p3, .int p4] (fun h => va_P D vwCl (gb_wl b (gb_CW cT b σ)) h)) (gb_Qv (fun h => va_P D vwCl (gb_wl b (gb_CW cT b σE)) h) (gb_fr b 135)) 0 0 (gb_fr b 135) := by
  refine Met.ofW (cc := cX2_findWays) (maxL := 7) (ret := none) (by decide) rfl ?_
  intro p e s m args below meth c s₁ B hml hv
  obtain ⟨rfl, hSt, hP⟩ := hv
  have hx := B.exec
  have hb := B.bytes
  have hr := B.returns
  have hts := atoms_spec (ws := .code yX2_findWays cX2_findWays 7 none :: gb_wA) B.pre
  have hq : ∀ w ∈ gb_wA, w.before _ s = true := fun w h => hts w (List.mem_cons_of_mem _ h)
  have hown : s.vm.findClass RX2 = some m.cls := findClass_of_methodNamed B.named
  have hlocks := B.notSynchronized
  clear B hts
  have hK := hSt.1
  have hS : va_S (gb_fr b 135) s.heap s.heap [] := va_S.rf
  have hl := lv_entry ([.ref (b + 130), .ref (b + p1), .ref (b + p2), .int p3, .int p4]) (n := 7) (Nat.le_of_ble_eq_true rfl)
  rw [lg_entry_eq]
  generalize (lg_sl ([.ref (b + 130), .ref (b + p1), .ref (b + p2), .int p3, .int p4]) ++ List.replicate (7 - (lg_sl ([.ref (b + 130), .ref (b + p1), .ref (b + p2), .int p3, .int p4])).length) Slot.unset).toArray = ls at hl ⊢
  replace hl : lv_has ls 7 [(0, .ref (b + 130)), (1, .ref (b + p1)), (2, .ref (b + p2)), (3, .int p3), (4, .int p4)] := hl
  have L28_1 : ∀ (mm : Nat) (σ : gb_S) (v1 : Nat) (v2 : Nat) (v3 : Int32) (v4 : Int32) (v5 : Int32) (H : Heap) (locs : List Loc) (ls : Array Slot), cs_Flocks_findWays_B_D_28 n mm σ v1 v2 v3 v4 v5 = some (σE, rE) → va_P D vwCl (gb_wl b (gb_CW cT b σ)) H → va_S (gb_fr b 135) s.heap H locs → lv_has ls 7 [(0, .ref (b + 130)), (1, .ref (b + v1)), (2, .ref (b + v2)), (3, .int v3), (4, .int v4), (5, .int v5)] → W p l e (headSpec (.code yX2_findWays cX2_findWays 7 none :: gb_wA) ({ frames := 4, cells := 0, slots := 0, locals := 97 })).room s m ([.ref (b + 130), .ref (b + p1), .ref (b + p2), .int p3, .int p4]).toArray below meth c H locs 0 0 (MQ below (gb_Qv (fun h => va_P D vwCl (gb_wl b (gb_CW cT b σE)) h) (gb_fr b 135)) ([.ref (b + 130), .ref (b + p1), .ref (b + p2), .int p3, .int p4]).toArray s 0 0 (gb_fr b 135)) (F0 m 28 ls []) := by
    clear h hP hS hl ls
    intro mm
    induction mm with
    | zero =>
      intro σ v1 v2 v3 v4 v5 H locs ls h
      cases h
    | succ mm ih =>
      intro σ v1 v2 v3 v4 v5 H locs ls h hP hS hl
      rw [cs_Flocks_findWays_B_D_28] at h
      obtain ⟨z_15, h⟩ := gb_kk_s h
      obtain ⟨z_16, h⟩ := gb_kk_s h
      refine lv_iload hx hb dX2_findWays_28 (lv_at hl 5 rfl) ?_
      refine lv_aload_n hx hb dX2_findWays_30 rfl (lv_at hl 2 rfl) ?_
      obtain ⟨s_17, r_18, z_19, h⟩ := gb_cd_s h
      refine gb_calli (va_runU (x := ⟨"GooseBorder$Dawn", "size", "()I"⟩) (C := RX1) (owner := "GooseBorder$Lines") (As := []) (rest := [.int v5]) ⟨hx, hb, hml, hown, hq⟩ (cc_Lines_size_D l D cT tt b1 b hb1 n σ v2 s_17 r_18 z_19) (va_cwU (owner := "GooseBorder$Lines") (C := RX1) 0 hq (gb_gU w_1051 w_535 w_537 w_484 w_6 w_489) rfl rfl rfl rfl (by decide +kernel) ⟨Nat.le_of_ble_eq_true rfl, Nat.le_of_ble_eq_true rfl⟩) (gb_preV (r := (RX1, TX1, 4)) (ci := 1) (q0 := v2) hSt hP rfl (gb_at b (gb_cD z_16).1) hS (fun q h => Nat.le_trans hb1 h.1) hP) rfl rfl hl.1 rfl (lv_room (Nat.le_of_ble_eq_true rfl)) dX2_findWays_31 ⟨Nat.le_of_ble_eq_true rfl, Nat.le_of_ble_eq_true rfl⟩) hS (fun _ h => h) (fun _ h => h) (fun q_20 H locs hY hk hS => ?_)
      obtain ⟨hq_20, hP⟩ := hY
      replace hq_20 := hq_20.symm
      subst hq_20
      refine lv_icmp_ge (tgt := 127) hx hb dX2_findWays_34 (by decide) (fun c_21 => ?_) (fun c_21 => ?_)
      · rw [if_pos c_21] at h
        obtain ⟨e1, -⟩ := gb_eq2 h
        exact W.vret hx hb hr (fun t ht hW => gb_rv ht (by rw [← e1]; exact hP) hS) hS.2.2 dX2_findWays_127
      · rw [if_neg c_21] at h
        refine lv_aload_n hx hb dX2_findWays_37 rfl (lv_at hl 2 rfl) ?_
        refine lv_iload hx hb dX2_findWays_38 (lv_at hl 5 rfl) ?_
        obtain ⟨s_22, r_23, z_24, h⟩ := gb_cd_s h
        refine gb_calli (va_runV (C := RX1) (As := [.int v5]) (rest := []) ⟨hx, hb, hml, hown, hq⟩ (cc_Dawn_pathSeen_D l D cT tt b1 b hb1 n s_17 v2 v5 s_22 r_23 z_24) (cwV 1 hq (gb_gV w_1052 w_539 w_540 w_9 w_541) rfl rfl rfl (by decide +kernel) ⟨Nat.le_of_ble_eq_true rfl, Nat.le_of_ble_eq_true rfl⟩) (gb_preV (r := (RX1, TX1, 4)) (ci := 1) (q0 := v2) hSt hP rfl (gb_at b (gb_cD z_16).1) hS (fun q h => Nat.le_trans hb1 h.1) hP) rfl rfl hl.1 rfl (lv_room (Nat.le_of_ble_eq_true rfl)) dX2_findWays_40 ⟨Nat.le_of_ble_eq_true rfl, Nat.le_of_ble_eq_true rfl⟩) hS (fun _ h => h) (fun _ h => h) (fun q_25 H locs hY hk hS => ?_)
        obtain ⟨hq_25, hP⟩ := hY
        replace hq_25 := hq_25.symm
        subst hq_25
        refine lv_istore (lv' := [(6, .int r_23), (0, .ref (b + 130)), (1, .ref (b + v1)), (2, .ref (b + v2)), (3, .int v3), (4, .int v4), (5, .int v5)]) hx hb dX2_findWays_43 hl (by decide) rfl (fun ls hl => ?_)
        refine lv_aload_n hx hb dX2_findWays_45 rfl (lv_at hl 2 rfl) ?_
        refine lv_iload hx hb dX2_findWays_46 (lv_at hl 0 rfl) ?_
        obtain ⟨s_26, r_27, z_28, h⟩ := gb_cd_s h
        refine gb_calli (va_runV (C := RX0) (As := [.int r_23]) (rest := []) ⟨hx, hb, hml, hown, hq⟩ (cc_Border_hasPath_B l D cT tt b1 b hb1 n s_22 v1 r_23 s_26 r_27 z_28) (cwV 1 hq (gb_gV w_1053 w_608 w_609 w_4 w_610) rfl rfl rfl (by decide +kernel) ⟨Nat.le_of_ble_eq_true rfl, Nat.le_of_ble_eq_true rfl⟩) (gb_preV (r := (RX0, TX0, 1)) (ci := 0) (q0 := v1) hSt hP rfl (gb_at b (gb_cB z_15).1) hS (fun q h => Nat.le_trans hb1 h.1) hP) rfl rfl hl.1 rfl (lv_room (Nat.le_of_ble_eq_true rfl)) dX2_findWays_48 ⟨Nat.le_of_ble_eq_true rfl, Nat.le_of_ble_eq_true rfl⟩) hS (fun _ h => h) (fun _ h => h) (fun q_29 H locs hY hk hS => ?_)
        obtain ⟨hq_29, hP⟩ := hY
        replace hq_29 := hq_29.symm
        subst hq_29
        refine lv_if_eq (tgt := 97) hx hb dX2_findWays_51 (by decide) (fun c_30 => ?_) (fun c_30 => ?_)
        · rw [if_pos c_30] at h
          refine lv_aload_n hx hb dX2_findWays_97 rfl (lv_at hl 3 rfl) ?_
          refine lv_iload hx hb dX2_findWays_98 (lv_at hl 6 rfl) ?_
          obtain ⟨s_31, r_32, z_33, h⟩ := gb_cd_s h
          refine gb_calli (va_runV (C := RX1) (As := [.int v5]) (rest := []) ⟨hx, hb, hml, hown, hq⟩ (cc_Dawn_marksSeen_D l D cT tt b1 b hb1 n s_26 v2 v5 s_31 r_32 z_33) (cwV 1 hq (gb_gV w_1054 w_859 w_860 w_9 w_861) rfl rfl rfl (by decide +kernel) ⟨Nat.le_of_ble_eq_true rfl, Nat.le_of_ble_eq_true rfl⟩) (gb_preV (r := (RX1, TX1, 4)) (ci := 1) (q0 := v2) hSt hP rfl (gb_at b (gb_cD z_16).1) hS (fun q h => Nat.le_trans hb1 h.1) hP) rfl rfl hl.1 rfl (lv_room (Nat.le_of_ble_eq_true rfl)) dX2_findWays_100 ⟨Nat.le_of_ble_eq_true rfl, Nat.le_of_ble_eq_true rfl⟩) hS (fun _ h => h) (fun _ h => h) (fun q_34 H locs hY hk hS => ?_)
          obtain ⟨hq_34, hP⟩ := hY
          replace hq_34 := hq_34.symm
          subst hq_34
          refine lv_if_ne (tgt := 113) hx hb dX2_findWays_103 (by decide) (fun c_35 => ?_) (fun c_35 => ?_)
          · rw [if_neg c_35] at h
            refine lv_aload_n hx hb dX2_findWays_113 rfl (lv_at hl 1 rfl) ?_
            obtain ⟨z_36, h⟩ := gb_kk_s h
            refine va_get (ci := 2) (v := (.ref (b + (s_31.2.1 4)))) (C := RX2) (T := TX2) (N := 6) hx hb hq i_X2 hown hK hP 130 (gb_at b rfl) rfl 2 (by decide) (hq _ w_296) (fun _ h9 => h9) rfl dX2_findWays_114 ?_
            refine lv_lconst (v := 0) hx hb dX2_findWays_117 (by decide) ?_
            obtain ⟨s_37, r_38, z_39, h⟩ := gb_cd_s h
            refine gb_callv (va_runS (As := [.ref (b + (s_31.2.1 4)), .long (0 : Int64)]) (rest := []) ⟨hx, hb, hml, hown, hq⟩ (cc_java_util_Arrays_fillJ_J l D cT tt b1 b hb1 n s_31 (s_31.2.1 4) (0 : Int64) s_37 r_38 z_39) (va_cwS 2 hq (gb_gS w_1048 w_1049 w_20 w_1050) rfl rfl rfl (by decide +kernel) ⟨Nat.le_of_ble_eq_true rfl, Nat.le_of_ble_eq_true rfl⟩) (gb_preS hSt hS (fun q h => Nat.le_trans hb1 h.1) hP) rfl rfl hl.1 rfl (lv_room (Nat.le_of_ble_eq_true rfl)) dX2_findWays_118 ⟨Nat.le_of_ble_eq_true rfl, Nat.le_of_ble_eq_true rfl⟩) hS (fun _ h => h) (fun _ h => h) (fun H locs hY hk hS => ?_)
            have hP := hY
            obtain ⟨x_41, ex_41⟩ : ∃ q, q = (v5 + 1) := ⟨_, rfl⟩
            replace h := gb_lt_s ex_41 h
            refine lv_iinc (v := x_41) (lv' := [(5, .int x_41), (6, .int r_23), (0, .ref (b + 130)), (1, .ref (b + v1)), (2, .ref (b + v2)), (3, .int v3), (4, .int v4)]) hx hb dX2_findWays_121 hl (k := 6) rfl (by rw [ex_41]; rfl) (by decide) rfl (fun ls hl => ?_)
            refine lv_goto (tgt := 28) hx hb dX2_findWays_124 (by decide) ?_
            exact ih _ _ _ _ _ _ _ _ _ h hP hS (lv_sub hl [2, 3, 4, 5, 6, 0] rfl)
          · rw [if_pos c_35] at h
            refine lv_iload hx hb dX2_findWays_106 (lv_at hl 6 rfl) ?_
            refine lv_iload hx hb dX2_findWays_108 (lv_at hl 5 rfl) ?_
            refine lv_icmp_ne (tgt := 121) hx hb dX2_findWays_110 (by decide) (fun c_42 => ?_) (fun c_42 => ?_)
            · rw [if_neg c_42] at h
              obtain ⟨x_43, ex_43⟩ : ∃ q, q = (v5 + 1) := ⟨_, rfl⟩
              replace h := gb_lt_s ex_43 h
              refine lv_iinc (v := x_43) (lv' := [(5, .int x_43), (6, .int r_23), (0, .ref (b + 130)), (1, .ref (b + v1)), (2, .ref (b + v2)), (3, .int v3), (4, .int v4)]) hx hb dX2_findWays_121 hl (k := 6) rfl (by rw [ex_43]; rfl) (by decide) rfl (fun ls hl => ?_)
              refine lv_goto (tgt := 28) hx hb dX2_findWays_124 (by decide) ?_
              exact ih _ _ _ _ _ _ _ _ _ h hP hS (lv_sub hl [2, 3, 4, 5, 6, 0] rfl)
            · rw [if_pos c_42] at h
              refine lv_aload_n hx hb dX2_findWays_113 rfl (lv_at hl 1 rfl) ?_
              obtain ⟨z_44, h⟩ := gb_kk_s h
              refine va_get (ci := 2) (v := (.ref (b + (s_31.2.1 4)))) (C := RX2) (T := TX2) (N := 6) hx hb hq i_X2 hown hK hP 130 (gb_at b rfl) rfl 2 (by decide) (hq _ w_296) (fun _ h9 => h9) rfl dX2_findWays_114 ?_
              refine lv_lconst (v := 0) hx hb dX2_findWays_117 (by decide) ?_
              obtain ⟨s_45, r_46, z_47, h⟩ := gb_cd_s h
              refine gb_callv (va_runS (As := [.ref (b + (s_31.2.1 4)), .long (0 : Int64)]) (rest := []) ⟨hx, hb, hml, hown, hq⟩ (cc_java_util_Arrays_fillJ_J l D cT tt b1 b hb1 n s_31 (s_31.2.1 4) (0 : Int64) s_45 r_46 z_47) (va_cwS 2 hq (gb_gS w_1048 w_1049 w_20 w_1050) rfl rfl rfl (by decide +kernel) ⟨Nat.le_of_ble_eq_true rfl, Nat.le_of_ble_eq_true rfl⟩) (gb_preS hSt hS (fun q h => Nat.le_trans hb1 h.1) hP) rfl rfl hl.1 rfl (lv_room (Nat.le_of_ble_eq_true rfl)) dX2_findWays_118 ⟨Nat.le_of_ble_eq_true rfl, Nat.le_of_ble_eq_true rfl⟩) hS (fun _ h => h) (fun _ h => h) (fun H locs hY hk hS => ?_)
              have hP := hY
              obtain ⟨x_49, ex_49⟩ : ∃ q, q = (v5 + 1) := ⟨_, rfl⟩
              replace h := gb_lt_s ex_49 h
              refine lv_iinc (v := x_49) (lv' := [(5, .int x_49), (6, .int r_23), (0, .ref (b + 130)), (1, .ref (b + v1)), (2, .ref (b + v2)), (3, .int v3), (4, .int v4)]) hx hb dX2_findWays_121 hl (k := 6) rfl (by rw [ex_49]; rfl) (by decide) rfl (fun ls hl => ?_)
              refine lv_goto (tgt := 28) hx hb dX2_findWays_124 (by decide) ?_
              exact ih _ _ _ _ _ _ _ _ _ h hP hS (lv_sub hl [2, 3, 4, 5, 6, 0] rfl)
        · rw [if_neg c_30] at h
          refine lv_aload_n hx hb dX2_findWays_54 rfl (lv_at hl 1 rfl) ?_
          refine lv_aload_n hx hb dX2_findWays_55 rfl (lv_at hl 2 rfl) ?_
          refine lv_iload hx hb dX2_findWays_56 (lv_at hl 0 rfl) ?_
          refine lv_aload_n hx hb dX2_findWays_58 rfl (lv_at hl 1 rfl) ?_
          refine va_get (ci := 2) (v := (.ref (b + 131))) (C := RX2) (T := TX2) (N := 6) hx hb hq i_X2 hown hK hP 130 (gb_at b rfl) rfl 0 (by decide) (hq _ w_294) (fun _ h9 => h9) rfl dX2_findWays_59 ?_
          obtain ⟨s_50, r_51, z_52, h⟩ := gb_cd_s h
          refine gb_callv (va_runV (C := RX2) (As := [.ref (b + v1), .int r_23, .ref (b + 131)]) (rest := []) ⟨hx, hb, hml, hown, hq⟩ (cc_Flocks_sumUp_B_c131 l D cT tt b1 b hb1 n s_26 v1 r_23 s_50 r_51 z_52) (cwV 3 hq (gb_gV w_982 w_984 s_2_10 w_13 w_985) rfl rfl rfl (by decide +kernel) ⟨Nat.le_of_ble_eq_true rfl, Nat.le_of_ble_eq_true rfl⟩) (gb_preV (r := (RX2, TX2, 6)) (ci := 2) (q0 := 130) hSt hP rfl (gb_at b rfl) hS (fun q h => Nat.le_trans hb1 h.1) hP) rfl rfl hl.1 rfl (lv_room (Nat.le_of_ble_eq_true rfl)) dX2_findWays_62 ⟨Nat.le_of_ble_eq_true rfl, Nat.le_of_ble_eq_true rfl⟩) hS (fun _ h => h) (fun _ h => h) (fun H locs hY hk hS => ?_)
          have hP := hY
          refine lv_aload_n hx hb dX2_findWays_65 rfl (lv_at hl 1 rfl) ?_
          refine lv_aload_n hx hb dX2_findWays_66 rfl (lv_at hl 3 rfl) ?_
          refine lv_iload hx hb dX2_findWays_67 (lv_at hl 6 rfl) ?_
          obtain ⟨s_54, r_55, z_56, h⟩ := gb_cd_s h
          refine gb_calli (va_runV (C := RX1) (As := [.int v5]) (rest := [.ref (b + 130)]) ⟨hx, hb, hml, hown, hq⟩ (cc_Dawn_marksSeen_D l D cT tt b1 b hb1 n s_50 v2 v5 s_54 r_55 z_56) (cwV 1 hq (gb_gV w_1054 w_859 w_860 w_9 w_861) rfl rfl rfl (by decide +kernel) ⟨Nat.le_of_ble_eq_true rfl, Nat.le_of_ble_eq_true rfl⟩) (gb_preV (r := (RX1, TX1, 4)) (ci := 1) (q0 := v2) hSt hP rfl (gb_at b (gb_cD z_16).1) hS (fun q h => Nat.le_trans hb1 h.1) hP) rfl rfl hl.1 rfl (lv_room (Nat.le_of_ble_eq_true rfl)) dX2_findWays_69 ⟨Nat.le_of_ble_eq_true rfl, Nat.le_of_ble_eq_true rfl⟩) hS (fun _ h => h) (fun _ h => h) (fun q_57 H locs hY hk hS => ?_)
          obtain ⟨hq_57, hP⟩ := hY
          replace hq_57 := hq_57.symm
          subst hq_57
          refine lv_iload_n hx hb dX2_findWays_72 rfl (lv_at hl 4 rfl) ?_
          refine lv_iconst (v := (-1)) hx hb dX2_findWays_73 (by decide) ?_
          refine lv_icmp_eq (tgt := 90) hx hb dX2_findWays_74 (by decide) (fun c_58 => ?_) (fun c_58 => ?_)
          · rw [if_pos c_58] at h
            refine lv_iconst (v := 0) hx hb dX2_findWays_90 (by decide) ?_
            obtain ⟨s_59, r_60, z_61, h⟩ := gb_cd_s h
            refine gb_callv (va_runV (C := RX2) (As := [.int r_55, .int 0]) (rest := []) ⟨hx, hb, hml, hown, hq⟩ (cc_Flocks_goBy l D cT tt b1 b hb1 n s_54 r_55 0 s_59 r_60 z_61) (cwV 2 hq (gb_gV w_1055 w_1057 s_2_12 w_13 w_1058) rfl rfl rfl (by decide +kernel) ⟨Nat.le_of_ble_eq_true rfl, Nat.le_of_ble_eq_true rfl⟩) (gb_preV (r := (RX2, TX2, 6)) (ci := 2) (q0 := 130) hSt hP rfl (gb_at b rfl) hS (fun q h => Nat.le_trans hb1 h.1) hP) rfl rfl hl.1 rfl (lv_room (Nat.le_of_ble_eq_true rfl)) dX2_findWays_91 ⟨Nat.le_of_ble_eq_true rfl, Nat.le_of_ble_eq_true rfl⟩) hS (fun _ h => h) (fun _ h => h) (fun H locs hY hk hS => ?_)
            have hP := hY
            refine lv_goto (tgt := 121) hx hb dX2_findWays_94 (by decide) ?_
            obtain ⟨x_63, ex_63⟩ : ∃ q, q = (v5 + 1) := ⟨_, rfl⟩
            replace h := gb_lt_s ex_63 h
            refine lv_iinc (v := x_63) (lv' := [(5, .int x_63), (6, .int r_23), (0, .ref (b + 130)), (1, .ref (b + v1)), (2, .ref (b + v2)), (3, .int v3), (4, .int v4)]) hx hb dX2_findWays_121 hl (k := 6) rfl (by rw [ex_63]; rfl) (by decide) rfl (fun ls hl => ?_)
            refine lv_goto (tgt := 28) hx hb dX2_findWays_124 (by decide) ?_
            exact ih _ _ _ _ _ _ _ _ _ h hP hS (lv_sub hl [2, 3, 4, 5, 6, 0] rfl)
          · rw [if_neg c_58] at h
            refine lv_iload hx hb dX2_findWays_77 (lv_at hl 6 rfl) ?_
            refine lv_iload hx hb dX2_findWays_79 (lv_at hl 5 rfl) ?_
            refine lv_icmp_ne (tgt := 90) hx hb dX2_findWays_81 (by decide) (fun c_64 => ?_) (fun c_64 => ?_)
            · rw [if_neg c_64] at h
              refine lv_iconst (v := 0) hx hb dX2_findWays_90 (by decide) ?_
              obtain ⟨s_65, r_66, z_67, h⟩ := gb_cd_s h
              refine gb_callv (va_runV (C := RX2) (As := [.int r_55, .int 0]) (rest := []) ⟨hx, hb, hml, hown, hq⟩ (cc_Flocks_goBy l D cT tt b1 b hb1 n s_54 r_55 0 s_65 r_66 z_67) (cwV 2 hq (gb_gV w_1055 w_1057 s_2_12 w_13 w_1058) rfl rfl rfl (by decide +kernel) ⟨Nat.le_of_ble_eq_true rfl, Nat.le_of_ble_eq_true rfl⟩) (gb_preV (r := (RX2, TX2, 6)) (ci := 2) (q0 := 130) hSt hP rfl (gb_at b rfl) hS (fun q h => Nat.le_trans hb1 h.1) hP) rfl rfl hl.1 rfl (lv_room (Nat.le_of_ble_eq_true rfl)) dX2_findWays_91 ⟨Nat.le_of_ble_eq_true rfl, Nat.le_of_ble_eq_true rfl⟩) hS (fun _ h => h) (fun _ h => h) (fun H locs hY hk hS => ?_)
              have hP := hY
              refine lv_goto (tgt := 121) hx hb dX2_findWays_94 (by decide) ?_
              obtain ⟨x_69, ex_69⟩ : ∃ q, q = (v5 + 1) := ⟨_, rfl⟩
              replace h := gb_lt_s ex_69 h
              refine lv_iinc (v := x_69) (lv' := [(5, .int x_69), (6, .int r_23), (0, .ref (b + 130)), (1, .ref (b + v1)), (2, .ref (b + v2)), (3, .int v3), (4, .int v4)]) hx hb dX2_findWays_121 hl (k := 6) rfl (by rw [ex_69]; rfl) (by decide) rfl (fun ls hl => ?_)
              refine lv_goto (tgt := 28) hx hb dX2_findWays_124 (by decide) ?_
              exact ih _ _ _ _ _ _ _ _ _ h hP hS (lv_sub hl [2, 3, 4, 5, 6, 0] rfl)
            · rw [if_pos c_64] at h
              refine lv_iconst (v := 1) hx hb dX2_findWays_84 (by decide) ?_
              refine lv_iload_n hx hb dX2_findWays_85 rfl (lv_at hl 4 rfl) ?_
              refine lv_ishl hx hb dX2_findWays_86 ?_
              refine lv_goto (tgt := 91) hx hb dX2_findWays_87 (by decide) ?_
              obtain ⟨s_70, r_71, z_72, h⟩ := gb_cd_s h
              refine gb_callv (va_runV (C := RX2) (As := [.int r_55, .int ((1 : Int32) <<< (v3 &&& 31))]) (rest := []) ⟨hx, hb, hml, hown, hq⟩ (cc_Flocks_goBy l D cT tt b1 b hb1 n s_54 r_55 ((1 : Int32) <<< (v3 &&& 31)) s_70 r_71 z_72) (cwV 2 hq (gb_gV w_1055 w_1057 s_2_12 w_13 w_1058) rfl rfl rfl (by decide +kernel) ⟨Nat.le_of_ble_eq_true rfl, Nat.le_of_ble_eq_true rfl⟩) (gb_preV (r := (RX2, TX2, 6)) (ci := 2) (q0 := 130) hSt hP rfl (gb_at b rfl) hS (fun q h => Nat.le_trans hb1 h.1) hP) rfl rfl hl.1 rfl (lv_room (Nat.le_of_ble_eq_true rfl)) dX2_findWays_91 ⟨Nat.le_of_ble_eq_true rfl, Nat.le_of_ble_eq_true rfl⟩) hS (fun _ h => h) (fun _ h => h) (fun H locs hY hk hS => ?_)
              have hP := hY
              refine lv_goto (tgt := 121) hx hb dX2_findWays_94 (by decide) ?_
              obtain ⟨x_74, ex_74⟩ : ∃ q, q = (v5 + 1) := ⟨_, rfl⟩
              replace h := gb_lt_s ex_74 h
              refine lv_iinc (v := x_74) (lv' := [(5, .int x_74), (6, .int r_23), (0, .ref (b + 130)), (1, .ref (b + v1)), (2, .ref (b + v2)), (3, .int v3), (4, .int v4)]) hx hb dX2_findWays_121 hl (k := 6) rfl (by rw [ex_74]; rfl) (by decide) rfl (fun ls hl => ?_)
              refine lv_goto (tgt := 28) hx hb dX2_findWays_124 (by decide) ?_
              exact ih _ _ _ _ _ _ _ _ _ h hP hS (lv_sub hl [2, 3, 4, 5, 6, 0] rfl)
  unfold cs_Flocks_findWays_B_D at h
  obtain ⟨z_1, h⟩ := gb_kk_s h
  obtain ⟨z_2, h⟩ := gb_kk_s h
  refine lv_aload_n hx hb dX2_findWays_0 rfl (lv_at hl 0 rfl) ?_
  refine lv_iconst (v := 1) hx hb dX2_findWays_1 (by decide) ?_
  refine lv_aload_n hx hb dX2_findWays_2 rfl (lv_at hl 1 rfl) ?_
  obtain ⟨s_3, r_4, z_5, h⟩ := gb_cd_s h
  refine gb_calli (va_runV (C := RX0) (As := []) (rest := [.int 1, .ref (b + 130)]) ⟨hx, hb, hml, hown, hq⟩ (cc_Border_geese_B l D cT tt b1 b hb1 n σ p1 s_3 r_4 z_5) (cwV 0 hq (gb_gV w_986 w_477 w_478 w_4 w_479) rfl rfl rfl (by decide +kernel) ⟨Nat.le_of_ble_eq_true rfl, Nat.le_of_ble_eq_true rfl⟩) (gb_preV (r := (RX0, TX0, 1)) (ci := 0) (q0 := p1) hSt hP rfl (gb_at b (gb_cB z_1).1) hS (fun q h => Nat.le_trans hb1 h.1) hP) rfl rfl hl.1 rfl (lv_room (Nat.le_of_ble_eq_true rfl)) dX2_findWays_3 ⟨Nat.le_of_ble_eq_true rfl, Nat.le_of_ble_eq_true rfl⟩) hS (fun _ h => h) (fun _ h => h) (fun q_6 H locs hY hk hS => ?_)
  obtain ⟨hq_6, hP⟩ := hY
  replace hq_6 := hq_6.symm
  subst hq_6
  refine lv_ishl hx hb dX2_findWays_6 ?_
  refine gb_put (ci := 2) (v := (.int ((1 : Int32) <<< (r_4 &&& 31)))) (ty := .int) (C := RX2) (T := TX2) (N := 6) hx hb hq i_X2 tyX2 tyX2_ok nmX2 hown hK hP (fun k h => ⟨Nat.le_add_right b k, Nat.add_lt_add_left h b⟩) hS rfl 130 rfl rfl 4 (by decide) (hq _ w_298) (fun _ h9 => h9) rfl (by decide +kernel) rfl rfl (Nat.le_of_ble_eq_true rfl) dX2_findWays_7 (fun H locs hP hz_ hS => ?_)
  obtain ⟨s_7, es_7⟩ : ∃ q, q = (gb_su s_3 130 (upd (s_3.1 130) 4 ((1 : Int32) <<< (r_4 &&& 31)))) := ⟨_, rfl⟩
  replace hP : va_P D vwCl (gb_wl b (gb_CW cT b s_7)) H := by rw [es_7]; exact hP
  replace h := gb_lt_s es_7 h
  refine lv_aload_n hx hb dX2_findWays_10 rfl (lv_at hl 0 rfl) ?_
  obtain ⟨z_8, h⟩ := gb_kk_s h
  refine va_get (ci := 2) (v := (.ref (b + (s_7.2.1 4)))) (C := RX2) (T := TX2) (N := 6) hx hb hq i_X2 hown hK hP 130 (gb_at b rfl) rfl 2 (by decide) (hq _ w_296) (fun _ h9 => h9) rfl dX2_findWays_11 ?_
  refine lv_lconst (v := 0) hx hb dX2_findWays_14 (by decide) ?_
  obtain ⟨s_9, r_10, z_11, h⟩ := gb_cd_s h
  refine gb_callv (va_runS (As := [.ref (b + (s_7.2.1 4)), .long (0 : Int64)]) (rest := []) ⟨hx, hb, hml, hown, hq⟩ (cc_java_util_Arrays_fillJ_J l D cT tt b1 b hb1 n s_7 (s_7.2.1 4) (0 : Int64) s_9 r_10 z_11) (va_cwS 2 hq (gb_gS w_1048 w_1049 w_20 w_1050) rfl rfl rfl (by decide +kernel) ⟨Nat.le_of_ble_eq_true rfl, Nat.le_of_ble_eq_true rfl⟩) (gb_preS hSt hS (fun q h => Nat.le_trans hb1 h.1) hP) rfl rfl hl.1 rfl (lv_room (Nat.le_of_ble_eq_true rfl)) dX2_findWays_15 ⟨Nat.le_of_ble_eq_true rfl, Nat.le_of_ble_eq_true rfl⟩) hS (fun _ h => h) (fun _ h => h) (fun H locs hY hk hS => ?_)
  have hP := hY
  refine lv_aload_n hx hb dX2_findWays_18 rfl (lv_at hl 0 rfl) ?_
  obtain ⟨z_13, h⟩ := gb_kk_s h
  refine va_get (ci := 2) (v := (.ref (b + (s_9.2.1 4)))) (C := RX2) (T := TX2) (N := 6) hx hb hq i_X2 hown hK hP 130 (gb_at b rfl) rfl 2 (by decide) (hq _ w_296) (fun _ h9 => h9) rfl dX2_findWays_19 ?_
  refine lv_iconst (v := 0) hx hb dX2_findWays_22 (by decide) ?_
  refine lv_lconst (v := 1) hx hb dX2_findWays_23 (by decide) ?_
  refine va_last (x := (1 : Int64)) hx hb hK hP (gb_D (fun k h => ⟨Nat.le_add_right b k, Nat.add_lt_add_left h b⟩)) hS (s_9.2.1 4) 3 (gb_at b (gb_cJ z_13)) rfl (gb_in rfl) dX2_findWays_24 (fun H locs hP hD hS => ?_)
  rw [gb_set] at hP
  obtain ⟨s_14, es_14⟩ : ∃ q, q = (gb_sg s_9 (s_9.2.1 4) (vp_updL (s_9.2.2 (s_9.2.1 4)) (Int32.toNatClampNeg 0) (1 : Int64))) := ⟨_, rfl⟩
  replace hP : va_P D vwCl (gb_wl b (gb_CW cT b s_14)) H := by rw [es_14, ← gb_wJ z_13]; exact hP
  replace h := gb_lt_s es_14 h
  refine lv_iconst (v := 0) hx hb dX2_findWays_25 (by decide) ?_
  refine lv_istore (lv' := [(5, .int 0), (0, .ref (b + 130)), (1, .ref (b + p1)), (2, .ref (b + p2)), (3, .int p3), (4, .int p4)]) hx hb dX2_findWays_26 hl (by decide) rfl (fun ls hl => ?_)
  exact L28_1 n _ _ _ _ _ _ _ _ _ h hP hS (lv_sub hl [1, 2, 3, 4, 5, 0] rfl)
theorem w_1047 : (Cond.code ({ cls := "GooseBorder$Flocks", name := "findWays", desc := "(LGooseBorder$Border;LGooseBorder$Dawn;II)V" } : MethodName) prog_4_method_9_code (7 : Nat) (Option.none : Option FieldType)) ∈ gb_wA := gb_t5 87 rfl rfl
theorem w_1044 : (Cond.methodLink "GooseBorder" (355 : Nat) ({ cls := "GooseBorder$Flocks", name := "findWays", desc := "(LGooseBorder$Border;LGooseBorder$Dawn;II)V" } : MethodName)) ∈ gb_wA := gb_t5 84 rfl rfl
theorem w_1045 : (Cond.instanceMethod ({ cls := "GooseBorder$Flocks", name := "findWays", desc := "(LGooseBorder$Border;LGooseBorder$Dawn;II)V" } : MethodName)) ∈ gb_wA := gb_t5 85 rfl rfl
theorem w_1046 : (Cond.selects "GooseBorder$Flocks" ({ cls := "GooseBorder$Flocks", name := "findWays", desc := "(LGooseBorder$Border;LGooseBorder$Dawn;II)V" } : MethodName) ({ cls := "GooseBorder$Flocks", name := "findWays", desc := "(LGooseBorder$Border;LGooseBorder$Dawn;II)V" } : MethodName)) ∈ gb_wA := gb_t5 86 rfl rfl
theorem dX11_fits_38 : decode cX11_fits 38 = .ok (.aload_n 0, 1) := dc_42 (show ((cX11_fits.data.toList.drop 38).take 1).map UInt8.toNat = [42] by decide +kernel)
theorem dX11_fits_39 : decode cX11_fits 39 = .ok (.getfield 70, 3) := dc_180 (show ((cX11_fits.data.toList.drop 39).take 3).map UInt8.toNat = [180, 0, 70] by decide +kernel) rfl
theorem dX11_fits_42 : decode cX11_fits 42 = .ok (.invokevirtual 359, 3) := dc_182 (show ((cX11_fits.data.toList.drop 42).take 3).map UInt8.toNat = [182, 1, 103] by decide +kernel) rfl
theorem dX2_allWays_0 : decode cX2_allWays 0 = .ok (.lconst 0, 1) := dc_9 (show ((cX2_allWays.data.toList.drop 0).take 1).map UInt8.toNat = [9] by decide +kernel)
theorem dX2_allWays_1 : decode cX2_allWays 1 = .ok (.lstore_n 1, 1) := dc_64 (show ((cX2_allWays.data.toList.drop 1).take 1).map UInt8.toNat = [64] by decide +kernel)
theorem dX2_allWays_2 : decode cX2_allWays 2 = .ok (.iconst 0, 1) := dc_3 (show ((cX2_allWays.data.toList.drop 2).take 1).map UInt8.toNat = [3] by decide +kernel)
theorem dX2_allWays_3 : decode cX2_allWays 3 = .ok (.istore_n 3, 1) := dc_62 (show ((cX2_allWays.data.toList.drop 3).take 1).map UInt8.toNat = [62] by decide +kernel)
theorem dX2_allWays_4 : decode cX2_allWays 4 = .ok (.iload_n 3, 1) := dc_29 (show ((cX2_allWays.data.toList.drop 4).take 1).map UInt8.toNat = [29] by decide +kernel)
theorem dX2_allWays_5 : decode cX2_allWays 5 = .ok (.aload_n 0, 1) := dc_42 (show ((cX2_allWays.data.toList.drop 5).take 1).map UInt8.toNat = [42] by decide +kernel)
theorem dX2_allWays_6 : decode cX2_allWays 6 = .ok (.getfield 31, 3) := dc_180 (show ((cX2_allWays.data.toList.drop 6).take 3).map UInt8.toNat = [180, 0, 31] by decide +kernel) rfl
theorem dX2_allWays_9 : decode cX2_allWays 9 = .ok (.if_icmp .ge 18, 3) := dc_162 (show ((cX2_allWays.data.toList.drop 9).take 3).map UInt8.toNat = [162, 0, 18] by decide +kernel) rfl
theorem dX2_allWays_27 : decode cX2_allWays 27 = .ok (.lload_n 1, 1) := dc_31 (show ((cX2_allWays.data.toList.drop 27).take 1).map UInt8.toNat = [31] by decide +kernel)
theorem dX2_allWays_28 : decode cX2_allWays 28 = .ok (.lreturn, 1) := dc_173 (show ((cX2_allWays.data.toList.drop 28).take 1).map UInt8.toNat = [173] by decide +kernel)
theorem dX2_allWays_12 : decode cX2_allWays 12 = .ok (.lload_n 1, 1) := dc_31 (show ((cX2_allWays.data.toList.drop 12).take 1).map UInt8.toNat = [31] by decide +kernel)
theorem dX2_allWays_13 : decode cX2_allWays 13 = .ok (.aload_n 0, 1) := dc_42 (show ((cX2_allWays.data.toList.drop 13).take 1).map UInt8.toNat = [42] by decide +kernel)
theorem dX2_allWays_14 : decode cX2_allWays 14 = .ok (.getfield 18, 3) := dc_180 (show ((cX2_allWays.data.toList.drop 14).take 3).map UInt8.toNat = [180, 0, 18] by decide +kernel) rfl
theorem dX2_allWays_17 : decode cX2_allWays 17 = .ok (.iload_n 3, 1) := dc_29 (show ((cX2_allWays.data.toList.drop 17).take 1).map UInt8.toNat = [29] by decide +kernel)
theorem dX2_allWays_18 : decode cX2_allWays 18 = .ok (.laload, 1) := dc_47 (show ((cX2_allWays.data.toList.drop 18).take 1).map UInt8.toNat = [47] by decide +kernel)
theorem dX2_allWays_19 : decode cX2_allWays 19 = .ok (.ladd, 1) := dc_97 (show ((cX2_allWays.data.toList.drop 19).take 1).map UInt8.toNat = [97] by decide +kernel)
theorem dX2_allWays_20 : decode cX2_allWays 20 = .ok (.lstore_n 1, 1) := dc_64 (show ((cX2_allWays.data.toList.drop 20).take 1).map UInt8.toNat = [64] by decide +kernel)
theorem dX2_allWays_21 : decode cX2_allWays 21 = .ok (.iinc 3 1, 3) := dc_132 (show ((cX2_allWays.data.toList.drop 21).take 3).map UInt8.toNat = [132, 3, 1] by decide +kernel) rfl
theorem dX2_allWays_24 : decode cX2_allWays 24 = .ok (.goto (-20), 3) := dc_167 (show ((cX2_allWays.data.toList.drop 24).take 3).map UInt8.toNat = [167, 255, 236] by decide +kernel) rfl
def cs_Flocks_allWays_4 (n : Nat) : Nat → gb_S → Int64 → Int32 → gb_CR Int64
  | 0, _, _, _ => none
  | mm + 1, σ, v1, v3 => (if (σ.1 130 4) ≤ v3 then some (σ, v1) else gb_kk (gb_kJ (σ.2.1 4)) (gb_ck v3 256 (gb_lt ((σ.2.2 (σ.2.1 4)) (Int32.toNatClampNeg v3)) (fun x_4 => gb_lt (v1 + x_4) (fun x_5 => gb_lt (v3 + 1) (fun x_6 => cs_Flocks_allWays_4 n mm σ x_5 x_6))))))
def cs_Flocks_allWays (n : Nat) (σ : gb_S) : gb_CR Int64 := cs_Flocks_allWays_4 n n σ (0 : Int64) 0
set_option maxHeartbeats 8000000 in
set_option maxRecDepth 100000 in
theorem cc_Flocks_allWays (l : Launch) (D : va_G) (cT : Nat → ClassId) (tt : Nat → Nat) (b1 b : Nat) (hb1 : b1 ≤ b) (n : Nat) (σ : gb_S) (σE : gb_S) (rE : Int64) (h : cs_Flocks_allWays n σ = some (σE, rE)) : Met l yX2_allWays (.code yX2_allWays cX2_allWays 4 (some FieldType.long) :: gb_wA) ({ frames := 0, cells := 0, slots := 0, locals := 0 }) (gb_Pc D cT tt b1 [.ref (b + 130)] (fun h => va_P D vwCl (gb_wl b (gb_CW cT b σ)) h)) (gb_Ql (fun r h => r = rE ∧ va_P D vwCl (gb_wl b (gb_CW cT b σE)) h) (gb_fr b 135)) 0 0 (gb_fr b 135) := by
  refine Met.ofW (cc := cX2_allWays) (maxL := 4) (ret := (some FieldType.long)) (by decide) rfl ?_
  intro p e s m args below meth c s₁ B hml hv
  obtain ⟨rfl, hSt, hP⟩ := hv
  have hx := B.exec
  have hb := B.bytes
  have hr := B.returns
  have hts := atoms_spec (ws := .code yX2_allWays cX2_allWays 4 (some FieldType.long) :: gb_wA) B.pre
  have hq : ∀ w ∈ gb_wA, w.before _ s = true := fun w h => hts w (List.mem_cons_of_mem _ h)
  have hown : s.vm.findClass RX2 = some m.cls := findClass_of_methodNamed B.named
  have hlocks := B.notSynchronized
  clear B hts
  have hK := hSt.1
  have hS : va_S (gb_fr b 135) s.heap s.heap [] := va_S.rf
  have hl := lv_entry ([.ref (b + 130)]) (n := 4) (Nat.le_of_ble_eq_true rfl)
  rw [lg_entry_eq]
  generalize (lg_sl ([.ref (b + 130)]) ++ List.replicate (4 - (lg_sl ([.ref (b + 130)])).length) Slot.unset).toArray = ls at hl ⊢
  replace hl : lv_has ls 4 [(0, .ref (b + 130))] := hl
  have L4_1 : ∀ (mm : Nat) (σ : gb_S) (v1 : Int64) (v3 : Int32) (H : Heap) (locs : List Loc) (ls : Array Slot), cs_Flocks_allWays_4 n mm σ v1 v3 = some (σE, rE) → va_P D vwCl (gb_wl b (gb_CW cT b σ)) H → va_S (gb_fr b 135) s.heap H locs → lv_has ls 4 [(0, .ref (b + 130)), (1, .long v1), (3, .int v3)] → W p l e (headSpec (.code yX2_allWays cX2_allWays 4 (some FieldType.long) :: gb_wA) ({ frames := 0, cells := 0, slots := 0, locals := 0 })).room s m ([.ref (b + 130)]).toArray below meth c H locs 0 0 (MQ below (gb_Ql (fun r h => r = rE ∧ va_P D vwCl (gb_wl b (gb_CW cT b σE)) h) (gb_fr b 135)) ([.ref (b + 130)]).toArray s 0 0 (gb_fr b 135)) (F0 m 4 ls []) := by
    clear h hP hS hl ls
    intro mm
    induction mm with
    | zero =>
      intro σ v1 v3 H locs ls h
      cases h
    | succ mm ih =>
      intro σ v1 v3 H locs ls h hP hS hl
      rw [cs_Flocks_allWays_4] at h
      refine lv_iload_n hx hb dX2_allWays_4 rfl (lv_at hl 2 rfl) ?_
      refine lv_aload_n hx hb dX2_allWays_5 rfl (lv_at hl 0 rfl) ?_
      refine va_get (ci := 2) (v := (.int (σ.1 130 4))) (C := RX2) (T := TX2) (N := 6) hx hb hq i_X2 hown hK hP 130 (gb_at b rfl) rfl 4 (by decide) (hq _ w_298) (fun _ h9 => h9) rfl dX2_allWays_6 ?_
      refine lv_icmp_ge (tgt := 27) hx hb dX2_allWays_9 (by decide) (fun c_1 => ?_) (fun c_1 => ?_)
      · rw [if_pos c_1] at h
        refine lv_lload_n hx hb dX2_allWays_27 rfl (lv_at hl 1 rfl) ?_
        obtain ⟨e1, e2⟩ := gb_eq2 h
        exact W.lret (v := v1) hx hb hr (fun t ht hW => gb_rl ht ⟨e2, by rw [← e1]; exact hP⟩ hS) hS.2.2 dX2_allWays_28
      · rw [if_neg c_1] at h
        refine lv_lload_n hx hb dX2_allWays_12 rfl (lv_at hl 1 rfl) ?_
        refine lv_aload_n hx hb dX2_allWays_13 rfl (lv_at hl 0 rfl) ?_
        obtain ⟨z_2, h⟩ := gb_kk_s h
        refine va_get (ci := 2) (v := (.ref (b + (σ.2.1 4)))) (C := RX2) (T := TX2) (N := 6) hx hb hq i_X2 hown hK hP 130 (gb_at b rfl) rfl 2 (by decide) (hq _ w_296) (fun _ h9 => h9) rfl dX2_allWays_14 ?_
        refine lv_iload_n hx hb dX2_allWays_17 rfl (lv_at hl 2 rfl) ?_
        obtain ⟨z_3, h⟩ := gb_ck_s h
        refine va_lald hx hb hK hP (σ.2.1 4) 3 (gb_at b (gb_cJ z_2)) rfl z_3 dX2_allWays_18 ?_
        refine lv_topl (fun x_4 ex_4 => ?_)
        replace h := gb_lt_s ex_4 h
        refine lv_ladd hx hb dX2_allWays_19 ?_
        refine lv_topl (fun x_5 ex_5 => ?_)
        replace h := gb_lt_s ex_5 h
        refine lv_lstore_n (lv' := [(1, .long x_5), (0, .ref (b + 130)), (3, .int v3)]) hx hb dX2_allWays_20 rfl hl (by decide) rfl (fun ls hl => ?_)
        obtain ⟨x_6, ex_6⟩ : ∃ q, q = (v3 + 1) := ⟨_, rfl⟩
        replace h := gb_lt_s ex_6 h
        refine lv_iinc (v := x_6) (lv' := [(3, .int x_6), (1, .long x_5), (0, .ref (b + 130))]) hx hb dX2_allWays_21 hl (k := 2) rfl (by rw [ex_6]; rfl) (by decide) rfl (fun ls hl => ?_)
        refine lv_goto (tgt := 4) hx hb dX2_allWays_24 (by decide) ?_
        exact ih _ _ _ _ _ _ h hP hS (lv_sub hl [2, 1, 0] rfl)
  unfold cs_Flocks_allWays at h
  refine lv_lconst (v := 0) hx hb dX2_allWays_0 (by decide) ?_
  refine lv_lstore_n (lv' := [(1, .long (0 : Int64)), (0, .ref (b + 130))]) hx hb dX2_allWays_1 rfl hl (by decide) rfl (fun ls hl => ?_)
  refine lv_iconst (v := 0) hx hb dX2_allWays_2 (by decide) ?_
  refine lv_istore_n (lv' := [(3, .int 0), (1, .long (0 : Int64)), (0, .ref (b + 130))]) hx hb dX2_allWays_3 rfl hl (by decide) rfl (fun ls hl => ?_)
  exact L4_1 n _ _ _ _ _ _ h hP hS (lv_sub hl [2, 1, 0] rfl)
theorem w_1066 : (Cond.code ({ cls := "GooseBorder$Flocks", name := "allWays", desc := "()J" } : MethodName) prog_4_method_12_code (4 : Nat) (Option.some FieldType.long)) ∈ gb_wA := gb_t5 106 rfl rfl
theorem w_1063 : (Cond.methodLink "GooseBorder" (359 : Nat) ({ cls := "GooseBorder$Flocks", name := "allWays", desc := "()J" } : MethodName)) ∈ gb_wA := gb_t5 103 rfl rfl
theorem w_1064 : (Cond.instanceMethod ({ cls := "GooseBorder$Flocks", name := "allWays", desc := "()J" } : MethodName)) ∈ gb_wA := gb_t5 104 rfl rfl
theorem w_1065 : (Cond.selects "GooseBorder$Flocks" ({ cls := "GooseBorder$Flocks", name := "allWays", desc := "()J" } : MethodName) ({ cls := "GooseBorder$Flocks", name := "allWays", desc := "()J" } : MethodName)) ∈ gb_wA := gb_t5 105 rfl rfl
theorem dX11_fits_45 : decode cX11_fits 45 = .ok (.lreturn, 1) := dc_173 (show ((cX11_fits.data.toList.drop 45).take 1).map UInt8.toNat = [173] by decide +kernel)
def cs_Face_fits (n : Nat) (σ : gb_S) (p1 : Int32) (p2 : Int32) : gb_CR Int64 := gb_cd (cs_Face_borderAt n σ p1) (fun s_1 r_2 => (if r_2 = 0 then gb_cd (cs_Face_dawnAt n s_1 p2) (fun s_6 r_7 => (if r_7 = 0 then some (s_6, (-1 : Int64)) else gb_kk (gb_kD r_7) (some (s_6, (-1 : Int64))))) else gb_kk (gb_kB r_2) (gb_cd (cs_Face_dawnAt n s_1 p2) (fun s_13 r_14 => (if r_14 = 0 then some (s_13, (-1 : Int64)) else gb_kk (gb_kD r_14) (gb_cd (cs_Flocks_findWays_B_D n s_13 r_2 r_14 (-1) (-1)) (fun s_19 _ => gb_cd (cs_Flocks_allWays n s_19) (fun s_23 r_24 => some (s_23, r_24)))))))))
set_option maxHeartbeats 8000000 in
set_option maxRecDepth 100000 in
theorem cc_Face_fits (l : Launch) (D : va_G) (cT : Nat → ClassId) (tt : Nat → Nat) (b1 b : Nat) (hb1 : b1 ≤ b) (n : Nat) (σ : gb_S) (p1 : Int32) (p2 : Int32) (σE : gb_S) (rE : Int64) (h : cs_Face_fits n σ p1 p2 = some (σE, rE)) : Met l yX11_fits (.code yX11_fits cX11_fits 5 (some FieldType.long) :: gb_wA) ({ frames := 5, cells := 0, slots := 0, locals := 123 }) (gb_Pc D cT tt b1 [.ref (b + 0), .int p1, .int p2] (fun h => va_P D vwCl (gb_wl b (gb_CW cT b σ)) h)) (gb_Ql (fun r h => r = rE ∧ va_P D vwCl (gb_wl b (gb_CW cT b σE)) h) (gb_fr b 135)) 0 0 (gb_fr b 135) := by
  refine Met.ofW (cc := cX11_fits) (maxL := 5) (ret := (some FieldType.long)) (by decide) rfl ?_
  intro p e s m args below meth c s₁ B hml hv
  obtain ⟨rfl, hSt, hP⟩ := hv
  have hx := B.exec
  have hb := B.bytes
  have hr := B.returns
  have hts := atoms_spec (ws := .code yX11_fits cX11_fits 5 (some FieldType.long) :: gb_wA) B.pre
  have hq : ∀ w ∈ gb_wA, w.before _ s = true := fun w h => hts w (List.mem_cons_of_mem _ h)
  have hown : s.vm.findClass RX11 = some m.cls := findClass_of_methodNamed B.named
  have hlocks := B.notSynchronized
  clear B hts
  have hK := hSt.1
  have hS : va_S (gb_fr b 135) s.heap s.heap [] := va_S.rf
  have hl := lv_entry ([.ref (b + 0), .int p1, .int p2]) (n := 5) (Nat.le_of_ble_eq_true rfl)
  rw [lg_entry_eq]
  generalize (lg_sl ([.ref (b + 0), .int p1, .int p2]) ++ List.replicate (5 - (lg_sl ([.ref (b + 0), .int p1, .int p2])).length) Slot.unset).toArray = ls at hl ⊢
  replace hl : lv_has ls 5 [(0, .ref (b + 0)), (1, .int p1), (2, .int p2)] := hl
  unfold cs_Face_fits at h
  refine lv_aload_n hx hb dX11_fits_0 rfl (lv_at hl 0 rfl) ?_
  refine lv_iload_n hx hb dX11_fits_1 rfl (lv_at hl 1 rfl) ?_
  obtain ⟨s_1, r_2, z_3, h⟩ := gb_cd_s h
  refine gb_callq (va_runV (C := RX11) (As := [.int p1]) (rest := []) ⟨hx, hb, hml, hown, hq⟩ (cc_Face_borderAt l D cT tt b1 b hb1 n σ p1 s_1 r_2 z_3) (cwV 1 hq (gb_gV w_593 w_595 s_1_7 w_1 w_596) rfl rfl rfl (by decide +kernel) ⟨Nat.le_of_ble_eq_true rfl, Nat.le_of_ble_eq_true rfl⟩) (gb_preV (r := (RX11, TX11, 10)) (ci := 9) (q0 := 0) hSt hP rfl (gb_at b rfl) hS (fun q h => Nat.le_trans hb1 h.1) hP) rfl rfl hl.1 rfl (lv_room (Nat.le_of_ble_eq_true rfl)) dX11_fits_2 ⟨Nat.le_of_ble_eq_true rfl, Nat.le_of_ble_eq_true rfl⟩) hS (fun _ h => h) (fun _ h => h) (fun q_4 H locs hY hk hS => ?_)
  obtain ⟨hq_4, hP⟩ := hY
  subst hq_4
  rw [gb_onv]
  by_cases c_5 : r_2 = 0
  · rw [if_pos c_5] at h
    rw [gb_nv0 c_5]
    refine lv_astore_nN (lv' := [(3, .null), (0, .ref (b + 0)), (1, .int p1), (2, .int p2)]) hx hb dX11_fits_5 rfl hl (by decide) rfl (fun ls hl => ?_)
    refine lv_aload_n hx hb dX11_fits_6 rfl (lv_at hl 1 rfl) ?_
    refine lv_iload_n hx hb dX11_fits_7 rfl (lv_at hl 3 rfl) ?_
    obtain ⟨s_6, r_7, z_8, h⟩ := gb_cd_s h
    refine gb_callq (va_runV (C := RX11) (As := [.int p2]) (rest := []) ⟨hx, hb, hml, hown, hq⟩ (cc_Face_dawnAt l D cT tt b1 b hb1 n s_1 p2 s_6 r_7 z_8) (cwV 1 hq (gb_gV w_667 w_669 s_1_10 w_1 w_670) rfl rfl rfl (by decide +kernel) ⟨Nat.le_of_ble_eq_true rfl, Nat.le_of_ble_eq_true rfl⟩) (gb_preV (r := (RX11, TX11, 10)) (ci := 9) (q0 := 0) hSt hP rfl (gb_at b rfl) hS (fun q h => Nat.le_trans hb1 h.1) hP) rfl rfl hl.1 rfl (lv_room (Nat.le_of_ble_eq_true rfl)) dX11_fits_8 ⟨Nat.le_of_ble_eq_true rfl, Nat.le_of_ble_eq_true rfl⟩) hS (fun _ h => h) (fun _ h => h) (fun q_9 H locs hY hk hS => ?_)
    obtain ⟨hq_9, hP⟩ := hY
    subst hq_9
    rw [gb_onv]
    by_cases c_10 : r_7 = 0
    · rw [if_pos c_10] at h
      rw [gb_nv0 c_10]
      refine lv_astoreN (lv' := [(4, .null), (3, .null), (0, .ref (b + 0)), (1, .int p1), (2, .int p2)]) hx hb dX11_fits_11 hl (by decide) rfl (fun ls hl => ?_)
      refine lv_aload_nN hx hb dX11_fits_13 rfl (lv_at hl 1 rfl) ?_
      refine lv_ifnullN (tgt := 22) hx hb dX11_fits_14 (by decide) ?_
      refine lv_ldc2 (v := (-1)) hx hb hown (hq _ w_1043) dX11_fits_22 ?_
      obtain ⟨e1, e2⟩ := gb_eq2 h
      exact W.lret (v := (-1 : Int64)) hx hb hr (fun t ht hW => gb_rl ht ⟨e2, by rw [← e1]; exact hP⟩ hS) hS.2.2 dX11_fits_25
    rw [if_neg c_10] at h
    rw [gb_nv1 c_10]
    obtain ⟨z_11, h⟩ := gb_kk_s h
    refine lv_astore (lv' := [(4, .ref (b + r_7)), (3, .null), (0, .ref (b + 0)), (1, .int p1), (2, .int p2)]) hx hb dX11_fits_11 hl (by decide) rfl (fun ls hl => ?_)
    refine lv_aload_nN hx hb dX11_fits_13 rfl (lv_at hl 1 rfl) ?_
    refine lv_ifnullN (tgt := 22) hx hb dX11_fits_14 (by decide) ?_
    refine lv_ldc2 (v := (-1)) hx hb hown (hq _ w_1043) dX11_fits_22 ?_
    obtain ⟨e1, e2⟩ := gb_eq2 h
    exact W.lret (v := (-1 : Int64)) hx hb hr (fun t ht hW => gb_rl ht ⟨e2, by rw [← e1]; exact hP⟩ hS) hS.2.2 dX11_fits_25
  rw [if_neg c_5] at h
  rw [gb_nv1 c_5]
  obtain ⟨z_12, h⟩ := gb_kk_s h
  refine lv_astore_n (lv' := [(3, .ref (b + r_2)), (0, .ref (b + 0)), (1, .int p1), (2, .int p2)]) hx hb dX11_fits_5 rfl hl (by decide) rfl (fun ls hl => ?_)
  refine lv_aload_n hx hb dX11_fits_6 rfl (lv_at hl 1 rfl) ?_
  refine lv_iload_n hx hb dX11_fits_7 rfl (lv_at hl 3 rfl) ?_
  obtain ⟨s_13, r_14, z_15, h⟩ := gb_cd_s h
  refine gb_callq (va_runV (C := RX11) (As := [.int p2]) (rest := []) ⟨hx, hb, hml, hown, hq⟩ (cc_Face_dawnAt l D cT tt b1 b hb1 n s_1 p2 s_13 r_14 z_15) (cwV 1 hq (gb_gV w_667 w_669 s_1_10 w_1 w_670) rfl rfl rfl (by decide +kernel) ⟨Nat.le_of_ble_eq_true rfl, Nat.le_of_ble_eq_true rfl⟩) (gb_preV (r := (RX11, TX11, 10)) (ci := 9) (q0 := 0) hSt hP rfl (gb_at b rfl) hS (fun q h => Nat.le_trans hb1 h.1) hP) rfl rfl hl.1 rfl (lv_room (Nat.le_of_ble_eq_true rfl)) dX11_fits_8 ⟨Nat.le_of_ble_eq_true rfl, Nat.le_of_ble_eq_true rfl⟩) hS (fun _ h => h) (fun _ h => h) (fun q_16 H locs hY hk hS => ?_)
  obtain ⟨hq_16, hP⟩ := hY
  subst hq_16
  rw [gb_onv]
  by_cases c_17 : r_14 = 0
  · rw [if_pos c_17] at h
    rw [gb_nv0 c_17]
    refine lv_astoreN (lv' := [(4, .null), (3, .ref (b + r_2)), (0, .ref (b + 0)), (1, .int p1), (2, .int p2)]) hx hb dX11_fits_11 hl (by decide) rfl (fun ls hl => ?_)
    refine lv_aload_n hx hb dX11_fits_13 rfl (lv_at hl 1 rfl) ?_
    refine lv_ifnull hx hb dX11_fits_14 ?_
    refine lv_aloadN hx hb dX11_fits_17 (lv_at hl 0 rfl) ?_
    refine lv_ifnonnullN hx hb dX11_fits_19 ?_
    refine lv_ldc2 (v := (-1)) hx hb hown (hq _ w_1043) dX11_fits_22 ?_
    obtain ⟨e1, e2⟩ := gb_eq2 h
    exact W.lret (v := (-1 : Int64)) hx hb hr (fun t ht hW => gb_rl ht ⟨e2, by rw [← e1]; exact hP⟩ hS) hS.2.2 dX11_fits_25
  rw [if_neg c_17] at h
  rw [gb_nv1 c_17]
  obtain ⟨z_18, h⟩ := gb_kk_s h
  refine lv_astore (lv' := [(4, .ref (b + r_14)), (3, .ref (b + r_2)), (0, .ref (b + 0)), (1, .int p1), (2, .int p2)]) hx hb dX11_fits_11 hl (by decide) rfl (fun ls hl => ?_)
  refine lv_aload_n hx hb dX11_fits_13 rfl (lv_at hl 1 rfl) ?_
  refine lv_ifnull hx hb dX11_fits_14 ?_
  refine lv_aload hx hb dX11_fits_17 (lv_at hl 0 rfl) ?_
  refine lv_ifnonnull (tgt := 26) hx hb dX11_fits_19 (by decide) ?_
  refine lv_aload_n hx hb dX11_fits_26 rfl (lv_at hl 2 rfl) ?_
  refine va_get (ci := 9) (v := (.ref (b + 130))) (C := RX11) (T := TX11) (N := 10) hx hb hq i_X11 hown hK hP 0 (gb_at b rfl) rfl 8 (by decide) (hq _ w_323) (fun _ h9 => h9) rfl dX11_fits_27 ?_
  refine lv_aload_n hx hb dX11_fits_30 rfl (lv_at hl 1 rfl) ?_
  refine lv_aload hx hb dX11_fits_31 (lv_at hl 0 rfl) ?_
  refine lv_iconst (v := (-1)) hx hb dX11_fits_33 (by decide) ?_
  refine lv_iconst (v := (-1)) hx hb dX11_fits_34 (by decide) ?_
  obtain ⟨s_19, r_20, z_21, h⟩ := gb_cd_s h
  refine gb_callv (va_runV (C := RX2) (As := [.ref (b + r_2), .ref (b + r_14), .int (-1), .int (-1)]) (rest := []) ⟨hx, hb, hml, hown, hq⟩ (cc_Flocks_findWays_B_D l D cT tt b1 b hb1 n s_13 r_2 r_14 (-1) (-1) s_19 r_20 z_21) (cwV 4 hq (gb_gV w_1044 w_1045 w_1046 w_13 w_1047) rfl rfl rfl (by decide +kernel) ⟨Nat.le_of_ble_eq_true rfl, Nat.le_of_ble_eq_true rfl⟩) (gb_preV (r := (RX2, TX2, 6)) (ci := 2) (q0 := 130) hSt hP rfl (gb_at b rfl) hS (fun q h => Nat.le_trans hb1 h.1) hP) rfl rfl hl.1 rfl (lv_room (Nat.le_of_ble_eq_true rfl)) dX11_fits_35 ⟨Nat.le_of_ble_eq_true rfl, Nat.le_of_ble_eq_true rfl⟩) hS (fun _ h => h) (fun _ h => h) (fun H locs hY hk hS => ?_)
  have hP := hY
  refine lv_aload_n hx hb dX11_fits_38 rfl (lv_at hl 2 rfl) ?_
  refine va_get (ci := 9) (v := (.ref (b + 130))) (C := RX11) (T := TX11) (N := 10) hx hb hq i_X11 hown hK hP 0 (gb_at b rfl) rfl 8 (by decide) (hq _ w_323) (fun _ h9 => h9) rfl dX11_fits_39 ?_
  obtain ⟨s_23, r_24, z_25, h⟩ := gb_cd_s h
  refine gb_calll (va_runV (C := RX2) (As := []) (rest := []) ⟨hx, hb, hml, hown, hq⟩ (cc_Flocks_allWays l D cT tt b1 b hb1 n s_19 s_23 r_24 z_25) (cwV 0 hq (gb_gV w_1063 w_1064 w_1065 w_13 w_1066) rfl rfl rfl (by decide +kernel) ⟨Nat.le_of_ble_eq_true rfl, Nat.le_of_ble_eq_true rfl⟩) (gb_preV (r := (RX2, TX2, 6)) (ci := 2) (q0 := 130) hSt hP rfl (gb_at b rfl) hS (fun q h => Nat.le_trans hb1 h.1) hP) rfl rfl hl.1 rfl (lv_room (Nat.le_of_ble_eq_true rfl)) dX11_fits_42 ⟨Nat.le_of_ble_eq_true rfl, Nat.le_of_ble_eq_true rfl⟩) hS (fun _ h => h) (fun _ h => h) (fun q_26 H locs hY hk hS => ?_)
  obtain ⟨hq_26, hP⟩ := hY
  replace hq_26 := hq_26.symm
  subst hq_26
  obtain ⟨e1, e2⟩ := gb_eq2 h
  exact W.lret (v := r_24) hx hb hr (fun t ht hW => gb_rl ht ⟨e2, by rw [← e1]; exact hP⟩ hS) hS.2.2 dX11_fits_45
theorem dX11_told_0 : decode cX11_told 0 = .ok (.aload_n 0, 1) := dc_42 (show ((cX11_told.data.toList.drop 0).take 1).map UInt8.toNat = [42] by decide +kernel)
theorem dX11_told_1 : decode cX11_told 1 = .ok (.iload_n 1, 1) := dc_27 (show ((cX11_told.data.toList.drop 1).take 1).map UInt8.toNat = [27] by decide +kernel)
theorem dX11_told_2 : decode cX11_told 2 = .ok (.invokevirtual 113, 3) := dc_182 (show ((cX11_told.data.toList.drop 2).take 3).map UInt8.toNat = [182, 0, 113] by decide +kernel) rfl
theorem dX11_told_5 : decode cX11_told 5 = .ok (.astore 4, 2) := dc_58 (show ((cX11_told.data.toList.drop 5).take 2).map UInt8.toNat = [58, 4] by decide +kernel) rfl
theorem dX11_told_7 : decode cX11_told 7 = .ok (.aload_n 0, 1) := dc_42 (show ((cX11_told.data.toList.drop 7).take 1).map UInt8.toNat = [42] by decide +kernel)
theorem dX11_told_8 : decode cX11_told 8 = .ok (.iload_n 2, 1) := dc_28 (show ((cX11_told.data.toList.drop 8).take 1).map UInt8.toNat = [28] by decide +kernel)
theorem dX11_told_9 : decode cX11_told 9 = .ok (.invokevirtual 160, 3) := dc_182 (show ((cX11_told.data.toList.drop 9).take 3).map UInt8.toNat = [182, 0, 160] by decide +kernel) rfl
theorem dX11_told_12 : decode cX11_told 12 = .ok (.astore 5, 2) := dc_58 (show ((cX11_told.data.toList.drop 12).take 2).map UInt8.toNat = [58, 5] by decide +kernel) rfl
theorem dX11_told_14 : decode cX11_told 14 = .ok (.aload 4, 2) := dc_25 (show ((cX11_told.data.toList.drop 14).take 2).map UInt8.toNat = [25, 4] by decide +kernel) rfl
theorem dX11_told_16 : decode cX11_told 16 = .ok (.ifnull 8, 3) := dc_198 (show ((cX11_told.data.toList.drop 16).take 3).map UInt8.toNat = [198, 0, 8] by decide +kernel) rfl
theorem dX11_told_24 : decode cX11_told 24 = .ok (.bipush (-2), 2) := dc_16 (show ((cX11_told.data.toList.drop 24).take 2).map UInt8.toNat = [16, 254] by decide +kernel) rfl
theorem dX11_told_26 : decode cX11_told 26 = .ok (.ireturn, 1) := dc_172 (show ((cX11_told.data.toList.drop 26).take 1).map UInt8.toNat = [172] by decide +kernel)
theorem dX11_told_19 : decode cX11_told 19 = .ok (.aload 5, 2) := dc_25 (show ((cX11_told.data.toList.drop 19).take 2).map UInt8.toNat = [25, 5] by decide +kernel) rfl
theorem dX11_told_21 : decode cX11_told 21 = .ok (.ifnonnull 6, 3) := dc_199 (show ((cX11_told.data.toList.drop 21).take 3).map UInt8.toNat = [199, 0, 6] by decide +kernel) rfl
theorem dX11_told_27 : decode cX11_told 27 = .ok (.iload_n 3, 1) := dc_29 (show ((cX11_told.data.toList.drop 27).take 1).map UInt8.toNat = [29] by decide +kernel)
theorem dX11_told_28 : decode cX11_told 28 = .ok (.iconst 3, 1) := dc_6 (show ((cX11_told.data.toList.drop 28).take 1).map UInt8.toNat = [6] by decide +kernel)
theorem dX11_told_29 : decode cX11_told 29 = .ok (.if_icmp .ne 11, 3) := dc_160 (show ((cX11_told.data.toList.drop 29).take 3).map UInt8.toNat = [160, 0, 11] by decide +kernel) rfl
theorem dX11_told_40 : decode cX11_told 40 = .ok (.iload_n 3, 1) := dc_29 (show ((cX11_told.data.toList.drop 40).take 1).map UInt8.toNat = [29] by decide +kernel)
theorem dX11_told_41 : decode cX11_told 41 = .ok (.bipush 10, 2) := dc_16 (show ((cX11_told.data.toList.drop 41).take 2).map UInt8.toNat = [16, 10] by decide +kernel) rfl
theorem dX11_told_43 : decode cX11_told 43 = .ok (.if_icmp .lt 19, 3) := dc_161 (show ((cX11_told.data.toList.drop 43).take 3).map UInt8.toNat = [161, 0, 19] by decide +kernel) rfl
theorem dX11_told_62 : decode cX11_told 62 = .ok (.iconst 0, 1) := dc_3 (show ((cX11_told.data.toList.drop 62).take 1).map UInt8.toNat = [3] by decide +kernel)
theorem dX11_told_63 : decode cX11_told 63 = .ok (.istore 6, 2) := dc_54 (show ((cX11_told.data.toList.drop 63).take 2).map UInt8.toNat = [54, 6] by decide +kernel) rfl
theorem dX11_told_65 : decode cX11_told 65 = .ok (.iload 6, 2) := dc_21 (show ((cX11_told.data.toList.drop 65).take 2).map UInt8.toNat = [21, 6] by decide +kernel) rfl
theorem dX11_told_67 : decode cX11_told 67 = .ok (.ifCond .ne 15, 3) := dc_154 (show ((cX11_told.data.toList.drop 67).take 3).map UInt8.toNat = [154, 0, 15] by decide +kernel) rfl
theorem dX11_told_82 : decode cX11_told 82 = .ok (.aload_n 0, 1) := dc_42 (show ((cX11_told.data.toList.drop 82).take 1).map UInt8.toNat = [42] by decide +kernel)
theorem dX11_told_83 : decode cX11_told 83 = .ok (.getfield 70, 3) := dc_180 (show ((cX11_told.data.toList.drop 83).take 3).map UInt8.toNat = [180, 0, 70] by decide +kernel) rfl
theorem dX11_told_86 : decode cX11_told 86 = .ok (.aload 4, 2) := dc_25 (show ((cX11_told.data.toList.drop 86).take 2).map UInt8.toNat = [25, 4] by decide +kernel) rfl
theorem dX11_told_88 : decode cX11_told 88 = .ok (.aload 5, 2) := dc_25 (show ((cX11_told.data.toList.drop 88).take 2).map UInt8.toNat = [25, 5] by decide +kernel) rfl
theorem dX11_told_90 : decode cX11_told 90 = .ok (.iconst (-1), 1) := dc_2 (show ((cX11_told.data.toList.drop 90).take 1).map UInt8.toNat = [2] by decide +kernel)
theorem dX11_told_91 : decode cX11_told 91 = .ok (.iconst (-1), 1) := dc_2 (show ((cX11_told.data.toList.drop 91).take 1).map UInt8.toNat = [2] by decide +kernel)
theorem dX11_told_92 : decode cX11_told 92 = .ok (.invokevirtual 355, 3) := dc_182 (show ((cX11_told.data.toList.drop 92).take 3).map UInt8.toNat = [182, 1, 99] by decide +kernel) rfl
theorem dX11_told_95 : decode cX11_told 95 = .ok (.aload_n 0, 1) := dc_42 (show ((cX11_told.data.toList.drop 95).take 1).map UInt8.toNat = [42] by decide +kernel)
theorem dX11_told_96 : decode cX11_told 96 = .ok (.getfield 70, 3) := dc_180 (show ((cX11_told.data.toList.drop 96).take 3).map UInt8.toNat = [180, 0, 70] by decide +kernel) rfl
theorem dX11_told_99 : decode cX11_told 99 = .ok (.invokevirtual 359, 3) := dc_182 (show ((cX11_told.data.toList.drop 99).take 3).map UInt8.toNat = [182, 1, 103] by decide +kernel) rfl
theorem dX11_told_102 : decode cX11_told 102 = .ok (.lconst 0, 1) := dc_9 (show ((cX11_told.data.toList.drop 102).take 1).map UInt8.toNat = [9] by decide +kernel)
theorem dX11_told_103 : decode cX11_told 103 = .ok (.lcmp, 1) := dc_148 (show ((cX11_told.data.toList.drop 103).take 1).map UInt8.toNat = [148] by decide +kernel)
theorem dX11_told_104 : decode cX11_told 104 = .ok (.ifCond .ne 6, 3) := dc_154 (show ((cX11_told.data.toList.drop 104).take 3).map UInt8.toNat = [154, 0, 6] by decide +kernel) rfl
theorem dX11_told_110 : decode cX11_told 110 = .ok (.iload_n 3, 1) := dc_29 (show ((cX11_told.data.toList.drop 110).take 1).map UInt8.toNat = [29] by decide +kernel)
theorem dX11_told_111 : decode cX11_told 111 = .ok (.tableswitch 49 0 2 #[25, 33, 41], 25) := by decide +kernel
theorem dX11_told_136 : decode cX11_told 136 = .ok (.aload_n 0, 1) := dc_42 (show ((cX11_told.data.toList.drop 136).take 1).map UInt8.toNat = [42] by decide +kernel)
theorem dX11_told_137 : decode cX11_told 137 = .ok (.getfield 70, 3) := dc_180 (show ((cX11_told.data.toList.drop 137).take 3).map UInt8.toNat = [180, 0, 70] by decide +kernel) rfl
theorem dX11_told_140 : decode cX11_told 140 = .ok (.invokevirtual 367, 3) := dc_182 (show ((cX11_told.data.toList.drop 140).take 3).map UInt8.toNat = [182, 1, 111] by decide +kernel) rfl
theorem dX2_fewestGone_0 : decode cX2_fewestGone 0 = .ok (.bipush 8, 2) := dc_16 (show ((cX2_fewestGone.data.toList.drop 0).take 2).map UInt8.toNat = [16, 8] by decide +kernel) rfl
theorem dX2_fewestGone_2 : decode cX2_fewestGone 2 = .ok (.istore_n 1, 1) := dc_60 (show ((cX2_fewestGone.data.toList.drop 2).take 1).map UInt8.toNat = [60] by decide +kernel)
theorem dX2_fewestGone_3 : decode cX2_fewestGone 3 = .ok (.iconst 0, 1) := dc_3 (show ((cX2_fewestGone.data.toList.drop 3).take 1).map UInt8.toNat = [3] by decide +kernel)
theorem dX2_fewestGone_4 : decode cX2_fewestGone 4 = .ok (.istore_n 2, 1) := dc_61 (show ((cX2_fewestGone.data.toList.drop 4).take 1).map UInt8.toNat = [61] by decide +kernel)
theorem dX2_fewestGone_5 : decode cX2_fewestGone 5 = .ok (.iload_n 2, 1) := dc_28 (show ((cX2_fewestGone.data.toList.drop 5).take 1).map UInt8.toNat = [28] by decide +kernel)
theorem dX2_fewestGone_6 : decode cX2_fewestGone 6 = .ok (.aload_n 0, 1) := dc_42 (show ((cX2_fewestGone.data.toList.drop 6).take 1).map UInt8.toNat = [42] by decide +kernel)
theorem dX2_fewestGone_7 : decode cX2_fewestGone 7 = .ok (.getfield 31, 3) := dc_180 (show ((cX2_fewestGone.data.toList.drop 7).take 3).map UInt8.toNat = [180, 0, 31] by decide +kernel) rfl
theorem dX2_fewestGone_10 : decode cX2_fewestGone 10 = .ok (.if_icmp .ge 29, 3) := dc_162 (show ((cX2_fewestGone.data.toList.drop 10).take 3).map UInt8.toNat = [162, 0, 29] by decide +kernel) rfl
theorem dX2_fewestGone_39 : decode cX2_fewestGone 39 = .ok (.iload_n 1, 1) := dc_27 (show ((cX2_fewestGone.data.toList.drop 39).take 1).map UInt8.toNat = [27] by decide +kernel)
theorem dX2_fewestGone_40 : decode cX2_fewestGone 40 = .ok (.ireturn, 1) := dc_172 (show ((cX2_fewestGone.data.toList.drop 40).take 1).map UInt8.toNat = [172] by decide +kernel)
theorem dX2_fewestGone_13 : decode cX2_fewestGone 13 = .ok (.aload_n 0, 1) := dc_42 (show ((cX2_fewestGone.data.toList.drop 13).take 1).map UInt8.toNat = [42] by decide +kernel)
theorem dX2_fewestGone_14 : decode cX2_fewestGone 14 = .ok (.getfield 18, 3) := dc_180 (show ((cX2_fewestGone.data.toList.drop 14).take 3).map UInt8.toNat = [180, 0, 18] by decide +kernel) rfl
theorem dX2_fewestGone_17 : decode cX2_fewestGone 17 = .ok (.iload_n 2, 1) := dc_28 (show ((cX2_fewestGone.data.toList.drop 17).take 1).map UInt8.toNat = [28] by decide +kernel)
theorem dX2_fewestGone_18 : decode cX2_fewestGone 18 = .ok (.laload, 1) := dc_47 (show ((cX2_fewestGone.data.toList.drop 18).take 1).map UInt8.toNat = [47] by decide +kernel)
theorem dX2_fewestGone_19 : decode cX2_fewestGone 19 = .ok (.lconst 0, 1) := dc_9 (show ((cX2_fewestGone.data.toList.drop 19).take 1).map UInt8.toNat = [9] by decide +kernel)
theorem dX2_fewestGone_20 : decode cX2_fewestGone 20 = .ok (.lcmp, 1) := dc_148 (show ((cX2_fewestGone.data.toList.drop 20).take 1).map UInt8.toNat = [148] by decide +kernel)
theorem dX2_fewestGone_21 : decode cX2_fewestGone 21 = .ok (.ifCond .le 12, 3) := dc_158 (show ((cX2_fewestGone.data.toList.drop 21).take 3).map UInt8.toNat = [158, 0, 12] by decide +kernel) rfl
theorem dX2_fewestGone_33 : decode cX2_fewestGone 33 = .ok (.iinc 2 1, 3) := dc_132 (show ((cX2_fewestGone.data.toList.drop 33).take 3).map UInt8.toNat = [132, 2, 1] by decide +kernel) rfl
theorem dX2_fewestGone_36 : decode cX2_fewestGone 36 = .ok (.goto (-31), 3) := dc_167 (show ((cX2_fewestGone.data.toList.drop 36).take 3).map UInt8.toNat = [167, 255, 225] by decide +kernel) rfl
theorem dX2_fewestGone_24 : decode cX2_fewestGone 24 = .ok (.iload_n 1, 1) := dc_27 (show ((cX2_fewestGone.data.toList.drop 24).take 1).map UInt8.toNat = [27] by decide +kernel)
theorem dX2_fewestGone_25 : decode cX2_fewestGone 25 = .ok (.iload_n 2, 1) := dc_28 (show ((cX2_fewestGone.data.toList.drop 25).take 1).map UInt8.toNat = [28] by decide +kernel)
theorem dX2_fewestGone_26 : decode cX2_fewestGone 26 = .ok (.invokestatic 43, 3) := dc_184 (show ((cX2_fewestGone.data.toList.drop 26).take 3).map UInt8.toNat = [184, 0, 43] by decide +kernel) rfl
theorem dX2_fewestGone_29 : decode cX2_fewestGone 29 = .ok (.invokestatic 96, 3) := dc_184 (show ((cX2_fewestGone.data.toList.drop 29).take 3).map UInt8.toNat = [184, 0, 96] by decide +kernel) rfl
theorem w_1078 : (Cond.methodLink "GooseBorder$Flocks" (96 : Nat) ({ cls := "java/lang/Math", name := "min", desc := "(II)I" } : MethodName)) ∈ gb_wA := gb_t5 118 rfl rfl
theorem dX2_fewestGone_32 : decode cX2_fewestGone 32 = .ok (.istore_n 1, 1) := dc_60 (show ((cX2_fewestGone.data.toList.drop 32).take 1).map UInt8.toNat = [60] by decide +kernel)
def cs_Flocks_fewestGone_5 (n : Nat) : Nat → gb_S → Int32 → Int32 → gb_CR Int32
  | 0, _, _, _ => none
  | mm + 1, σ, v1, v2 => (if (σ.1 130 4) ≤ v2 then some (σ, v1) else gb_kk (gb_kJ (σ.2.1 4)) (gb_ck v2 256 (gb_lt ((σ.2.2 (σ.2.1 4)) (Int32.toNatClampNeg v2)) (fun x_4 => (if (lg_cmp x_4 (0 : Int64)) ≤ 0 then gb_lt (v2 + 1) (fun x_6 => cs_Flocks_fewestGone_5 n mm σ v1 x_6) else gb_cd (cs_java_lang_Integer_bitCount n σ v2) (fun s_7 r_8 => gb_lt (if r_8 < v1 then r_8 else v1) (fun x_11 => gb_lt (v2 + 1) (fun x_12 => cs_Flocks_fewestGone_5 n mm s_7 x_11 x_12))))))))
def cs_Flocks_fewestGone (n : Nat) (σ : gb_S) : gb_CR Int32 := cs_Flocks_fewestGone_5 n n σ 8 0
set_option maxHeartbeats 8000000 in
set_option maxRecDepth 100000 in
theorem cc_Flocks_fewestGone (l : Launch) (D : va_G) (cT : Nat → ClassId) (tt : Nat → Nat) (b1 b : Nat) (hb1 : b1 ≤ b) (n : Nat) (σ : gb_S) (σE : gb_S) (rE : Int32) (h : cs_Flocks_fewestGone n σ = some (σE, rE)) : Met l yX2_fewestGone (.code yX2_fewestGone cX2_fewestGone 3 (some FieldType.int) :: gb_wA) ({ frames := 1, cells := 0, slots := 0, locals := 20 }) (gb_Pc D cT tt b1 [.ref (b + 130)] (fun h => va_P D vwCl (gb_wl b (gb_CW cT b σ)) h)) (gb_Qi (fun r h => r = rE ∧ va_P D vwCl (gb_wl b (gb_CW cT b σE)) h) (gb_fr b 135)) 0 0 (gb_fr b 135) := by
  refine Met.ofW (cc := cX2_fewestGone) (maxL := 3) (ret := (some FieldType.int)) (by decide) rfl ?_
  intro p e s m args below meth c s₁ B hml hv
  obtain ⟨rfl, hSt, hP⟩ := hv
  have hx := B.exec
  have hb := B.bytes
  have hr := B.returns
  have hts := atoms_spec (ws := .code yX2_fewestGone cX2_fewestGone 3 (some FieldType.int) :: gb_wA) B.pre
  have hq : ∀ w ∈ gb_wA, w.before _ s = true := fun w h => hts w (List.mem_cons_of_mem _ h)
  have hown : s.vm.findClass RX2 = some m.cls := findClass_of_methodNamed B.named
  have hlocks := B.notSynchronized
  clear B hts
  have hK := hSt.1
  have hS : va_S (gb_fr b 135) s.heap s.heap [] := va_S.rf
  have hl := lv_entry ([.ref (b + 130)]) (n := 3) (Nat.le_of_ble_eq_true rfl)
  rw [lg_entry_eq]
  generalize (lg_sl ([.ref (b + 130)]) ++ List.replicate (3 - (lg_sl ([.ref (b + 130)])).length) Slot.unset).toArray = ls at hl ⊢
  replace hl : lv_has ls 3 [(0, .ref (b + 130))] := hl
  have L5_1 : ∀ (mm : Nat) (σ : gb_S) (v1 : Int32) (v2 : Int32) (H : Heap) (locs : List Loc) (ls : Array Slot), cs_Flocks_fewestGone_5 n mm σ v1 v2 = some (σE, rE) → va_P D vwCl (gb_wl b (gb_CW cT b σ)) H → va_S (gb_fr b 135) s.heap H locs → lv_has ls 3 [(0, .ref (b + 130)), (1, .int v1), (2, .int v2)] → W p l e (headSpec (.code yX2_fewestGone cX2_fewestGone 3 (some FieldType.int) :: gb_wA) ({ frames := 1, cells := 0, slots := 0, locals := 20 })).room s m ([.ref (b + 130)]).toArray below meth c H locs 0 0 (MQ below (gb_Qi (fun r h => r = rE ∧ va_P D vwCl (gb_wl b (gb_CW cT b σE)) h) (gb_fr b 135)) ([.ref (b + 130)]).toArray s 0 0 (gb_fr b 135)) (F0 m 5 ls []) := by
    clear h hP hS hl ls
    intro mm
    induction mm with
    | zero =>
      intro σ v1 v2 H locs ls h
      cases h
    | succ mm ih =>
      intro σ v1 v2 H locs ls h hP hS hl
      rw [cs_Flocks_fewestGone_5] at h
      refine lv_iload_n hx hb dX2_fewestGone_5 rfl (lv_at hl 2 rfl) ?_
      refine lv_aload_n hx hb dX2_fewestGone_6 rfl (lv_at hl 0 rfl) ?_
      refine va_get (ci := 2) (v := (.int (σ.1 130 4))) (C := RX2) (T := TX2) (N := 6) hx hb hq i_X2 hown hK hP 130 (gb_at b rfl) rfl 4 (by decide) (hq _ w_298) (fun _ h9 => h9) rfl dX2_fewestGone_7 ?_
      refine lv_icmp_ge (tgt := 39) hx hb dX2_fewestGone_10 (by decide) (fun c_1 => ?_) (fun c_1 => ?_)
      · rw [if_pos c_1] at h
        refine lv_iload_n hx hb dX2_fewestGone_39 rfl (lv_at hl 1 rfl) ?_
        obtain ⟨e1, e2⟩ := gb_eq2 h
        exact W.iret (v := v1) hx hb hr (fun t ht hW => gb_ri ht ⟨e2, by rw [← e1]; exact hP⟩ hS) hS.2.2 dX2_fewestGone_40
      · rw [if_neg c_1] at h
        refine lv_aload_n hx hb dX2_fewestGone_13 rfl (lv_at hl 0 rfl) ?_
        obtain ⟨z_2, h⟩ := gb_kk_s h
        refine va_get (ci := 2) (v := (.ref (b + (σ.2.1 4)))) (C := RX2) (T := TX2) (N := 6) hx hb hq i_X2 hown hK hP 130 (gb_at b rfl) rfl 2 (by decide) (hq _ w_296) (fun _ h9 => h9) rfl dX2_fewestGone_14 ?_
        refine lv_iload_n hx hb dX2_fewestGone_17 rfl (lv_at hl 2 rfl) ?_
        obtain ⟨z_3, h⟩ := gb_ck_s h
        refine va_lald hx hb hK hP (σ.2.1 4) 3 (gb_at b (gb_cJ z_2)) rfl z_3 dX2_fewestGone_18 ?_
        refine lv_topl (fun x_4 ex_4 => ?_)
        replace h := gb_lt_s ex_4 h
        refine lv_lconst (v := 0) hx hb dX2_fewestGone_19 (by decide) ?_
        refine W.lcmp hx hb dX2_fewestGone_20 ?_
        refine lv_if_le (tgt := 33) hx hb dX2_fewestGone_21 (by decide) (fun c_5 => ?_) (fun c_5 => ?_)
        · rw [if_pos c_5] at h
          obtain ⟨x_6, ex_6⟩ : ∃ q, q = (v2 + 1) := ⟨_, rfl⟩
          replace h := gb_lt_s ex_6 h
          refine lv_iinc (v := x_6) (lv' := [(2, .int x_6), (0, .ref (b + 130)), (1, .int v1)]) hx hb dX2_fewestGone_33 hl (k := 2) rfl (by rw [ex_6]; rfl) (by decide) rfl (fun ls hl => ?_)
          refine lv_goto (tgt := 5) hx hb dX2_fewestGone_36 (by decide) ?_
          exact ih _ _ _ _ _ _ h hP hS (lv_sub hl [1, 2, 0] rfl)
        · rw [if_neg c_5] at h
          refine lv_iload_n hx hb dX2_fewestGone_24 rfl (lv_at hl 1 rfl) ?_
          refine lv_iload_n hx hb dX2_fewestGone_25 rfl (lv_at hl 2 rfl) ?_
          obtain ⟨s_7, r_8, z_9, h⟩ := gb_cd_s h
          refine gb_calli (va_runS (As := [.int v2]) (rest := [.int v1]) ⟨hx, hb, hml, hown, hq⟩ (cc_java_lang_Integer_bitCount l D cT tt b1 b hb1 n σ v2 s_7 r_8 z_9) (va_cwS 1 hq (gb_gS w_988 w_989 w_21 w_990) rfl rfl rfl (by decide +kernel) ⟨Nat.le_of_ble_eq_true rfl, Nat.le_of_ble_eq_true rfl⟩) (gb_preS hSt hS (fun q h => Nat.le_trans hb1 h.1) hP) rfl rfl hl.1 rfl (lv_room (Nat.le_of_ble_eq_true rfl)) dX2_fewestGone_26 ⟨Nat.le_of_ble_eq_true rfl, Nat.le_of_ble_eq_true rfl⟩) hS (fun _ h => h) (fun _ h => h) (fun q_10 H locs hY hk hS => ?_)
          obtain ⟨hq_10, hP⟩ := hY
          replace hq_10 := hq_10.symm
          subst hq_10
          refine va_mmin hx hb (hml.trans hl.1.symm) hown (hq _ w_1078) (hq _ w_367) (hq _ w_5) (hq _ w_368) (Nat.le_of_ble_eq_true rfl) (Nat.le_of_ble_eq_true rfl) (Nat.le_of_ble_eq_true rfl) (Nat.le_of_ble_eq_true rfl) dX2_fewestGone_29 ?_
          refine lv_topi (fun x_11 ex_11 => ?_)
          replace h := gb_lt_s ex_11 h
          refine lv_istore_n (lv' := [(1, .int x_11), (0, .ref (b + 130)), (2, .int v2)]) hx hb dX2_fewestGone_32 rfl hl (by decide) rfl (fun ls hl => ?_)
          obtain ⟨x_12, ex_12⟩ : ∃ q, q = (v2 + 1) := ⟨_, rfl⟩
          replace h := gb_lt_s ex_12 h
          refine lv_iinc (v := x_12) (lv' := [(2, .int x_12), (1, .int x_11), (0, .ref (b + 130))]) hx hb dX2_fewestGone_33 hl (k := 2) rfl (by rw [ex_12]; rfl) (by decide) rfl (fun ls hl => ?_)
          refine lv_goto (tgt := 5) hx hb dX2_fewestGone_36 (by decide) ?_
          exact ih _ _ _ _ _ _ h hP hS (lv_sub hl [2, 1, 0] rfl)
  unfold cs_Flocks_fewestGone at h
  refine lv_bipush (v := 8) hx hb dX2_fewestGone_0 (by decide) ?_
  refine lv_istore_n (lv' := [(1, .int 8), (0, .ref (b + 130))]) hx hb dX2_fewestGone_2 rfl hl (by decide) rfl (fun ls hl => ?_)
  refine lv_iconst (v := 0) hx hb dX2_fewestGone_3 (by decide) ?_
  refine lv_istore_n (lv' := [(2, .int 0), (1, .int 8), (0, .ref (b + 130))]) hx hb dX2_fewestGone_4 rfl hl (by decide) rfl (fun ls hl => ?_)
  exact L5_1 n _ _ _ _ _ _ h hP hS (lv_sub hl [2, 1, 0] rfl)
theorem w_1077 : (Cond.code ({ cls := "GooseBorder$Flocks", name := "fewestGone", desc := "()I" } : MethodName) prog_4_method_13_code (3 : Nat) (Option.some FieldType.int)) ∈ gb_wA := gb_t5 117 rfl rfl
theorem w_1074 : (Cond.methodLink "GooseBorder" (367 : Nat) ({ cls := "GooseBorder$Flocks", name := "fewestGone", desc := "()I" } : MethodName)) ∈ gb_wA := gb_t5 114 rfl rfl
theorem w_1075 : (Cond.instanceMethod ({ cls := "GooseBorder$Flocks", name := "fewestGone", desc := "()I" } : MethodName)) ∈ gb_wA := gb_t5 115 rfl rfl
theorem w_1076 : (Cond.selects "GooseBorder$Flocks" ({ cls := "GooseBorder$Flocks", name := "fewestGone", desc := "()I" } : MethodName) ({ cls := "GooseBorder$Flocks", name := "fewestGone", desc := "()I" } : MethodName)) ∈ gb_wA := gb_t5 116 rfl rfl
theorem dX11_told_143 : decode cX11_told 143 = .ok (.ireturn, 1) := dc_172 (show ((cX11_told.data.toList.drop 143).take 1).map UInt8.toNat = [172] by decide +kernel)
theorem dX11_told_144 : decode cX11_told 144 = .ok (.aload_n 0, 1) := dc_42 (show ((cX11_told.data.toList.drop 144).take 1).map UInt8.toNat = [42] by decide +kernel)
theorem dX11_told_145 : decode cX11_told 145 = .ok (.getfield 70, 3) := dc_180 (show ((cX11_told.data.toList.drop 145).take 3).map UInt8.toNat = [180, 0, 70] by decide +kernel) rfl
theorem dX11_told_148 : decode cX11_told 148 = .ok (.invokevirtual 370, 3) := dc_182 (show ((cX11_told.data.toList.drop 148).take 3).map UInt8.toNat = [182, 1, 114] by decide +kernel) rfl
theorem dX2_mostGone_0 : decode cX2_mostGone 0 = .ok (.iconst 0, 1) := dc_3 (show ((cX2_mostGone.data.toList.drop 0).take 1).map UInt8.toNat = [3] by decide +kernel)
theorem dX2_mostGone_1 : decode cX2_mostGone 1 = .ok (.istore_n 1, 1) := dc_60 (show ((cX2_mostGone.data.toList.drop 1).take 1).map UInt8.toNat = [60] by decide +kernel)
theorem dX2_mostGone_2 : decode cX2_mostGone 2 = .ok (.iconst 0, 1) := dc_3 (show ((cX2_mostGone.data.toList.drop 2).take 1).map UInt8.toNat = [3] by decide +kernel)
theorem dX2_mostGone_3 : decode cX2_mostGone 3 = .ok (.istore_n 2, 1) := dc_61 (show ((cX2_mostGone.data.toList.drop 3).take 1).map UInt8.toNat = [61] by decide +kernel)
theorem dX2_mostGone_4 : decode cX2_mostGone 4 = .ok (.iload_n 2, 1) := dc_28 (show ((cX2_mostGone.data.toList.drop 4).take 1).map UInt8.toNat = [28] by decide +kernel)
theorem dX2_mostGone_5 : decode cX2_mostGone 5 = .ok (.aload_n 0, 1) := dc_42 (show ((cX2_mostGone.data.toList.drop 5).take 1).map UInt8.toNat = [42] by decide +kernel)
theorem dX2_mostGone_6 : decode cX2_mostGone 6 = .ok (.getfield 31, 3) := dc_180 (show ((cX2_mostGone.data.toList.drop 6).take 3).map UInt8.toNat = [180, 0, 31] by decide +kernel) rfl
theorem dX2_mostGone_9 : decode cX2_mostGone 9 = .ok (.if_icmp .ge 29, 3) := dc_162 (show ((cX2_mostGone.data.toList.drop 9).take 3).map UInt8.toNat = [162, 0, 29] by decide +kernel) rfl
theorem dX2_mostGone_38 : decode cX2_mostGone 38 = .ok (.iload_n 1, 1) := dc_27 (show ((cX2_mostGone.data.toList.drop 38).take 1).map UInt8.toNat = [27] by decide +kernel)
theorem dX2_mostGone_39 : decode cX2_mostGone 39 = .ok (.ireturn, 1) := dc_172 (show ((cX2_mostGone.data.toList.drop 39).take 1).map UInt8.toNat = [172] by decide +kernel)
theorem dX2_mostGone_12 : decode cX2_mostGone 12 = .ok (.aload_n 0, 1) := dc_42 (show ((cX2_mostGone.data.toList.drop 12).take 1).map UInt8.toNat = [42] by decide +kernel)
theorem dX2_mostGone_13 : decode cX2_mostGone 13 = .ok (.getfield 18, 3) := dc_180 (show ((cX2_mostGone.data.toList.drop 13).take 3).map UInt8.toNat = [180, 0, 18] by decide +kernel) rfl
theorem dX2_mostGone_16 : decode cX2_mostGone 16 = .ok (.iload_n 2, 1) := dc_28 (show ((cX2_mostGone.data.toList.drop 16).take 1).map UInt8.toNat = [28] by decide +kernel)
theorem dX2_mostGone_17 : decode cX2_mostGone 17 = .ok (.laload, 1) := dc_47 (show ((cX2_mostGone.data.toList.drop 17).take 1).map UInt8.toNat = [47] by decide +kernel)
theorem dX2_mostGone_18 : decode cX2_mostGone 18 = .ok (.lconst 0, 1) := dc_9 (show ((cX2_mostGone.data.toList.drop 18).take 1).map UInt8.toNat = [9] by decide +kernel)
theorem dX2_mostGone_19 : decode cX2_mostGone 19 = .ok (.lcmp, 1) := dc_148 (show ((cX2_mostGone.data.toList.drop 19).take 1).map UInt8.toNat = [148] by decide +kernel)
theorem dX2_mostGone_20 : decode cX2_mostGone 20 = .ok (.ifCond .le 12, 3) := dc_158 (show ((cX2_mostGone.data.toList.drop 20).take 3).map UInt8.toNat = [158, 0, 12] by decide +kernel) rfl
theorem dX2_mostGone_32 : decode cX2_mostGone 32 = .ok (.iinc 2 1, 3) := dc_132 (show ((cX2_mostGone.data.toList.drop 32).take 3).map UInt8.toNat = [132, 2, 1] by decide +kernel) rfl
theorem dX2_mostGone_35 : decode cX2_mostGone 35 = .ok (.goto (-31), 3) := dc_167 (show ((cX2_mostGone.data.toList.drop 35).take 3).map UInt8.toNat = [167, 255, 225] by decide +kernel) rfl
theorem dX2_mostGone_23 : decode cX2_mostGone 23 = .ok (.iload_n 1, 1) := dc_27 (show ((cX2_mostGone.data.toList.drop 23).take 1).map UInt8.toNat = [27] by decide +kernel)
theorem dX2_mostGone_24 : decode cX2_mostGone 24 = .ok (.iload_n 2, 1) := dc_28 (show ((cX2_mostGone.data.toList.drop 24).take 1).map UInt8.toNat = [28] by decide +kernel)
theorem dX2_mostGone_25 : decode cX2_mostGone 25 = .ok (.invokestatic 43, 3) := dc_184 (show ((cX2_mostGone.data.toList.drop 25).take 3).map UInt8.toNat = [184, 0, 43] by decide +kernel) rfl
theorem dX2_mostGone_28 : decode cX2_mostGone 28 = .ok (.invokestatic 99, 3) := dc_184 (show ((cX2_mostGone.data.toList.drop 28).take 3).map UInt8.toNat = [184, 0, 99] by decide +kernel) rfl
theorem w_1083 : (Cond.methodLink "GooseBorder$Flocks" (99 : Nat) ({ cls := "java/lang/Math", name := "max", desc := "(II)I" } : MethodName)) ∈ gb_wA := gb_t5 123 rfl rfl
theorem dX2_mostGone_31 : decode cX2_mostGone 31 = .ok (.istore_n 1, 1) := dc_60 (show ((cX2_mostGone.data.toList.drop 31).take 1).map UInt8.toNat = [60] by decide +kernel)
def cs_Flocks_mostGone_4 (n : Nat) : Nat → gb_S → Int32 → Int32 → gb_CR Int32
  | 0, _, _, _ => none
  | mm + 1, σ, v1, v2 => (if (σ.1 130 4) ≤ v2 then some (σ, v1) else gb_kk (gb_kJ (σ.2.1 4)) (gb_ck v2 256 (gb_lt ((σ.2.2 (σ.2.1 4)) (Int32.toNatClampNeg v2)) (fun x_4 => (if (lg_cmp x_4 (0 : Int64)) ≤ 0 then gb_lt (v2 + 1) (fun x_6 => cs_Flocks_mostGone_4 n mm σ v1 x_6) else gb_cd (cs_java_lang_Integer_bitCount n σ v2) (fun s_7 r_8 => gb_lt (if v1 < r_8 then r_8 else v1) (fun x_11 => gb_lt (v2 + 1) (fun x_12 => cs_Flocks_mostGone_4 n mm s_7 x_11 x_12))))))))
def cs_Flocks_mostGone (n : Nat) (σ : gb_S) : gb_CR Int32 := cs_Flocks_mostGone_4 n n σ 0 0
set_option maxHeartbeats 8000000 in
set_option maxRecDepth 100000 in
theorem cc_Flocks_mostGone (l : Launch) (D : va_G) (cT : Nat → ClassId) (tt : Nat → Nat) (b1 b : Nat) (hb1 : b1 ≤ b) (n : Nat) (σ : gb_S) (σE : gb_S) (rE : Int32) (h : cs_Flocks_mostGone n σ = some (σE, rE)) : Met l yX2_mostGone (.code yX2_mostGone cX2_mostGone 3 (some FieldType.int) :: gb_wA) ({ frames := 1, cells := 0, slots := 0, locals := 20 }) (gb_Pc D cT tt b1 [.ref (b + 130)] (fun h => va_P D vwCl (gb_wl b (gb_CW cT b σ)) h)) (gb_Qi (fun r h => r = rE ∧ va_P D vwCl (gb_wl b (gb_CW cT b σE)) h) (gb_fr b 135)) 0 0 (gb_fr b 135) := by
  refine Met.ofW (cc := cX2_mostGone) (maxL := 3) (ret := (some FieldType.int)) (by decide) rfl ?_
  intro p e s m args below meth c s₁ B hml hv
  obtain ⟨rfl, hSt, hP⟩ := hv
  have hx := B.exec
  have hb := B.bytes
  have hr := B.returns
  have hts := atoms_spec (ws := .code yX2_mostGone cX2_mostGone 3 (some FieldType.int) :: gb_wA) B.pre
  have hq : ∀ w ∈ gb_wA, w.before _ s = true := fun w h => hts w (List.mem_cons_of_mem _ h)
  have hown : s.vm.findClass RX2 = some m.cls := findClass_of_methodNamed B.named
  have hlocks := B.notSynchronized
  clear B hts
  have hK := hSt.1
  have hS : va_S (gb_fr b 135) s.heap s.heap [] := va_S.rf
  have hl := lv_entry ([.ref (b + 130)]) (n := 3) (Nat.le_of_ble_eq_true rfl)
  rw [lg_entry_eq]
  generalize (lg_sl ([.ref (b + 130)]) ++ List.replicate (3 - (lg_sl ([.ref (b + 130)])).length) Slot.unset).toArray = ls at hl ⊢
  replace hl : lv_has ls 3 [(0, .ref (b + 130))] := hl
  have L4_1 : ∀ (mm : Nat) (σ : gb_S) (v1 : Int32) (v2 : Int32) (H : Heap) (locs : List Loc) (ls : Array Slot), cs_Flocks_mostGone_4 n mm σ v1 v2 = some (σE, rE) → va_P D vwCl (gb_wl b (gb_CW cT b σ)) H → va_S (gb_fr b 135) s.heap H locs → lv_has ls 3 [(0, .ref (b + 130)), (1, .int v1), (2, .int v2)] → W p l e (headSpec (.code yX2_mostGone cX2_mostGone 3 (some FieldType.int) :: gb_wA) ({ frames := 1, cells := 0, slots := 0, locals := 20 })).room s m ([.ref (b + 130)]).toArray below meth c H locs 0 0 (MQ below (gb_Qi (fun r h => r = rE ∧ va_P D vwCl (gb_wl b (gb_CW cT b σE)) h) (gb_fr b 135)) ([.ref (b + 130)]).toArray s 0 0 (gb_fr b 135)) (F0 m 4 ls []) := by
    clear h hP hS hl ls
    intro mm
    induction mm with
    | zero =>
      intro σ v1 v2 H locs ls h
      cases h
    | succ mm ih =>
      intro σ v1 v2 H locs ls h hP hS hl
      rw [cs_Flocks_mostGone_4] at h
      refine lv_iload_n hx hb dX2_mostGone_4 rfl (lv_at hl 2 rfl) ?_
      refine lv_aload_n hx hb dX2_mostGone_5 rfl (lv_at hl 0 rfl) ?_
      refine va_get (ci := 2) (v := (.int (σ.1 130 4))) (C := RX2) (T := TX2) (N := 6) hx hb hq i_X2 hown hK hP 130 (gb_at b rfl) rfl 4 (by decide) (hq _ w_298) (fun _ h9 => h9) rfl dX2_mostGone_6 ?_
      refine lv_icmp_ge (tgt := 38) hx hb dX2_mostGone_9 (by decide) (fun c_1 => ?_) (fun c_1 => ?_)
      · rw [if_pos c_1] at h
        refine lv_iload_n hx hb dX2_mostGone_38 rfl (lv_at hl 1 rfl) ?_
        obtain ⟨e1, e2⟩ := gb_eq2 h
        exact W.iret (v := v1) hx hb hr (fun t ht hW => gb_ri ht ⟨e2, by rw [← e1]; exact hP⟩ hS) hS.2.2 dX2_mostGone_39
      · rw [if_neg c_1] at h
        refine lv_aload_n hx hb dX2_mostGone_12 rfl (lv_at hl 0 rfl) ?_
        obtain ⟨z_2, h⟩ := gb_kk_s h
        refine va_get (ci := 2) (v := (.ref (b + (σ.2.1 4)))) (C := RX2) (T := TX2) (N := 6) hx hb hq i_X2 hown hK hP 130 (gb_at b rfl) rfl 2 (by decide) (hq _ w_296) (fun _ h9 => h9) rfl dX2_mostGone_13 ?_
        refine lv_iload_n hx hb dX2_mostGone_16 rfl (lv_at hl 2 rfl) ?_
        obtain ⟨z_3, h⟩ := gb_ck_s h
        refine va_lald hx hb hK hP (σ.2.1 4) 3 (gb_at b (gb_cJ z_2)) rfl z_3 dX2_mostGone_17 ?_
        refine lv_topl (fun x_4 ex_4 => ?_)
        replace h := gb_lt_s ex_4 h
        refine lv_lconst (v := 0) hx hb dX2_mostGone_18 (by decide) ?_
        refine W.lcmp hx hb dX2_mostGone_19 ?_
        refine lv_if_le (tgt := 32) hx hb dX2_mostGone_20 (by decide) (fun c_5 => ?_) (fun c_5 => ?_)
        · rw [if_pos c_5] at h
          obtain ⟨x_6, ex_6⟩ : ∃ q, q = (v2 + 1) := ⟨_, rfl⟩
          replace h := gb_lt_s ex_6 h
          refine lv_iinc (v := x_6) (lv' := [(2, .int x_6), (0, .ref (b + 130)), (1, .int v1)]) hx hb dX2_mostGone_32 hl (k := 2) rfl (by rw [ex_6]; rfl) (by decide) rfl (fun ls hl => ?_)
          refine lv_goto (tgt := 4) hx hb dX2_mostGone_35 (by decide) ?_
          exact ih _ _ _ _ _ _ h hP hS (lv_sub hl [1, 2, 0] rfl)
        · rw [if_neg c_5] at h
          refine lv_iload_n hx hb dX2_mostGone_23 rfl (lv_at hl 1 rfl) ?_
          refine lv_iload_n hx hb dX2_mostGone_24 rfl (lv_at hl 2 rfl) ?_
          obtain ⟨s_7, r_8, z_9, h⟩ := gb_cd_s h
          refine gb_calli (va_runS (As := [.int v2]) (rest := [.int v1]) ⟨hx, hb, hml, hown, hq⟩ (cc_java_lang_Integer_bitCount l D cT tt b1 b hb1 n σ v2 s_7 r_8 z_9) (va_cwS 1 hq (gb_gS w_988 w_989 w_21 w_990) rfl rfl rfl (by decide +kernel) ⟨Nat.le_of_ble_eq_true rfl, Nat.le_of_ble_eq_true rfl⟩) (gb_preS hSt hS (fun q h => Nat.le_trans hb1 h.1) hP) rfl rfl hl.1 rfl (lv_room (Nat.le_of_ble_eq_true rfl)) dX2_mostGone_25 ⟨Nat.le_of_ble_eq_true rfl, Nat.le_of_ble_eq_true rfl⟩) hS (fun _ h => h) (fun _ h => h) (fun q_10 H locs hY hk hS => ?_)
          obtain ⟨hq_10, hP⟩ := hY
          replace hq_10 := hq_10.symm
          subst hq_10
          refine va_mmax hx hb (hml.trans hl.1.symm) hown (hq _ w_1083) (hq _ w_47) (hq _ w_5) (hq _ w_48) (Nat.le_of_ble_eq_true rfl) (Nat.le_of_ble_eq_true rfl) (Nat.le_of_ble_eq_true rfl) (Nat.le_of_ble_eq_true rfl) dX2_mostGone_28 ?_
          refine lv_topi (fun x_11 ex_11 => ?_)
          replace h := gb_lt_s ex_11 h
          refine lv_istore_n (lv' := [(1, .int x_11), (0, .ref (b + 130)), (2, .int v2)]) hx hb dX2_mostGone_31 rfl hl (by decide) rfl (fun ls hl => ?_)
          obtain ⟨x_12, ex_12⟩ : ∃ q, q = (v2 + 1) := ⟨_, rfl⟩
          replace h := gb_lt_s ex_12 h
          refine lv_iinc (v := x_12) (lv' := [(2, .int x_12), (1, .int x_11), (0, .ref (b + 130))]) hx hb dX2_mostGone_32 hl (k := 2) rfl (by rw [ex_12]; rfl) (by decide) rfl (fun ls hl => ?_)
          refine lv_goto (tgt := 4) hx hb dX2_mostGone_35 (by decide) ?_
          exact ih _ _ _ _ _ _ h hP hS (lv_sub hl [2, 1, 0] rfl)
  unfold cs_Flocks_mostGone at h
  refine lv_iconst (v := 0) hx hb dX2_mostGone_0 (by decide) ?_
  refine lv_istore_n (lv' := [(1, .int 0), (0, .ref (b + 130))]) hx hb dX2_mostGone_1 rfl hl (by decide) rfl (fun ls hl => ?_)
  refine lv_iconst (v := 0) hx hb dX2_mostGone_2 (by decide) ?_
  refine lv_istore_n (lv' := [(2, .int 0), (1, .int 0), (0, .ref (b + 130))]) hx hb dX2_mostGone_3 rfl hl (by decide) rfl (fun ls hl => ?_)
  exact L4_1 n _ _ _ _ _ _ h hP hS (lv_sub hl [2, 1, 0] rfl)
theorem w_1082 : (Cond.code ({ cls := "GooseBorder$Flocks", name := "mostGone", desc := "()I" } : MethodName) prog_4_method_14_code (3 : Nat) (Option.some FieldType.int)) ∈ gb_wA := gb_t5 122 rfl rfl
theorem w_1079 : (Cond.methodLink "GooseBorder" (370 : Nat) ({ cls := "GooseBorder$Flocks", name := "mostGone", desc := "()I" } : MethodName)) ∈ gb_wA := gb_t5 119 rfl rfl
theorem w_1080 : (Cond.instanceMethod ({ cls := "GooseBorder$Flocks", name := "mostGone", desc := "()I" } : MethodName)) ∈ gb_wA := gb_t5 120 rfl rfl
theorem w_1081 : (Cond.selects "GooseBorder$Flocks" ({ cls := "GooseBorder$Flocks", name := "mostGone", desc := "()I" } : MethodName) ({ cls := "GooseBorder$Flocks", name := "mostGone", desc := "()I" } : MethodName)) ∈ gb_wA := gb_t5 121 rfl rfl
theorem dX11_told_151 : decode cX11_told 151 = .ok (.ireturn, 1) := dc_172 (show ((cX11_told.data.toList.drop 151).take 1).map UInt8.toNat = [172] by decide +kernel)
theorem dX11_told_152 : decode cX11_told 152 = .ok (.aload_n 0, 1) := dc_42 (show ((cX11_told.data.toList.drop 152).take 1).map UInt8.toNat = [42] by decide +kernel)
theorem dX11_told_153 : decode cX11_told 153 = .ok (.getfield 70, 3) := dc_180 (show ((cX11_told.data.toList.drop 153).take 3).map UInt8.toNat = [180, 0, 70] by decide +kernel) rfl
theorem dX11_told_156 : decode cX11_told 156 = .ok (.invokevirtual 373, 3) := dc_182 (show ((cX11_told.data.toList.drop 156).take 3).map UInt8.toNat = [182, 1, 117] by decide +kernel) rfl
theorem dX2_sureOnes_0 : decode cX2_sureOnes 0 = .ok (.aload_n 0, 1) := dc_42 (show ((cX2_sureOnes.data.toList.drop 0).take 1).map UInt8.toNat = [42] by decide +kernel)
theorem dX2_sureOnes_1 : decode cX2_sureOnes 1 = .ok (.getfield 31, 3) := dc_180 (show ((cX2_sureOnes.data.toList.drop 1).take 3).map UInt8.toNat = [180, 0, 31] by decide +kernel) rfl
theorem dX2_sureOnes_4 : decode cX2_sureOnes 4 = .ok (.iconst 1, 1) := dc_4 (show ((cX2_sureOnes.data.toList.drop 4).take 1).map UInt8.toNat = [4] by decide +kernel)
theorem dX2_sureOnes_5 : decode cX2_sureOnes 5 = .ok (.isub, 1) := dc_100 (show ((cX2_sureOnes.data.toList.drop 5).take 1).map UInt8.toNat = [100] by decide +kernel)
theorem dX2_sureOnes_6 : decode cX2_sureOnes 6 = .ok (.istore_n 1, 1) := dc_60 (show ((cX2_sureOnes.data.toList.drop 6).take 1).map UInt8.toNat = [60] by decide +kernel)
theorem dX2_sureOnes_7 : decode cX2_sureOnes 7 = .ok (.iconst 0, 1) := dc_3 (show ((cX2_sureOnes.data.toList.drop 7).take 1).map UInt8.toNat = [3] by decide +kernel)
theorem dX2_sureOnes_8 : decode cX2_sureOnes 8 = .ok (.istore_n 2, 1) := dc_61 (show ((cX2_sureOnes.data.toList.drop 8).take 1).map UInt8.toNat = [61] by decide +kernel)
theorem dX2_sureOnes_9 : decode cX2_sureOnes 9 = .ok (.iload_n 2, 1) := dc_28 (show ((cX2_sureOnes.data.toList.drop 9).take 1).map UInt8.toNat = [28] by decide +kernel)
theorem dX2_sureOnes_10 : decode cX2_sureOnes 10 = .ok (.aload_n 0, 1) := dc_42 (show ((cX2_sureOnes.data.toList.drop 10).take 1).map UInt8.toNat = [42] by decide +kernel)
theorem dX2_sureOnes_11 : decode cX2_sureOnes 11 = .ok (.getfield 31, 3) := dc_180 (show ((cX2_sureOnes.data.toList.drop 11).take 3).map UInt8.toNat = [180, 0, 31] by decide +kernel) rfl
theorem dX2_sureOnes_14 : decode cX2_sureOnes 14 = .ok (.if_icmp .ge 24, 3) := dc_162 (show ((cX2_sureOnes.data.toList.drop 14).take 3).map UInt8.toNat = [162, 0, 24] by decide +kernel) rfl
theorem dX2_sureOnes_38 : decode cX2_sureOnes 38 = .ok (.iload_n 1, 1) := dc_27 (show ((cX2_sureOnes.data.toList.drop 38).take 1).map UInt8.toNat = [27] by decide +kernel)
theorem dX2_sureOnes_39 : decode cX2_sureOnes 39 = .ok (.ireturn, 1) := dc_172 (show ((cX2_sureOnes.data.toList.drop 39).take 1).map UInt8.toNat = [172] by decide +kernel)
theorem dX2_sureOnes_17 : decode cX2_sureOnes 17 = .ok (.aload_n 0, 1) := dc_42 (show ((cX2_sureOnes.data.toList.drop 17).take 1).map UInt8.toNat = [42] by decide +kernel)
theorem dX2_sureOnes_18 : decode cX2_sureOnes 18 = .ok (.getfield 18, 3) := dc_180 (show ((cX2_sureOnes.data.toList.drop 18).take 3).map UInt8.toNat = [180, 0, 18] by decide +kernel) rfl
theorem dX2_sureOnes_21 : decode cX2_sureOnes 21 = .ok (.iload_n 2, 1) := dc_28 (show ((cX2_sureOnes.data.toList.drop 21).take 1).map UInt8.toNat = [28] by decide +kernel)
theorem dX2_sureOnes_22 : decode cX2_sureOnes 22 = .ok (.laload, 1) := dc_47 (show ((cX2_sureOnes.data.toList.drop 22).take 1).map UInt8.toNat = [47] by decide +kernel)
theorem dX2_sureOnes_23 : decode cX2_sureOnes 23 = .ok (.lconst 0, 1) := dc_9 (show ((cX2_sureOnes.data.toList.drop 23).take 1).map UInt8.toNat = [9] by decide +kernel)
theorem dX2_sureOnes_24 : decode cX2_sureOnes 24 = .ok (.lcmp, 1) := dc_148 (show ((cX2_sureOnes.data.toList.drop 24).take 1).map UInt8.toNat = [148] by decide +kernel)
theorem dX2_sureOnes_25 : decode cX2_sureOnes 25 = .ok (.ifCond .le 7, 3) := dc_158 (show ((cX2_sureOnes.data.toList.drop 25).take 3).map UInt8.toNat = [158, 0, 7] by decide +kernel) rfl
theorem dX2_sureOnes_32 : decode cX2_sureOnes 32 = .ok (.iinc 2 1, 3) := dc_132 (show ((cX2_sureOnes.data.toList.drop 32).take 3).map UInt8.toNat = [132, 2, 1] by decide +kernel) rfl
theorem dX2_sureOnes_35 : decode cX2_sureOnes 35 = .ok (.goto (-26), 3) := dc_167 (show ((cX2_sureOnes.data.toList.drop 35).take 3).map UInt8.toNat = [167, 255, 230] by decide +kernel) rfl
theorem dX2_sureOnes_28 : decode cX2_sureOnes 28 = .ok (.iload_n 1, 1) := dc_27 (show ((cX2_sureOnes.data.toList.drop 28).take 1).map UInt8.toNat = [27] by decide +kernel)
theorem dX2_sureOnes_29 : decode cX2_sureOnes 29 = .ok (.iload_n 2, 1) := dc_28 (show ((cX2_sureOnes.data.toList.drop 29).take 1).map UInt8.toNat = [28] by decide +kernel)
theorem dX2_sureOnes_30 : decode cX2_sureOnes 30 = .ok (.iand, 1) := dc_126 (show ((cX2_sureOnes.data.toList.drop 30).take 1).map UInt8.toNat = [126] by decide +kernel)
theorem dX2_sureOnes_31 : decode cX2_sureOnes 31 = .ok (.istore_n 1, 1) := dc_60 (show ((cX2_sureOnes.data.toList.drop 31).take 1).map UInt8.toNat = [60] by decide +kernel)
def cs_Flocks_sureOnes_9 (n : Nat) : Nat → gb_S → Int32 → Int32 → gb_CR Int32
  | 0, _, _, _ => none
  | mm + 1, σ, v1, v2 => (if (σ.1 130 4) ≤ v2 then some (σ, v1) else gb_kk (gb_kJ (σ.2.1 4)) (gb_ck v2 256 (gb_lt ((σ.2.2 (σ.2.1 4)) (Int32.toNatClampNeg v2)) (fun x_5 => (if (lg_cmp x_5 (0 : Int64)) ≤ 0 then gb_lt (v2 + 1) (fun x_7 => cs_Flocks_sureOnes_9 n mm σ v1 x_7) else gb_lt (v1 &&& v2) (fun x_8 => gb_lt (v2 + 1) (fun x_9 => cs_Flocks_sureOnes_9 n mm σ x_8 x_9)))))))
def cs_Flocks_sureOnes (n : Nat) (σ : gb_S) : gb_CR Int32 := gb_lt ((σ.1 130 4) - 1) (fun x_1 => cs_Flocks_sureOnes_9 n n σ x_1 0)
set_option maxHeartbeats 8000000 in
set_option maxRecDepth 100000 in
theorem cc_Flocks_sureOnes (l : Launch) (D : va_G) (cT : Nat → ClassId) (tt : Nat → Nat) (b1 b : Nat) (hb1 : b1 ≤ b) (n : Nat) (σ : gb_S) (σE : gb_S) (rE : Int32) (h : cs_Flocks_sureOnes n σ = some (σE, rE)) : Met l yX2_sureOnes (.code yX2_sureOnes cX2_sureOnes 3 (some FieldType.int) :: gb_wA) ({ frames := 0, cells := 0, slots := 0, locals := 0 }) (gb_Pc D cT tt b1 [.ref (b + 130)] (fun h => va_P D vwCl (gb_wl b (gb_CW cT b σ)) h)) (gb_Qi (fun r h => r = rE ∧ va_P D vwCl (gb_wl b (gb_CW cT b σE)) h) (gb_fr b 135)) 0 0 (gb_fr b 135) := by
  refine Met.ofW (cc := cX2_sureOnes) (maxL := 3) (ret := (some FieldType.int)) (by decide) rfl ?_
  intro p e s m args below meth c s₁ B hml hv
  obtain ⟨rfl, hSt, hP⟩ := hv
  have hx := B.exec
  have hb := B.bytes
  have hr := B.returns
  have hts := atoms_spec (ws := .code yX2_sureOnes cX2_sureOnes 3 (some FieldType.int) :: gb_wA) B.pre
  have hq : ∀ w ∈ gb_wA, w.before _ s = true := fun w h => hts w (List.mem_cons_of_mem _ h)
  have hown : s.vm.findClass RX2 = some m.cls := findClass_of_methodNamed B.named
  have hlocks := B.notSynchronized
  clear B hts
  have hK := hSt.1
  have hS : va_S (gb_fr b 135) s.heap s.heap [] := va_S.rf
  have hl := lv_entry ([.ref (b + 130)]) (n := 3) (Nat.le_of_ble_eq_true rfl)
  rw [lg_entry_eq]
  generalize (lg_sl ([.ref (b + 130)]) ++ List.replicate (3 - (lg_sl ([.ref (b + 130)])).length) Slot.unset).toArray = ls at hl ⊢
  replace hl : lv_has ls 3 [(0, .ref (b + 130))] := hl
  have L9_1 : ∀ (mm : Nat) (σ : gb_S) (v1 : Int32) (v2 : Int32) (H : Heap) (locs : List Loc) (ls : Array Slot), cs_Flocks_sureOnes_9 n mm σ v1 v2 = some (σE, rE) → va_P D vwCl (gb_wl b (gb_CW cT b σ)) H → va_S (gb_fr b 135) s.heap H locs → lv_has ls 3 [(0, .ref (b + 130)), (1, .int v1), (2, .int v2)] → W p l e (headSpec (.code yX2_sureOnes cX2_sureOnes 3 (some FieldType.int) :: gb_wA) ({ frames := 0, cells := 0, slots := 0, locals := 0 })).room s m ([.ref (b + 130)]).toArray below meth c H locs 0 0 (MQ below (gb_Qi (fun r h => r = rE ∧ va_P D vwCl (gb_wl b (gb_CW cT b σE)) h) (gb_fr b 135)) ([.ref (b + 130)]).toArray s 0 0 (gb_fr b 135)) (F0 m 9 ls []) := by
    clear h hP hS hl ls
    intro mm
    induction mm with
    | zero =>
      intro σ v1 v2 H locs ls h
      cases h
    | succ mm ih =>
      intro σ v1 v2 H locs ls h hP hS hl
      rw [cs_Flocks_sureOnes_9] at h
      refine lv_iload_n hx hb dX2_sureOnes_9 rfl (lv_at hl 2 rfl) ?_
      refine lv_aload_n hx hb dX2_sureOnes_10 rfl (lv_at hl 0 rfl) ?_
      refine va_get (ci := 2) (v := (.int (σ.1 130 4))) (C := RX2) (T := TX2) (N := 6) hx hb hq i_X2 hown hK hP 130 (gb_at b rfl) rfl 4 (by decide) (hq _ w_298) (fun _ h9 => h9) rfl dX2_sureOnes_11 ?_
      refine lv_icmp_ge (tgt := 38) hx hb dX2_sureOnes_14 (by decide) (fun c_2 => ?_) (fun c_2 => ?_)
      · rw [if_pos c_2] at h
        refine lv_iload_n hx hb dX2_sureOnes_38 rfl (lv_at hl 1 rfl) ?_
        obtain ⟨e1, e2⟩ := gb_eq2 h
        exact W.iret (v := v1) hx hb hr (fun t ht hW => gb_ri ht ⟨e2, by rw [← e1]; exact hP⟩ hS) hS.2.2 dX2_sureOnes_39
      · rw [if_neg c_2] at h
        refine lv_aload_n hx hb dX2_sureOnes_17 rfl (lv_at hl 0 rfl) ?_
        obtain ⟨z_3, h⟩ := gb_kk_s h
        refine va_get (ci := 2) (v := (.ref (b + (σ.2.1 4)))) (C := RX2) (T := TX2) (N := 6) hx hb hq i_X2 hown hK hP 130 (gb_at b rfl) rfl 2 (by decide) (hq _ w_296) (fun _ h9 => h9) rfl dX2_sureOnes_18 ?_
        refine lv_iload_n hx hb dX2_sureOnes_21 rfl (lv_at hl 2 rfl) ?_
        obtain ⟨z_4, h⟩ := gb_ck_s h
        refine va_lald hx hb hK hP (σ.2.1 4) 3 (gb_at b (gb_cJ z_3)) rfl z_4 dX2_sureOnes_22 ?_
        refine lv_topl (fun x_5 ex_5 => ?_)
        replace h := gb_lt_s ex_5 h
        refine lv_lconst (v := 0) hx hb dX2_sureOnes_23 (by decide) ?_
        refine W.lcmp hx hb dX2_sureOnes_24 ?_
        refine lv_if_le (tgt := 32) hx hb dX2_sureOnes_25 (by decide) (fun c_6 => ?_) (fun c_6 => ?_)
        · rw [if_pos c_6] at h
          obtain ⟨x_7, ex_7⟩ : ∃ q, q = (v2 + 1) := ⟨_, rfl⟩
          replace h := gb_lt_s ex_7 h
          refine lv_iinc (v := x_7) (lv' := [(2, .int x_7), (0, .ref (b + 130)), (1, .int v1)]) hx hb dX2_sureOnes_32 hl (k := 2) rfl (by rw [ex_7]; rfl) (by decide) rfl (fun ls hl => ?_)
          refine lv_goto (tgt := 9) hx hb dX2_sureOnes_35 (by decide) ?_
          exact ih _ _ _ _ _ _ h hP hS (lv_sub hl [1, 2, 0] rfl)
        · rw [if_neg c_6] at h
          refine lv_iload_n hx hb dX2_sureOnes_28 rfl (lv_at hl 1 rfl) ?_
          refine lv_iload_n hx hb dX2_sureOnes_29 rfl (lv_at hl 2 rfl) ?_
          refine lv_iand hx hb dX2_sureOnes_30 ?_
          refine lv_topi (fun x_8 ex_8 => ?_)
          replace h := gb_lt_s ex_8 h
          refine lv_istore_n (lv' := [(1, .int x_8), (0, .ref (b + 130)), (2, .int v2)]) hx hb dX2_sureOnes_31 rfl hl (by decide) rfl (fun ls hl => ?_)
          obtain ⟨x_9, ex_9⟩ : ∃ q, q = (v2 + 1) := ⟨_, rfl⟩
          replace h := gb_lt_s ex_9 h
          refine lv_iinc (v := x_9) (lv' := [(2, .int x_9), (1, .int x_8), (0, .ref (b + 130))]) hx hb dX2_sureOnes_32 hl (k := 2) rfl (by rw [ex_9]; rfl) (by decide) rfl (fun ls hl => ?_)
          refine lv_goto (tgt := 9) hx hb dX2_sureOnes_35 (by decide) ?_
          exact ih _ _ _ _ _ _ h hP hS (lv_sub hl [2, 1, 0] rfl)
  unfold cs_Flocks_sureOnes at h
  refine lv_aload_n hx hb dX2_sureOnes_0 rfl (lv_at hl 0 rfl) ?_
  refine va_get (ci := 2) (v := (.int (σ.1 130 4))) (C := RX2) (T := TX2) (N := 6) hx hb hq i_X2 hown hK hP 130 (gb_at b rfl) rfl 4 (by decide) (hq _ w_298) (fun _ h9 => h9) rfl dX2_sureOnes_1 ?_
  refine lv_iconst (v := 1) hx hb dX2_sureOnes_4 (by decide) ?_
  refine lv_isub hx hb dX2_sureOnes_5 ?_
  refine lv_topi (fun x_1 ex_1 => ?_)
  replace h := gb_lt_s ex_1 h
  refine lv_istore_n (lv' := [(1, .int x_1), (0, .ref (b + 130))]) hx hb dX2_sureOnes_6 rfl hl (by decide) rfl (fun ls hl => ?_)
  refine lv_iconst (v := 0) hx hb dX2_sureOnes_7 (by decide) ?_
  refine lv_istore_n (lv' := [(2, .int 0), (1, .int x_1), (0, .ref (b + 130))]) hx hb dX2_sureOnes_8 rfl hl (by decide) rfl (fun ls hl => ?_)
  exact L9_1 n _ _ _ _ _ _ h hP hS (lv_sub hl [2, 1, 0] rfl)
theorem w_1087 : (Cond.code ({ cls := "GooseBorder$Flocks", name := "sureOnes", desc := "()I" } : MethodName) prog_4_method_15_code (3 : Nat) (Option.some FieldType.int)) ∈ gb_wA := gb_t5 127 rfl rfl
theorem w_1084 : (Cond.methodLink "GooseBorder" (373 : Nat) ({ cls := "GooseBorder$Flocks", name := "sureOnes", desc := "()I" } : MethodName)) ∈ gb_wA := gb_t5 124 rfl rfl
theorem w_1085 : (Cond.instanceMethod ({ cls := "GooseBorder$Flocks", name := "sureOnes", desc := "()I" } : MethodName)) ∈ gb_wA := gb_t5 125 rfl rfl
theorem w_1086 : (Cond.selects "GooseBorder$Flocks" ({ cls := "GooseBorder$Flocks", name := "sureOnes", desc := "()I" } : MethodName) ({ cls := "GooseBorder$Flocks", name := "sureOnes", desc := "()I" } : MethodName)) ∈ gb_wA := gb_t5 126 rfl rfl
theorem dX11_told_159 : decode cX11_told 159 = .ok (.ireturn, 1) := dc_172 (show ((cX11_told.data.toList.drop 159).take 1).map UInt8.toNat = [172] by decide +kernel)
theorem dX11_told_160 : decode cX11_told 160 = .ok (.aload_n 0, 1) := dc_42 (show ((cX11_told.data.toList.drop 160).take 1).map UInt8.toNat = [42] by decide +kernel)
theorem dX11_told_161 : decode cX11_told 161 = .ok (.getfield 70, 3) := dc_180 (show ((cX11_told.data.toList.drop 161).take 3).map UInt8.toNat = [180, 0, 70] by decide +kernel) rfl
theorem dX11_told_164 : decode cX11_told 164 = .ok (.aload 4, 2) := dc_25 (show ((cX11_told.data.toList.drop 164).take 2).map UInt8.toNat = [25, 4] by decide +kernel) rfl
theorem dX11_told_166 : decode cX11_told 166 = .ok (.aload 5, 2) := dc_25 (show ((cX11_told.data.toList.drop 166).take 2).map UInt8.toNat = [25, 5] by decide +kernel) rfl
theorem dX11_told_168 : decode cX11_told 168 = .ok (.iload_n 3, 1) := dc_29 (show ((cX11_told.data.toList.drop 168).take 1).map UInt8.toNat = [29] by decide +kernel)
theorem dX11_told_169 : decode cX11_told 169 = .ok (.bipush 10, 2) := dc_16 (show ((cX11_told.data.toList.drop 169).take 2).map UInt8.toNat = [16, 10] by decide +kernel) rfl
theorem dX11_told_171 : decode cX11_told 171 = .ok (.isub, 1) := dc_100 (show ((cX11_told.data.toList.drop 171).take 1).map UInt8.toNat = [100] by decide +kernel)
theorem dX11_told_172 : decode cX11_told 172 = .ok (.invokevirtual 376, 3) := dc_182 (show ((cX11_told.data.toList.drop 172).take 3).map UInt8.toNat = [182, 1, 120] by decide +kernel) rfl
theorem dX2_pathsInAnyWay_0 : decode cX2_pathsInAnyWay 0 = .ok (.iconst 0, 1) := dc_3 (show ((cX2_pathsInAnyWay.data.toList.drop 0).take 1).map UInt8.toNat = [3] by decide +kernel)
theorem dX2_pathsInAnyWay_1 : decode cX2_pathsInAnyWay 1 = .ok (.istore 4, 2) := dc_54 (show ((cX2_pathsInAnyWay.data.toList.drop 1).take 2).map UInt8.toNat = [54, 4] by decide +kernel) rfl
theorem dX2_pathsInAnyWay_3 : decode cX2_pathsInAnyWay 3 = .ok (.iconst 0, 1) := dc_3 (show ((cX2_pathsInAnyWay.data.toList.drop 3).take 1).map UInt8.toNat = [3] by decide +kernel)
theorem dX2_pathsInAnyWay_4 : decode cX2_pathsInAnyWay 4 = .ok (.istore 5, 2) := dc_54 (show ((cX2_pathsInAnyWay.data.toList.drop 4).take 2).map UInt8.toNat = [54, 5] by decide +kernel) rfl
theorem dX2_pathsInAnyWay_6 : decode cX2_pathsInAnyWay 6 = .ok (.iload 5, 2) := dc_21 (show ((cX2_pathsInAnyWay.data.toList.drop 6).take 2).map UInt8.toNat = [21, 5] by decide +kernel) rfl
theorem dX2_pathsInAnyWay_8 : decode cX2_pathsInAnyWay 8 = .ok (.aload_n 2, 1) := dc_44 (show ((cX2_pathsInAnyWay.data.toList.drop 8).take 1).map UInt8.toNat = [44] by decide +kernel)
theorem dX2_pathsInAnyWay_9 : decode cX2_pathsInAnyWay 9 = .ok (.invokevirtual 73, 3) := dc_182 (show ((cX2_pathsInAnyWay.data.toList.drop 9).take 3).map UInt8.toNat = [182, 0, 73] by decide +kernel) rfl
theorem dX2_pathsInAnyWay_12 : decode cX2_pathsInAnyWay 12 = .ok (.if_icmp .ge 40, 3) := dc_162 (show ((cX2_pathsInAnyWay.data.toList.drop 12).take 3).map UInt8.toNat = [162, 0, 40] by decide +kernel) rfl
theorem dX2_pathsInAnyWay_52 : decode cX2_pathsInAnyWay 52 = .ok (.iload 4, 2) := dc_21 (show ((cX2_pathsInAnyWay.data.toList.drop 52).take 2).map UInt8.toNat = [21, 4] by decide +kernel) rfl
theorem dX2_pathsInAnyWay_54 : decode cX2_pathsInAnyWay 54 = .ok (.ireturn, 1) := dc_172 (show ((cX2_pathsInAnyWay.data.toList.drop 54).take 1).map UInt8.toNat = [172] by decide +kernel)
theorem dX2_pathsInAnyWay_15 : decode cX2_pathsInAnyWay 15 = .ok (.aload_n 0, 1) := dc_42 (show ((cX2_pathsInAnyWay.data.toList.drop 15).take 1).map UInt8.toNat = [42] by decide +kernel)
theorem dX2_pathsInAnyWay_16 : decode cX2_pathsInAnyWay 16 = .ok (.aload_n 1, 1) := dc_43 (show ((cX2_pathsInAnyWay.data.toList.drop 16).take 1).map UInt8.toNat = [43] by decide +kernel)
theorem dX2_pathsInAnyWay_17 : decode cX2_pathsInAnyWay 17 = .ok (.aload_n 2, 1) := dc_44 (show ((cX2_pathsInAnyWay.data.toList.drop 17).take 1).map UInt8.toNat = [44] by decide +kernel)
theorem dX2_pathsInAnyWay_18 : decode cX2_pathsInAnyWay 18 = .ok (.iload_n 3, 1) := dc_29 (show ((cX2_pathsInAnyWay.data.toList.drop 18).take 1).map UInt8.toNat = [29] by decide +kernel)
theorem dX2_pathsInAnyWay_19 : decode cX2_pathsInAnyWay 19 = .ok (.iload 5, 2) := dc_21 (show ((cX2_pathsInAnyWay.data.toList.drop 19).take 2).map UInt8.toNat = [21, 5] by decide +kernel) rfl
theorem dX2_pathsInAnyWay_21 : decode cX2_pathsInAnyWay 21 = .ok (.invokevirtual 102, 3) := dc_182 (show ((cX2_pathsInAnyWay.data.toList.drop 21).take 3).map UInt8.toNat = [182, 0, 102] by decide +kernel) rfl
theorem w_1092 : (Cond.methodLink "GooseBorder$Flocks" (102 : Nat) ({ cls := "GooseBorder$Flocks", name := "findWays", desc := "(LGooseBorder$Border;LGooseBorder$Dawn;II)V" } : MethodName)) ∈ gb_wA := gb_t5 132 rfl rfl
theorem dX2_pathsInAnyWay_24 : decode cX2_pathsInAnyWay 24 = .ok (.aload_n 0, 1) := dc_42 (show ((cX2_pathsInAnyWay.data.toList.drop 24).take 1).map UInt8.toNat = [42] by decide +kernel)
theorem dX2_pathsInAnyWay_25 : decode cX2_pathsInAnyWay 25 = .ok (.invokevirtual 106, 3) := dc_182 (show ((cX2_pathsInAnyWay.data.toList.drop 25).take 3).map UInt8.toNat = [182, 0, 106] by decide +kernel) rfl
theorem w_1093 : (Cond.methodLink "GooseBorder$Flocks" (106 : Nat) ({ cls := "GooseBorder$Flocks", name := "allWays", desc := "()J" } : MethodName)) ∈ gb_wA := gb_t5 133 rfl rfl
theorem dX2_pathsInAnyWay_28 : decode cX2_pathsInAnyWay 28 = .ok (.lconst 0, 1) := dc_9 (show ((cX2_pathsInAnyWay.data.toList.drop 28).take 1).map UInt8.toNat = [9] by decide +kernel)
theorem dX2_pathsInAnyWay_29 : decode cX2_pathsInAnyWay 29 = .ok (.lcmp, 1) := dc_148 (show ((cX2_pathsInAnyWay.data.toList.drop 29).take 1).map UInt8.toNat = [148] by decide +kernel)
theorem dX2_pathsInAnyWay_30 : decode cX2_pathsInAnyWay 30 = .ok (.ifCond .le 16, 3) := dc_158 (show ((cX2_pathsInAnyWay.data.toList.drop 30).take 3).map UInt8.toNat = [158, 0, 16] by decide +kernel) rfl
theorem dX2_pathsInAnyWay_46 : decode cX2_pathsInAnyWay 46 = .ok (.iinc 5 1, 3) := dc_132 (show ((cX2_pathsInAnyWay.data.toList.drop 46).take 3).map UInt8.toNat = [132, 5, 1] by decide +kernel) rfl
theorem dX2_pathsInAnyWay_49 : decode cX2_pathsInAnyWay 49 = .ok (.goto (-43), 3) := dc_167 (show ((cX2_pathsInAnyWay.data.toList.drop 49).take 3).map UInt8.toNat = [167, 255, 213] by decide +kernel) rfl
theorem dX2_pathsInAnyWay_33 : decode cX2_pathsInAnyWay 33 = .ok (.iload 4, 2) := dc_21 (show ((cX2_pathsInAnyWay.data.toList.drop 33).take 2).map UInt8.toNat = [21, 4] by decide +kernel) rfl
theorem dX2_pathsInAnyWay_35 : decode cX2_pathsInAnyWay 35 = .ok (.iconst 1, 1) := dc_4 (show ((cX2_pathsInAnyWay.data.toList.drop 35).take 1).map UInt8.toNat = [4] by decide +kernel)
theorem dX2_pathsInAnyWay_36 : decode cX2_pathsInAnyWay 36 = .ok (.aload_n 2, 1) := dc_44 (show ((cX2_pathsInAnyWay.data.toList.drop 36).take 1).map UInt8.toNat = [44] by decide +kernel)
theorem dX2_pathsInAnyWay_37 : decode cX2_pathsInAnyWay 37 = .ok (.iload 5, 2) := dc_21 (show ((cX2_pathsInAnyWay.data.toList.drop 37).take 2).map UInt8.toNat = [21, 5] by decide +kernel) rfl
theorem dX2_pathsInAnyWay_39 : decode cX2_pathsInAnyWay 39 = .ok (.invokevirtual 78, 3) := dc_182 (show ((cX2_pathsInAnyWay.data.toList.drop 39).take 3).map UInt8.toNat = [182, 0, 78] by decide +kernel) rfl
theorem dX2_pathsInAnyWay_42 : decode cX2_pathsInAnyWay 42 = .ok (.ishl, 1) := dc_120 (show ((cX2_pathsInAnyWay.data.toList.drop 42).take 1).map UInt8.toNat = [120] by decide +kernel)
theorem dX2_pathsInAnyWay_43 : decode cX2_pathsInAnyWay 43 = .ok (.ior, 1) := dc_128 (show ((cX2_pathsInAnyWay.data.toList.drop 43).take 1).map UInt8.toNat = [128] by decide +kernel)
theorem dX2_pathsInAnyWay_44 : decode cX2_pathsInAnyWay 44 = .ok (.istore 4, 2) := dc_54 (show ((cX2_pathsInAnyWay.data.toList.drop 44).take 2).map UInt8.toNat = [54, 4] by decide +kernel) rfl
def cs_Flocks_pathsInAnyWay_B_D_6 (n : Nat) : Nat → gb_S → Nat → Nat → Int32 → Int32 → Int32 → gb_CR Int32
  | 0, _, _, _, _, _, _ => none
  | mm + 1, σ, v1, v2, v3, v4, v5 => gb_kk (gb_kB v1) (gb_kk (gb_kD v2) (gb_cd (cs_Lines_size_D n σ v2) (fun s_5 r_6 => (if r_6 ≤ v5 then some (s_5, v4) else gb_cd (cs_Flocks_findWays_B_D n s_5 v1 v2 v3 v5) (fun s_10 _ => gb_cd (cs_Flocks_allWays n s_10) (fun s_14 r_15 => (if (lg_cmp r_15 (0 : Int64)) ≤ 0 then gb_lt (v5 + 1) (fun x_19 => cs_Flocks_pathsInAnyWay_B_D_6 n mm s_14 v1 v2 v3 v4 x_19) else gb_cd (cs_Dawn_pathSeen_D n s_14 v2 v5) (fun s_20 r_21 => gb_lt (v4 ||| ((1 : Int32) <<< (r_21 &&& 31))) (fun x_24 => gb_lt (v5 + 1) (fun x_25 => cs_Flocks_pathsInAnyWay_B_D_6 n mm s_20 v1 v2 v3 x_24 x_25))))))))))
def cs_Flocks_pathsInAnyWay_B_D (n : Nat) (σ : gb_S) (p1 : Nat) (p2 : Nat) (p3 : Int32) : gb_CR Int32 := gb_kk (gb_kB p1) (gb_kk (gb_kD p2) (cs_Flocks_pathsInAnyWay_B_D_6 n n σ p1 p2 p3 0 0))
set_option maxHeartbeats 8000000 in
set_option maxRecDepth 100000 in
theorem cc_Flocks_pathsInAnyWay_B_D (l : Launch) (D : va_G) (cT : Nat → ClassId) (tt : Nat → Nat) (b1 b : Nat) (hb1 : b1 ≤ b) (n : Nat) (σ : gb_S) (p1 : Nat) (p2 : Nat) (p3 : Int32) (σE : gb_S) (rE : Int32) (h : cs_Flocks_pathsInAnyWay_B_D n σ p1 p2 p3 = some (σE, rE)) : Met l yX2_pathsInAnyWay (.code yX2_pathsInAnyWay cX2_pathsInAnyWay 6 (some FieldType.int) :: gb_wA) ({ frames := 5, cells := 0, slots := 0, locals := 123 }) (gb_Pc D cT tt b1 [.ref (b + 130), .ref (b + p1), .ref (b + p2), .int p3] (fun h => va_P D vwCl (gb_wl b (gb_CW cT b σ)) h)) (gb_Qi (fun r h => r = rE ∧ va_P D vwCl (gb_wl b (gb_CW cT b σE)) h) (gb_fr b 135)) 0 0 (gb_fr b 135) := by
  refine Met.ofW (cc := cX2_pathsInAnyWay) (maxL := 6) (ret := (some FieldType.int)) (by decide) rfl ?_
  intro p e s m args below meth c s₁ B hml hv
  obtain ⟨rfl, hSt, hP⟩ := hv
  have hx := B.exec
  have hb := B.bytes
  have hr := B.returns
  have hts := atoms_spec (ws := .code yX2_pathsInAnyWay cX2_pathsInAnyWay 6 (some FieldType.int) :: gb_wA) B.pre
  have hq : ∀ w ∈ gb_wA, w.before _ s = true := fun w h => hts w (List.mem_cons_of_mem _ h)
  have hown : s.vm.findClass RX2 = some m.cls := findClass_of_methodNamed B.named
  have hlocks := B.notSynchronized
  clear B hts
  have hK := hSt.1
  have hS : va_S (gb_fr b 135) s.heap s.heap [] := va_S.rf
  have hl := lv_entry ([.ref (b + 130), .ref (b + p1), .ref (b + p2), .int p3]) (n := 6) (Nat.le_of_ble_eq_true rfl)
  rw [lg_entry_eq]
  generalize (lg_sl ([.ref (b + 130), .ref (b + p1), .ref (b + p2), .int p3]) ++ List.replicate (6 - (lg_sl ([.ref (b + 130), .ref (b + p1), .ref (b + p2), .int p3])).length) Slot.unset).toArray = ls at hl ⊢
  replace hl : lv_has ls 6 [(0, .ref (b + 130)), (1, .ref (b + p1)), (2, .ref (b + p2)), (3, .int p3)] := hl
  have L6_1 : ∀ (mm : Nat) (σ : gb_S) (v1 : Nat) (v2 : Nat) (v3 : Int32) (v4 : Int32) (v5 : Int32) (H : Heap) (locs : List Loc) (ls : Array Slot), cs_Flocks_pathsInAnyWay_B_D_6 n mm σ v1 v2 v3 v4 v5 = some (σE, rE) → va_P D vwCl (gb_wl b (gb_CW cT b σ)) H → va_S (gb_fr b 135) s.heap H locs → lv_has ls 6 [(0, .ref (b + 130)), (1, .ref (b + v1)), (2, .ref (b + v2)), (3, .int v3), (4, .int v4), (5, .int v5)] → W p l e (headSpec (.code yX2_pathsInAnyWay cX2_pathsInAnyWay 6 (some FieldType.int) :: gb_wA) ({ frames := 5, cells := 0, slots := 0, locals := 123 })).room s m ([.ref (b + 130), .ref (b + p1), .ref (b + p2), .int p3]).toArray below meth c H locs 0 0 (MQ below (gb_Qi (fun r h => r = rE ∧ va_P D vwCl (gb_wl b (gb_CW cT b σE)) h) (gb_fr b 135)) ([.ref (b + 130), .ref (b + p1), .ref (b + p2), .int p3]).toArray s 0 0 (gb_fr b 135)) (F0 m 6 ls []) := by
    clear h hP hS hl ls
    intro mm
    induction mm with
    | zero =>
      intro σ v1 v2 v3 v4 v5 H locs ls h
      cases h
    | succ mm ih =>
      intro σ v1 v2 v3 v4 v5 H locs ls h hP hS hl
      rw [cs_Flocks_pathsInAnyWay_B_D_6] at h
      obtain ⟨z_3, h⟩ := gb_kk_s h
      obtain ⟨z_4, h⟩ := gb_kk_s h
      refine lv_iload hx hb dX2_pathsInAnyWay_6 (lv_at hl 5 rfl) ?_
      refine lv_aload_n hx hb dX2_pathsInAnyWay_8 rfl (lv_at hl 2 rfl) ?_
      obtain ⟨s_5, r_6, z_7, h⟩ := gb_cd_s h
      refine gb_calli (va_runU (x := ⟨"GooseBorder$Dawn", "size", "()I"⟩) (C := RX1) (owner := "GooseBorder$Lines") (As := []) (rest := [.int v5]) ⟨hx, hb, hml, hown, hq⟩ (cc_Lines_size_D l D cT tt b1 b hb1 n σ v2 s_5 r_6 z_7) (va_cwU (owner := "GooseBorder$Lines") (C := RX1) 0 hq (gb_gU w_1051 w_535 w_537 w_484 w_6 w_489) rfl rfl rfl rfl (by decide +kernel) ⟨Nat.le_of_ble_eq_true rfl, Nat.le_of_ble_eq_true rfl⟩) (gb_preV (r := (RX1, TX1, 4)) (ci := 1) (q0 := v2) hSt hP rfl (gb_at b (gb_cD z_4).1) hS (fun q h => Nat.le_trans hb1 h.1) hP) rfl rfl hl.1 rfl (lv_room (Nat.le_of_ble_eq_true rfl)) dX2_pathsInAnyWay_9 ⟨Nat.le_of_ble_eq_true rfl, Nat.le_of_ble_eq_true rfl⟩) hS (fun _ h => h) (fun _ h => h) (fun q_8 H locs hY hk hS => ?_)
      obtain ⟨hq_8, hP⟩ := hY
      replace hq_8 := hq_8.symm
      subst hq_8
      refine lv_icmp_ge (tgt := 52) hx hb dX2_pathsInAnyWay_12 (by decide) (fun c_9 => ?_) (fun c_9 => ?_)
      · rw [if_pos c_9] at h
        refine lv_iload hx hb dX2_pathsInAnyWay_52 (lv_at hl 4 rfl) ?_
        obtain ⟨e1, e2⟩ := gb_eq2 h
        exact W.iret (v := v4) hx hb hr (fun t ht hW => gb_ri ht ⟨e2, by rw [← e1]; exact hP⟩ hS) hS.2.2 dX2_pathsInAnyWay_54
      · rw [if_neg c_9] at h
        refine lv_aload_n hx hb dX2_pathsInAnyWay_15 rfl (lv_at hl 0 rfl) ?_
        refine lv_aload_n hx hb dX2_pathsInAnyWay_16 rfl (lv_at hl 1 rfl) ?_
        refine lv_aload_n hx hb dX2_pathsInAnyWay_17 rfl (lv_at hl 2 rfl) ?_
        refine lv_iload_n hx hb dX2_pathsInAnyWay_18 rfl (lv_at hl 3 rfl) ?_
        refine lv_iload hx hb dX2_pathsInAnyWay_19 (lv_at hl 5 rfl) ?_
        obtain ⟨s_10, r_11, z_12, h⟩ := gb_cd_s h
        refine gb_callv (va_runV (C := RX2) (As := [.ref (b + v1), .ref (b + v2), .int v3, .int v5]) (rest := []) ⟨hx, hb, hml, hown, hq⟩ (cc_Flocks_findWays_B_D l D cT tt b1 b hb1 n s_5 v1 v2 v3 v5 s_10 r_11 z_12) (cwV 4 hq (gb_gV w_1092 w_1045 w_1046 w_13 w_1047) rfl rfl rfl (by decide +kernel) ⟨Nat.le_of_ble_eq_true rfl, Nat.le_of_ble_eq_true rfl⟩) (gb_preV (r := (RX2, TX2, 6)) (ci := 2) (q0 := 130) hSt hP rfl (gb_at b rfl) hS (fun q h => Nat.le_trans hb1 h.1) hP) rfl rfl hl.1 rfl (lv_room (Nat.le_of_ble_eq_true rfl)) dX2_pathsInAnyWay_21 ⟨Nat.le_of_ble_eq_true rfl, Nat.le_of_ble_eq_true rfl⟩) hS (fun _ h => h) (fun _ h => h) (fun H locs hY hk hS => ?_)
        have hP := hY
        refine lv_aload_n hx hb dX2_pathsInAnyWay_24 rfl (lv_at hl 0 rfl) ?_
        obtain ⟨s_14, r_15, z_16, h⟩ := gb_cd_s h
        refine gb_calll (va_runV (C := RX2) (As := []) (rest := []) ⟨hx, hb, hml, hown, hq⟩ (cc_Flocks_allWays l D cT tt b1 b hb1 n s_10 s_14 r_15 z_16) (cwV 0 hq (gb_gV w_1093 w_1064 w_1065 w_13 w_1066) rfl rfl rfl (by decide +kernel) ⟨Nat.le_of_ble_eq_true rfl, Nat.le_of_ble_eq_true rfl⟩) (gb_preV (r := (RX2, TX2, 6)) (ci := 2) (q0 := 130) hSt hP rfl (gb_at b rfl) hS (fun q h => Nat.le_trans hb1 h.1) hP) rfl rfl hl.1 rfl (lv_room (Nat.le_of_ble_eq_true rfl)) dX2_pathsInAnyWay_25 ⟨Nat.le_of_ble_eq_true rfl, Nat.le_of_ble_eq_true rfl⟩) hS (fun _ h => h) (fun _ h => h) (fun q_17 H locs hY hk hS => ?_)
        obtain ⟨hq_17, hP⟩ := hY
        replace hq_17 := hq_17.symm
        subst hq_17
        refine lv_lconst (v := 0) hx hb dX2_pathsInAnyWay_28 (by decide) ?_
        refine W.lcmp hx hb dX2_pathsInAnyWay_29 ?_
        refine lv_if_le (tgt := 46) hx hb dX2_pathsInAnyWay_30 (by decide) (fun c_18 => ?_) (fun c_18 => ?_)
        · rw [if_pos c_18] at h
          obtain ⟨x_19, ex_19⟩ : ∃ q, q = (v5 + 1) := ⟨_, rfl⟩
          replace h := gb_lt_s ex_19 h
          refine lv_iinc (v := x_19) (lv' := [(5, .int x_19), (0, .ref (b + 130)), (1, .ref (b + v1)), (2, .ref (b + v2)), (3, .int v3), (4, .int v4)]) hx hb dX2_pathsInAnyWay_46 hl (k := 5) rfl (by rw [ex_19]; rfl) (by decide) rfl (fun ls hl => ?_)
          refine lv_goto (tgt := 6) hx hb dX2_pathsInAnyWay_49 (by decide) ?_
          exact ih _ _ _ _ _ _ _ _ _ h hP hS (lv_sub hl [1, 2, 3, 4, 5, 0] rfl)
        · rw [if_neg c_18] at h
          refine lv_iload hx hb dX2_pathsInAnyWay_33 (lv_at hl 4 rfl) ?_
          refine lv_iconst (v := 1) hx hb dX2_pathsInAnyWay_35 (by decide) ?_
          refine lv_aload_n hx hb dX2_pathsInAnyWay_36 rfl (lv_at hl 2 rfl) ?_
          refine lv_iload hx hb dX2_pathsInAnyWay_37 (lv_at hl 5 rfl) ?_
          obtain ⟨s_20, r_21, z_22, h⟩ := gb_cd_s h
          refine gb_calli (va_runV (C := RX1) (As := [.int v5]) (rest := [.int 1, .int v4]) ⟨hx, hb, hml, hown, hq⟩ (cc_Dawn_pathSeen_D l D cT tt b1 b hb1 n s_14 v2 v5 s_20 r_21 z_22) (cwV 1 hq (gb_gV w_1052 w_539 w_540 w_9 w_541) rfl rfl rfl (by decide +kernel) ⟨Nat.le_of_ble_eq_true rfl, Nat.le_of_ble_eq_true rfl⟩) (gb_preV (r := (RX1, TX1, 4)) (ci := 1) (q0 := v2) hSt hP rfl (gb_at b (gb_cD z_4).1) hS (fun q h => Nat.le_trans hb1 h.1) hP) rfl rfl hl.1 rfl (lv_room (Nat.le_of_ble_eq_true rfl)) dX2_pathsInAnyWay_39 ⟨Nat.le_of_ble_eq_true rfl, Nat.le_of_ble_eq_true rfl⟩) hS (fun _ h => h) (fun _ h => h) (fun q_23 H locs hY hk hS => ?_)
          obtain ⟨hq_23, hP⟩ := hY
          replace hq_23 := hq_23.symm
          subst hq_23
          refine lv_ishl hx hb dX2_pathsInAnyWay_42 ?_
          refine lv_ior hx hb dX2_pathsInAnyWay_43 ?_
          refine lv_topi (fun x_24 ex_24 => ?_)
          replace h := gb_lt_s ex_24 h
          refine lv_istore (lv' := [(4, .int x_24), (0, .ref (b + 130)), (1, .ref (b + v1)), (2, .ref (b + v2)), (3, .int v3), (5, .int v5)]) hx hb dX2_pathsInAnyWay_44 hl (by decide) rfl (fun ls hl => ?_)
          obtain ⟨x_25, ex_25⟩ : ∃ q, q = (v5 + 1) := ⟨_, rfl⟩
          replace h := gb_lt_s ex_25 h
          refine lv_iinc (v := x_25) (lv' := [(5, .int x_25), (4, .int x_24), (0, .ref (b + 130)), (1, .ref (b + v1)), (2, .ref (b + v2)), (3, .int v3)]) hx hb dX2_pathsInAnyWay_46 hl (k := 5) rfl (by rw [ex_25]; rfl) (by decide) rfl (fun ls hl => ?_)
          refine lv_goto (tgt := 6) hx hb dX2_pathsInAnyWay_49 (by decide) ?_
          exact ih _ _ _ _ _ _ _ _ _ h hP hS (lv_sub hl [2, 3, 4, 5, 1, 0] rfl)
  unfold cs_Flocks_pathsInAnyWay_B_D at h
  obtain ⟨z_1, h⟩ := gb_kk_s h
  obtain ⟨z_2, h⟩ := gb_kk_s h
  refine lv_iconst (v := 0) hx hb dX2_pathsInAnyWay_0 (by decide) ?_
  refine lv_istore (lv' := [(4, .int 0), (0, .ref (b + 130)), (1, .ref (b + p1)), (2, .ref (b + p2)), (3, .int p3)]) hx hb dX2_pathsInAnyWay_1 hl (by decide) rfl (fun ls hl => ?_)
  refine lv_iconst (v := 0) hx hb dX2_pathsInAnyWay_3 (by decide) ?_
  refine lv_istore (lv' := [(5, .int 0), (4, .int 0), (0, .ref (b + 130)), (1, .ref (b + p1)), (2, .ref (b + p2)), (3, .int p3)]) hx hb dX2_pathsInAnyWay_4 hl (by decide) rfl (fun ls hl => ?_)
  exact L6_1 n _ _ _ _ _ _ _ _ _ h hP hS (lv_sub hl [2, 3, 4, 5, 1, 0] rfl)
theorem w_1091 : (Cond.code ({ cls := "GooseBorder$Flocks", name := "pathsInAnyWay", desc := "(LGooseBorder$Border;LGooseBorder$Dawn;I)I" } : MethodName) prog_4_method_16_code (6 : Nat) (Option.some FieldType.int)) ∈ gb_wA := gb_t5 131 rfl rfl
theorem w_1088 : (Cond.methodLink "GooseBorder" (376 : Nat) ({ cls := "GooseBorder$Flocks", name := "pathsInAnyWay", desc := "(LGooseBorder$Border;LGooseBorder$Dawn;I)I" } : MethodName)) ∈ gb_wA := gb_t5 128 rfl rfl
theorem w_1089 : (Cond.instanceMethod ({ cls := "GooseBorder$Flocks", name := "pathsInAnyWay", desc := "(LGooseBorder$Border;LGooseBorder$Dawn;I)I" } : MethodName)) ∈ gb_wA := gb_t5 129 rfl rfl
theorem w_1090 : (Cond.selects "GooseBorder$Flocks" ({ cls := "GooseBorder$Flocks", name := "pathsInAnyWay", desc := "(LGooseBorder$Border;LGooseBorder$Dawn;I)I" } : MethodName) ({ cls := "GooseBorder$Flocks", name := "pathsInAnyWay", desc := "(LGooseBorder$Border;LGooseBorder$Dawn;I)I" } : MethodName)) ∈ gb_wA := gb_t5 130 rfl rfl
theorem dX11_told_175 : decode cX11_told 175 = .ok (.ireturn, 1) := dc_172 (show ((cX11_told.data.toList.drop 175).take 1).map UInt8.toNat = [172] by decide +kernel)
theorem dX11_told_107 : decode cX11_told 107 = .ok (.bipush (-2), 2) := dc_16 (show ((cX11_told.data.toList.drop 107).take 2).map UInt8.toNat = [16, 254] by decide +kernel) rfl
theorem dX11_told_109 : decode cX11_told 109 = .ok (.ireturn, 1) := dc_172 (show ((cX11_told.data.toList.drop 109).take 1).map UInt8.toNat = [172] by decide +kernel)
theorem dX11_told_70 : decode cX11_told 70 = .ok (.iload_n 3, 1) := dc_29 (show ((cX11_told.data.toList.drop 70).take 1).map UInt8.toNat = [29] by decide +kernel)
theorem dX11_told_71 : decode cX11_told 71 = .ok (.ifCond .lt 8, 3) := dc_155 (show ((cX11_told.data.toList.drop 71).take 3).map UInt8.toNat = [155, 0, 8] by decide +kernel) rfl
theorem dX11_told_79 : decode cX11_told 79 = .ok (.bipush (-2), 2) := dc_16 (show ((cX11_told.data.toList.drop 79).take 2).map UInt8.toNat = [16, 254] by decide +kernel) rfl
theorem dX11_told_81 : decode cX11_told 81 = .ok (.ireturn, 1) := dc_172 (show ((cX11_told.data.toList.drop 81).take 1).map UInt8.toNat = [172] by decide +kernel)
theorem dX11_told_74 : decode cX11_told 74 = .ok (.iload_n 3, 1) := dc_29 (show ((cX11_told.data.toList.drop 74).take 1).map UInt8.toNat = [29] by decide +kernel)
theorem dX11_told_75 : decode cX11_told 75 = .ok (.iconst 2, 1) := dc_5 (show ((cX11_told.data.toList.drop 75).take 1).map UInt8.toNat = [5] by decide +kernel)
theorem dX11_told_76 : decode cX11_told 76 = .ok (.if_icmp .le 6, 3) := dc_164 (show ((cX11_told.data.toList.drop 76).take 3).map UInt8.toNat = [164, 0, 6] by decide +kernel) rfl
theorem dX11_told_46 : decode cX11_told 46 = .ok (.aload 4, 2) := dc_25 (show ((cX11_told.data.toList.drop 46).take 2).map UInt8.toNat = [25, 4] by decide +kernel) rfl
theorem dX11_told_48 : decode cX11_told 48 = .ok (.iload_n 3, 1) := dc_29 (show ((cX11_told.data.toList.drop 48).take 1).map UInt8.toNat = [29] by decide +kernel)
theorem dX11_told_49 : decode cX11_told 49 = .ok (.bipush 10, 2) := dc_16 (show ((cX11_told.data.toList.drop 49).take 2).map UInt8.toNat = [16, 10] by decide +kernel) rfl
theorem dX11_told_51 : decode cX11_told 51 = .ok (.isub, 1) := dc_100 (show ((cX11_told.data.toList.drop 51).take 1).map UInt8.toNat = [100] by decide +kernel)
theorem dX11_told_52 : decode cX11_told 52 = .ok (.invokevirtual 131, 3) := dc_182 (show ((cX11_told.data.toList.drop 52).take 3).map UInt8.toNat = [182, 0, 131] by decide +kernel) rfl
theorem dX11_told_55 : decode cX11_told 55 = .ok (.ifCond .eq 7, 3) := dc_153 (show ((cX11_told.data.toList.drop 55).take 3).map UInt8.toNat = [153, 0, 7] by decide +kernel) rfl
theorem dX11_told_58 : decode cX11_told 58 = .ok (.iconst 1, 1) := dc_4 (show ((cX11_told.data.toList.drop 58).take 1).map UInt8.toNat = [4] by decide +kernel)
theorem dX11_told_59 : decode cX11_told 59 = .ok (.goto 4, 3) := dc_167 (show ((cX11_told.data.toList.drop 59).take 3).map UInt8.toNat = [167, 0, 4] by decide +kernel) rfl
theorem dX11_told_32 : decode cX11_told 32 = .ok (.aload 4, 2) := dc_25 (show ((cX11_told.data.toList.drop 32).take 2).map UInt8.toNat = [25, 4] by decide +kernel) rfl
theorem dX11_told_34 : decode cX11_told 34 = .ok (.aload 5, 2) := dc_25 (show ((cX11_told.data.toList.drop 34).take 2).map UInt8.toNat = [25, 5] by decide +kernel) rfl
theorem dX11_told_36 : decode cX11_told 36 = .ok (.invokestatic 363, 3) := dc_184 (show ((cX11_told.data.toList.drop 36).take 3).map UInt8.toNat = [184, 1, 107] by decide +kernel) rfl
theorem dX11_toeOf_0 : decode cX11_toeOf 0 = .ok (.iconst 0, 1) := dc_3 (show ((cX11_toeOf.data.toList.drop 0).take 1).map UInt8.toNat = [3] by decide +kernel)
theorem dX11_toeOf_1 : decode cX11_toeOf 1 = .ok (.istore_n 2, 1) := dc_61 (show ((cX11_toeOf.data.toList.drop 1).take 1).map UInt8.toNat = [61] by decide +kernel)
theorem dX11_toeOf_2 : decode cX11_toeOf 2 = .ok (.iload_n 2, 1) := dc_28 (show ((cX11_toeOf.data.toList.drop 2).take 1).map UInt8.toNat = [28] by decide +kernel)
theorem dX11_toeOf_3 : decode cX11_toeOf 3 = .ok (.aload_n 0, 1) := dc_42 (show ((cX11_toeOf.data.toList.drop 3).take 1).map UInt8.toNat = [42] by decide +kernel)
theorem dX11_toeOf_4 : decode cX11_toeOf 4 = .ok (.invokevirtual 121, 3) := dc_182 (show ((cX11_toeOf.data.toList.drop 4).take 3).map UInt8.toNat = [182, 0, 121] by decide +kernel) rfl
theorem dX11_toeOf_7 : decode cX11_toeOf 7 = .ok (.if_icmp .ge 58, 3) := dc_162 (show ((cX11_toeOf.data.toList.drop 7).take 3).map UInt8.toNat = [162, 0, 58] by decide +kernel) rfl
theorem dX11_toeOf_65 : decode cX11_toeOf 65 = .ok (.iconst (-1), 1) := dc_2 (show ((cX11_toeOf.data.toList.drop 65).take 1).map UInt8.toNat = [2] by decide +kernel)
theorem dX11_toeOf_66 : decode cX11_toeOf 66 = .ok (.ireturn, 1) := dc_172 (show ((cX11_toeOf.data.toList.drop 66).take 1).map UInt8.toNat = [172] by decide +kernel)
theorem dX11_toeOf_10 : decode cX11_toeOf 10 = .ok (.iconst 0, 1) := dc_3 (show ((cX11_toeOf.data.toList.drop 10).take 1).map UInt8.toNat = [3] by decide +kernel)
theorem dX11_toeOf_11 : decode cX11_toeOf 11 = .ok (.istore_n 3, 1) := dc_62 (show ((cX11_toeOf.data.toList.drop 11).take 1).map UInt8.toNat = [62] by decide +kernel)
theorem dX11_toeOf_12 : decode cX11_toeOf 12 = .ok (.iload_n 3, 1) := dc_29 (show ((cX11_toeOf.data.toList.drop 12).take 1).map UInt8.toNat = [29] by decide +kernel)
theorem dX11_toeOf_13 : decode cX11_toeOf 13 = .ok (.aload_n 1, 1) := dc_43 (show ((cX11_toeOf.data.toList.drop 13).take 1).map UInt8.toNat = [43] by decide +kernel)
theorem dX11_toeOf_14 : decode cX11_toeOf 14 = .ok (.invokevirtual 339, 3) := dc_182 (show ((cX11_toeOf.data.toList.drop 14).take 3).map UInt8.toNat = [182, 1, 83] by decide +kernel) rfl
theorem dX11_toeOf_17 : decode cX11_toeOf 17 = .ok (.if_icmp .ge 42, 3) := dc_162 (show ((cX11_toeOf.data.toList.drop 17).take 3).map UInt8.toNat = [162, 0, 42] by decide +kernel) rfl
theorem dX11_toeOf_59 : decode cX11_toeOf 59 = .ok (.iinc 2 1, 3) := dc_132 (show ((cX11_toeOf.data.toList.drop 59).take 3).map UInt8.toNat = [132, 2, 1] by decide +kernel) rfl
theorem dX11_toeOf_62 : decode cX11_toeOf 62 = .ok (.goto (-60), 3) := dc_167 (show ((cX11_toeOf.data.toList.drop 62).take 3).map UInt8.toNat = [167, 255, 196] by decide +kernel) rfl
theorem dX11_toeOf_20 : decode cX11_toeOf 20 = .ok (.aload_n 1, 1) := dc_43 (show ((cX11_toeOf.data.toList.drop 20).take 1).map UInt8.toNat = [43] by decide +kernel)
theorem dX11_toeOf_21 : decode cX11_toeOf 21 = .ok (.iload_n 3, 1) := dc_29 (show ((cX11_toeOf.data.toList.drop 21).take 1).map UInt8.toNat = [29] by decide +kernel)
theorem dX11_toeOf_22 : decode cX11_toeOf 22 = .ok (.invokevirtual 340, 3) := dc_182 (show ((cX11_toeOf.data.toList.drop 22).take 3).map UInt8.toNat = [182, 1, 84] by decide +kernel) rfl
theorem dX11_toeOf_25 : decode cX11_toeOf 25 = .ok (.istore 4, 2) := dc_54 (show ((cX11_toeOf.data.toList.drop 25).take 2).map UInt8.toNat = [54, 4] by decide +kernel) rfl
theorem dX11_toeOf_27 : decode cX11_toeOf 27 = .ok (.aload_n 0, 1) := dc_42 (show ((cX11_toeOf.data.toList.drop 27).take 1).map UInt8.toNat = [42] by decide +kernel)
theorem dX11_toeOf_28 : decode cX11_toeOf 28 = .ok (.iload 4, 2) := dc_21 (show ((cX11_toeOf.data.toList.drop 28).take 2).map UInt8.toNat = [21, 4] by decide +kernel) rfl
theorem dX11_toeOf_30 : decode cX11_toeOf 30 = .ok (.invokevirtual 135, 3) := dc_182 (show ((cX11_toeOf.data.toList.drop 30).take 3).map UInt8.toNat = [182, 0, 135] by decide +kernel) rfl
theorem dX11_toeOf_33 : decode cX11_toeOf 33 = .ok (.ifCond .eq 20, 3) := dc_153 (show ((cX11_toeOf.data.toList.drop 33).take 3).map UInt8.toNat = [153, 0, 20] by decide +kernel) rfl
theorem dX11_toeOf_53 : decode cX11_toeOf 53 = .ok (.iinc 3 1, 3) := dc_132 (show ((cX11_toeOf.data.toList.drop 53).take 3).map UInt8.toNat = [132, 3, 1] by decide +kernel) rfl
theorem dX11_toeOf_56 : decode cX11_toeOf 56 = .ok (.goto (-44), 3) := dc_167 (show ((cX11_toeOf.data.toList.drop 56).take 3).map UInt8.toNat = [167, 255, 212] by decide +kernel) rfl
theorem dX11_toeOf_36 : decode cX11_toeOf 36 = .ok (.aload_n 0, 1) := dc_42 (show ((cX11_toeOf.data.toList.drop 36).take 1).map UInt8.toNat = [42] by decide +kernel)
theorem dX11_toeOf_37 : decode cX11_toeOf 37 = .ok (.iload_n 2, 1) := dc_28 (show ((cX11_toeOf.data.toList.drop 37).take 1).map UInt8.toNat = [28] by decide +kernel)
theorem dX11_toeOf_38 : decode cX11_toeOf 38 = .ok (.iload 4, 2) := dc_21 (show ((cX11_toeOf.data.toList.drop 38).take 2).map UInt8.toNat = [21, 4] by decide +kernel) rfl
theorem dX11_toeOf_40 : decode cX11_toeOf 40 = .ok (.invokevirtual 311, 3) := dc_182 (show ((cX11_toeOf.data.toList.drop 40).take 3).map UInt8.toNat = [182, 1, 55] by decide +kernel) rfl
theorem dX11_toeOf_43 : decode cX11_toeOf 43 = .ok (.aload_n 1, 1) := dc_43 (show ((cX11_toeOf.data.toList.drop 43).take 1).map UInt8.toNat = [43] by decide +kernel)
theorem dX11_toeOf_44 : decode cX11_toeOf 44 = .ok (.iload_n 3, 1) := dc_29 (show ((cX11_toeOf.data.toList.drop 44).take 1).map UInt8.toNat = [29] by decide +kernel)
theorem dX11_toeOf_45 : decode cX11_toeOf 45 = .ok (.invokevirtual 343, 3) := dc_182 (show ((cX11_toeOf.data.toList.drop 45).take 3).map UInt8.toNat = [182, 1, 87] by decide +kernel) rfl
theorem dX11_toeOf_48 : decode cX11_toeOf 48 = .ok (.if_icmp .ne 5, 3) := dc_160 (show ((cX11_toeOf.data.toList.drop 48).take 3).map UInt8.toNat = [160, 0, 5] by decide +kernel) rfl
theorem dX11_toeOf_51 : decode cX11_toeOf 51 = .ok (.iload_n 2, 1) := dc_28 (show ((cX11_toeOf.data.toList.drop 51).take 1).map UInt8.toNat = [28] by decide +kernel)
theorem dX11_toeOf_52 : decode cX11_toeOf 52 = .ok (.ireturn, 1) := dc_172 (show ((cX11_toeOf.data.toList.drop 52).take 1).map UInt8.toNat = [172] by decide +kernel)
def cs_Face_toeOf_B_D_12 (n : Nat) (k2 : gb_S → Nat → Nat → Int32 → gb_CR Int32) : Nat → gb_S → Nat → Nat → Int32 → Int32 → gb_CR Int32
  | 0, _, _, _, _, _ => none
  | mm + 1, σ, v0, v1, v2, v3 => gb_kk (gb_kB v0) (gb_kk (gb_kD v1) (gb_cd (cs_Lines_size_D n σ v1) (fun s_12 r_13 => (if r_13 ≤ v3 then gb_lt (v2 + 1) (fun x_17 => k2 s_12 v0 v1 x_17) else gb_cd (cs_Dawn_pathSeen_D n s_12 v1 v3) (fun s_18 r_19 => gb_cd (cs_Border_hasPath_B n s_18 v0 r_19) (fun s_22 r_23 => (if r_23 = 0 then gb_lt (v3 + 1) (fun x_27 => cs_Face_toeOf_B_D_12 n k2 mm s_22 v0 v1 v2 x_27) else gb_cd (cs_Border_marksFirst_B n s_22 v0 v2 r_19) (fun s_28 r_29 => gb_cd (cs_Dawn_marksSeen_D n s_28 v1 v3) (fun s_32 r_33 => (if r_29 = r_33 then some (s_32, v2) else gb_lt (v3 + 1) (fun x_37 => cs_Face_toeOf_B_D_12 n k2 mm s_32 v0 v1 v2 x_37)))))))))))
def cs_Face_toeOf_B_D_2 (n : Nat) : Nat → gb_S → Nat → Nat → Int32 → gb_CR Int32
  | 0, _, _, _, _ => none
  | mm + 1, σ, v0, v1, v2 => gb_kk (gb_kB v0) (gb_kk (gb_kD v1) (gb_cd (cs_Border_geese_B n σ v0) (fun s_5 r_6 => (if r_6 ≤ v2 then some (s_5, (-1)) else cs_Face_toeOf_B_D_12 n (fun σ v0 v1 v2 => cs_Face_toeOf_B_D_2 n mm σ v0 v1 v2) n s_5 v0 v1 v2 0))))
def cs_Face_toeOf_B_D (n : Nat) (σ : gb_S) (p1 : Nat) (p2 : Nat) : gb_CR Int32 := gb_kk (gb_kB p1) (gb_kk (gb_kD p2) (cs_Face_toeOf_B_D_2 n n σ p1 p2 0))
set_option maxHeartbeats 8000000 in
set_option maxRecDepth 100000 in
theorem cc_Face_toeOf_B_D (l : Launch) (D : va_G) (cT : Nat → ClassId) (tt : Nat → Nat) (b1 b : Nat) (hb1 : b1 ≤ b) (n : Nat) (σ : gb_S) (p1 : Nat) (p2 : Nat) (σE : gb_S) (rE : Int32) (h : cs_Face_toeOf_B_D n σ p1 p2 = some (σE, rE)) : Met l yX11_toeOf (.code yX11_toeOf cX11_toeOf 5 (some FieldType.int) :: gb_wA) ({ frames := 3, cells := 0, slots := 0, locals := 70 }) (gb_Pc D cT tt b1 [.ref (b + p1), .ref (b + p2)] (fun h => va_P D vwCl (gb_wl b (gb_CW cT b σ)) h)) (gb_Qi (fun r h => r = rE ∧ va_P D vwCl (gb_wl b (gb_CW cT b σE)) h) (gb_fr b 135)) 0 0 (gb_fr b 135) := by
  refine Met.ofW (cc := cX11_toeOf) (maxL := 5) (ret := (some FieldType.int)) (by decide) rfl ?_
  intro p e s m args below meth c s₁ B hml hv
  obtain ⟨rfl, hSt, hP⟩ := hv
  have hx := B.exec
  have hb := B.bytes
  have hr := B.returns
  have hts := atoms_spec (ws := .code yX11_toeOf cX11_toeOf 5 (some FieldType.int) :: gb_wA) B.pre
  have hq : ∀ w ∈ gb_wA, w.before _ s = true := fun w h => hts w (List.mem_cons_of_mem _ h)
  have hown : s.vm.findClass RX11 = some m.cls := findClass_of_methodNamed B.named
  have hlocks := B.notSynchronized
  clear B hts
  have hK := hSt.1
  have hS : va_S (gb_fr b 135) s.heap s.heap [] := va_S.rf
  have hl := lv_entry ([.ref (b + p1), .ref (b + p2)]) (n := 5) (Nat.le_of_ble_eq_true rfl)
  rw [lg_entry_eq]
  generalize (lg_sl ([.ref (b + p1), .ref (b + p2)]) ++ List.replicate (5 - (lg_sl ([.ref (b + p1), .ref (b + p2)])).length) Slot.unset).toArray = ls at hl ⊢
  replace hl : lv_has ls 5 [(0, .ref (b + p1)), (1, .ref (b + p2))] := hl
  have L12_2 : ∀ (k2 : gb_S → Nat → Nat → Int32 → gb_CR Int32) (hk2 : ∀ (σ : gb_S) (v0 : Nat) (v1 : Nat) (v2 : Int32) (H : Heap) (locs : List Loc) (ls : Array Slot), k2 σ v0 v1 v2 = some (σE, rE) → va_P D vwCl (gb_wl b (gb_CW cT b σ)) H → va_S (gb_fr b 135) s.heap H locs → lv_has ls 5 [(0, .ref (b + v0)), (1, .ref (b + v1)), (2, .int v2)] → W p l e (headSpec (.code yX11_toeOf cX11_toeOf 5 (some FieldType.int) :: gb_wA) ({ frames := 3, cells := 0, slots := 0, locals := 70 })).room s m ([.ref (b + p1), .ref (b + p2)]).toArray below meth c H locs 0 0 (MQ below (gb_Qi (fun r h => r = rE ∧ va_P D vwCl (gb_wl b (gb_CW cT b σE)) h) (gb_fr b 135)) ([.ref (b + p1), .ref (b + p2)]).toArray s 0 0 (gb_fr b 135)) (F0 m 2 ls [])) (mm : Nat) (σ : gb_S) (v0 : Nat) (v1 : Nat) (v2 : Int32) (v3 : Int32) (H : Heap) (locs : List Loc) (ls : Array Slot), cs_Face_toeOf_B_D_12 n k2 mm σ v0 v1 v2 v3 = some (σE, rE) → va_P D vwCl (gb_wl b (gb_CW cT b σ)) H → va_S (gb_fr b 135) s.heap H locs → lv_has ls 5 [(0, .ref (b + v0)), (1, .ref (b + v1)), (2, .int v2), (3, .int v3)] → W p l e (headSpec (.code yX11_toeOf cX11_toeOf 5 (some FieldType.int) :: gb_wA) ({ frames := 3, cells := 0, slots := 0, locals := 70 })).room s m ([.ref (b + p1), .ref (b + p2)]).toArray below meth c H locs 0 0 (MQ below (gb_Qi (fun r h => r = rE ∧ va_P D vwCl (gb_wl b (gb_CW cT b σE)) h) (gb_fr b 135)) ([.ref (b + p1), .ref (b + p2)]).toArray s 0 0 (gb_fr b 135)) (F0 m 12 ls []) := by
    clear h hP hS hl ls
    intro k2 hk2 mm
    induction mm with
    | zero =>
      intro σ v0 v1 v2 v3 H locs ls h
      cases h
    | succ mm ih =>
      intro σ v0 v1 v2 v3 H locs ls h hP hS hl
      rw [cs_Face_toeOf_B_D_12] at h
      obtain ⟨z_10, h⟩ := gb_kk_s h
      obtain ⟨z_11, h⟩ := gb_kk_s h
      refine lv_iload_n hx hb dX11_toeOf_12 rfl (lv_at hl 3 rfl) ?_
      refine lv_aload_n hx hb dX11_toeOf_13 rfl (lv_at hl 1 rfl) ?_
      obtain ⟨s_12, r_13, z_14, h⟩ := gb_cd_s h
      refine gb_calli (va_runU (x := ⟨"GooseBorder$Dawn", "size", "()I"⟩) (C := RX1) (owner := "GooseBorder$Lines") (As := []) (rest := [.int v3]) ⟨hx, hb, hml, hown, hq⟩ (cc_Lines_size_D l D cT tt b1 b hb1 n σ v1 s_12 r_13 z_14) (va_cwU (owner := "GooseBorder$Lines") (C := RX1) 0 hq (gb_gU w_1018 w_535 w_537 w_484 w_6 w_489) rfl rfl rfl rfl (by decide +kernel) ⟨Nat.le_of_ble_eq_true rfl, Nat.le_of_ble_eq_true rfl⟩) (gb_preV (r := (RX1, TX1, 4)) (ci := 1) (q0 := v1) hSt hP rfl (gb_at b (gb_cD z_11).1) hS (fun q h => Nat.le_trans hb1 h.1) hP) rfl rfl hl.1 rfl (lv_room (Nat.le_of_ble_eq_true rfl)) dX11_toeOf_14 ⟨Nat.le_of_ble_eq_true rfl, Nat.le_of_ble_eq_true rfl⟩) hS (fun _ h => h) (fun _ h => h) (fun q_15 H locs hY hk hS => ?_)
      obtain ⟨hq_15, hP⟩ := hY
      replace hq_15 := hq_15.symm
      subst hq_15
      refine lv_icmp_ge (tgt := 59) hx hb dX11_toeOf_17 (by decide) (fun c_16 => ?_) (fun c_16 => ?_)
      · rw [if_pos c_16] at h
        obtain ⟨x_17, ex_17⟩ : ∃ q, q = (v2 + 1) := ⟨_, rfl⟩
        replace h := gb_lt_s ex_17 h
        refine lv_iinc (v := x_17) (lv' := [(2, .int x_17), (0, .ref (b + v0)), (1, .ref (b + v1)), (3, .int v3)]) hx hb dX11_toeOf_59 hl (k := 2) rfl (by rw [ex_17]; rfl) (by decide) rfl (fun ls hl => ?_)
        refine lv_goto (tgt := 2) hx hb dX11_toeOf_62 (by decide) ?_
        exact hk2 _ _ _ _ _ _ _ h hP hS (lv_sub hl [1, 2, 0] rfl)
      · rw [if_neg c_16] at h
        refine lv_aload_n hx hb dX11_toeOf_20 rfl (lv_at hl 1 rfl) ?_
        refine lv_iload_n hx hb dX11_toeOf_21 rfl (lv_at hl 3 rfl) ?_
        obtain ⟨s_18, r_19, z_20, h⟩ := gb_cd_s h
        refine gb_calli (va_runV (C := RX1) (As := [.int v3]) (rest := []) ⟨hx, hb, hml, hown, hq⟩ (cc_Dawn_pathSeen_D l D cT tt b1 b hb1 n s_12 v1 v3 s_18 r_19 z_20) (cwV 1 hq (gb_gV w_1019 w_539 w_540 w_9 w_541) rfl rfl rfl (by decide +kernel) ⟨Nat.le_of_ble_eq_true rfl, Nat.le_of_ble_eq_true rfl⟩) (gb_preV (r := (RX1, TX1, 4)) (ci := 1) (q0 := v1) hSt hP rfl (gb_at b (gb_cD z_11).1) hS (fun q h => Nat.le_trans hb1 h.1) hP) rfl rfl hl.1 rfl (lv_room (Nat.le_of_ble_eq_true rfl)) dX11_toeOf_22 ⟨Nat.le_of_ble_eq_true rfl, Nat.le_of_ble_eq_true rfl⟩) hS (fun _ h => h) (fun _ h => h) (fun q_21 H locs hY hk hS => ?_)
        obtain ⟨hq_21, hP⟩ := hY
        replace hq_21 := hq_21.symm
        subst hq_21
        refine lv_istore (lv' := [(4, .int r_19), (0, .ref (b + v0)), (1, .ref (b + v1)), (2, .int v2), (3, .int v3)]) hx hb dX11_toeOf_25 hl (by decide) rfl (fun ls hl => ?_)
        refine lv_aload_n hx hb dX11_toeOf_27 rfl (lv_at hl 1 rfl) ?_
        refine lv_iload hx hb dX11_toeOf_28 (lv_at hl 0 rfl) ?_
        obtain ⟨s_22, r_23, z_24, h⟩ := gb_cd_s h
        refine gb_calli (va_runV (C := RX0) (As := [.int r_19]) (rest := []) ⟨hx, hb, hml, hown, hq⟩ (cc_Border_hasPath_B l D cT tt b1 b hb1 n s_18 v0 r_19 s_22 r_23 z_24) (cwV 1 hq (gb_gV w_620 w_608 w_609 w_4 w_610) rfl rfl rfl (by decide +kernel) ⟨Nat.le_of_ble_eq_true rfl, Nat.le_of_ble_eq_true rfl⟩) (gb_preV (r := (RX0, TX0, 1)) (ci := 0) (q0 := v0) hSt hP rfl (gb_at b (gb_cB z_10).1) hS (fun q h => Nat.le_trans hb1 h.1) hP) rfl rfl hl.1 rfl (lv_room (Nat.le_of_ble_eq_true rfl)) dX11_toeOf_30 ⟨Nat.le_of_ble_eq_true rfl, Nat.le_of_ble_eq_true rfl⟩) hS (fun _ h => h) (fun _ h => h) (fun q_25 H locs hY hk hS => ?_)
        obtain ⟨hq_25, hP⟩ := hY
        replace hq_25 := hq_25.symm
        subst hq_25
        refine lv_if_eq (tgt := 53) hx hb dX11_toeOf_33 (by decide) (fun c_26 => ?_) (fun c_26 => ?_)
        · rw [if_pos c_26] at h
          obtain ⟨x_27, ex_27⟩ : ∃ q, q = (v3 + 1) := ⟨_, rfl⟩
          replace h := gb_lt_s ex_27 h
          refine lv_iinc (v := x_27) (lv' := [(3, .int x_27), (4, .int r_19), (0, .ref (b + v0)), (1, .ref (b + v1)), (2, .int v2)]) hx hb dX11_toeOf_53 hl (k := 4) rfl (by rw [ex_27]; rfl) (by decide) rfl (fun ls hl => ?_)
          refine lv_goto (tgt := 12) hx hb dX11_toeOf_56 (by decide) ?_
          exact ih _ _ _ _ _ _ _ _ h hP hS (lv_sub hl [2, 3, 4, 0] rfl)
        · rw [if_neg c_26] at h
          refine lv_aload_n hx hb dX11_toeOf_36 rfl (lv_at hl 1 rfl) ?_
          refine lv_iload_n hx hb dX11_toeOf_37 rfl (lv_at hl 3 rfl) ?_
          refine lv_iload hx hb dX11_toeOf_38 (lv_at hl 0 rfl) ?_
          obtain ⟨s_28, r_29, z_30, h⟩ := gb_cd_s h
          refine gb_calli (va_runV (C := RX0) (As := [.int v2, .int r_19]) (rest := []) ⟨hx, hb, hml, hown, hq⟩ (cc_Border_marksFirst_B l D cT tt b1 b hb1 n s_22 v0 v2 r_19 s_28 r_29 z_30) (cwV 2 hq (gb_gV w_963 w_899 w_900 w_4 w_901) rfl rfl rfl (by decide +kernel) ⟨Nat.le_of_ble_eq_true rfl, Nat.le_of_ble_eq_true rfl⟩) (gb_preV (r := (RX0, TX0, 1)) (ci := 0) (q0 := v0) hSt hP rfl (gb_at b (gb_cB z_10).1) hS (fun q h => Nat.le_trans hb1 h.1) hP) rfl rfl hl.1 rfl (lv_room (Nat.le_of_ble_eq_true rfl)) dX11_toeOf_40 ⟨Nat.le_of_ble_eq_true rfl, Nat.le_of_ble_eq_true rfl⟩) hS (fun _ h => h) (fun _ h => h) (fun q_31 H locs hY hk hS => ?_)
          obtain ⟨hq_31, hP⟩ := hY
          replace hq_31 := hq_31.symm
          subst hq_31
          refine lv_aload_n hx hb dX11_toeOf_43 rfl (lv_at hl 2 rfl) ?_
          refine lv_iload_n hx hb dX11_toeOf_44 rfl (lv_at hl 4 rfl) ?_
          obtain ⟨s_32, r_33, z_34, h⟩ := gb_cd_s h
          refine gb_calli (va_runV (C := RX1) (As := [.int v3]) (rest := [.int r_29]) ⟨hx, hb, hml, hown, hq⟩ (cc_Dawn_marksSeen_D l D cT tt b1 b hb1 n s_28 v1 v3 s_32 r_33 z_34) (cwV 1 hq (gb_gV w_1020 w_859 w_860 w_9 w_861) rfl rfl rfl (by decide +kernel) ⟨Nat.le_of_ble_eq_true rfl, Nat.le_of_ble_eq_true rfl⟩) (gb_preV (r := (RX1, TX1, 4)) (ci := 1) (q0 := v1) hSt hP rfl (gb_at b (gb_cD z_11).1) hS (fun q h => Nat.le_trans hb1 h.1) hP) rfl rfl hl.1 rfl (lv_room (Nat.le_of_ble_eq_true rfl)) dX11_toeOf_45 ⟨Nat.le_of_ble_eq_true rfl, Nat.le_of_ble_eq_true rfl⟩) hS (fun _ h => h) (fun _ h => h) (fun q_35 H locs hY hk hS => ?_)
          obtain ⟨hq_35, hP⟩ := hY
          replace hq_35 := hq_35.symm
          subst hq_35
          refine lv_icmp_ne (tgt := 53) hx hb dX11_toeOf_48 (by decide) (fun c_36 => ?_) (fun c_36 => ?_)
          · rw [if_neg c_36] at h
            obtain ⟨x_37, ex_37⟩ : ∃ q, q = (v3 + 1) := ⟨_, rfl⟩
            replace h := gb_lt_s ex_37 h
            refine lv_iinc (v := x_37) (lv' := [(3, .int x_37), (4, .int r_19), (0, .ref (b + v0)), (1, .ref (b + v1)), (2, .int v2)]) hx hb dX11_toeOf_53 hl (k := 4) rfl (by rw [ex_37]; rfl) (by decide) rfl (fun ls hl => ?_)
            refine lv_goto (tgt := 12) hx hb dX11_toeOf_56 (by decide) ?_
            exact ih _ _ _ _ _ _ _ _ h hP hS (lv_sub hl [2, 3, 4, 0] rfl)
          · rw [if_pos c_36] at h
            refine lv_iload_n hx hb dX11_toeOf_51 rfl (lv_at hl 3 rfl) ?_
            obtain ⟨e1, e2⟩ := gb_eq2 h
            exact W.iret (v := v2) hx hb hr (fun t ht hW => gb_ri ht ⟨e2, by rw [← e1]; exact hP⟩ hS) hS.2.2 dX11_toeOf_52
  have L2_1 : ∀ (mm : Nat) (σ : gb_S) (v0 : Nat) (v1 : Nat) (v2 : Int32) (H : Heap) (locs : List Loc) (ls : Array Slot), cs_Face_toeOf_B_D_2 n mm σ v0 v1 v2 = some (σE, rE) → va_P D vwCl (gb_wl b (gb_CW cT b σ)) H → va_S (gb_fr b 135) s.heap H locs → lv_has ls 5 [(0, .ref (b + v0)), (1, .ref (b + v1)), (2, .int v2)] → W p l e (headSpec (.code yX11_toeOf cX11_toeOf 5 (some FieldType.int) :: gb_wA) ({ frames := 3, cells := 0, slots := 0, locals := 70 })).room s m ([.ref (b + p1), .ref (b + p2)]).toArray below meth c H locs 0 0 (MQ below (gb_Qi (fun r h => r = rE ∧ va_P D vwCl (gb_wl b (gb_CW cT b σE)) h) (gb_fr b 135)) ([.ref (b + p1), .ref (b + p2)]).toArray s 0 0 (gb_fr b 135)) (F0 m 2 ls []) := by
    clear h hP hS hl ls
    intro mm
    induction mm with
    | zero =>
      intro σ v0 v1 v2 H locs ls h
      cases h
    | succ mm ih =>
      intro σ v0 v1 v2 H locs ls h hP hS hl
      rw [cs_Face_toeOf_B_D_2] at h
      obtain ⟨z_3, h⟩ := gb_kk_s h
      obtain ⟨z_4, h⟩ := gb_kk_s h
      refine lv_iload_n hx hb dX11_toeOf_2 rfl (lv_at hl 2 rfl) ?_
      refine lv_aload_n hx hb dX11_toeOf_3 rfl (lv_at hl 0 rfl) ?_
      obtain ⟨s_5, r_6, z_7, h⟩ := gb_cd_s h
      refine gb_calli (va_runV (C := RX0) (As := []) (rest := [.int v2]) ⟨hx, hb, hml, hown, hq⟩ (cc_Border_geese_B l D cT tt b1 b hb1 n σ v0 s_5 r_6 z_7) (cwV 0 hq (gb_gV w_598 w_477 w_478 w_4 w_479) rfl rfl rfl (by decide +kernel) ⟨Nat.le_of_ble_eq_true rfl, Nat.le_of_ble_eq_true rfl⟩) (gb_preV (r := (RX0, TX0, 1)) (ci := 0) (q0 := v0) hSt hP rfl (gb_at b (gb_cB z_3).1) hS (fun q h => Nat.le_trans hb1 h.1) hP) rfl rfl hl.1 rfl (lv_room (Nat.le_of_ble_eq_true rfl)) dX11_toeOf_4 ⟨Nat.le_of_ble_eq_true rfl, Nat.le_of_ble_eq_true rfl⟩) hS (fun _ h => h) (fun _ h => h) (fun q_8 H locs hY hk hS => ?_)
      obtain ⟨hq_8, hP⟩ := hY
      replace hq_8 := hq_8.symm
      subst hq_8
      refine lv_icmp_ge (tgt := 65) hx hb dX11_toeOf_7 (by decide) (fun c_9 => ?_) (fun c_9 => ?_)
      · rw [if_pos c_9] at h
        refine lv_iconst (v := (-1)) hx hb dX11_toeOf_65 (by decide) ?_
        obtain ⟨e1, e2⟩ := gb_eq2 h
        exact W.iret (v := (-1)) hx hb hr (fun t ht hW => gb_ri ht ⟨e2, by rw [← e1]; exact hP⟩ hS) hS.2.2 dX11_toeOf_66
      · rw [if_neg c_9] at h
        refine lv_iconst (v := 0) hx hb dX11_toeOf_10 (by decide) ?_
        refine lv_istore_n (lv' := [(3, .int 0), (0, .ref (b + v0)), (1, .ref (b + v1)), (2, .int v2)]) hx hb dX11_toeOf_11 rfl hl (by decide) rfl (fun ls hl => ?_)
        exact L12_2 _ ih n _ _ _ _ _ _ _ _ h hP hS (lv_sub hl [1, 2, 3, 0] rfl)
  unfold cs_Face_toeOf_B_D at h
  obtain ⟨z_1, h⟩ := gb_kk_s h
  obtain ⟨z_2, h⟩ := gb_kk_s h
  refine lv_iconst (v := 0) hx hb dX11_toeOf_0 (by decide) ?_
  refine lv_istore_n (lv' := [(2, .int 0), (0, .ref (b + p1)), (1, .ref (b + p2))]) hx hb dX11_toeOf_1 rfl hl (by decide) rfl (fun ls hl => ?_)
  exact L2_1 n _ _ _ _ _ _ _ h hP hS (lv_sub hl [1, 2, 0] rfl)
theorem w_1073 : (Cond.code ({ cls := "GooseBorder", name := "toeOf", desc := "(LGooseBorder$Border;LGooseBorder$Dawn;)I" } : MethodName) prog_1_method_47_code (5 : Nat) (Option.some FieldType.int)) ∈ gb_wA := gb_t5 113 rfl rfl
theorem w_1071 : (Cond.methodLink "GooseBorder" (363 : Nat) ({ cls := "GooseBorder", name := "toeOf", desc := "(LGooseBorder$Border;LGooseBorder$Dawn;)I" } : MethodName)) ∈ gb_wA := gb_t5 111 rfl rfl
theorem w_1072 : (Cond.static ({ cls := "GooseBorder", name := "toeOf", desc := "(LGooseBorder$Border;LGooseBorder$Dawn;)I" } : MethodName)) ∈ gb_wA := gb_t5 112 rfl rfl
theorem dX11_told_39 : decode cX11_told 39 = .ok (.ireturn, 1) := dc_172 (show ((cX11_told.data.toList.drop 39).take 1).map UInt8.toNat = [172] by decide +kernel)
def cs_Face_told_82 (n : Nat) (σ : gb_S) (v3 : Int32) (v4 : Nat) (v5 : Nat) : gb_CR Int32 := gb_kk (gb_kB v4) (gb_kk (gb_kD v5) (gb_cd (cs_Flocks_findWays_B_D n σ v4 v5 (-1) (-1)) (fun s_28 _ => gb_cd (cs_Flocks_allWays n s_28) (fun s_32 r_33 => (if (lg_cmp r_33 (0 : Int64)) = 0 then some (s_32, (-2)) else (if v3 = (0 : Int32) then gb_cd (cs_Flocks_fewestGone n s_32) (fun s_38 r_39 => some (s_38, r_39)) else (if v3 = (1 : Int32) then gb_cd (cs_Flocks_mostGone n s_32) (fun s_43 r_44 => some (s_43, r_44)) else (if v3 = (2 : Int32) then gb_cd (cs_Flocks_sureOnes n s_32) (fun s_48 r_49 => some (s_48, r_49)) else gb_cd (cs_Flocks_pathsInAnyWay_B_D n s_32 v4 v5 (v3 - 10)) (fun s_52 r_53 => some (s_52, r_53))))))))))
def cs_Face_told_63 (n : Nat) (σ : gb_S) (v3 : Int32) (v4 : Nat) (v5 : Nat) (t0 : Int32) : gb_CR Int32 := gb_kk (gb_kB v4) (gb_kk (gb_kD v5) ((if t0 = 0 then (if v3 < 0 then some (σ, (-2)) else (if v3 ≤ 2 then cs_Face_told_82 n σ v3 v4 v5 else some (σ, (-2)))) else cs_Face_told_82 n σ v3 v4 v5)))
def cs_Face_told_62 (n : Nat) (σ : gb_S) (v3 : Int32) (v4 : Nat) (v5 : Nat) : gb_CR Int32 := gb_kk (gb_kB v4) (gb_kk (gb_kD v5) (cs_Face_told_63 n σ v3 v4 v5 0))
def cs_Face_told (n : Nat) (σ : gb_S) (p1 : Int32) (p2 : Int32) (p3 : Int32) : gb_CR Int32 := gb_cd (cs_Face_borderAt n σ p1) (fun s_1 r_2 => (if r_2 = 0 then gb_cd (cs_Face_dawnAt n s_1 p2) (fun s_6 r_7 => (if r_7 = 0 then some (s_6, (-2)) else gb_kk (gb_kD r_7) (some (s_6, (-2))))) else gb_kk (gb_kB r_2) (gb_cd (cs_Face_dawnAt n s_1 p2) (fun s_13 r_14 => (if r_14 = 0 then some (s_13, (-2)) else gb_kk (gb_kD r_14) ((if p3 = 3 then gb_cd (cs_Face_toeOf_B_D n s_13 r_2 r_14) (fun s_63 r_64 => some (s_63, r_64)) else (if p3 < 10 then cs_Face_told_62 n s_13 p3 r_2 r_14 else gb_cd (cs_Border_hasGoose_B n s_13 r_2 (p3 - 10)) (fun s_58 r_59 => (if r_59 = 0 then cs_Face_told_62 n s_58 p3 r_2 r_14 else cs_Face_told_63 n s_58 p3 r_2 r_14 1))))))))))
set_option maxHeartbeats 8000000 in
set_option maxRecDepth 100000 in
theorem cc_Face_told (l : Launch) (D : va_G) (cT : Nat → ClassId) (tt : Nat → Nat) (b1 b : Nat) (hb1 : b1 ≤ b) (n : Nat) (σ : gb_S) (p1 : Int32) (p2 : Int32) (p3 : Int32) (σE : gb_S) (rE : Int32) (h : cs_Face_told n σ p1 p2 p3 = some (σE, rE)) : Met l yX11_told (.code yX11_told cX11_told 7 (some FieldType.int) :: gb_wA) ({ frames := 6, cells := 0, slots := 0, locals := 148 }) (gb_Pc D cT tt b1 [.ref (b + 0), .int p1, .int p2, .int p3] (fun h => va_P D vwCl (gb_wl b (gb_CW cT b σ)) h)) (gb_Qi (fun r h => r = rE ∧ va_P D vwCl (gb_wl b (gb_CW cT b σE)) h) (gb_fr b 135)) 0 0 (gb_fr b 135) := by
  refine Met.ofW (cc := cX11_told) (maxL := 7) (ret := (some FieldType.int)) (by decide) rfl ?_
  intro p e s m args below meth c s₁ B hml hv
  obtain ⟨rfl, hSt, hP⟩ := hv
  have hx := B.exec
  have hb := B.bytes
  have hr := B.returns
  have hts := atoms_spec (ws := .code yX11_told cX11_told 7 (some FieldType.int) :: gb_wA) B.pre
  have hq : ∀ w ∈ gb_wA, w.before _ s = true := fun w h => hts w (List.mem_cons_of_mem _ h)
  have hown : s.vm.findClass RX11 = some m.cls := findClass_of_methodNamed B.named
  have hlocks := B.notSynchronized
  clear B hts
  have hK := hSt.1
  have hS : va_S (gb_fr b 135) s.heap s.heap [] := va_S.rf
  have hl := lv_entry ([.ref (b + 0), .int p1, .int p2, .int p3]) (n := 7) (Nat.le_of_ble_eq_true rfl)
  rw [lg_entry_eq]
  generalize (lg_sl ([.ref (b + 0), .int p1, .int p2, .int p3]) ++ List.replicate (7 - (lg_sl ([.ref (b + 0), .int p1, .int p2, .int p3])).length) Slot.unset).toArray = ls at hl ⊢
  replace hl : lv_has ls 7 [(0, .ref (b + 0)), (1, .int p1), (2, .int p2), (3, .int p3)] := hl
  have L82_3 : ∀ (σ : gb_S) (v3 : Int32) (v4 : Nat) (v5 : Nat) (H : Heap) (locs : List Loc) (ls : Array Slot), cs_Face_told_82 n σ v3 v4 v5 = some (σE, rE) → va_P D vwCl (gb_wl b (gb_CW cT b σ)) H → va_S (gb_fr b 135) s.heap H locs → lv_has ls 7 [(0, .ref (b + 0)), (3, .int v3), (4, .ref (b + v4)), (5, .ref (b + v5))] → W p l e (headSpec (.code yX11_told cX11_told 7 (some FieldType.int) :: gb_wA) ({ frames := 6, cells := 0, slots := 0, locals := 148 })).room s m ([.ref (b + 0), .int p1, .int p2, .int p3]).toArray below meth c H locs 0 0 (MQ below (gb_Qi (fun r h => r = rE ∧ va_P D vwCl (gb_wl b (gb_CW cT b σE)) h) (gb_fr b 135)) ([.ref (b + 0), .int p1, .int p2, .int p3]).toArray s 0 0 (gb_fr b 135)) (F0 m 82 ls []) := by
    clear h hP hS hl ls
    intro σ v3 v4 v5 H locs ls h hP hS hl
    unfold cs_Face_told_82 at h
    obtain ⟨z_26, h⟩ := gb_kk_s h
    obtain ⟨z_27, h⟩ := gb_kk_s h
    refine lv_aload_n hx hb dX11_told_82 rfl (lv_at hl 0 rfl) ?_
    refine va_get (ci := 9) (v := (.ref (b + 130))) (C := RX11) (T := TX11) (N := 10) hx hb hq i_X11 hown hK hP 0 (gb_at b rfl) rfl 8 (by decide) (hq _ w_323) (fun _ h9 => h9) rfl dX11_told_83 ?_
    refine lv_aload hx hb dX11_told_86 (lv_at hl 2 rfl) ?_
    refine lv_aload hx hb dX11_told_88 (lv_at hl 3 rfl) ?_
    refine lv_iconst (v := (-1)) hx hb dX11_told_90 (by decide) ?_
    refine lv_iconst (v := (-1)) hx hb dX11_told_91 (by decide) ?_
    obtain ⟨s_28, r_29, z_30, h⟩ := gb_cd_s h
    refine gb_callv (va_runV (C := RX2) (As := [.ref (b + v4), .ref (b + v5), .int (-1), .int (-1)]) (rest := []) ⟨hx, hb, hml, hown, hq⟩ (cc_Flocks_findWays_B_D l D cT tt b1 b hb1 n σ v4 v5 (-1) (-1) s_28 r_29 z_30) (cwV 4 hq (gb_gV w_1044 w_1045 w_1046 w_13 w_1047) rfl rfl rfl (by decide +kernel) ⟨Nat.le_of_ble_eq_true rfl, Nat.le_of_ble_eq_true rfl⟩) (gb_preV (r := (RX2, TX2, 6)) (ci := 2) (q0 := 130) hSt hP rfl (gb_at b rfl) hS (fun q h => Nat.le_trans hb1 h.1) hP) rfl rfl hl.1 rfl (lv_room (Nat.le_of_ble_eq_true rfl)) dX11_told_92 ⟨Nat.le_of_ble_eq_true rfl, Nat.le_of_ble_eq_true rfl⟩) hS (fun _ h => h) (fun _ h => h) (fun H locs hY hk hS => ?_)
    have hP := hY
    refine lv_aload_n hx hb dX11_told_95 rfl (lv_at hl 0 rfl) ?_
    refine va_get (ci := 9) (v := (.ref (b + 130))) (C := RX11) (T := TX11) (N := 10) hx hb hq i_X11 hown hK hP 0 (gb_at b rfl) rfl 8 (by decide) (hq _ w_323) (fun _ h9 => h9) rfl dX11_told_96 ?_
    obtain ⟨s_32, r_33, z_34, h⟩ := gb_cd_s h
    refine gb_calll (va_runV (C := RX2) (As := []) (rest := []) ⟨hx, hb, hml, hown, hq⟩ (cc_Flocks_allWays l D cT tt b1 b hb1 n s_28 s_32 r_33 z_34) (cwV 0 hq (gb_gV w_1063 w_1064 w_1065 w_13 w_1066) rfl rfl rfl (by decide +kernel) ⟨Nat.le_of_ble_eq_true rfl, Nat.le_of_ble_eq_true rfl⟩) (gb_preV (r := (RX2, TX2, 6)) (ci := 2) (q0 := 130) hSt hP rfl (gb_at b rfl) hS (fun q h => Nat.le_trans hb1 h.1) hP) rfl rfl hl.1 rfl (lv_room (Nat.le_of_ble_eq_true rfl)) dX11_told_99 ⟨Nat.le_of_ble_eq_true rfl, Nat.le_of_ble_eq_true rfl⟩) hS (fun _ h => h) (fun _ h => h) (fun q_35 H locs hY hk hS => ?_)
    obtain ⟨hq_35, hP⟩ := hY
    replace hq_35 := hq_35.symm
    subst hq_35
    refine lv_lconst (v := 0) hx hb dX11_told_102 (by decide) ?_
    refine W.lcmp hx hb dX11_told_103 ?_
    refine lv_if_ne (tgt := 110) hx hb dX11_told_104 (by decide) (fun c_36 => ?_) (fun c_36 => ?_)
    · rw [if_neg c_36] at h
      refine lv_iload_n hx hb dX11_told_110 rfl (lv_at hl 1 rfl) ?_
      by_cases c_37 : v3 = (0 : Int32)
      · rw [if_pos c_37] at h
        refine lv_tableIn (off := 25) (tgt := 136) hx hb dX11_told_111 (by rw [c_37]; decide) (by rw [c_37]; decide) (by rw [c_37]; decide) (by decide) ?_
        refine lv_aload_n hx hb dX11_told_136 rfl (lv_at hl 0 rfl) ?_
        refine va_get (ci := 9) (v := (.ref (b + 130))) (C := RX11) (T := TX11) (N := 10) hx hb hq i_X11 hown hK hP 0 (gb_at b rfl) rfl 8 (by decide) (hq _ w_323) (fun _ h9 => h9) rfl dX11_told_137 ?_
        obtain ⟨s_38, r_39, z_40, h⟩ := gb_cd_s h
        refine gb_calli (va_runV (C := RX2) (As := []) (rest := []) ⟨hx, hb, hml, hown, hq⟩ (cc_Flocks_fewestGone l D cT tt b1 b hb1 n s_32 s_38 r_39 z_40) (cwV 0 hq (gb_gV w_1074 w_1075 w_1076 w_13 w_1077) rfl rfl rfl (by decide +kernel) ⟨Nat.le_of_ble_eq_true rfl, Nat.le_of_ble_eq_true rfl⟩) (gb_preV (r := (RX2, TX2, 6)) (ci := 2) (q0 := 130) hSt hP rfl (gb_at b rfl) hS (fun q h => Nat.le_trans hb1 h.1) hP) rfl rfl hl.1 rfl (lv_room (Nat.le_of_ble_eq_true rfl)) dX11_told_140 ⟨Nat.le_of_ble_eq_true rfl, Nat.le_of_ble_eq_true rfl⟩) hS (fun _ h => h) (fun _ h => h) (fun q_41 H locs hY hk hS => ?_)
        obtain ⟨hq_41, hP⟩ := hY
        replace hq_41 := hq_41.symm
        subst hq_41
        obtain ⟨e1, e2⟩ := gb_eq2 h
        exact W.iret (v := r_39) hx hb hr (fun t ht hW => gb_ri ht ⟨e2, by rw [← e1]; exact hP⟩ hS) hS.2.2 dX11_told_143
      rw [if_neg c_37] at h
      by_cases c_42 : v3 = (1 : Int32)
      · rw [if_pos c_42] at h
        refine lv_tableIn (off := 33) (tgt := 144) hx hb dX11_told_111 (by rw [c_42]; decide) (by rw [c_42]; decide) (by rw [c_42]; decide) (by decide) ?_
        refine lv_aload_n hx hb dX11_told_144 rfl (lv_at hl 0 rfl) ?_
        refine va_get (ci := 9) (v := (.ref (b + 130))) (C := RX11) (T := TX11) (N := 10) hx hb hq i_X11 hown hK hP 0 (gb_at b rfl) rfl 8 (by decide) (hq _ w_323) (fun _ h9 => h9) rfl dX11_told_145 ?_
        obtain ⟨s_43, r_44, z_45, h⟩ := gb_cd_s h
        refine gb_calli (va_runV (C := RX2) (As := []) (rest := []) ⟨hx, hb, hml, hown, hq⟩ (cc_Flocks_mostGone l D cT tt b1 b hb1 n s_32 s_43 r_44 z_45) (cwV 0 hq (gb_gV w_1079 w_1080 w_1081 w_13 w_1082) rfl rfl rfl (by decide +kernel) ⟨Nat.le_of_ble_eq_true rfl, Nat.le_of_ble_eq_true rfl⟩) (gb_preV (r := (RX2, TX2, 6)) (ci := 2) (q0 := 130) hSt hP rfl (gb_at b rfl) hS (fun q h => Nat.le_trans hb1 h.1) hP) rfl rfl hl.1 rfl (lv_room (Nat.le_of_ble_eq_true rfl)) dX11_told_148 ⟨Nat.le_of_ble_eq_true rfl, Nat.le_of_ble_eq_true rfl⟩) hS (fun _ h => h) (fun _ h => h) (fun q_46 H locs hY hk hS => ?_)
        obtain ⟨hq_46, hP⟩ := hY
        replace hq_46 := hq_46.symm
        subst hq_46
        obtain ⟨e1, e2⟩ := gb_eq2 h
        exact W.iret (v := r_44) hx hb hr (fun t ht hW => gb_ri ht ⟨e2, by rw [← e1]; exact hP⟩ hS) hS.2.2 dX11_told_151
      rw [if_neg c_42] at h
      by_cases c_47 : v3 = (2 : Int32)
      · rw [if_pos c_47] at h
        refine lv_tableIn (off := 41) (tgt := 152) hx hb dX11_told_111 (by rw [c_47]; decide) (by rw [c_47]; decide) (by rw [c_47]; decide) (by decide) ?_
        refine lv_aload_n hx hb dX11_told_152 rfl (lv_at hl 0 rfl) ?_
        refine va_get (ci := 9) (v := (.ref (b + 130))) (C := RX11) (T := TX11) (N := 10) hx hb hq i_X11 hown hK hP 0 (gb_at b rfl) rfl 8 (by decide) (hq _ w_323) (fun _ h9 => h9) rfl dX11_told_153 ?_
        obtain ⟨s_48, r_49, z_50, h⟩ := gb_cd_s h
        refine gb_calli (va_runV (C := RX2) (As := []) (rest := []) ⟨hx, hb, hml, hown, hq⟩ (cc_Flocks_sureOnes l D cT tt b1 b hb1 n s_32 s_48 r_49 z_50) (cwV 0 hq (gb_gV w_1084 w_1085 w_1086 w_13 w_1087) rfl rfl rfl (by decide +kernel) ⟨Nat.le_of_ble_eq_true rfl, Nat.le_of_ble_eq_true rfl⟩) (gb_preV (r := (RX2, TX2, 6)) (ci := 2) (q0 := 130) hSt hP rfl (gb_at b rfl) hS (fun q h => Nat.le_trans hb1 h.1) hP) rfl rfl hl.1 rfl (lv_room (Nat.le_of_ble_eq_true rfl)) dX11_told_156 ⟨Nat.le_of_ble_eq_true rfl, Nat.le_of_ble_eq_true rfl⟩) hS (fun _ h => h) (fun _ h => h) (fun q_51 H locs hY hk hS => ?_)
        obtain ⟨hq_51, hP⟩ := hY
        replace hq_51 := hq_51.symm
        subst hq_51
        obtain ⟨e1, e2⟩ := gb_eq2 h
        exact W.iret (v := r_49) hx hb hr (fun t ht hW => gb_ri ht ⟨e2, by rw [← e1]; exact hP⟩ hS) hS.2.2 dX11_told_159
      rw [if_neg c_47] at h
      refine lv_tableOut (tgt := 160) hx hb dX11_told_111 (by have := lv_neT c_37 (a := 0) rfl; have := lv_neT c_42 (a := 1) rfl; have := lv_neT c_47 (a := 2) rfl; omega) (by decide) ?_
      refine lv_aload_n hx hb dX11_told_160 rfl (lv_at hl 0 rfl) ?_
      refine va_get (ci := 9) (v := (.ref (b + 130))) (C := RX11) (T := TX11) (N := 10) hx hb hq i_X11 hown hK hP 0 (gb_at b rfl) rfl 8 (by decide) (hq _ w_323) (fun _ h9 => h9) rfl dX11_told_161 ?_
      refine lv_aload hx hb dX11_told_164 (lv_at hl 2 rfl) ?_
      refine lv_aload hx hb dX11_told_166 (lv_at hl 3 rfl) ?_
      refine lv_iload_n hx hb dX11_told_168 rfl (lv_at hl 1 rfl) ?_
      refine lv_bipush (v := 10) hx hb dX11_told_169 (by decide) ?_
      refine lv_isub hx hb dX11_told_171 ?_
      obtain ⟨s_52, r_53, z_54, h⟩ := gb_cd_s h
      refine gb_calli (va_runV (C := RX2) (As := [.ref (b + v4), .ref (b + v5), .int (v3 - 10)]) (rest := []) ⟨hx, hb, hml, hown, hq⟩ (cc_Flocks_pathsInAnyWay_B_D l D cT tt b1 b hb1 n s_32 v4 v5 (v3 - 10) s_52 r_53 z_54) (cwV 3 hq (gb_gV w_1088 w_1089 w_1090 w_13 w_1091) rfl rfl rfl (by decide +kernel) ⟨Nat.le_of_ble_eq_true rfl, Nat.le_of_ble_eq_true rfl⟩) (gb_preV (r := (RX2, TX2, 6)) (ci := 2) (q0 := 130) hSt hP rfl (gb_at b rfl) hS (fun q h => Nat.le_trans hb1 h.1) hP) rfl rfl hl.1 rfl (lv_room (Nat.le_of_ble_eq_true rfl)) dX11_told_172 ⟨Nat.le_of_ble_eq_true rfl, Nat.le_of_ble_eq_true rfl⟩) hS (fun _ h => h) (fun _ h => h) (fun q_55 H locs hY hk hS => ?_)
      obtain ⟨hq_55, hP⟩ := hY
      replace hq_55 := hq_55.symm
      subst hq_55
      obtain ⟨e1, e2⟩ := gb_eq2 h
      exact W.iret (v := r_53) hx hb hr (fun t ht hW => gb_ri ht ⟨e2, by rw [← e1]; exact hP⟩ hS) hS.2.2 dX11_told_175
    · rw [if_pos c_36] at h
      refine lv_bipush (v := (-2)) hx hb dX11_told_107 (by decide) ?_
      obtain ⟨e1, e2⟩ := gb_eq2 h
      exact W.iret (v := (-2)) hx hb hr (fun t ht hW => gb_ri ht ⟨e2, by rw [← e1]; exact hP⟩ hS) hS.2.2 dX11_told_109
  have L63_2 : ∀ (σ : gb_S) (v3 : Int32) (v4 : Nat) (v5 : Nat) (t0 : Int32) (H : Heap) (locs : List Loc) (ls : Array Slot), cs_Face_told_63 n σ v3 v4 v5 t0 = some (σE, rE) → va_P D vwCl (gb_wl b (gb_CW cT b σ)) H → va_S (gb_fr b 135) s.heap H locs → lv_has ls 7 [(0, .ref (b + 0)), (3, .int v3), (4, .ref (b + v4)), (5, .ref (b + v5))] → W p l e (headSpec (.code yX11_told cX11_told 7 (some FieldType.int) :: gb_wA) ({ frames := 6, cells := 0, slots := 0, locals := 148 })).room s m ([.ref (b + 0), .int p1, .int p2, .int p3]).toArray below meth c H locs 0 0 (MQ below (gb_Qi (fun r h => r = rE ∧ va_P D vwCl (gb_wl b (gb_CW cT b σE)) h) (gb_fr b 135)) ([.ref (b + 0), .int p1, .int p2, .int p3]).toArray s 0 0 (gb_fr b 135)) (F0 m 63 ls [.int t0]) := by
    clear h hP hS hl ls
    intro σ v3 v4 v5 t0 H locs ls h hP hS hl
    unfold cs_Face_told_63 at h
    obtain ⟨z_23, h⟩ := gb_kk_s h
    obtain ⟨z_24, h⟩ := gb_kk_s h
    refine lv_istore (lv' := [(6, .int t0), (0, .ref (b + 0)), (3, .int v3), (4, .ref (b + v4)), (5, .ref (b + v5))]) hx hb dX11_told_63 hl (by decide) rfl (fun ls hl => ?_)
    refine lv_iload hx hb dX11_told_65 (lv_at hl 0 rfl) ?_
    refine lv_if_ne (tgt := 82) hx hb dX11_told_67 (by decide) (fun c_25 => ?_) (fun c_25 => ?_)
    · rw [if_neg c_25] at h
      exact L82_3 _ _ _ _ _ _ _ h hP hS (lv_sub hl [1, 2, 3, 4] rfl)
    · rw [if_pos c_25] at h
      refine lv_iload_n hx hb dX11_told_70 rfl (lv_at hl 2 rfl) ?_
      refine lv_if_lt (tgt := 79) hx hb dX11_told_71 (by decide) (fun c_56 => ?_) (fun c_56 => ?_)
      · rw [if_pos c_56] at h
        refine lv_bipush (v := (-2)) hx hb dX11_told_79 (by decide) ?_
        obtain ⟨e1, e2⟩ := gb_eq2 h
        exact W.iret (v := (-2)) hx hb hr (fun t ht hW => gb_ri ht ⟨e2, by rw [← e1]; exact hP⟩ hS) hS.2.2 dX11_told_81
      · rw [if_neg c_56] at h
        refine lv_iload_n hx hb dX11_told_74 rfl (lv_at hl 2 rfl) ?_
        refine lv_iconst (v := 2) hx hb dX11_told_75 (by decide) ?_
        refine lv_icmp_le (tgt := 82) hx hb dX11_told_76 (by decide) (fun c_57 => ?_) (fun c_57 => ?_)
        · rw [if_pos c_57] at h
          exact L82_3 _ _ _ _ _ _ _ h hP hS (lv_sub hl [1, 2, 3, 4] rfl)
        · rw [if_neg c_57] at h
          refine lv_bipush (v := (-2)) hx hb dX11_told_79 (by decide) ?_
          obtain ⟨e1, e2⟩ := gb_eq2 h
          exact W.iret (v := (-2)) hx hb hr (fun t ht hW => gb_ri ht ⟨e2, by rw [← e1]; exact hP⟩ hS) hS.2.2 dX11_told_81
  have L62_1 : ∀ (σ : gb_S) (v3 : Int32) (v4 : Nat) (v5 : Nat) (H : Heap) (locs : List Loc) (ls : Array Slot), cs_Face_told_62 n σ v3 v4 v5 = some (σE, rE) → va_P D vwCl (gb_wl b (gb_CW cT b σ)) H → va_S (gb_fr b 135) s.heap H locs → lv_has ls 7 [(0, .ref (b + 0)), (3, .int v3), (4, .ref (b + v4)), (5, .ref (b + v5))] → W p l e (headSpec (.code yX11_told cX11_told 7 (some FieldType.int) :: gb_wA) ({ frames := 6, cells := 0, slots := 0, locals := 148 })).room s m ([.ref (b + 0), .int p1, .int p2, .int p3]).toArray below meth c H locs 0 0 (MQ below (gb_Qi (fun r h => r = rE ∧ va_P D vwCl (gb_wl b (gb_CW cT b σE)) h) (gb_fr b 135)) ([.ref (b + 0), .int p1, .int p2, .int p3]).toArray s 0 0 (gb_fr b 135)) (F0 m 62 ls []) := by
    clear h hP hS hl ls
    intro σ v3 v4 v5 H locs ls h hP hS hl
    unfold cs_Face_told_62 at h
    obtain ⟨z_21, h⟩ := gb_kk_s h
    obtain ⟨z_22, h⟩ := gb_kk_s h
    refine lv_iconst (v := 0) hx hb dX11_told_62 (by decide) ?_
    exact L63_2 _ _ _ _ _ _ _ _ h hP hS (lv_sub hl [0, 1, 2, 3] rfl)
  unfold cs_Face_told at h
  refine lv_aload_n hx hb dX11_told_0 rfl (lv_at hl 0 rfl) ?_
  refine lv_iload_n hx hb dX11_told_1 rfl (lv_at hl 1 rfl) ?_
  obtain ⟨s_1, r_2, z_3, h⟩ := gb_cd_s h
  refine gb_callq (va_runV (C := RX11) (As := [.int p1]) (rest := []) ⟨hx, hb, hml, hown, hq⟩ (cc_Face_borderAt l D cT tt b1 b hb1 n σ p1 s_1 r_2 z_3) (cwV 1 hq (gb_gV w_593 w_595 s_1_7 w_1 w_596) rfl rfl rfl (by decide +kernel) ⟨Nat.le_of_ble_eq_true rfl, Nat.le_of_ble_eq_true rfl⟩) (gb_preV (r := (RX11, TX11, 10)) (ci := 9) (q0 := 0) hSt hP rfl (gb_at b rfl) hS (fun q h => Nat.le_trans hb1 h.1) hP) rfl rfl hl.1 rfl (lv_room (Nat.le_of_ble_eq_true rfl)) dX11_told_2 ⟨Nat.le_of_ble_eq_true rfl, Nat.le_of_ble_eq_true rfl⟩) hS (fun _ h => h) (fun _ h => h) (fun q_4 H locs hY hk hS => ?_)
  obtain ⟨hq_4, hP⟩ := hY
  subst hq_4
  rw [gb_onv]
  by_cases c_5 : r_2 = 0
  · rw [if_pos c_5] at h
    rw [gb_nv0 c_5]
    refine lv_astoreN (lv' := [(4, .null), (0, .ref (b + 0)), (1, .int p1), (2, .int p2), (3, .int p3)]) hx hb dX11_told_5 hl (by decide) rfl (fun ls hl => ?_)
    refine lv_aload_n hx hb dX11_told_7 rfl (lv_at hl 1 rfl) ?_
    refine lv_iload_n hx hb dX11_told_8 rfl (lv_at hl 3 rfl) ?_
    obtain ⟨s_6, r_7, z_8, h⟩ := gb_cd_s h
    refine gb_callq (va_runV (C := RX11) (As := [.int p2]) (rest := []) ⟨hx, hb, hml, hown, hq⟩ (cc_Face_dawnAt l D cT tt b1 b hb1 n s_1 p2 s_6 r_7 z_8) (cwV 1 hq (gb_gV w_667 w_669 s_1_10 w_1 w_670) rfl rfl rfl (by decide +kernel) ⟨Nat.le_of_ble_eq_true rfl, Nat.le_of_ble_eq_true rfl⟩) (gb_preV (r := (RX11, TX11, 10)) (ci := 9) (q0 := 0) hSt hP rfl (gb_at b rfl) hS (fun q h => Nat.le_trans hb1 h.1) hP) rfl rfl hl.1 rfl (lv_room (Nat.le_of_ble_eq_true rfl)) dX11_told_9 ⟨Nat.le_of_ble_eq_true rfl, Nat.le_of_ble_eq_true rfl⟩) hS (fun _ h => h) (fun _ h => h) (fun q_9 H locs hY hk hS => ?_)
    obtain ⟨hq_9, hP⟩ := hY
    subst hq_9
    rw [gb_onv]
    by_cases c_10 : r_7 = 0
    · rw [if_pos c_10] at h
      rw [gb_nv0 c_10]
      refine lv_astoreN (lv' := [(5, .null), (4, .null), (0, .ref (b + 0)), (1, .int p1), (2, .int p2), (3, .int p3)]) hx hb dX11_told_12 hl (by decide) rfl (fun ls hl => ?_)
      refine lv_aloadN hx hb dX11_told_14 (lv_at hl 1 rfl) ?_
      refine lv_ifnullN (tgt := 24) hx hb dX11_told_16 (by decide) ?_
      refine lv_bipush (v := (-2)) hx hb dX11_told_24 (by decide) ?_
      obtain ⟨e1, e2⟩ := gb_eq2 h
      exact W.iret (v := (-2)) hx hb hr (fun t ht hW => gb_ri ht ⟨e2, by rw [← e1]; exact hP⟩ hS) hS.2.2 dX11_told_26
    rw [if_neg c_10] at h
    rw [gb_nv1 c_10]
    obtain ⟨z_11, h⟩ := gb_kk_s h
    refine lv_astore (lv' := [(5, .ref (b + r_7)), (4, .null), (0, .ref (b + 0)), (1, .int p1), (2, .int p2), (3, .int p3)]) hx hb dX11_told_12 hl (by decide) rfl (fun ls hl => ?_)
    refine lv_aloadN hx hb dX11_told_14 (lv_at hl 1 rfl) ?_
    refine lv_ifnullN (tgt := 24) hx hb dX11_told_16 (by decide) ?_
    refine lv_bipush (v := (-2)) hx hb dX11_told_24 (by decide) ?_
    obtain ⟨e1, e2⟩ := gb_eq2 h
    exact W.iret (v := (-2)) hx hb hr (fun t ht hW => gb_ri ht ⟨e2, by rw [← e1]; exact hP⟩ hS) hS.2.2 dX11_told_26
  rw [if_neg c_5] at h
  rw [gb_nv1 c_5]
  obtain ⟨z_12, h⟩ := gb_kk_s h
  refine lv_astore (lv' := [(4, .ref (b + r_2)), (0, .ref (b + 0)), (1, .int p1), (2, .int p2), (3, .int p3)]) hx hb dX11_told_5 hl (by decide) rfl (fun ls hl => ?_)
  refine lv_aload_n hx hb dX11_told_7 rfl (lv_at hl 1 rfl) ?_
  refine lv_iload_n hx hb dX11_told_8 rfl (lv_at hl 3 rfl) ?_
  obtain ⟨s_13, r_14, z_15, h⟩ := gb_cd_s h
  refine gb_callq (va_runV (C := RX11) (As := [.int p2]) (rest := []) ⟨hx, hb, hml, hown, hq⟩ (cc_Face_dawnAt l D cT tt b1 b hb1 n s_1 p2 s_13 r_14 z_15) (cwV 1 hq (gb_gV w_667 w_669 s_1_10 w_1 w_670) rfl rfl rfl (by decide +kernel) ⟨Nat.le_of_ble_eq_true rfl, Nat.le_of_ble_eq_true rfl⟩) (gb_preV (r := (RX11, TX11, 10)) (ci := 9) (q0 := 0) hSt hP rfl (gb_at b rfl) hS (fun q h => Nat.le_trans hb1 h.1) hP) rfl rfl hl.1 rfl (lv_room (Nat.le_of_ble_eq_true rfl)) dX11_told_9 ⟨Nat.le_of_ble_eq_true rfl, Nat.le_of_ble_eq_true rfl⟩) hS (fun _ h => h) (fun _ h => h) (fun q_16 H locs hY hk hS => ?_)
  obtain ⟨hq_16, hP⟩ := hY
  subst hq_16
  rw [gb_onv]
  by_cases c_17 : r_14 = 0
  · rw [if_pos c_17] at h
    rw [gb_nv0 c_17]
    refine lv_astoreN (lv' := [(5, .null), (4, .ref (b + r_2)), (0, .ref (b + 0)), (1, .int p1), (2, .int p2), (3, .int p3)]) hx hb dX11_told_12 hl (by decide) rfl (fun ls hl => ?_)
    refine lv_aload hx hb dX11_told_14 (lv_at hl 1 rfl) ?_
    refine lv_ifnull hx hb dX11_told_16 ?_
    refine lv_aloadN hx hb dX11_told_19 (lv_at hl 0 rfl) ?_
    refine lv_ifnonnullN hx hb dX11_told_21 ?_
    refine lv_bipush (v := (-2)) hx hb dX11_told_24 (by decide) ?_
    obtain ⟨e1, e2⟩ := gb_eq2 h
    exact W.iret (v := (-2)) hx hb hr (fun t ht hW => gb_ri ht ⟨e2, by rw [← e1]; exact hP⟩ hS) hS.2.2 dX11_told_26
  rw [if_neg c_17] at h
  rw [gb_nv1 c_17]
  obtain ⟨z_18, h⟩ := gb_kk_s h
  refine lv_astore (lv' := [(5, .ref (b + r_14)), (4, .ref (b + r_2)), (0, .ref (b + 0)), (1, .int p1), (2, .int p2), (3, .int p3)]) hx hb dX11_told_12 hl (by decide) rfl (fun ls hl => ?_)
  refine lv_aload hx hb dX11_told_14 (lv_at hl 1 rfl) ?_
  refine lv_ifnull hx hb dX11_told_16 ?_
  refine lv_aload hx hb dX11_told_19 (lv_at hl 0 rfl) ?_
  refine lv_ifnonnull (tgt := 27) hx hb dX11_told_21 (by decide) ?_
  refine lv_iload_n hx hb dX11_told_27 rfl (lv_at hl 5 rfl) ?_
  refine lv_iconst (v := 3) hx hb dX11_told_28 (by decide) ?_
  refine lv_icmp_ne (tgt := 40) hx hb dX11_told_29 (by decide) (fun c_19 => ?_) (fun c_19 => ?_)
  · rw [if_neg c_19] at h
    refine lv_iload_n hx hb dX11_told_40 rfl (lv_at hl 5 rfl) ?_
    refine lv_bipush (v := 10) hx hb dX11_told_41 (by decide) ?_
    refine lv_icmp_lt (tgt := 62) hx hb dX11_told_43 (by decide) (fun c_20 => ?_) (fun c_20 => ?_)
    · rw [if_pos c_20] at h
      exact L62_1 _ _ _ _ _ _ _ h hP hS (lv_sub hl [2, 5, 1, 0] rfl)
    · rw [if_neg c_20] at h
      refine lv_aload hx hb dX11_told_46 (lv_at hl 1 rfl) ?_
      refine lv_iload_n hx hb dX11_told_48 rfl (lv_at hl 5 rfl) ?_
      refine lv_bipush (v := 10) hx hb dX11_told_49 (by decide) ?_
      refine lv_isub hx hb dX11_told_51 ?_
      obtain ⟨s_58, r_59, z_60, h⟩ := gb_cd_s h
      refine gb_calli (va_runV (C := RX0) (As := [.int (p3 - 10)]) (rest := []) ⟨hx, hb, hml, hown, hq⟩ (cc_Border_hasGoose_B l D cT tt b1 b hb1 n s_13 r_2 (p3 - 10) s_58 r_59 z_60) (cwV 1 hq (gb_gV w_619 w_612 w_613 w_4 w_614) rfl rfl rfl (by decide +kernel) ⟨Nat.le_of_ble_eq_true rfl, Nat.le_of_ble_eq_true rfl⟩) (gb_preV (r := (RX0, TX0, 1)) (ci := 0) (q0 := r_2) hSt hP rfl (gb_at b (gb_cB z_12).1) hS (fun q h => Nat.le_trans hb1 h.1) hP) rfl rfl hl.1 rfl (lv_room (Nat.le_of_ble_eq_true rfl)) dX11_told_52 ⟨Nat.le_of_ble_eq_true rfl, Nat.le_of_ble_eq_true rfl⟩) hS (fun _ h => h) (fun _ h => h) (fun q_61 H locs hY hk hS => ?_)
      obtain ⟨hq_61, hP⟩ := hY
      replace hq_61 := hq_61.symm
      subst hq_61
      refine lv_if_eq (tgt := 62) hx hb dX11_told_55 (by decide) (fun c_62 => ?_) (fun c_62 => ?_)
      · rw [if_pos c_62] at h
        exact L62_1 _ _ _ _ _ _ _ h hP hS (lv_sub hl [2, 5, 1, 0] rfl)
      · rw [if_neg c_62] at h
        refine lv_iconst (v := 1) hx hb dX11_told_58 (by decide) ?_
        refine lv_goto (tgt := 63) hx hb dX11_told_59 (by decide) ?_
        exact L63_2 _ _ _ _ _ _ _ _ h hP hS (lv_sub hl [2, 5, 1, 0] rfl)
  · rw [if_pos c_19] at h
    refine lv_aload hx hb dX11_told_32 (lv_at hl 1 rfl) ?_
    refine lv_aload hx hb dX11_told_34 (lv_at hl 0 rfl) ?_
    obtain ⟨s_63, r_64, z_65, h⟩ := gb_cd_s h
    refine gb_calli (va_runS (As := [.ref (b + r_2), .ref (b + r_14)]) (rest := []) ⟨hx, hb, hml, hown, hq⟩ (cc_Face_toeOf_B_D l D cT tt b1 b hb1 n s_13 r_2 r_14 s_63 r_64 z_65) (va_cwS 2 hq (gb_gS w_1071 w_1072 w_1 w_1073) rfl rfl rfl (by decide +kernel) ⟨Nat.le_of_ble_eq_true rfl, Nat.le_of_ble_eq_true rfl⟩) (gb_preS hSt hS (fun q h => Nat.le_trans hb1 h.1) hP) rfl rfl hl.1 rfl (lv_room (Nat.le_of_ble_eq_true rfl)) dX11_told_36 ⟨Nat.le_of_ble_eq_true rfl, Nat.le_of_ble_eq_true rfl⟩) hS (fun _ h => h) (fun _ h => h) (fun q_66 H locs hY hk hS => ?_)
    obtain ⟨hq_66, hP⟩ := hY
    replace hq_66 := hq_66.symm
    subst hq_66
    obtain ⟨e1, e2⟩ := gb_eq2 h
    exact W.iret (v := r_64) hx hb hr (fun t ht hW => gb_ri ht ⟨e2, by rw [← e1]; exact hP⟩ hS) hS.2.2 dX11_told_39
