theorem dX11_alike_0 : decode cX11_alike 0 = .ok (.aload_n 0, 1) := by decide +kernel
theorem dX11_alike_1 : decode cX11_alike 1 = .ok (.iload_n 1, 1) := by decide +kernel
theorem dX11_alike_2 : decode cX11_alike 2 = .ok (.invokevirtual 113, 3) := by decide +kernel
theorem dX11_alike_5 : decode cX11_alike 5 = .ok (.astore 4, 2) := by decide +kernel
theorem dX11_alike_7 : decode cX11_alike 7 = .ok (.aload 4, 2) := by decide +kernel
theorem dX11_alike_9 : decode cX11_alike 9 = .ok (.ifnull 26, 3) := by decide +kernel
theorem dX11_alike_35 : decode cX11_alike 35 = .ok (.iconst (-1), 1) := by decide +kernel
theorem dX11_alike_36 : decode cX11_alike 36 = .ok (.ireturn, 1) := by decide +kernel
theorem dX11_alike_12 : decode cX11_alike 12 = .ok (.iload_n 2, 1) := by decide +kernel
theorem dX11_alike_13 : decode cX11_alike 13 = .ok (.iload_n 3, 1) := by decide +kernel
theorem dX11_alike_14 : decode cX11_alike 14 = .ok (.if_icmp .eq 21, 3) := by decide +kernel
theorem dX11_alike_17 : decode cX11_alike 17 = .ok (.aload 4, 2) := by decide +kernel
theorem dX11_alike_19 : decode cX11_alike 19 = .ok (.iload_n 2, 1) := by decide +kernel
theorem dX11_alike_20 : decode cX11_alike 20 = .ok (.invokevirtual 131, 3) := by decide +kernel
theorem dX11_alike_23 : decode cX11_alike 23 = .ok (.ifCond .eq 12, 3) := by decide +kernel
theorem dX11_alike_26 : decode cX11_alike 26 = .ok (.aload 4, 2) := by decide +kernel
theorem dX11_alike_28 : decode cX11_alike 28 = .ok (.iload_n 3, 1) := by decide +kernel
theorem dX11_alike_29 : decode cX11_alike 29 = .ok (.invokevirtual 131, 3) := by decide +kernel
theorem dX11_alike_32 : decode cX11_alike 32 = .ok (.ifCond .ne 5, 3) := by decide +kernel
theorem dX11_alike_37 : decode cX11_alike 37 = .ok (.iconst 0, 1) := by decide +kernel
theorem dX11_alike_38 : decode cX11_alike 38 = .ok (.istore 5, 2) := by decide +kernel
theorem dX11_alike_40 : decode cX11_alike 40 = .ok (.iconst 0, 1) := by decide +kernel
theorem dX11_alike_41 : decode cX11_alike 41 = .ok (.istore 6, 2) := by decide +kernel
theorem dX11_alike_43 : decode cX11_alike 43 = .ok (.iload 6, 2) := by decide +kernel
theorem dX11_alike_45 : decode cX11_alike 45 = .ok (.aload 4, 2) := by decide +kernel
theorem dX11_alike_47 : decode cX11_alike 47 = .ok (.invokevirtual 117, 3) := by decide +kernel
theorem dX11_alike_50 : decode cX11_alike 50 = .ok (.if_icmp .ge 37, 3) := by decide +kernel
theorem dX11_alike_87 : decode cX11_alike 87 = .ok (.iload 5, 2) := by decide +kernel
theorem dX11_alike_89 : decode cX11_alike 89 = .ok (.ireturn, 1) := by decide +kernel
theorem dX11_alike_53 : decode cX11_alike 53 = .ok (.aload 4, 2) := by decide +kernel
theorem dX11_alike_55 : decode cX11_alike 55 = .ok (.iload_n 2, 1) := by decide +kernel
theorem dX11_alike_56 : decode cX11_alike 56 = .ok (.iload 6, 2) := by decide +kernel
theorem dX11_alike_58 : decode cX11_alike 58 = .ok (.invokevirtual 311, 3) := by decide +kernel
theorem dX11_alike_61 : decode cX11_alike 61 = .ok (.aload 4, 2) := by decide +kernel
theorem dX11_alike_63 : decode cX11_alike 63 = .ok (.iload_n 3, 1) := by decide +kernel
theorem dX11_alike_64 : decode cX11_alike 64 = .ok (.iload 6, 2) := by decide +kernel
theorem dX11_alike_66 : decode cX11_alike 66 = .ok (.invokevirtual 311, 3) := by decide +kernel
theorem dX11_alike_69 : decode cX11_alike 69 = .ok (.if_icmp .ne 12, 3) := by decide +kernel
theorem dX11_alike_81 : decode cX11_alike 81 = .ok (.iinc 6 1, 3) := by decide +kernel
theorem dX11_alike_84 : decode cX11_alike 84 = .ok (.goto (-41), 3) := by decide +kernel
theorem dX11_alike_72 : decode cX11_alike 72 = .ok (.iload 5, 2) := by decide +kernel
theorem dX11_alike_74 : decode cX11_alike 74 = .ok (.iconst 1, 1) := by decide +kernel
theorem dX11_alike_75 : decode cX11_alike 75 = .ok (.iload 6, 2) := by decide +kernel
theorem dX11_alike_77 : decode cX11_alike 77 = .ok (.ishl, 1) := by decide +kernel
theorem dX11_alike_78 : decode cX11_alike 78 = .ok (.ior, 1) := by decide +kernel
theorem dX11_alike_79 : decode cX11_alike 79 = .ok (.istore 5, 2) := by decide +kernel
def cs_Face_alike_43 (n : Nat) : Nat → gb_S → Int32 → Int32 → Nat → Int32 → Int32 → gb_CR Int32
  | 0, _, _, _, _, _, _ => none
  | mm + 1, σ, v2, v3, v4, v5, v6 => gb_kk (gb_kB v4) (gb_cd (cs_Border_paths_B n σ v4) (fun s_19 r_20 => (if r_20 ≤ v6 then some (s_19, v5) else gb_cd (cs_Border_marksFirst_B n s_19 v4 v2 v6) (fun s_24 r_25 => gb_cd (cs_Border_marksFirst_B n s_24 v4 v3 v6) (fun s_28 r_29 => (if r_25 = r_29 then gb_lt (v5 ||| ((1 : Int32) <<< (v6 &&& 31))) (fun x_34 => gb_lt (v6 + 1) (fun x_35 => cs_Face_alike_43 n mm s_28 v2 v3 v4 x_34 x_35)) else gb_lt (v6 + 1) (fun x_33 => cs_Face_alike_43 n mm s_28 v2 v3 v4 v5 x_33)))))))
def cs_Face_alike (n : Nat) (σ : gb_S) (p1 : Int32) (p2 : Int32) (p3 : Int32) : gb_CR Int32 := gb_cd (cs_Face_borderAt n σ p1) (fun s_1 r_2 => (if r_2 = 0 then some (s_1, (-1)) else gb_kk (gb_kB r_2) ((if p2 = p3 then some (s_1, (-1)) else gb_cd (cs_Border_hasGoose_B n s_1 r_2 p2) (fun s_8 r_9 => (if r_9 = 0 then some (s_8, (-1)) else gb_cd (cs_Border_hasGoose_B n s_8 r_2 p3) (fun s_13 r_14 => (if r_14 = 0 then some (s_13, (-1)) else cs_Face_alike_43 n n s_13 p2 p3 r_2 0 0))))))))
set_option maxHeartbeats 8000000 in
set_option maxRecDepth 100000 in
theorem cc_Face_alike (l : Launch) (D : va_G) (cT : Nat → ClassId) (tt : Nat → Nat) (b1 b : Nat) (hb1 : b1 ≤ b) (n : Nat) (σ : gb_S) (p1 : Int32) (p2 : Int32) (p3 : Int32) (σE : gb_S) (rE : Int32) (h : cs_Face_alike n σ p1 p2 p3 = some (σE, rE)) : Met l yX11_alike (.code yX11_alike cX11_alike 7 (some FieldType.int) :: gb_wA) ({ frames := 3, cells := 0, slots := 0, locals := 70 }) (gb_Pc D cT tt b1 [.ref (b + 0), .int p1, .int p2, .int p3] (fun h => va_P D vwCl (gb_wl b (gb_CW cT b σ)) h)) (gb_Qi (fun r h => r = rE ∧ va_P D vwCl (gb_wl b (gb_CW cT b σE)) h) (gb_fr b 135)) 0 0 (gb_fr b 135) := by
  refine Met.ofW (cc := cX11_alike) (maxL := 7) (ret := (some FieldType.int)) (by decide) rfl ?_
  intro p e s m args below meth c s₁ B hml hv
  obtain ⟨rfl, hSt, hP⟩ := hv
  have hx := B.exec
  have hb := B.bytes
  have hr := B.returns
  have hts := atoms_spec (ws := .code yX11_alike cX11_alike 7 (some FieldType.int) :: gb_wA) B.pre
  have hq : ∀ w ∈ gb_wA, w.before _ s = true := fun w h => hts w (List.mem_cons_of_mem _ h)
  have hown : s.vm.findClass RX11 = some m.cls := findClass_of_methodNamed B.named
  have hlocks := B.notSynchronized
  clear B hts
  have hK := hSt.1
  have hS : va_S (gb_fr b 135) s.heap s.heap [] := va_S.rf
  have hl := lv_entry ([.ref (b + 0), .int p1, .int p2, .int p3]) (n := 7) (Nat.le_of_ble_eq_true rfl)
  rw [lg_entry_eq]
  generalize (lg_sl ([.ref (b + 0), .int p1, .int p2, .int p3]) ++ List.replicate (7 - (lg_sl ([.ref (b + 0), .int p1, .int p2, .int p3])).length) Slot.unset).toArray = ls at hl ⊢
  replace hl : lv_has ls 7 [(0, .ref (b + 0)), (1, .int p1), (2, .int p2), (3, .int p3)] := hl
  have L43_1 : ∀ (mm : Nat) (σ : gb_S) (v2 : Int32) (v3 : Int32) (v4 : Nat) (v5 : Int32) (v6 : Int32) (H : Heap) (locs : List Loc) (ls : Array Slot), cs_Face_alike_43 n mm σ v2 v3 v4 v5 v6 = some (σE, rE) → va_P D vwCl (gb_wl b (gb_CW cT b σ)) H → va_S (gb_fr b 135) s.heap H locs → lv_has ls 7 [(2, .int v2), (3, .int v3), (4, .ref (b + v4)), (5, .int v5), (6, .int v6)] → W p l e (headSpec (.code yX11_alike cX11_alike 7 (some FieldType.int) :: gb_wA) ({ frames := 3, cells := 0, slots := 0, locals := 70 })).room s m ([.ref (b + 0), .int p1, .int p2, .int p3]).toArray below meth c H locs 0 0 (MQ below (gb_Qi (fun r h => r = rE ∧ va_P D vwCl (gb_wl b (gb_CW cT b σE)) h) (gb_fr b 135)) ([.ref (b + 0), .int p1, .int p2, .int p3]).toArray s 0 0 (gb_fr b 135)) (F0 m 43 ls []) := by
    clear h hP hS hl ls
    intro mm
    induction mm with
    | zero =>
      intro σ v2 v3 v4 v5 v6 H locs ls h
      cases h
    | succ mm ih =>
      intro σ v2 v3 v4 v5 v6 H locs ls h hP hS hl
      rw [cs_Face_alike_43] at h
      obtain ⟨z_18, h⟩ := gb_kk_s h
      refine lv_iload hx hb dX11_alike_43 (lv_at hl 4 rfl) ?_
      refine lv_aload hx hb dX11_alike_45 (lv_at hl 2 rfl) ?_
      obtain ⟨s_19, r_20, z_21, h⟩ := gb_cd_s h
      refine gb_calli (va_runV (C := RX0) (As := []) (rest := [.int v6]) ⟨hx, hb, hml, hown, hq⟩ (cc_Border_paths_B l D cT tt b1 b hb1 n σ v4 s_19 r_20 z_21) (cwV 0 hq (gb_gV w_597 w_473 w_474 w_4 w_475) rfl rfl rfl (by decide +kernel) ⟨Nat.le_of_ble_eq_true rfl, Nat.le_of_ble_eq_true rfl⟩) (gb_preV (r := (RX0, TX0, 1)) (ci := 0) (q0 := v4) hSt hP rfl (gb_at b (gb_cB z_18).1) hS (fun q h => Nat.le_trans hb1 h.1) hP) rfl rfl hl.1 rfl (lv_room (Nat.le_of_ble_eq_true rfl)) dX11_alike_47 ⟨Nat.le_of_ble_eq_true rfl, Nat.le_of_ble_eq_true rfl⟩) hS (fun _ h => h) (fun _ h => h) (fun q_22 H locs hY hk hS => ?_)
      obtain ⟨hq_22, hP⟩ := hY
      replace hq_22 := hq_22.symm
      subst hq_22
      refine lv_icmp_ge (tgt := 87) hx hb dX11_alike_50 (by decide) (fun c_23 => ?_) (fun c_23 => ?_)
      · rw [if_pos c_23] at h
        refine lv_iload hx hb dX11_alike_87 (lv_at hl 3 rfl) ?_
        obtain ⟨e1, e2⟩ := gb_eq2 h
        exact W.iret (v := v5) hx hb hr (fun t ht hW => gb_ri ht ⟨e2, by rw [← e1]; exact hP⟩ hS) hS.2.2 dX11_alike_89
      · rw [if_neg c_23] at h
        refine lv_aload hx hb dX11_alike_53 (lv_at hl 2 rfl) ?_
        refine lv_iload_n hx hb dX11_alike_55 rfl (lv_at hl 0 rfl) ?_
        refine lv_iload hx hb dX11_alike_56 (lv_at hl 4 rfl) ?_
        obtain ⟨s_24, r_25, z_26, h⟩ := gb_cd_s h
        refine gb_calli (va_runV (C := RX0) (As := [.int v2, .int v6]) (rest := []) ⟨hx, hb, hml, hown, hq⟩ (cc_Border_marksFirst_B l D cT tt b1 b hb1 n s_19 v4 v2 v6 s_24 r_25 z_26) (cwV 2 hq (gb_gV w_963 w_899 w_900 w_4 w_901) rfl rfl rfl (by decide +kernel) ⟨Nat.le_of_ble_eq_true rfl, Nat.le_of_ble_eq_true rfl⟩) (gb_preV (r := (RX0, TX0, 1)) (ci := 0) (q0 := v4) hSt hP rfl (gb_at b (gb_cB z_18).1) hS (fun q h => Nat.le_trans hb1 h.1) hP) rfl rfl hl.1 rfl (lv_room (Nat.le_of_ble_eq_true rfl)) dX11_alike_58 ⟨Nat.le_of_ble_eq_true rfl, Nat.le_of_ble_eq_true rfl⟩) hS (fun _ h => h) (fun _ h => h) (fun q_27 H locs hY hk hS => ?_)
        obtain ⟨hq_27, hP⟩ := hY
        replace hq_27 := hq_27.symm
        subst hq_27
        refine lv_aload hx hb dX11_alike_61 (lv_at hl 2 rfl) ?_
        refine lv_iload_n hx hb dX11_alike_63 rfl (lv_at hl 1 rfl) ?_
        refine lv_iload hx hb dX11_alike_64 (lv_at hl 4 rfl) ?_
        obtain ⟨s_28, r_29, z_30, h⟩ := gb_cd_s h
        refine gb_calli (va_runV (C := RX0) (As := [.int v3, .int v6]) (rest := [.int r_25]) ⟨hx, hb, hml, hown, hq⟩ (cc_Border_marksFirst_B l D cT tt b1 b hb1 n s_24 v4 v3 v6 s_28 r_29 z_30) (cwV 2 hq (gb_gV w_963 w_899 w_900 w_4 w_901) rfl rfl rfl (by decide +kernel) ⟨Nat.le_of_ble_eq_true rfl, Nat.le_of_ble_eq_true rfl⟩) (gb_preV (r := (RX0, TX0, 1)) (ci := 0) (q0 := v4) hSt hP rfl (gb_at b (gb_cB z_18).1) hS (fun q h => Nat.le_trans hb1 h.1) hP) rfl rfl hl.1 rfl (lv_room (Nat.le_of_ble_eq_true rfl)) dX11_alike_66 ⟨Nat.le_of_ble_eq_true rfl, Nat.le_of_ble_eq_true rfl⟩) hS (fun _ h => h) (fun _ h => h) (fun q_31 H locs hY hk hS => ?_)
        obtain ⟨hq_31, hP⟩ := hY
        replace hq_31 := hq_31.symm
        subst hq_31
        refine lv_icmp_ne (tgt := 81) hx hb dX11_alike_69 (by decide) (fun c_32 => ?_) (fun c_32 => ?_)
        · rw [if_neg c_32] at h
          obtain ⟨x_33, ex_33⟩ : ∃ q, q = (v6 + 1) := ⟨_, rfl⟩
          replace h := gb_lt_s ex_33 h
          refine lv_iinc (v := x_33) (lv' := [(6, .int x_33), (2, .int v2), (3, .int v3), (4, .ref (b + v4)), (5, .int v5)]) hx hb dX11_alike_81 hl (k := 4) rfl (by rw [ex_33]; rfl) (by decide) rfl (fun ls hl => ?_)
          refine lv_goto (tgt := 43) hx hb dX11_alike_84 (by decide) ?_
          exact ih _ _ _ _ _ _ _ _ _ h hP hS (lv_sub hl [1, 2, 3, 4, 0] rfl)
        · rw [if_pos c_32] at h
          refine lv_iload hx hb dX11_alike_72 (lv_at hl 3 rfl) ?_
          refine lv_iconst (v := 1) hx hb dX11_alike_74 (by decide) ?_
          refine lv_iload hx hb dX11_alike_75 (lv_at hl 4 rfl) ?_
          refine lv_ishl hx hb dX11_alike_77 ?_
          refine lv_ior hx hb dX11_alike_78 ?_
          refine lv_topi (fun x_34 ex_34 => ?_)
          replace h := gb_lt_s ex_34 h
          refine lv_istore (lv' := [(5, .int x_34), (2, .int v2), (3, .int v3), (4, .ref (b + v4)), (6, .int v6)]) hx hb dX11_alike_79 hl (by decide) rfl (fun ls hl => ?_)
          obtain ⟨x_35, ex_35⟩ : ∃ q, q = (v6 + 1) := ⟨_, rfl⟩
          replace h := gb_lt_s ex_35 h
          refine lv_iinc (v := x_35) (lv' := [(6, .int x_35), (5, .int x_34), (2, .int v2), (3, .int v3), (4, .ref (b + v4))]) hx hb dX11_alike_81 hl (k := 4) rfl (by rw [ex_35]; rfl) (by decide) rfl (fun ls hl => ?_)
          refine lv_goto (tgt := 43) hx hb dX11_alike_84 (by decide) ?_
          exact ih _ _ _ _ _ _ _ _ _ h hP hS (lv_sub hl [2, 3, 4, 1, 0] rfl)
  unfold cs_Face_alike at h
  refine lv_aload_n hx hb dX11_alike_0 rfl (lv_at hl 0 rfl) ?_
  refine lv_iload_n hx hb dX11_alike_1 rfl (lv_at hl 1 rfl) ?_
  obtain ⟨s_1, r_2, z_3, h⟩ := gb_cd_s h
  refine gb_callq (va_runV (C := RX11) (As := [.int p1]) (rest := []) ⟨hx, hb, hml, hown, hq⟩ (cc_Face_borderAt l D cT tt b1 b hb1 n σ p1 s_1 r_2 z_3) (cwV 1 hq (gb_gV w_593 w_595 s_1_7 w_1 w_596) rfl rfl rfl (by decide +kernel) ⟨Nat.le_of_ble_eq_true rfl, Nat.le_of_ble_eq_true rfl⟩) (gb_preV (r := (RX11, TX11, 10)) (ci := 9) (q0 := 0) hSt hP rfl (gb_at b rfl) hS (fun q h => Nat.le_trans hb1 h.1) hP) rfl rfl hl.1 rfl (lv_room (Nat.le_of_ble_eq_true rfl)) dX11_alike_2 ⟨Nat.le_of_ble_eq_true rfl, Nat.le_of_ble_eq_true rfl⟩) hS (fun _ h => h) (fun _ h => h) (fun q_4 H locs hY hk hS => ?_)
  obtain ⟨hq_4, hP⟩ := hY
  subst hq_4
  rw [gb_onv]
  by_cases c_5 : r_2 = 0
  · rw [if_pos c_5] at h
    rw [gb_nv0 c_5]
    refine lv_astoreN (lv' := [(4, .null), (0, .ref (b + 0)), (1, .int p1), (2, .int p2), (3, .int p3)]) hx hb dX11_alike_5 hl (by decide) rfl (fun ls hl => ?_)
    refine lv_aloadN hx hb dX11_alike_7 (lv_at hl 0 rfl) ?_
    refine lv_ifnullN (tgt := 35) hx hb dX11_alike_9 (by decide) ?_
    refine lv_iconst (v := (-1)) hx hb dX11_alike_35 (by decide) ?_
    obtain ⟨e1, e2⟩ := gb_eq2 h
    exact W.iret (v := (-1)) hx hb hr (fun t ht hW => gb_ri ht ⟨e2, by rw [← e1]; exact hP⟩ hS) hS.2.2 dX11_alike_36
  rw [if_neg c_5] at h
  rw [gb_nv1 c_5]
  obtain ⟨z_6, h⟩ := gb_kk_s h
  refine lv_astore (lv' := [(4, .ref (b + r_2)), (0, .ref (b + 0)), (1, .int p1), (2, .int p2), (3, .int p3)]) hx hb dX11_alike_5 hl (by decide) rfl (fun ls hl => ?_)
  refine lv_aload hx hb dX11_alike_7 (lv_at hl 0 rfl) ?_
  refine lv_ifnull hx hb dX11_alike_9 ?_
  refine lv_iload_n hx hb dX11_alike_12 rfl (lv_at hl 3 rfl) ?_
  refine lv_iload_n hx hb dX11_alike_13 rfl (lv_at hl 4 rfl) ?_
  refine lv_icmp_eq (tgt := 35) hx hb dX11_alike_14 (by decide) (fun c_7 => ?_) (fun c_7 => ?_)
  · rw [if_pos c_7] at h
    refine lv_iconst (v := (-1)) hx hb dX11_alike_35 (by decide) ?_
    obtain ⟨e1, e2⟩ := gb_eq2 h
    exact W.iret (v := (-1)) hx hb hr (fun t ht hW => gb_ri ht ⟨e2, by rw [← e1]; exact hP⟩ hS) hS.2.2 dX11_alike_36
  · rw [if_neg c_7] at h
    refine lv_aload hx hb dX11_alike_17 (lv_at hl 0 rfl) ?_
    refine lv_iload_n hx hb dX11_alike_19 rfl (lv_at hl 3 rfl) ?_
    obtain ⟨s_8, r_9, z_10, h⟩ := gb_cd_s h
    refine gb_calli (va_runV (C := RX0) (As := [.int p2]) (rest := []) ⟨hx, hb, hml, hown, hq⟩ (cc_Border_hasGoose_B l D cT tt b1 b hb1 n s_1 r_2 p2 s_8 r_9 z_10) (cwV 1 hq (gb_gV w_619 w_612 w_613 w_4 w_614) rfl rfl rfl (by decide +kernel) ⟨Nat.le_of_ble_eq_true rfl, Nat.le_of_ble_eq_true rfl⟩) (gb_preV (r := (RX0, TX0, 1)) (ci := 0) (q0 := r_2) hSt hP rfl (gb_at b (gb_cB z_6).1) hS (fun q h => Nat.le_trans hb1 h.1) hP) rfl rfl hl.1 rfl (lv_room (Nat.le_of_ble_eq_true rfl)) dX11_alike_20 ⟨Nat.le_of_ble_eq_true rfl, Nat.le_of_ble_eq_true rfl⟩) hS (fun _ h => h) (fun _ h => h) (fun q_11 H locs hY hk hS => ?_)
    obtain ⟨hq_11, hP⟩ := hY
    replace hq_11 := hq_11.symm
    subst hq_11
    refine lv_if_eq (tgt := 35) hx hb dX11_alike_23 (by decide) (fun c_12 => ?_) (fun c_12 => ?_)
    · rw [if_pos c_12] at h
      refine lv_iconst (v := (-1)) hx hb dX11_alike_35 (by decide) ?_
      obtain ⟨e1, e2⟩ := gb_eq2 h
      exact W.iret (v := (-1)) hx hb hr (fun t ht hW => gb_ri ht ⟨e2, by rw [← e1]; exact hP⟩ hS) hS.2.2 dX11_alike_36
    · rw [if_neg c_12] at h
      refine lv_aload hx hb dX11_alike_26 (lv_at hl 0 rfl) ?_
      refine lv_iload_n hx hb dX11_alike_28 rfl (lv_at hl 4 rfl) ?_
      obtain ⟨s_13, r_14, z_15, h⟩ := gb_cd_s h
      refine gb_calli (va_runV (C := RX0) (As := [.int p3]) (rest := []) ⟨hx, hb, hml, hown, hq⟩ (cc_Border_hasGoose_B l D cT tt b1 b hb1 n s_8 r_2 p3 s_13 r_14 z_15) (cwV 1 hq (gb_gV w_619 w_612 w_613 w_4 w_614) rfl rfl rfl (by decide +kernel) ⟨Nat.le_of_ble_eq_true rfl, Nat.le_of_ble_eq_true rfl⟩) (gb_preV (r := (RX0, TX0, 1)) (ci := 0) (q0 := r_2) hSt hP rfl (gb_at b (gb_cB z_6).1) hS (fun q h => Nat.le_trans hb1 h.1) hP) rfl rfl hl.1 rfl (lv_room (Nat.le_of_ble_eq_true rfl)) dX11_alike_29 ⟨Nat.le_of_ble_eq_true rfl, Nat.le_of_ble_eq_true rfl⟩) hS (fun _ h => h) (fun _ h => h) (fun q_16 H locs hY hk hS => ?_)
      obtain ⟨hq_16, hP⟩ := hY
      replace hq_16 := hq_16.symm
      subst hq_16
      refine lv_if_ne (tgt := 37) hx hb dX11_alike_32 (by decide) (fun c_17 => ?_) (fun c_17 => ?_)
      · rw [if_neg c_17] at h
        refine lv_iconst (v := 0) hx hb dX11_alike_37 (by decide) ?_
        refine lv_istore (lv' := [(5, .int 0), (4, .ref (b + r_2)), (0, .ref (b + 0)), (1, .int p1), (2, .int p2), (3, .int p3)]) hx hb dX11_alike_38 hl (by decide) rfl (fun ls hl => ?_)
        refine lv_iconst (v := 0) hx hb dX11_alike_40 (by decide) ?_
        refine lv_istore (lv' := [(6, .int 0), (5, .int 0), (4, .ref (b + r_2)), (0, .ref (b + 0)), (1, .int p1), (2, .int p2), (3, .int p3)]) hx hb dX11_alike_41 hl (by decide) rfl (fun ls hl => ?_)
        exact L43_1 n _ _ _ _ _ _ _ _ _ h hP hS (lv_sub hl [5, 6, 2, 1, 0] rfl)
      · rw [if_pos c_17] at h
        refine lv_iconst (v := (-1)) hx hb dX11_alike_35 (by decide) ?_
        obtain ⟨e1, e2⟩ := gb_eq2 h
        exact W.iret (v := (-1)) hx hb hr (fun t ht hW => gb_ri ht ⟨e2, by rw [← e1]; exact hP⟩ hS) hS.2.2 dX11_alike_36
theorem dX11_span_0 : decode cX11_span 0 = .ok (.aload_n 0, 1) := by decide +kernel
theorem dX11_span_1 : decode cX11_span 1 = .ok (.iload_n 1, 1) := by decide +kernel
theorem dX11_span_2 : decode cX11_span 2 = .ok (.invokevirtual 113, 3) := by decide +kernel
theorem dX11_span_5 : decode cX11_span 5 = .ok (.astore 5, 2) := by decide +kernel
theorem dX11_span_7 : decode cX11_span 7 = .ok (.aload 5, 2) := by decide +kernel
theorem dX11_span_9 : decode cX11_span 9 = .ok (.ifnull 25, 3) := by decide +kernel
theorem dX11_span_34 : decode cX11_span 34 = .ok (.iconst (-1), 1) := by decide +kernel
theorem dX11_span_35 : decode cX11_span 35 = .ok (.ireturn, 1) := by decide +kernel
theorem dX11_span_12 : decode cX11_span 12 = .ok (.aload 5, 2) := by decide +kernel
theorem dX11_span_14 : decode cX11_span 14 = .ok (.iload_n 2, 1) := by decide +kernel
theorem dX11_span_15 : decode cX11_span 15 = .ok (.invokevirtual 135, 3) := by decide +kernel
theorem dX11_span_18 : decode cX11_span 18 = .ok (.ifCond .eq 16, 3) := by decide +kernel
theorem dX11_span_21 : decode cX11_span 21 = .ok (.iload_n 3, 1) := by decide +kernel
theorem dX11_span_22 : decode cX11_span 22 = .ok (.ifCond .lt 12, 3) := by decide +kernel
theorem dX11_span_25 : decode cX11_span 25 = .ok (.iload_n 3, 1) := by decide +kernel
theorem dX11_span_26 : decode cX11_span 26 = .ok (.aload 5, 2) := by decide +kernel
theorem dX11_span_28 : decode cX11_span 28 = .ok (.invokevirtual 121, 3) := by decide +kernel
theorem dX11_span_31 : decode cX11_span 31 = .ok (.if_icmp .le 5, 3) := by decide +kernel
theorem dX11_span_36 : decode cX11_span 36 = .ok (.aload_n 0, 1) := by decide +kernel
theorem dX11_span_37 : decode cX11_span 37 = .ok (.getfield 70, 3) := by decide +kernel
theorem dX11_span_40 : decode cX11_span 40 = .ok (.aload 5, 2) := by decide +kernel
theorem dX11_span_42 : decode cX11_span 42 = .ok (.iload_n 2, 1) := by decide +kernel
theorem dX11_span_43 : decode cX11_span 43 = .ok (.iload_n 3, 1) := by decide +kernel
theorem dX11_span_44 : decode cX11_span 44 = .ok (.iload 4, 2) := by decide +kernel
theorem dX11_span_46 : decode cX11_span 46 = .ok (.invokevirtual 320, 3) := by decide +kernel
theorem dX2_marksOfAny_0 : decode cX2_marksOfAny 0 = .ok (.aload_n 0, 1) := by decide +kernel
theorem dX2_marksOfAny_1 : decode cX2_marksOfAny 1 = .ok (.aload_n 1, 1) := by decide +kernel
theorem dX2_marksOfAny_2 : decode cX2_marksOfAny 2 = .ok (.iload_n 2, 1) := by decide +kernel
theorem dX2_marksOfAny_3 : decode cX2_marksOfAny 3 = .ok (.aload_n 0, 1) := by decide +kernel
theorem dX2_marksOfAny_4 : decode cX2_marksOfAny 4 = .ok (.getfield 9, 3) := by decide +kernel
theorem dX2_marksOfAny_7 : decode cX2_marksOfAny 7 = .ok (.invokevirtual 39, 3) := by decide +kernel
theorem dX2_sumUp_0 : decode cX2_sumUp 0 = .ok (.aload_n 0, 1) := by decide +kernel
theorem dX2_sumUp_1 : decode cX2_sumUp 1 = .ok (.iconst 1, 1) := by decide +kernel
theorem dX2_sumUp_2 : decode cX2_sumUp 2 = .ok (.aload_n 1, 1) := by decide +kernel
theorem dX2_sumUp_3 : decode cX2_sumUp 3 = .ok (.invokevirtual 25, 3) := by decide +kernel
theorem w_986 : (Cond.methodLink "GooseBorder$Flocks" (25 : Nat) ({ cls := "GooseBorder$Border", name := "geese", desc := "()I" } : MethodName)) ∈ gb_wA := gb_t5 26 rfl rfl
theorem dX2_sumUp_6 : decode cX2_sumUp 6 = .ok (.ishl, 1) := by decide +kernel
theorem dX2_sumUp_7 : decode cX2_sumUp 7 = .ok (.putfield 31, 3) := by decide +kernel
theorem w_298 : (Cond.fieldLink "GooseBorder$Flocks" (31 : Nat) "GooseBorder$Flocks" "sets" "I") ∈ gb_wA := gb_t2 58 rfl rfl
theorem dX2_sumUp_10 : decode cX2_sumUp 10 = .ok (.aload_n 3, 1) := by decide +kernel
theorem dX2_sumUp_11 : decode cX2_sumUp 11 = .ok (.iconst 0, 1) := by decide +kernel
theorem dX2_sumUp_12 : decode cX2_sumUp 12 = .ok (.iconst 0, 1) := by decide +kernel
theorem dX2_sumUp_13 : decode cX2_sumUp 13 = .ok (.iastore, 1) := by decide +kernel
theorem dX2_sumUp_14 : decode cX2_sumUp 14 = .ok (.iconst 0, 1) := by decide +kernel
theorem dX2_sumUp_15 : decode cX2_sumUp 15 = .ok (.istore 4, 2) := by decide +kernel
theorem dX2_sumUp_17 : decode cX2_sumUp 17 = .ok (.iload 4, 2) := by decide +kernel
theorem dX2_sumUp_19 : decode cX2_sumUp 19 = .ok (.aload_n 1, 1) := by decide +kernel
theorem dX2_sumUp_20 : decode cX2_sumUp 20 = .ok (.invokevirtual 25, 3) := by decide +kernel
theorem dX2_sumUp_23 : decode cX2_sumUp 23 = .ok (.if_icmp .ge 54, 3) := by decide +kernel
theorem dX2_sumUp_77 : decode cX2_sumUp 77 = .ok (.return_, 1) := by decide +kernel
theorem dX2_sumUp_26 : decode cX2_sumUp 26 = .ok (.aload_n 1, 1) := by decide +kernel
theorem dX2_sumUp_27 : decode cX2_sumUp 27 = .ok (.iload 4, 2) := by decide +kernel
theorem dX2_sumUp_29 : decode cX2_sumUp 29 = .ok (.iload_n 2, 1) := by decide +kernel
theorem dX2_sumUp_30 : decode cX2_sumUp 30 = .ok (.invokevirtual 35, 3) := by decide +kernel
theorem w_987 : (Cond.methodLink "GooseBorder$Flocks" (35 : Nat) ({ cls := "GooseBorder$Border", name := "marksFirst", desc := "(II)I" } : MethodName)) ∈ gb_wA := gb_t5 27 rfl rfl
theorem dX2_sumUp_33 : decode cX2_sumUp 33 = .ok (.istore 5, 2) := by decide +kernel
theorem dX2_sumUp_35 : decode cX2_sumUp 35 = .ok (.iconst 1, 1) := by decide +kernel
theorem dX2_sumUp_36 : decode cX2_sumUp 36 = .ok (.iload 4, 2) := by decide +kernel
theorem dX2_sumUp_38 : decode cX2_sumUp 38 = .ok (.ishl, 1) := by decide +kernel
theorem dX2_sumUp_39 : decode cX2_sumUp 39 = .ok (.istore 6, 2) := by decide +kernel
theorem dX2_sumUp_41 : decode cX2_sumUp 41 = .ok (.iconst 0, 1) := by decide +kernel
theorem dX2_sumUp_42 : decode cX2_sumUp 42 = .ok (.istore 7, 2) := by decide +kernel
theorem dX2_sumUp_44 : decode cX2_sumUp 44 = .ok (.iload 7, 2) := by decide +kernel
theorem dX2_sumUp_46 : decode cX2_sumUp 46 = .ok (.iload 6, 2) := by decide +kernel
theorem dX2_sumUp_48 : decode cX2_sumUp 48 = .ok (.if_icmp .ge 23, 3) := by decide +kernel
theorem dX2_sumUp_71 : decode cX2_sumUp 71 = .ok (.iinc 4 1, 3) := by decide +kernel
theorem dX2_sumUp_74 : decode cX2_sumUp 74 = .ok (.goto (-57), 3) := by decide +kernel
theorem dX2_sumUp_51 : decode cX2_sumUp 51 = .ok (.aload_n 3, 1) := by decide +kernel
theorem dX2_sumUp_52 : decode cX2_sumUp 52 = .ok (.iload 6, 2) := by decide +kernel
theorem dX2_sumUp_54 : decode cX2_sumUp 54 = .ok (.iload 7, 2) := by decide +kernel
theorem dX2_sumUp_56 : decode cX2_sumUp 56 = .ok (.iadd, 1) := by decide +kernel
theorem dX2_sumUp_57 : decode cX2_sumUp 57 = .ok (.aload_n 3, 1) := by decide +kernel
theorem dX2_sumUp_58 : decode cX2_sumUp 58 = .ok (.iload 7, 2) := by decide +kernel
theorem dX2_sumUp_60 : decode cX2_sumUp 60 = .ok (.iaload, 1) := by decide +kernel
theorem dX2_sumUp_61 : decode cX2_sumUp 61 = .ok (.iload 5, 2) := by decide +kernel
theorem dX2_sumUp_63 : decode cX2_sumUp 63 = .ok (.iadd, 1) := by decide +kernel
theorem dX2_sumUp_64 : decode cX2_sumUp 64 = .ok (.iastore, 1) := by decide +kernel
theorem dX2_sumUp_65 : decode cX2_sumUp 65 = .ok (.iinc 7 1, 3) := by decide +kernel
theorem dX2_sumUp_68 : decode cX2_sumUp 68 = .ok (.goto (-24), 3) := by decide +kernel
def cs_Flocks_sumUp_B_c131_44 (n : Nat) (k17 : gb_S → Nat → Int32 → Int32 → gb_CR Unit) : Nat → gb_S → Nat → Int32 → Int32 → Int32 → Int32 → Int32 → gb_CR Unit
  | 0, _, _, _, _, _, _, _ => none
  | mm + 1, σ, v1, v2, v4, v5, v6, v7 => gb_kk (gb_kB v1) ((if v6 ≤ v7 then gb_lt (v4 + 1) (fun x_21 => k17 σ v1 v2 x_21) else gb_ck v7 256 (gb_lt ((σ.1 131) (Int32.toNatClampNeg v7)) (fun x_23 => gb_ck (v6 + v7) 256 (gb_lt (gb_su σ 131 (upd (σ.1 131) (Int32.toNatClampNeg (v6 + v7)) (x_23 + v5))) (fun s_25 => gb_lt (v7 + 1) (fun x_26 => cs_Flocks_sumUp_B_c131_44 n k17 mm s_25 v1 v2 v4 v5 v6 x_26)))))))
def cs_Flocks_sumUp_B_c131_17 (n : Nat) : Nat → gb_S → Nat → Int32 → Int32 → gb_CR Unit
  | 0, _, _, _, _ => none
  | mm + 1, σ, v1, v2, v4 => gb_kk (gb_kB v1) (gb_cd (cs_Border_geese_B n σ v1) (fun s_9 r_10 => (if r_10 ≤ v4 then some (s_9, ()) else gb_cd (cs_Border_marksFirst_B n s_9 v1 v4 v2) (fun s_14 r_15 => gb_lt ((1 : Int32) <<< (v4 &&& 31)) (fun x_18 => cs_Flocks_sumUp_B_c131_44 n (fun σ v1 v2 v4 => cs_Flocks_sumUp_B_c131_17 n mm σ v1 v2 v4) n s_14 v1 v2 v4 r_15 x_18 0)))))
def cs_Flocks_sumUp_B_c131 (n : Nat) (σ : gb_S) (p1 : Nat) (p2 : Int32) : gb_CR Unit := gb_kk (gb_kB p1) (gb_cd (cs_Border_geese_B n σ p1) (fun s_2 r_3 => gb_lt (gb_su s_2 130 (upd (s_2.1 130) 4 ((1 : Int32) <<< (r_3 &&& 31)))) (fun s_6 => gb_lt (gb_su s_6 131 (upd (s_6.1 131) (Int32.toNatClampNeg 0) 0)) (fun s_7 => cs_Flocks_sumUp_B_c131_17 n n s_7 p1 p2 0))))
set_option maxHeartbeats 8000000 in
set_option maxRecDepth 100000 in
theorem cc_Flocks_sumUp_B_c131 (l : Launch) (D : va_G) (cT : Nat → ClassId) (tt : Nat → Nat) (b1 b : Nat) (hb1 : b1 ≤ b) (n : Nat) (σ : gb_S) (p1 : Nat) (p2 : Int32) (σE : gb_S) (rE : Unit) (h : cs_Flocks_sumUp_B_c131 n σ p1 p2 = some (σE, rE)) : Met l yX2_sumUp (.code yX2_sumUp cX2_sumUp 8 none :: gb_wA) ({ frames := 3, cells := 0, slots := 0, locals := 70 }) (gb_Pc D cT tt b1 [.ref (b + 130), .ref (b + p1), .int p2, .ref (b + 131)] (fun h => va_P D vwCl (gb_wl b (gb_CW cT b σ)) h)) (gb_Qv (fun h => va_P D vwCl (gb_wl b (gb_CW cT b σE)) h) (gb_fr b 135)) 0 0 (gb_fr b 135) := by
  refine Met.ofW (cc := cX2_sumUp) (maxL := 8) (ret := none) (by decide) rfl ?_
  intro p e s m args below meth c s₁ B hml hv
  obtain ⟨rfl, hSt, hP⟩ := hv
  have hx := B.exec
  have hb := B.bytes
  have hr := B.returns
  have hts := atoms_spec (ws := .code yX2_sumUp cX2_sumUp 8 none :: gb_wA) B.pre
  have hq : ∀ w ∈ gb_wA, w.before _ s = true := fun w h => hts w (List.mem_cons_of_mem _ h)
  have hown : s.vm.findClass RX2 = some m.cls := findClass_of_methodNamed B.named
  have hlocks := B.notSynchronized
  clear B hts
  have hK := hSt.1
  have hS : va_S (gb_fr b 135) s.heap s.heap [] := va_S.rf
  have hl := lv_entry ([.ref (b + 130), .ref (b + p1), .int p2, .ref (b + 131)]) (n := 8) (Nat.le_of_ble_eq_true rfl)
  rw [lg_entry_eq]
  generalize (lg_sl ([.ref (b + 130), .ref (b + p1), .int p2, .ref (b + 131)]) ++ List.replicate (8 - (lg_sl ([.ref (b + 130), .ref (b + p1), .int p2, .ref (b + 131)])).length) Slot.unset).toArray = ls at hl ⊢
  replace hl : lv_has ls 8 [(0, .ref (b + 130)), (1, .ref (b + p1)), (2, .int p2), (3, .ref (b + 131))] := hl
  have L44_2 : ∀ (k17 : gb_S → Nat → Int32 → Int32 → gb_CR Unit) (hk17 : ∀ (σ : gb_S) (v1 : Nat) (v2 : Int32) (v4 : Int32) (H : Heap) (locs : List Loc) (ls : Array Slot), k17 σ v1 v2 v4 = some (σE, rE) → va_P D vwCl (gb_wl b (gb_CW cT b σ)) H → va_S (gb_fr b 135) s.heap H locs → lv_has ls 8 [(1, .ref (b + v1)), (2, .int v2), (3, .ref (b + 131)), (4, .int v4)] → W p l e (headSpec (.code yX2_sumUp cX2_sumUp 8 none :: gb_wA) ({ frames := 3, cells := 0, slots := 0, locals := 70 })).room s m ([.ref (b + 130), .ref (b + p1), .int p2, .ref (b + 131)]).toArray below meth c H locs 0 0 (MQ below (gb_Qv (fun h => va_P D vwCl (gb_wl b (gb_CW cT b σE)) h) (gb_fr b 135)) ([.ref (b + 130), .ref (b + p1), .int p2, .ref (b + 131)]).toArray s 0 0 (gb_fr b 135)) (F0 m 17 ls [])) (mm : Nat) (σ : gb_S) (v1 : Nat) (v2 : Int32) (v4 : Int32) (v5 : Int32) (v6 : Int32) (v7 : Int32) (H : Heap) (locs : List Loc) (ls : Array Slot), cs_Flocks_sumUp_B_c131_44 n k17 mm σ v1 v2 v4 v5 v6 v7 = some (σE, rE) → va_P D vwCl (gb_wl b (gb_CW cT b σ)) H → va_S (gb_fr b 135) s.heap H locs → lv_has ls 8 [(1, .ref (b + v1)), (2, .int v2), (3, .ref (b + 131)), (4, .int v4), (5, .int v5), (6, .int v6), (7, .int v7)] → W p l e (headSpec (.code yX2_sumUp cX2_sumUp 8 none :: gb_wA) ({ frames := 3, cells := 0, slots := 0, locals := 70 })).room s m ([.ref (b + 130), .ref (b + p1), .int p2, .ref (b + 131)]).toArray below meth c H locs 0 0 (MQ below (gb_Qv (fun h => va_P D vwCl (gb_wl b (gb_CW cT b σE)) h) (gb_fr b 135)) ([.ref (b + 130), .ref (b + p1), .int p2, .ref (b + 131)]).toArray s 0 0 (gb_fr b 135)) (F0 m 44 ls []) := by
    clear h hP hS hl ls
    intro k17 hk17 mm
    induction mm with
    | zero =>
      intro σ v1 v2 v4 v5 v6 v7 H locs ls h
      cases h
    | succ mm ih =>
      intro σ v1 v2 v4 v5 v6 v7 H locs ls h hP hS hl
      rw [cs_Flocks_sumUp_B_c131_44] at h
      obtain ⟨z_19, h⟩ := gb_kk_s h
      refine lv_iload hx hb dX2_sumUp_44 (lv_at hl 6 rfl) ?_
      refine lv_iload hx hb dX2_sumUp_46 (lv_at hl 5 rfl) ?_
      refine lv_icmp_ge (tgt := 71) hx hb dX2_sumUp_48 (by decide) (fun c_20 => ?_) (fun c_20 => ?_)
      · rw [if_pos c_20] at h
        obtain ⟨x_21, ex_21⟩ : ∃ q, q = (v4 + 1) := ⟨_, rfl⟩
        replace h := gb_lt_s ex_21 h
        refine lv_iinc (v := x_21) (lv' := [(4, .int x_21), (1, .ref (b + v1)), (2, .int v2), (3, .ref (b + 131)), (5, .int v5), (6, .int v6), (7, .int v7)]) hx hb dX2_sumUp_71 hl (k := 3) rfl (by rw [ex_21]; rfl) (by decide) rfl (fun ls hl => ?_)
        refine lv_goto (tgt := 17) hx hb dX2_sumUp_74 (by decide) ?_
        exact hk17 _ _ _ _ _ _ _ h hP hS (lv_sub hl [1, 2, 3, 0] rfl)
      · rw [if_neg c_20] at h
        refine lv_aload_n hx hb dX2_sumUp_51 rfl (lv_at hl 2 rfl) ?_
        refine lv_iload hx hb dX2_sumUp_52 (lv_at hl 5 rfl) ?_
        refine lv_iload hx hb dX2_sumUp_54 (lv_at hl 6 rfl) ?_
        refine lv_iadd hx hb dX2_sumUp_56 ?_
        refine lv_aload_n hx hb dX2_sumUp_57 rfl (lv_at hl 2 rfl) ?_
        refine lv_iload hx hb dX2_sumUp_58 (lv_at hl 6 rfl) ?_
        obtain ⟨z_22, h⟩ := gb_ck_s h
        refine va_iald hx hb hK hP 131 0 (gb_at b rfl) rfl z_22 dX2_sumUp_60 ?_
        refine lv_topi (fun x_23 ex_23 => ?_)
        replace h := gb_lt_s ex_23 h
        refine lv_iload hx hb dX2_sumUp_61 (lv_at hl 4 rfl) ?_
        refine lv_iadd hx hb dX2_sumUp_63 ?_
        obtain ⟨z_24, h⟩ := gb_ck_s h
        refine va_iast (x := (x_23 + v5)) hx hb hK hP (gb_D (fun k h => ⟨Nat.le_add_right b k, Nat.add_lt_add_left h b⟩)) hS 131 0 (gb_at b rfl) rfl z_24 dX2_sumUp_64 (fun H locs hP hD hS => ?_)
        rw [gb_set] at hP
        obtain ⟨s_25, es_25⟩ : ∃ q, q = (gb_su σ 131 (upd (σ.1 131) (Int32.toNatClampNeg (v6 + v7)) (x_23 + v5))) := ⟨_, rfl⟩
        replace hP : va_P D vwCl (gb_wl b (gb_CW cT b s_25)) H := by rw [es_25]; exact hP
        replace h := gb_lt_s es_25 h
        obtain ⟨x_26, ex_26⟩ : ∃ q, q = (v7 + 1) := ⟨_, rfl⟩
        replace h := gb_lt_s ex_26 h
        refine lv_iinc (v := x_26) (lv' := [(7, .int x_26), (1, .ref (b + v1)), (2, .int v2), (3, .ref (b + 131)), (4, .int v4), (5, .int v5), (6, .int v6)]) hx hb dX2_sumUp_65 hl (k := 6) rfl (by rw [ex_26]; rfl) (by decide) rfl (fun ls hl => ?_)
        refine lv_goto (tgt := 44) hx hb dX2_sumUp_68 (by decide) ?_
        exact ih _ _ _ _ _ _ _ _ _ _ h hP hS (lv_sub hl [1, 2, 3, 4, 5, 6, 0] rfl)
  have L17_1 : ∀ (mm : Nat) (σ : gb_S) (v1 : Nat) (v2 : Int32) (v4 : Int32) (H : Heap) (locs : List Loc) (ls : Array Slot), cs_Flocks_sumUp_B_c131_17 n mm σ v1 v2 v4 = some (σE, rE) → va_P D vwCl (gb_wl b (gb_CW cT b σ)) H → va_S (gb_fr b 135) s.heap H locs → lv_has ls 8 [(1, .ref (b + v1)), (2, .int v2), (3, .ref (b + 131)), (4, .int v4)] → W p l e (headSpec (.code yX2_sumUp cX2_sumUp 8 none :: gb_wA) ({ frames := 3, cells := 0, slots := 0, locals := 70 })).room s m ([.ref (b + 130), .ref (b + p1), .int p2, .ref (b + 131)]).toArray below meth c H locs 0 0 (MQ below (gb_Qv (fun h => va_P D vwCl (gb_wl b (gb_CW cT b σE)) h) (gb_fr b 135)) ([.ref (b + 130), .ref (b + p1), .int p2, .ref (b + 131)]).toArray s 0 0 (gb_fr b 135)) (F0 m 17 ls []) := by
    clear h hP hS hl ls
    intro mm
    induction mm with
    | zero =>
      intro σ v1 v2 v4 H locs ls h
      cases h
    | succ mm ih =>
      intro σ v1 v2 v4 H locs ls h hP hS hl
      rw [cs_Flocks_sumUp_B_c131_17] at h
      obtain ⟨z_8, h⟩ := gb_kk_s h
      refine lv_iload hx hb dX2_sumUp_17 (lv_at hl 3 rfl) ?_
      refine lv_aload_n hx hb dX2_sumUp_19 rfl (lv_at hl 0 rfl) ?_
      obtain ⟨s_9, r_10, z_11, h⟩ := gb_cd_s h
      refine gb_calli (va_runV (C := RX0) (As := []) (rest := [.int v4]) ⟨hx, hb, hml, hown, hq⟩ (cc_Border_geese_B l D cT tt b1 b hb1 n σ v1 s_9 r_10 z_11) (cwV 0 hq (gb_gV w_986 w_477 w_478 w_4 w_479) rfl rfl rfl (by decide +kernel) ⟨Nat.le_of_ble_eq_true rfl, Nat.le_of_ble_eq_true rfl⟩) (gb_preV (r := (RX0, TX0, 1)) (ci := 0) (q0 := v1) hSt hP rfl (gb_at b (gb_cB z_8).1) hS (fun q h => Nat.le_trans hb1 h.1) hP) rfl rfl hl.1 rfl (lv_room (Nat.le_of_ble_eq_true rfl)) dX2_sumUp_20 ⟨Nat.le_of_ble_eq_true rfl, Nat.le_of_ble_eq_true rfl⟩) hS (fun _ h => h) (fun _ h => h) (fun q_12 H locs hY hk hS => ?_)
      obtain ⟨hq_12, hP⟩ := hY
      replace hq_12 := hq_12.symm
      subst hq_12
      refine lv_icmp_ge (tgt := 77) hx hb dX2_sumUp_23 (by decide) (fun c_13 => ?_) (fun c_13 => ?_)
      · rw [if_pos c_13] at h
        obtain ⟨e1, -⟩ := gb_eq2 h
        exact W.vret hx hb hr (fun t ht hW => gb_rv ht (by rw [← e1]; exact hP) hS) hS.2.2 dX2_sumUp_77
      · rw [if_neg c_13] at h
        refine lv_aload_n hx hb dX2_sumUp_26 rfl (lv_at hl 0 rfl) ?_
        refine lv_iload hx hb dX2_sumUp_27 (lv_at hl 3 rfl) ?_
        refine lv_iload_n hx hb dX2_sumUp_29 rfl (lv_at hl 1 rfl) ?_
        obtain ⟨s_14, r_15, z_16, h⟩ := gb_cd_s h
        refine gb_calli (va_runV (C := RX0) (As := [.int v4, .int v2]) (rest := []) ⟨hx, hb, hml, hown, hq⟩ (cc_Border_marksFirst_B l D cT tt b1 b hb1 n s_9 v1 v4 v2 s_14 r_15 z_16) (cwV 2 hq (gb_gV w_987 w_899 w_900 w_4 w_901) rfl rfl rfl (by decide +kernel) ⟨Nat.le_of_ble_eq_true rfl, Nat.le_of_ble_eq_true rfl⟩) (gb_preV (r := (RX0, TX0, 1)) (ci := 0) (q0 := v1) hSt hP rfl (gb_at b (gb_cB z_8).1) hS (fun q h => Nat.le_trans hb1 h.1) hP) rfl rfl hl.1 rfl (lv_room (Nat.le_of_ble_eq_true rfl)) dX2_sumUp_30 ⟨Nat.le_of_ble_eq_true rfl, Nat.le_of_ble_eq_true rfl⟩) hS (fun _ h => h) (fun _ h => h) (fun q_17 H locs hY hk hS => ?_)
        obtain ⟨hq_17, hP⟩ := hY
        replace hq_17 := hq_17.symm
        subst hq_17
        refine lv_istore (lv' := [(5, .int r_15), (1, .ref (b + v1)), (2, .int v2), (3, .ref (b + 131)), (4, .int v4)]) hx hb dX2_sumUp_33 hl (by decide) rfl (fun ls hl => ?_)
        refine lv_iconst (v := 1) hx hb dX2_sumUp_35 (by decide) ?_
        refine lv_iload hx hb dX2_sumUp_36 (lv_at hl 4 rfl) ?_
        refine lv_ishl hx hb dX2_sumUp_38 ?_
        refine lv_topi (fun x_18 ex_18 => ?_)
        replace h := gb_lt_s ex_18 h
        refine lv_istore (lv' := [(6, .int x_18), (5, .int r_15), (1, .ref (b + v1)), (2, .int v2), (3, .ref (b + 131)), (4, .int v4)]) hx hb dX2_sumUp_39 hl (by decide) rfl (fun ls hl => ?_)
        refine lv_iconst (v := 0) hx hb dX2_sumUp_41 (by decide) ?_
        refine lv_istore (lv' := [(7, .int 0), (6, .int x_18), (5, .int r_15), (1, .ref (b + v1)), (2, .int v2), (3, .ref (b + 131)), (4, .int v4)]) hx hb dX2_sumUp_42 hl (by decide) rfl (fun ls hl => ?_)
        exact L44_2 _ ih n _ _ _ _ _ _ _ _ _ _ h hP hS (lv_sub hl [3, 4, 5, 6, 2, 1, 0] rfl)
  unfold cs_Flocks_sumUp_B_c131 at h
  obtain ⟨z_1, h⟩ := gb_kk_s h
  refine lv_aload_n hx hb dX2_sumUp_0 rfl (lv_at hl 0 rfl) ?_
  refine lv_iconst (v := 1) hx hb dX2_sumUp_1 (by decide) ?_
  refine lv_aload_n hx hb dX2_sumUp_2 rfl (lv_at hl 1 rfl) ?_
  obtain ⟨s_2, r_3, z_4, h⟩ := gb_cd_s h
  refine gb_calli (va_runV (C := RX0) (As := []) (rest := [.int 1, .ref (b + 130)]) ⟨hx, hb, hml, hown, hq⟩ (cc_Border_geese_B l D cT tt b1 b hb1 n σ p1 s_2 r_3 z_4) (cwV 0 hq (gb_gV w_986 w_477 w_478 w_4 w_479) rfl rfl rfl (by decide +kernel) ⟨Nat.le_of_ble_eq_true rfl, Nat.le_of_ble_eq_true rfl⟩) (gb_preV (r := (RX0, TX0, 1)) (ci := 0) (q0 := p1) hSt hP rfl (gb_at b (gb_cB z_1).1) hS (fun q h => Nat.le_trans hb1 h.1) hP) rfl rfl hl.1 rfl (lv_room (Nat.le_of_ble_eq_true rfl)) dX2_sumUp_3 ⟨Nat.le_of_ble_eq_true rfl, Nat.le_of_ble_eq_true rfl⟩) hS (fun _ h => h) (fun _ h => h) (fun q_5 H locs hY hk hS => ?_)
  obtain ⟨hq_5, hP⟩ := hY
  replace hq_5 := hq_5.symm
  subst hq_5
  refine lv_ishl hx hb dX2_sumUp_6 ?_
  refine gb_put (ci := 2) (v := (.int ((1 : Int32) <<< (r_3 &&& 31)))) (ty := .int) (C := RX2) (T := TX2) (N := 6) hx hb hq i_X2 tyX2 tyX2_ok nmX2 hown hK hP (fun k h => ⟨Nat.le_add_right b k, Nat.add_lt_add_left h b⟩) hS rfl 130 rfl rfl 4 (by decide) (hq _ w_298) (fun _ h9 => h9) rfl (by decide +kernel) rfl rfl (Nat.le_of_ble_eq_true rfl) dX2_sumUp_7 (fun H locs hP hz_ hS => ?_)
  obtain ⟨s_6, es_6⟩ : ∃ q, q = (gb_su s_2 130 (upd (s_2.1 130) 4 ((1 : Int32) <<< (r_3 &&& 31)))) := ⟨_, rfl⟩
  replace hP : va_P D vwCl (gb_wl b (gb_CW cT b s_6)) H := by rw [es_6]; exact hP
  replace h := gb_lt_s es_6 h
  refine lv_aload_n hx hb dX2_sumUp_10 rfl (lv_at hl 3 rfl) ?_
  refine lv_iconst (v := 0) hx hb dX2_sumUp_11 (by decide) ?_
  refine lv_iconst (v := 0) hx hb dX2_sumUp_12 (by decide) ?_
  refine va_iast (x := 0) hx hb hK hP (gb_D (fun k h => ⟨Nat.le_add_right b k, Nat.add_lt_add_left h b⟩)) hS 131 0 (gb_at b rfl) rfl (gb_in rfl) dX2_sumUp_13 (fun H locs hP hD hS => ?_)
  rw [gb_set] at hP
  obtain ⟨s_7, es_7⟩ : ∃ q, q = (gb_su s_6 131 (upd (s_6.1 131) (Int32.toNatClampNeg 0) 0)) := ⟨_, rfl⟩
  replace hP : va_P D vwCl (gb_wl b (gb_CW cT b s_7)) H := by rw [es_7]; exact hP
  replace h := gb_lt_s es_7 h
  refine lv_iconst (v := 0) hx hb dX2_sumUp_14 (by decide) ?_
  refine lv_istore (lv' := [(4, .int 0), (0, .ref (b + 130)), (1, .ref (b + p1)), (2, .int p2), (3, .ref (b + 131))]) hx hb dX2_sumUp_15 hl (by decide) rfl (fun ls hl => ?_)
  exact L17_1 n _ _ _ _ _ _ _ h hP hS (lv_sub hl [2, 3, 4, 0] rfl)
theorem w_985 : (Cond.code ({ cls := "GooseBorder$Flocks", name := "sumUp", desc := "(LGooseBorder$Border;I[I)V" } : MethodName) prog_4_method_2_code (8 : Nat) (Option.none : Option FieldType)) ∈ gb_wA := gb_t5 25 rfl rfl
theorem w_982 : (Cond.methodLink "GooseBorder$Flocks" (39 : Nat) ({ cls := "GooseBorder$Flocks", name := "sumUp", desc := "(LGooseBorder$Border;I[I)V" } : MethodName)) ∈ gb_wA := gb_t5 22 rfl rfl
theorem w_984 : (Cond.instanceMethod ({ cls := "GooseBorder$Flocks", name := "sumUp", desc := "(LGooseBorder$Border;I[I)V" } : MethodName)) ∈ gb_wA := gb_t5 24 rfl rfl
theorem s_2_10 : Cond.selects "GooseBorder$Flocks" (⟨"GooseBorder$Flocks", "sumUp", "(LGooseBorder$Border;I[I)V"⟩ : MethodName) (⟨"GooseBorder$Flocks", "sumUp", "(LGooseBorder$Border;I[I)V"⟩ : MethodName) ∈ gb_wA := gb_s2 10 rfl rfl
theorem dX2_marksOfAny_10 : decode cX2_marksOfAny 10 = .ok (.iconst (-1), 1) := by decide +kernel
theorem dX2_marksOfAny_11 : decode cX2_marksOfAny 11 = .ok (.istore 5, 2) := by decide +kernel
theorem dX2_marksOfAny_13 : decode cX2_marksOfAny 13 = .ok (.iconst 0, 1) := by decide +kernel
theorem dX2_marksOfAny_14 : decode cX2_marksOfAny 14 = .ok (.istore 6, 2) := by decide +kernel
theorem dX2_marksOfAny_16 : decode cX2_marksOfAny 16 = .ok (.iload 6, 2) := by decide +kernel
theorem dX2_marksOfAny_18 : decode cX2_marksOfAny 18 = .ok (.aload_n 0, 1) := by decide +kernel
theorem dX2_marksOfAny_19 : decode cX2_marksOfAny 19 = .ok (.getfield 31, 3) := by decide +kernel
theorem dX2_marksOfAny_22 : decode cX2_marksOfAny 22 = .ok (.if_icmp .ge 87, 3) := by decide +kernel
theorem dX2_marksOfAny_109 : decode cX2_marksOfAny 109 = .ok (.iload 5, 2) := by decide +kernel
theorem dX2_marksOfAny_111 : decode cX2_marksOfAny 111 = .ok (.ireturn, 1) := by decide +kernel
theorem dX2_marksOfAny_25 : decode cX2_marksOfAny 25 = .ok (.iload 6, 2) := by decide +kernel
theorem dX2_marksOfAny_27 : decode cX2_marksOfAny 27 = .ok (.invokestatic 43, 3) := by decide +kernel
theorem dX11_split_0 : decode cX11_split 0 = .ok (.aload_n 0, 1) := by decide +kernel
theorem dX11_split_1 : decode cX11_split 1 = .ok (.iload_n 1, 1) := by decide +kernel
theorem dX11_split_2 : decode cX11_split 2 = .ok (.invokevirtual 113, 3) := by decide +kernel
theorem dX11_split_5 : decode cX11_split 5 = .ok (.astore 5, 2) := by decide +kernel
theorem dX11_split_7 : decode cX11_split 7 = .ok (.aload 5, 2) := by decide +kernel
theorem dX11_split_9 : decode cX11_split 9 = .ok (.ifnull 26, 3) := by decide +kernel
theorem dX11_split_35 : decode cX11_split 35 = .ok (.iconst (-1), 1) := by decide +kernel
theorem dX11_split_36 : decode cX11_split 36 = .ok (.ireturn, 1) := by decide +kernel
theorem dX11_split_12 : decode cX11_split 12 = .ok (.iload_n 2, 1) := by decide +kernel
theorem dX11_split_13 : decode cX11_split 13 = .ok (.iload_n 3, 1) := by decide +kernel
theorem dX11_split_14 : decode cX11_split 14 = .ok (.if_icmp .eq 21, 3) := by decide +kernel
theorem dX11_split_17 : decode cX11_split 17 = .ok (.aload 5, 2) := by decide +kernel
theorem dX11_split_19 : decode cX11_split 19 = .ok (.iload_n 2, 1) := by decide +kernel
theorem dX11_split_20 : decode cX11_split 20 = .ok (.invokevirtual 135, 3) := by decide +kernel
theorem dX11_split_23 : decode cX11_split 23 = .ok (.ifCond .eq 12, 3) := by decide +kernel
theorem dX11_split_26 : decode cX11_split 26 = .ok (.aload 5, 2) := by decide +kernel
theorem dX11_split_28 : decode cX11_split 28 = .ok (.iload_n 3, 1) := by decide +kernel
theorem dX11_split_29 : decode cX11_split 29 = .ok (.invokevirtual 135, 3) := by decide +kernel
theorem dX11_split_32 : decode cX11_split 32 = .ok (.ifCond .ne 5, 3) := by decide +kernel
theorem dX11_split_37 : decode cX11_split 37 = .ok (.aload_n 0, 1) := by decide +kernel
theorem dX11_split_38 : decode cX11_split 38 = .ok (.getfield 70, 3) := by decide +kernel
theorem dX11_split_41 : decode cX11_split 41 = .ok (.aload 5, 2) := by decide +kernel
theorem dX11_split_43 : decode cX11_split 43 = .ok (.iload_n 2, 1) := by decide +kernel
theorem dX11_split_44 : decode cX11_split 44 = .ok (.iload_n 3, 1) := by decide +kernel
theorem dX11_split_45 : decode cX11_split 45 = .ok (.invokevirtual 324, 3) := by decide +kernel
theorem dX2_evenest_0 : decode cX2_evenest 0 = .ok (.aload_n 0, 1) := by decide +kernel
theorem dX2_evenest_1 : decode cX2_evenest 1 = .ok (.aload_n 1, 1) := by decide +kernel
theorem dX2_evenest_2 : decode cX2_evenest 2 = .ok (.iload_n 2, 1) := by decide +kernel
theorem dX2_evenest_3 : decode cX2_evenest 3 = .ok (.aload_n 0, 1) := by decide +kernel
theorem dX2_evenest_4 : decode cX2_evenest 4 = .ok (.getfield 9, 3) := by decide +kernel
theorem dX2_evenest_7 : decode cX2_evenest 7 = .ok (.invokevirtual 39, 3) := by decide +kernel
theorem dX2_evenest_10 : decode cX2_evenest 10 = .ok (.aload_n 0, 1) := by decide +kernel
theorem dX2_evenest_11 : decode cX2_evenest 11 = .ok (.aload_n 1, 1) := by decide +kernel
theorem dX2_evenest_12 : decode cX2_evenest 12 = .ok (.iload_n 3, 1) := by decide +kernel
theorem dX2_evenest_13 : decode cX2_evenest 13 = .ok (.aload_n 0, 1) := by decide +kernel
theorem dX2_evenest_14 : decode cX2_evenest 14 = .ok (.getfield 15, 3) := by decide +kernel
theorem dX2_evenest_17 : decode cX2_evenest 17 = .ok (.invokevirtual 39, 3) := by decide +kernel
def cs_Flocks_sumUp_B_c132_44 (n : Nat) (k17 : gb_S → Nat → Int32 → Int32 → gb_CR Unit) : Nat → gb_S → Nat → Int32 → Int32 → Int32 → Int32 → Int32 → gb_CR Unit
  | 0, _, _, _, _, _, _, _ => none
  | mm + 1, σ, v1, v2, v4, v5, v6, v7 => gb_kk (gb_kB v1) ((if v6 ≤ v7 then gb_lt (v4 + 1) (fun x_21 => k17 σ v1 v2 x_21) else gb_ck v7 256 (gb_lt ((σ.1 132) (Int32.toNatClampNeg v7)) (fun x_23 => gb_ck (v6 + v7) 256 (gb_lt (gb_su σ 132 (upd (σ.1 132) (Int32.toNatClampNeg (v6 + v7)) (x_23 + v5))) (fun s_25 => gb_lt (v7 + 1) (fun x_26 => cs_Flocks_sumUp_B_c132_44 n k17 mm s_25 v1 v2 v4 v5 v6 x_26)))))))
def cs_Flocks_sumUp_B_c132_17 (n : Nat) : Nat → gb_S → Nat → Int32 → Int32 → gb_CR Unit
  | 0, _, _, _, _ => none
  | mm + 1, σ, v1, v2, v4 => gb_kk (gb_kB v1) (gb_cd (cs_Border_geese_B n σ v1) (fun s_9 r_10 => (if r_10 ≤ v4 then some (s_9, ()) else gb_cd (cs_Border_marksFirst_B n s_9 v1 v4 v2) (fun s_14 r_15 => gb_lt ((1 : Int32) <<< (v4 &&& 31)) (fun x_18 => cs_Flocks_sumUp_B_c132_44 n (fun σ v1 v2 v4 => cs_Flocks_sumUp_B_c132_17 n mm σ v1 v2 v4) n s_14 v1 v2 v4 r_15 x_18 0)))))
def cs_Flocks_sumUp_B_c132 (n : Nat) (σ : gb_S) (p1 : Nat) (p2 : Int32) : gb_CR Unit := gb_kk (gb_kB p1) (gb_cd (cs_Border_geese_B n σ p1) (fun s_2 r_3 => gb_lt (gb_su s_2 130 (upd (s_2.1 130) 4 ((1 : Int32) <<< (r_3 &&& 31)))) (fun s_6 => gb_lt (gb_su s_6 132 (upd (s_6.1 132) (Int32.toNatClampNeg 0) 0)) (fun s_7 => cs_Flocks_sumUp_B_c132_17 n n s_7 p1 p2 0))))
set_option maxHeartbeats 8000000 in
set_option maxRecDepth 100000 in
theorem cc_Flocks_sumUp_B_c132 (l : Launch) (D : va_G) (cT : Nat → ClassId) (tt : Nat → Nat) (b1 b : Nat) (hb1 : b1 ≤ b) (n : Nat) (σ : gb_S) (p1 : Nat) (p2 : Int32) (σE : gb_S) (rE : Unit) (h : cs_Flocks_sumUp_B_c132 n σ p1 p2 = some (σE, rE)) : Met l yX2_sumUp (.code yX2_sumUp cX2_sumUp 8 none :: gb_wA) ({ frames := 3, cells := 0, slots := 0, locals := 70 }) (gb_Pc D cT tt b1 [.ref (b + 130), .ref (b + p1), .int p2, .ref (b + 132)] (fun h => va_P D vwCl (gb_wl b (gb_CW cT b σ)) h)) (gb_Qv (fun h => va_P D vwCl (gb_wl b (gb_CW cT b σE)) h) (gb_fr b 135)) 0 0 (gb_fr b 135) := by
  refine Met.ofW (cc := cX2_sumUp) (maxL := 8) (ret := none) (by decide) rfl ?_
  intro p e s m args below meth c s₁ B hml hv
  obtain ⟨rfl, hSt, hP⟩ := hv
  have hx := B.exec
  have hb := B.bytes
  have hr := B.returns
  have hts := atoms_spec (ws := .code yX2_sumUp cX2_sumUp 8 none :: gb_wA) B.pre
  have hq : ∀ w ∈ gb_wA, w.before _ s = true := fun w h => hts w (List.mem_cons_of_mem _ h)
  have hown : s.vm.findClass RX2 = some m.cls := findClass_of_methodNamed B.named
  have hlocks := B.notSynchronized
  clear B hts
  have hK := hSt.1
  have hS : va_S (gb_fr b 135) s.heap s.heap [] := va_S.rf
  have hl := lv_entry ([.ref (b + 130), .ref (b + p1), .int p2, .ref (b + 132)]) (n := 8) (Nat.le_of_ble_eq_true rfl)
  rw [lg_entry_eq]
  generalize (lg_sl ([.ref (b + 130), .ref (b + p1), .int p2, .ref (b + 132)]) ++ List.replicate (8 - (lg_sl ([.ref (b + 130), .ref (b + p1), .int p2, .ref (b + 132)])).length) Slot.unset).toArray = ls at hl ⊢
  replace hl : lv_has ls 8 [(0, .ref (b + 130)), (1, .ref (b + p1)), (2, .int p2), (3, .ref (b + 132))] := hl
  have L44_2 : ∀ (k17 : gb_S → Nat → Int32 → Int32 → gb_CR Unit) (hk17 : ∀ (σ : gb_S) (v1 : Nat) (v2 : Int32) (v4 : Int32) (H : Heap) (locs : List Loc) (ls : Array Slot), k17 σ v1 v2 v4 = some (σE, rE) → va_P D vwCl (gb_wl b (gb_CW cT b σ)) H → va_S (gb_fr b 135) s.heap H locs → lv_has ls 8 [(1, .ref (b + v1)), (2, .int v2), (3, .ref (b + 132)), (4, .int v4)] → W p l e (headSpec (.code yX2_sumUp cX2_sumUp 8 none :: gb_wA) ({ frames := 3, cells := 0, slots := 0, locals := 70 })).room s m ([.ref (b + 130), .ref (b + p1), .int p2, .ref (b + 132)]).toArray below meth c H locs 0 0 (MQ below (gb_Qv (fun h => va_P D vwCl (gb_wl b (gb_CW cT b σE)) h) (gb_fr b 135)) ([.ref (b + 130), .ref (b + p1), .int p2, .ref (b + 132)]).toArray s 0 0 (gb_fr b 135)) (F0 m 17 ls [])) (mm : Nat) (σ : gb_S) (v1 : Nat) (v2 : Int32) (v4 : Int32) (v5 : Int32) (v6 : Int32) (v7 : Int32) (H : Heap) (locs : List Loc) (ls : Array Slot), cs_Flocks_sumUp_B_c132_44 n k17 mm σ v1 v2 v4 v5 v6 v7 = some (σE, rE) → va_P D vwCl (gb_wl b (gb_CW cT b σ)) H → va_S (gb_fr b 135) s.heap H locs → lv_has ls 8 [(1, .ref (b + v1)), (2, .int v2), (3, .ref (b + 132)), (4, .int v4), (5, .int v5), (6, .int v6), (7, .int v7)] → W p l e (headSpec (.code yX2_sumUp cX2_sumUp 8 none :: gb_wA) ({ frames := 3, cells := 0, slots := 0, locals := 70 })).room s m ([.ref (b + 130), .ref (b + p1), .int p2, .ref (b + 132)]).toArray below meth c H locs 0 0 (MQ below (gb_Qv (fun h => va_P D vwCl (gb_wl b (gb_CW cT b σE)) h) (gb_fr b 135)) ([.ref (b + 130), .ref (b + p1), .int p2, .ref (b + 132)]).toArray s 0 0 (gb_fr b 135)) (F0 m 44 ls []) := by
    clear h hP hS hl ls
    intro k17 hk17 mm
    induction mm with
    | zero =>
      intro σ v1 v2 v4 v5 v6 v7 H locs ls h
      cases h
    | succ mm ih =>
      intro σ v1 v2 v4 v5 v6 v7 H locs ls h hP hS hl
      rw [cs_Flocks_sumUp_B_c132_44] at h
      obtain ⟨z_19, h⟩ := gb_kk_s h
      refine lv_iload hx hb dX2_sumUp_44 (lv_at hl 6 rfl) ?_
      refine lv_iload hx hb dX2_sumUp_46 (lv_at hl 5 rfl) ?_
      refine lv_icmp_ge (tgt := 71) hx hb dX2_sumUp_48 (by decide) (fun c_20 => ?_) (fun c_20 => ?_)
      · rw [if_pos c_20] at h
        obtain ⟨x_21, ex_21⟩ : ∃ q, q = (v4 + 1) := ⟨_, rfl⟩
        replace h := gb_lt_s ex_21 h
        refine lv_iinc (v := x_21) (lv' := [(4, .int x_21), (1, .ref (b + v1)), (2, .int v2), (3, .ref (b + 132)), (5, .int v5), (6, .int v6), (7, .int v7)]) hx hb dX2_sumUp_71 hl (k := 3) rfl (by rw [ex_21]; rfl) (by decide) rfl (fun ls hl => ?_)
        refine lv_goto (tgt := 17) hx hb dX2_sumUp_74 (by decide) ?_
        exact hk17 _ _ _ _ _ _ _ h hP hS (lv_sub hl [1, 2, 3, 0] rfl)
      · rw [if_neg c_20] at h
        refine lv_aload_n hx hb dX2_sumUp_51 rfl (lv_at hl 2 rfl) ?_
        refine lv_iload hx hb dX2_sumUp_52 (lv_at hl 5 rfl) ?_
        refine lv_iload hx hb dX2_sumUp_54 (lv_at hl 6 rfl) ?_
        refine lv_iadd hx hb dX2_sumUp_56 ?_
        refine lv_aload_n hx hb dX2_sumUp_57 rfl (lv_at hl 2 rfl) ?_
        refine lv_iload hx hb dX2_sumUp_58 (lv_at hl 6 rfl) ?_
        obtain ⟨z_22, h⟩ := gb_ck_s h
        refine va_iald hx hb hK hP 132 0 (gb_at b rfl) rfl z_22 dX2_sumUp_60 ?_
        refine lv_topi (fun x_23 ex_23 => ?_)
        replace h := gb_lt_s ex_23 h
        refine lv_iload hx hb dX2_sumUp_61 (lv_at hl 4 rfl) ?_
        refine lv_iadd hx hb dX2_sumUp_63 ?_
        obtain ⟨z_24, h⟩ := gb_ck_s h
        refine va_iast (x := (x_23 + v5)) hx hb hK hP (gb_D (fun k h => ⟨Nat.le_add_right b k, Nat.add_lt_add_left h b⟩)) hS 132 0 (gb_at b rfl) rfl z_24 dX2_sumUp_64 (fun H locs hP hD hS => ?_)
        rw [gb_set] at hP
        obtain ⟨s_25, es_25⟩ : ∃ q, q = (gb_su σ 132 (upd (σ.1 132) (Int32.toNatClampNeg (v6 + v7)) (x_23 + v5))) := ⟨_, rfl⟩
        replace hP : va_P D vwCl (gb_wl b (gb_CW cT b s_25)) H := by rw [es_25]; exact hP
        replace h := gb_lt_s es_25 h
        obtain ⟨x_26, ex_26⟩ : ∃ q, q = (v7 + 1) := ⟨_, rfl⟩
        replace h := gb_lt_s ex_26 h
        refine lv_iinc (v := x_26) (lv' := [(7, .int x_26), (1, .ref (b + v1)), (2, .int v2), (3, .ref (b + 132)), (4, .int v4), (5, .int v5), (6, .int v6)]) hx hb dX2_sumUp_65 hl (k := 6) rfl (by rw [ex_26]; rfl) (by decide) rfl (fun ls hl => ?_)
        refine lv_goto (tgt := 44) hx hb dX2_sumUp_68 (by decide) ?_
        exact ih _ _ _ _ _ _ _ _ _ _ h hP hS (lv_sub hl [1, 2, 3, 4, 5, 6, 0] rfl)
  have L17_1 : ∀ (mm : Nat) (σ : gb_S) (v1 : Nat) (v2 : Int32) (v4 : Int32) (H : Heap) (locs : List Loc) (ls : Array Slot), cs_Flocks_sumUp_B_c132_17 n mm σ v1 v2 v4 = some (σE, rE) → va_P D vwCl (gb_wl b (gb_CW cT b σ)) H → va_S (gb_fr b 135) s.heap H locs → lv_has ls 8 [(1, .ref (b + v1)), (2, .int v2), (3, .ref (b + 132)), (4, .int v4)] → W p l e (headSpec (.code yX2_sumUp cX2_sumUp 8 none :: gb_wA) ({ frames := 3, cells := 0, slots := 0, locals := 70 })).room s m ([.ref (b + 130), .ref (b + p1), .int p2, .ref (b + 132)]).toArray below meth c H locs 0 0 (MQ below (gb_Qv (fun h => va_P D vwCl (gb_wl b (gb_CW cT b σE)) h) (gb_fr b 135)) ([.ref (b + 130), .ref (b + p1), .int p2, .ref (b + 132)]).toArray s 0 0 (gb_fr b 135)) (F0 m 17 ls []) := by
    clear h hP hS hl ls
    intro mm
    induction mm with
    | zero =>
      intro σ v1 v2 v4 H locs ls h
      cases h
    | succ mm ih =>
      intro σ v1 v2 v4 H locs ls h hP hS hl
      rw [cs_Flocks_sumUp_B_c132_17] at h
      obtain ⟨z_8, h⟩ := gb_kk_s h
      refine lv_iload hx hb dX2_sumUp_17 (lv_at hl 3 rfl) ?_
      refine lv_aload_n hx hb dX2_sumUp_19 rfl (lv_at hl 0 rfl) ?_
      obtain ⟨s_9, r_10, z_11, h⟩ := gb_cd_s h
      refine gb_calli (va_runV (C := RX0) (As := []) (rest := [.int v4]) ⟨hx, hb, hml, hown, hq⟩ (cc_Border_geese_B l D cT tt b1 b hb1 n σ v1 s_9 r_10 z_11) (cwV 0 hq (gb_gV w_986 w_477 w_478 w_4 w_479) rfl rfl rfl (by decide +kernel) ⟨Nat.le_of_ble_eq_true rfl, Nat.le_of_ble_eq_true rfl⟩) (gb_preV (r := (RX0, TX0, 1)) (ci := 0) (q0 := v1) hSt hP rfl (gb_at b (gb_cB z_8).1) hS (fun q h => Nat.le_trans hb1 h.1) hP) rfl rfl hl.1 rfl (lv_room (Nat.le_of_ble_eq_true rfl)) dX2_sumUp_20 ⟨Nat.le_of_ble_eq_true rfl, Nat.le_of_ble_eq_true rfl⟩) hS (fun _ h => h) (fun _ h => h) (fun q_12 H locs hY hk hS => ?_)
      obtain ⟨hq_12, hP⟩ := hY
      replace hq_12 := hq_12.symm
      subst hq_12
      refine lv_icmp_ge (tgt := 77) hx hb dX2_sumUp_23 (by decide) (fun c_13 => ?_) (fun c_13 => ?_)
      · rw [if_pos c_13] at h
        obtain ⟨e1, -⟩ := gb_eq2 h
        exact W.vret hx hb hr (fun t ht hW => gb_rv ht (by rw [← e1]; exact hP) hS) hS.2.2 dX2_sumUp_77
      · rw [if_neg c_13] at h
        refine lv_aload_n hx hb dX2_sumUp_26 rfl (lv_at hl 0 rfl) ?_
        refine lv_iload hx hb dX2_sumUp_27 (lv_at hl 3 rfl) ?_
        refine lv_iload_n hx hb dX2_sumUp_29 rfl (lv_at hl 1 rfl) ?_
        obtain ⟨s_14, r_15, z_16, h⟩ := gb_cd_s h
        refine gb_calli (va_runV (C := RX0) (As := [.int v4, .int v2]) (rest := []) ⟨hx, hb, hml, hown, hq⟩ (cc_Border_marksFirst_B l D cT tt b1 b hb1 n s_9 v1 v4 v2 s_14 r_15 z_16) (cwV 2 hq (gb_gV w_987 w_899 w_900 w_4 w_901) rfl rfl rfl (by decide +kernel) ⟨Nat.le_of_ble_eq_true rfl, Nat.le_of_ble_eq_true rfl⟩) (gb_preV (r := (RX0, TX0, 1)) (ci := 0) (q0 := v1) hSt hP rfl (gb_at b (gb_cB z_8).1) hS (fun q h => Nat.le_trans hb1 h.1) hP) rfl rfl hl.1 rfl (lv_room (Nat.le_of_ble_eq_true rfl)) dX2_sumUp_30 ⟨Nat.le_of_ble_eq_true rfl, Nat.le_of_ble_eq_true rfl⟩) hS (fun _ h => h) (fun _ h => h) (fun q_17 H locs hY hk hS => ?_)
        obtain ⟨hq_17, hP⟩ := hY
        replace hq_17 := hq_17.symm
        subst hq_17
        refine lv_istore (lv' := [(5, .int r_15), (1, .ref (b + v1)), (2, .int v2), (3, .ref (b + 132)), (4, .int v4)]) hx hb dX2_sumUp_33 hl (by decide) rfl (fun ls hl => ?_)
        refine lv_iconst (v := 1) hx hb dX2_sumUp_35 (by decide) ?_
        refine lv_iload hx hb dX2_sumUp_36 (lv_at hl 4 rfl) ?_
        refine lv_ishl hx hb dX2_sumUp_38 ?_
        refine lv_topi (fun x_18 ex_18 => ?_)
        replace h := gb_lt_s ex_18 h
        refine lv_istore (lv' := [(6, .int x_18), (5, .int r_15), (1, .ref (b + v1)), (2, .int v2), (3, .ref (b + 132)), (4, .int v4)]) hx hb dX2_sumUp_39 hl (by decide) rfl (fun ls hl => ?_)
        refine lv_iconst (v := 0) hx hb dX2_sumUp_41 (by decide) ?_
        refine lv_istore (lv' := [(7, .int 0), (6, .int x_18), (5, .int r_15), (1, .ref (b + v1)), (2, .int v2), (3, .ref (b + 132)), (4, .int v4)]) hx hb dX2_sumUp_42 hl (by decide) rfl (fun ls hl => ?_)
        exact L44_2 _ ih n _ _ _ _ _ _ _ _ _ _ h hP hS (lv_sub hl [3, 4, 5, 6, 2, 1, 0] rfl)
  unfold cs_Flocks_sumUp_B_c132 at h
  obtain ⟨z_1, h⟩ := gb_kk_s h
  refine lv_aload_n hx hb dX2_sumUp_0 rfl (lv_at hl 0 rfl) ?_
  refine lv_iconst (v := 1) hx hb dX2_sumUp_1 (by decide) ?_
  refine lv_aload_n hx hb dX2_sumUp_2 rfl (lv_at hl 1 rfl) ?_
  obtain ⟨s_2, r_3, z_4, h⟩ := gb_cd_s h
  refine gb_calli (va_runV (C := RX0) (As := []) (rest := [.int 1, .ref (b + 130)]) ⟨hx, hb, hml, hown, hq⟩ (cc_Border_geese_B l D cT tt b1 b hb1 n σ p1 s_2 r_3 z_4) (cwV 0 hq (gb_gV w_986 w_477 w_478 w_4 w_479) rfl rfl rfl (by decide +kernel) ⟨Nat.le_of_ble_eq_true rfl, Nat.le_of_ble_eq_true rfl⟩) (gb_preV (r := (RX0, TX0, 1)) (ci := 0) (q0 := p1) hSt hP rfl (gb_at b (gb_cB z_1).1) hS (fun q h => Nat.le_trans hb1 h.1) hP) rfl rfl hl.1 rfl (lv_room (Nat.le_of_ble_eq_true rfl)) dX2_sumUp_3 ⟨Nat.le_of_ble_eq_true rfl, Nat.le_of_ble_eq_true rfl⟩) hS (fun _ h => h) (fun _ h => h) (fun q_5 H locs hY hk hS => ?_)
  obtain ⟨hq_5, hP⟩ := hY
  replace hq_5 := hq_5.symm
  subst hq_5
  refine lv_ishl hx hb dX2_sumUp_6 ?_
  refine gb_put (ci := 2) (v := (.int ((1 : Int32) <<< (r_3 &&& 31)))) (ty := .int) (C := RX2) (T := TX2) (N := 6) hx hb hq i_X2 tyX2 tyX2_ok nmX2 hown hK hP (fun k h => ⟨Nat.le_add_right b k, Nat.add_lt_add_left h b⟩) hS rfl 130 rfl rfl 4 (by decide) (hq _ w_298) (fun _ h9 => h9) rfl (by decide +kernel) rfl rfl (Nat.le_of_ble_eq_true rfl) dX2_sumUp_7 (fun H locs hP hz_ hS => ?_)
  obtain ⟨s_6, es_6⟩ : ∃ q, q = (gb_su s_2 130 (upd (s_2.1 130) 4 ((1 : Int32) <<< (r_3 &&& 31)))) := ⟨_, rfl⟩
  replace hP : va_P D vwCl (gb_wl b (gb_CW cT b s_6)) H := by rw [es_6]; exact hP
  replace h := gb_lt_s es_6 h
  refine lv_aload_n hx hb dX2_sumUp_10 rfl (lv_at hl 3 rfl) ?_
  refine lv_iconst (v := 0) hx hb dX2_sumUp_11 (by decide) ?_
  refine lv_iconst (v := 0) hx hb dX2_sumUp_12 (by decide) ?_
  refine va_iast (x := 0) hx hb hK hP (gb_D (fun k h => ⟨Nat.le_add_right b k, Nat.add_lt_add_left h b⟩)) hS 132 0 (gb_at b rfl) rfl (gb_in rfl) dX2_sumUp_13 (fun H locs hP hD hS => ?_)
  rw [gb_set] at hP
  obtain ⟨s_7, es_7⟩ : ∃ q, q = (gb_su s_6 132 (upd (s_6.1 132) (Int32.toNatClampNeg 0) 0)) := ⟨_, rfl⟩
  replace hP : va_P D vwCl (gb_wl b (gb_CW cT b s_7)) H := by rw [es_7]; exact hP
  replace h := gb_lt_s es_7 h
  refine lv_iconst (v := 0) hx hb dX2_sumUp_14 (by decide) ?_
  refine lv_istore (lv' := [(4, .int 0), (0, .ref (b + 130)), (1, .ref (b + p1)), (2, .int p2), (3, .ref (b + 132))]) hx hb dX2_sumUp_15 hl (by decide) rfl (fun ls hl => ?_)
  exact L17_1 n _ _ _ _ _ _ _ h hP hS (lv_sub hl [2, 3, 4, 0] rfl)
theorem dX2_evenest_20 : decode cX2_evenest 20 = .ok (.aload_n 0, 1) := by decide +kernel
theorem dX2_evenest_21 : decode cX2_evenest 21 = .ok (.aload_n 0, 1) := by decide +kernel
theorem dX2_evenest_22 : decode cX2_evenest 22 = .ok (.getfield 15, 3) := by decide +kernel
theorem dX2_evenest_25 : decode cX2_evenest 25 = .ok (.aload_n 0, 1) := by decide +kernel
theorem dX2_evenest_26 : decode cX2_evenest 26 = .ok (.getfield 31, 3) := by decide +kernel
theorem dX2_evenest_29 : decode cX2_evenest 29 = .ok (.iconst 1, 1) := by decide +kernel
theorem dX2_evenest_30 : decode cX2_evenest 30 = .ok (.isub, 1) := by decide +kernel
theorem dX2_evenest_31 : decode cX2_evenest 31 = .ok (.iaload, 1) := by decide +kernel
theorem dX2_evenest_32 : decode cX2_evenest 32 = .ok (.putfield 49, 3) := by decide +kernel
theorem w_299 : (Cond.fieldLink "GooseBorder$Flocks" (49 : Nat) "GooseBorder$Flocks" "apart" "I") ∈ gb_wA := gb_t2 59 rfl rfl
theorem dX2_evenest_35 : decode cX2_evenest 35 = .ok (.iconst 0, 1) := by decide +kernel
theorem dX2_evenest_36 : decode cX2_evenest 36 = .ok (.istore 4, 2) := by decide +kernel
theorem dX2_evenest_38 : decode cX2_evenest 38 = .ok (.iconst 1, 1) := by decide +kernel
theorem dX2_evenest_39 : decode cX2_evenest 39 = .ok (.istore 5, 2) := by decide +kernel
theorem dX2_evenest_41 : decode cX2_evenest 41 = .ok (.iload 5, 2) := by decide +kernel
theorem dX2_evenest_43 : decode cX2_evenest 43 = .ok (.aload_n 0, 1) := by decide +kernel
theorem dX2_evenest_44 : decode cX2_evenest 44 = .ok (.getfield 31, 3) := by decide +kernel
theorem dX2_evenest_47 : decode cX2_evenest 47 = .ok (.if_icmp .ge 55, 3) := by decide +kernel
theorem dX2_evenest_102 : decode cX2_evenest 102 = .ok (.iload 4, 2) := by decide +kernel
theorem dX2_evenest_104 : decode cX2_evenest 104 = .ok (.ireturn, 1) := by decide +kernel
theorem dX2_evenest_50 : decode cX2_evenest 50 = .ok (.aload_n 0, 1) := by decide +kernel
theorem dX2_evenest_51 : decode cX2_evenest 51 = .ok (.getfield 9, 3) := by decide +kernel
theorem dX2_evenest_54 : decode cX2_evenest 54 = .ok (.iload 5, 2) := by decide +kernel
theorem dX2_evenest_56 : decode cX2_evenest 56 = .ok (.iaload, 1) := by decide +kernel
theorem dX2_evenest_57 : decode cX2_evenest 57 = .ok (.aload_n 0, 1) := by decide +kernel
theorem dX2_evenest_58 : decode cX2_evenest 58 = .ok (.getfield 15, 3) := by decide +kernel
theorem dX2_evenest_61 : decode cX2_evenest 61 = .ok (.aload_n 0, 1) := by decide +kernel
theorem dX2_evenest_62 : decode cX2_evenest 62 = .ok (.getfield 31, 3) := by decide +kernel
theorem dX2_evenest_65 : decode cX2_evenest 65 = .ok (.iconst 1, 1) := by decide +kernel
theorem dX2_evenest_66 : decode cX2_evenest 66 = .ok (.isub, 1) := by decide +kernel
theorem dX2_evenest_67 : decode cX2_evenest 67 = .ok (.iload 5, 2) := by decide +kernel
theorem dX2_evenest_69 : decode cX2_evenest 69 = .ok (.isub, 1) := by decide +kernel
theorem dX2_evenest_70 : decode cX2_evenest 70 = .ok (.iaload, 1) := by decide +kernel
theorem dX2_evenest_71 : decode cX2_evenest 71 = .ok (.isub, 1) := by decide +kernel
theorem dX2_evenest_72 : decode cX2_evenest 72 = .ok (.invokestatic 52, 3) := by decide +kernel
theorem w_1002 : (Cond.methodLink "GooseBorder$Flocks" (52 : Nat) ({ cls := "java/lang/Math", name := "abs", desc := "(I)I" } : MethodName)) ∈ gb_wA := gb_t5 42 rfl rfl
theorem w_1003 : (Cond.static ({ cls := "java/lang/Math", name := "abs", desc := "(I)I" } : MethodName)) ∈ gb_wA := gb_t5 43 rfl rfl
theorem w_1004 : (Cond.code ({ cls := "java/lang/Math", name := "abs", desc := "(I)I" } : MethodName) prog_16_method_59_code (1 : Nat) (Option.some FieldType.int)) ∈ gb_wA := gb_t5 44 rfl rfl
theorem dX2_evenest_75 : decode cX2_evenest 75 = .ok (.istore 6, 2) := by decide +kernel
theorem dX2_evenest_77 : decode cX2_evenest 77 = .ok (.iload 6, 2) := by decide +kernel
theorem dX2_evenest_79 : decode cX2_evenest 79 = .ok (.aload_n 0, 1) := by decide +kernel
theorem dX2_evenest_80 : decode cX2_evenest 80 = .ok (.getfield 49, 3) := by decide +kernel
theorem dX2_evenest_83 : decode cX2_evenest 83 = .ok (.if_icmp .ge 13, 3) := by decide +kernel
theorem dX2_evenest_96 : decode cX2_evenest 96 = .ok (.iinc 5 1, 3) := by decide +kernel
theorem dX2_evenest_99 : decode cX2_evenest 99 = .ok (.goto (-58), 3) := by decide +kernel
theorem dX2_evenest_86 : decode cX2_evenest 86 = .ok (.aload_n 0, 1) := by decide +kernel
theorem dX2_evenest_87 : decode cX2_evenest 87 = .ok (.iload 6, 2) := by decide +kernel
theorem dX2_evenest_89 : decode cX2_evenest 89 = .ok (.putfield 49, 3) := by decide +kernel
theorem dX2_evenest_92 : decode cX2_evenest 92 = .ok (.iload 5, 2) := by decide +kernel
theorem dX2_evenest_94 : decode cX2_evenest 94 = .ok (.istore 4, 2) := by decide +kernel
def cs_Flocks_evenest_B_41 (n : Nat) : Nat → gb_S → Int32 → Int32 → gb_CR Int32
  | 0, _, _, _ => none
  | mm + 1, σ, v4, v5 => (if (σ.1 130 4) ≤ v5 then some (σ, v4) else gb_ck v5 256 (gb_lt ((σ.1 131) (Int32.toNatClampNeg v5)) (fun x_15 => gb_ck (((σ.1 130 4) - 1) - v5) 256 (gb_lt ((σ.1 132) (Int32.toNatClampNeg (((σ.1 130 4) - 1) - v5))) (fun x_17 => gb_lt (if 0 ≤ (x_15 - x_17) then (x_15 - x_17) else 0 - (x_15 - x_17)) (fun x_18 => (if (σ.1 130 5) ≤ x_18 then gb_lt (v5 + 1) (fun x_20 => cs_Flocks_evenest_B_41 n mm σ v4 x_20) else gb_lt (gb_su σ 130 (upd (σ.1 130) 5 x_18)) (fun s_21 => gb_lt (v5 + 1) (fun x_22 => cs_Flocks_evenest_B_41 n mm s_21 v5 x_22)))))))))
def cs_Flocks_evenest_B (n : Nat) (σ : gb_S) (p1 : Nat) (p2 : Int32) (p3 : Int32) : gb_CR Int32 := gb_kk (gb_kB p1) (gb_cd (cs_Flocks_sumUp_B_c131 n σ p1 p2) (fun s_2 _ => gb_cd (cs_Flocks_sumUp_B_c132 n s_2 p1 p3) (fun s_6 _ => gb_ck ((s_6.1 130 4) - 1) 256 (gb_lt ((s_6.1 132) (Int32.toNatClampNeg ((s_6.1 130 4) - 1))) (fun x_11 => gb_lt (gb_su s_6 130 (upd (s_6.1 130) 5 x_11)) (fun s_12 => cs_Flocks_evenest_B_41 n n s_12 0 1))))))
set_option maxHeartbeats 8000000 in
set_option maxRecDepth 100000 in
theorem cc_Flocks_evenest_B (l : Launch) (D : va_G) (cT : Nat → ClassId) (tt : Nat → Nat) (b1 b : Nat) (hb1 : b1 ≤ b) (n : Nat) (σ : gb_S) (p1 : Nat) (p2 : Int32) (p3 : Int32) (σE : gb_S) (rE : Int32) (h : cs_Flocks_evenest_B n σ p1 p2 p3 = some (σE, rE)) : Met l yX2_evenest (.code yX2_evenest cX2_evenest 7 (some FieldType.int) :: gb_wA) ({ frames := 4, cells := 0, slots := 0, locals := 97 }) (gb_Pc D cT tt b1 [.ref (b + 130), .ref (b + p1), .int p2, .int p3] (fun h => va_P D vwCl (gb_wl b (gb_CW cT b σ)) h)) (gb_Qi (fun r h => r = rE ∧ va_P D vwCl (gb_wl b (gb_CW cT b σE)) h) (gb_fr b 135)) 0 0 (gb_fr b 135) := by
  refine Met.ofW (cc := cX2_evenest) (maxL := 7) (ret := (some FieldType.int)) (by decide) rfl ?_
  intro p e s m args below meth c s₁ B hml hv
  obtain ⟨rfl, hSt, hP⟩ := hv
  have hx := B.exec
  have hb := B.bytes
  have hr := B.returns
  have hts := atoms_spec (ws := .code yX2_evenest cX2_evenest 7 (some FieldType.int) :: gb_wA) B.pre
  have hq : ∀ w ∈ gb_wA, w.before _ s = true := fun w h => hts w (List.mem_cons_of_mem _ h)
  have hown : s.vm.findClass RX2 = some m.cls := findClass_of_methodNamed B.named
  have hlocks := B.notSynchronized
  clear B hts
  have hK := hSt.1
  have hS : va_S (gb_fr b 135) s.heap s.heap [] := va_S.rf
  have hl := lv_entry ([.ref (b + 130), .ref (b + p1), .int p2, .int p3]) (n := 7) (Nat.le_of_ble_eq_true rfl)
  rw [lg_entry_eq]
  generalize (lg_sl ([.ref (b + 130), .ref (b + p1), .int p2, .int p3]) ++ List.replicate (7 - (lg_sl ([.ref (b + 130), .ref (b + p1), .int p2, .int p3])).length) Slot.unset).toArray = ls at hl ⊢
  replace hl : lv_has ls 7 [(0, .ref (b + 130)), (1, .ref (b + p1)), (2, .int p2), (3, .int p3)] := hl
  have L41_1 : ∀ (mm : Nat) (σ : gb_S) (v4 : Int32) (v5 : Int32) (H : Heap) (locs : List Loc) (ls : Array Slot), cs_Flocks_evenest_B_41 n mm σ v4 v5 = some (σE, rE) → va_P D vwCl (gb_wl b (gb_CW cT b σ)) H → va_S (gb_fr b 135) s.heap H locs → lv_has ls 7 [(0, .ref (b + 130)), (4, .int v4), (5, .int v5)] → W p l e (headSpec (.code yX2_evenest cX2_evenest 7 (some FieldType.int) :: gb_wA) ({ frames := 4, cells := 0, slots := 0, locals := 97 })).room s m ([.ref (b + 130), .ref (b + p1), .int p2, .int p3]).toArray below meth c H locs 0 0 (MQ below (gb_Qi (fun r h => r = rE ∧ va_P D vwCl (gb_wl b (gb_CW cT b σE)) h) (gb_fr b 135)) ([.ref (b + 130), .ref (b + p1), .int p2, .int p3]).toArray s 0 0 (gb_fr b 135)) (F0 m 41 ls []) := by
    clear h hP hS hl ls
    intro mm
    induction mm with
    | zero =>
      intro σ v4 v5 H locs ls h
      cases h
    | succ mm ih =>
      intro σ v4 v5 H locs ls h hP hS hl
      rw [cs_Flocks_evenest_B_41] at h
      refine lv_iload hx hb dX2_evenest_41 (lv_at hl 2 rfl) ?_
      refine lv_aload_n hx hb dX2_evenest_43 rfl (lv_at hl 0 rfl) ?_
      refine va_get (ci := 2) (v := (.int (σ.1 130 4))) (C := RX2) (T := TX2) (N := 6) hx hb hq i_X2 hown hK hP 130 (gb_at b rfl) rfl 4 (by decide) (hq _ w_298) (fun _ h9 => h9) rfl dX2_evenest_44 ?_
      refine lv_icmp_ge (tgt := 102) hx hb dX2_evenest_47 (by decide) (fun c_13 => ?_) (fun c_13 => ?_)
      · rw [if_pos c_13] at h
        refine lv_iload hx hb dX2_evenest_102 (lv_at hl 1 rfl) ?_
        obtain ⟨e1, e2⟩ := gb_eq2 h
        exact W.iret (v := v4) hx hb hr (fun t ht hW => gb_ri ht ⟨e2, by rw [← e1]; exact hP⟩ hS) hS.2.2 dX2_evenest_104
      · rw [if_neg c_13] at h
        refine lv_aload_n hx hb dX2_evenest_50 rfl (lv_at hl 0 rfl) ?_
        refine va_get (ci := 2) (v := (.ref (b + 131))) (C := RX2) (T := TX2) (N := 6) hx hb hq i_X2 hown hK hP 130 (gb_at b rfl) rfl 0 (by decide) (hq _ w_294) (fun _ h9 => h9) rfl dX2_evenest_51 ?_
        refine lv_iload hx hb dX2_evenest_54 (lv_at hl 2 rfl) ?_
        obtain ⟨z_14, h⟩ := gb_ck_s h
        refine va_iald hx hb hK hP 131 0 (gb_at b rfl) rfl z_14 dX2_evenest_56 ?_
        refine lv_topi (fun x_15 ex_15 => ?_)
        replace h := gb_lt_s ex_15 h
        refine lv_aload_n hx hb dX2_evenest_57 rfl (lv_at hl 0 rfl) ?_
        refine va_get (ci := 2) (v := (.ref (b + 132))) (C := RX2) (T := TX2) (N := 6) hx hb hq i_X2 hown hK hP 130 (gb_at b rfl) rfl 1 (by decide) (hq _ w_295) (fun _ h9 => h9) rfl dX2_evenest_58 ?_
        refine lv_aload_n hx hb dX2_evenest_61 rfl (lv_at hl 0 rfl) ?_
        refine va_get (ci := 2) (v := (.int (σ.1 130 4))) (C := RX2) (T := TX2) (N := 6) hx hb hq i_X2 hown hK hP 130 (gb_at b rfl) rfl 4 (by decide) (hq _ w_298) (fun _ h9 => h9) rfl dX2_evenest_62 ?_
        refine lv_iconst (v := 1) hx hb dX2_evenest_65 (by decide) ?_
        refine lv_isub hx hb dX2_evenest_66 ?_
        refine lv_iload hx hb dX2_evenest_67 (lv_at hl 2 rfl) ?_
        refine lv_isub hx hb dX2_evenest_69 ?_
        obtain ⟨z_16, h⟩ := gb_ck_s h
        refine va_iald hx hb hK hP 132 0 (gb_at b rfl) rfl z_16 dX2_evenest_70 ?_
        refine lv_topi (fun x_17 ex_17 => ?_)
        replace h := gb_lt_s ex_17 h
        refine lv_isub hx hb dX2_evenest_71 ?_
        refine va_mabs hx hb (hml.trans hl.1.symm) hown (hq _ w_1002) (hq _ w_1003) (hq _ w_5) (hq _ w_1004) (Nat.le_of_ble_eq_true rfl) (Nat.le_of_ble_eq_true rfl) (Nat.le_of_ble_eq_true rfl) (Nat.le_of_ble_eq_true rfl) dX2_evenest_72 ?_
        refine lv_topi (fun x_18 ex_18 => ?_)
        replace h := gb_lt_s ex_18 h
        refine lv_istore (lv' := [(6, .int x_18), (0, .ref (b + 130)), (4, .int v4), (5, .int v5)]) hx hb dX2_evenest_75 hl (by decide) rfl (fun ls hl => ?_)
        refine lv_iload hx hb dX2_evenest_77 (lv_at hl 0 rfl) ?_
        refine lv_aload_n hx hb dX2_evenest_79 rfl (lv_at hl 1 rfl) ?_
        refine va_get (ci := 2) (v := (.int (σ.1 130 5))) (C := RX2) (T := TX2) (N := 6) hx hb hq i_X2 hown hK hP 130 (gb_at b rfl) rfl 5 (by decide) (hq _ w_299) (fun _ h9 => h9) rfl dX2_evenest_80 ?_
        refine lv_icmp_ge (tgt := 96) hx hb dX2_evenest_83 (by decide) (fun c_19 => ?_) (fun c_19 => ?_)
        · rw [if_pos c_19] at h
          obtain ⟨x_20, ex_20⟩ : ∃ q, q = (v5 + 1) := ⟨_, rfl⟩
          replace h := gb_lt_s ex_20 h
          refine lv_iinc (v := x_20) (lv' := [(5, .int x_20), (6, .int x_18), (0, .ref (b + 130)), (4, .int v4)]) hx hb dX2_evenest_96 hl (k := 3) rfl (by rw [ex_20]; rfl) (by decide) rfl (fun ls hl => ?_)
          refine lv_goto (tgt := 41) hx hb dX2_evenest_99 (by decide) ?_
          exact ih _ _ _ _ _ _ h hP hS (lv_sub hl [2, 3, 0] rfl)
        · rw [if_neg c_19] at h
          refine lv_aload_n hx hb dX2_evenest_86 rfl (lv_at hl 1 rfl) ?_
          refine lv_iload hx hb dX2_evenest_87 (lv_at hl 0 rfl) ?_
          refine gb_put (ci := 2) (v := (.int x_18)) (ty := .int) (C := RX2) (T := TX2) (N := 6) hx hb hq i_X2 tyX2 tyX2_ok nmX2 hown hK hP (fun k h => ⟨Nat.le_add_right b k, Nat.add_lt_add_left h b⟩) hS rfl 130 rfl rfl 5 (by decide) (hq _ w_299) (fun _ h9 => h9) rfl (by decide +kernel) rfl rfl (Nat.le_of_ble_eq_true rfl) dX2_evenest_89 (fun H locs hP hz_ hS => ?_)
          obtain ⟨s_21, es_21⟩ : ∃ q, q = (gb_su σ 130 (upd (σ.1 130) 5 x_18)) := ⟨_, rfl⟩
          replace hP : va_P D vwCl (gb_wl b (gb_CW cT b s_21)) H := by rw [es_21]; exact hP
          replace h := gb_lt_s es_21 h
          refine lv_iload hx hb dX2_evenest_92 (lv_at hl 3 rfl) ?_
          refine lv_istore (lv' := [(4, .int v5), (6, .int x_18), (0, .ref (b + 130)), (5, .int v5)]) hx hb dX2_evenest_94 hl (by decide) rfl (fun ls hl => ?_)
          obtain ⟨x_22, ex_22⟩ : ∃ q, q = (v5 + 1) := ⟨_, rfl⟩
          replace h := gb_lt_s ex_22 h
          refine lv_iinc (v := x_22) (lv' := [(5, .int x_22), (4, .int v5), (6, .int x_18), (0, .ref (b + 130))]) hx hb dX2_evenest_96 hl (k := 3) rfl (by rw [ex_22]; rfl) (by decide) rfl (fun ls hl => ?_)
          refine lv_goto (tgt := 41) hx hb dX2_evenest_99 (by decide) ?_
          exact ih _ _ _ _ _ _ h hP hS (lv_sub hl [3, 1, 0] rfl)
  unfold cs_Flocks_evenest_B at h
  obtain ⟨z_1, h⟩ := gb_kk_s h
  refine lv_aload_n hx hb dX2_evenest_0 rfl (lv_at hl 0 rfl) ?_
  refine lv_aload_n hx hb dX2_evenest_1 rfl (lv_at hl 1 rfl) ?_
  refine lv_iload_n hx hb dX2_evenest_2 rfl (lv_at hl 2 rfl) ?_
  refine lv_aload_n hx hb dX2_evenest_3 rfl (lv_at hl 0 rfl) ?_
  refine va_get (ci := 2) (v := (.ref (b + 131))) (C := RX2) (T := TX2) (N := 6) hx hb hq i_X2 hown hK hP 130 (gb_at b rfl) rfl 0 (by decide) (hq _ w_294) (fun _ h9 => h9) rfl dX2_evenest_4 ?_
  obtain ⟨s_2, r_3, z_4, h⟩ := gb_cd_s h
  refine gb_callv (va_runV (C := RX2) (As := [.ref (b + p1), .int p2, .ref (b + 131)]) (rest := []) ⟨hx, hb, hml, hown, hq⟩ (cc_Flocks_sumUp_B_c131 l D cT tt b1 b hb1 n σ p1 p2 s_2 r_3 z_4) (cwV 3 hq (gb_gV w_982 w_984 s_2_10 w_13 w_985) rfl rfl rfl (by decide +kernel) ⟨Nat.le_of_ble_eq_true rfl, Nat.le_of_ble_eq_true rfl⟩) (gb_preV (r := (RX2, TX2, 6)) (ci := 2) (q0 := 130) hSt hP rfl (gb_at b rfl) hS (fun q h => Nat.le_trans hb1 h.1) hP) rfl rfl hl.1 rfl (lv_room (Nat.le_of_ble_eq_true rfl)) dX2_evenest_7 ⟨Nat.le_of_ble_eq_true rfl, Nat.le_of_ble_eq_true rfl⟩) hS (fun _ h => h) (fun _ h => h) (fun H locs hY hk hS => ?_)
  have hP := hY
  refine lv_aload_n hx hb dX2_evenest_10 rfl (lv_at hl 0 rfl) ?_
  refine lv_aload_n hx hb dX2_evenest_11 rfl (lv_at hl 1 rfl) ?_
  refine lv_iload_n hx hb dX2_evenest_12 rfl (lv_at hl 3 rfl) ?_
  refine lv_aload_n hx hb dX2_evenest_13 rfl (lv_at hl 0 rfl) ?_
  refine va_get (ci := 2) (v := (.ref (b + 132))) (C := RX2) (T := TX2) (N := 6) hx hb hq i_X2 hown hK hP 130 (gb_at b rfl) rfl 1 (by decide) (hq _ w_295) (fun _ h9 => h9) rfl dX2_evenest_14 ?_
  obtain ⟨s_6, r_7, z_8, h⟩ := gb_cd_s h
  refine gb_callv (va_runV (C := RX2) (As := [.ref (b + p1), .int p3, .ref (b + 132)]) (rest := []) ⟨hx, hb, hml, hown, hq⟩ (cc_Flocks_sumUp_B_c132 l D cT tt b1 b hb1 n s_2 p1 p3 s_6 r_7 z_8) (cwV 3 hq (gb_gV w_982 w_984 s_2_10 w_13 w_985) rfl rfl rfl (by decide +kernel) ⟨Nat.le_of_ble_eq_true rfl, Nat.le_of_ble_eq_true rfl⟩) (gb_preV (r := (RX2, TX2, 6)) (ci := 2) (q0 := 130) hSt hP rfl (gb_at b rfl) hS (fun q h => Nat.le_trans hb1 h.1) hP) rfl rfl hl.1 rfl (lv_room (Nat.le_of_ble_eq_true rfl)) dX2_evenest_17 ⟨Nat.le_of_ble_eq_true rfl, Nat.le_of_ble_eq_true rfl⟩) hS (fun _ h => h) (fun _ h => h) (fun H locs hY hk hS => ?_)
  have hP := hY
  refine lv_aload_n hx hb dX2_evenest_20 rfl (lv_at hl 0 rfl) ?_
  refine lv_aload_n hx hb dX2_evenest_21 rfl (lv_at hl 0 rfl) ?_
  refine va_get (ci := 2) (v := (.ref (b + 132))) (C := RX2) (T := TX2) (N := 6) hx hb hq i_X2 hown hK hP 130 (gb_at b rfl) rfl 1 (by decide) (hq _ w_295) (fun _ h9 => h9) rfl dX2_evenest_22 ?_
  refine lv_aload_n hx hb dX2_evenest_25 rfl (lv_at hl 0 rfl) ?_
  refine va_get (ci := 2) (v := (.int (s_6.1 130 4))) (C := RX2) (T := TX2) (N := 6) hx hb hq i_X2 hown hK hP 130 (gb_at b rfl) rfl 4 (by decide) (hq _ w_298) (fun _ h9 => h9) rfl dX2_evenest_26 ?_
  refine lv_iconst (v := 1) hx hb dX2_evenest_29 (by decide) ?_
  refine lv_isub hx hb dX2_evenest_30 ?_
  obtain ⟨z_10, h⟩ := gb_ck_s h
  refine va_iald hx hb hK hP 132 0 (gb_at b rfl) rfl z_10 dX2_evenest_31 ?_
  refine lv_topi (fun x_11 ex_11 => ?_)
  replace h := gb_lt_s ex_11 h
  refine gb_put (ci := 2) (v := (.int x_11)) (ty := .int) (C := RX2) (T := TX2) (N := 6) hx hb hq i_X2 tyX2 tyX2_ok nmX2 hown hK hP (fun k h => ⟨Nat.le_add_right b k, Nat.add_lt_add_left h b⟩) hS rfl 130 rfl rfl 5 (by decide) (hq _ w_299) (fun _ h9 => h9) rfl (by decide +kernel) rfl rfl (Nat.le_of_ble_eq_true rfl) dX2_evenest_32 (fun H locs hP hz_ hS => ?_)
  obtain ⟨s_12, es_12⟩ : ∃ q, q = (gb_su s_6 130 (upd (s_6.1 130) 5 x_11)) := ⟨_, rfl⟩
  replace hP : va_P D vwCl (gb_wl b (gb_CW cT b s_12)) H := by rw [es_12]; exact hP
  replace h := gb_lt_s es_12 h
  refine lv_iconst (v := 0) hx hb dX2_evenest_35 (by decide) ?_
  refine lv_istore (lv' := [(4, .int 0), (0, .ref (b + 130)), (1, .ref (b + p1)), (2, .int p2), (3, .int p3)]) hx hb dX2_evenest_36 hl (by decide) rfl (fun ls hl => ?_)
  refine lv_iconst (v := 1) hx hb dX2_evenest_38 (by decide) ?_
  refine lv_istore (lv' := [(5, .int 1), (4, .int 0), (0, .ref (b + 130)), (1, .ref (b + p1)), (2, .int p2), (3, .int p3)]) hx hb dX2_evenest_39 hl (by decide) rfl (fun ls hl => ?_)
  exact L41_1 n _ _ _ _ _ _ h hP hS (lv_sub hl [2, 1, 0] rfl)
theorem w_1001 : (Cond.code ({ cls := "GooseBorder$Flocks", name := "evenest", desc := "(LGooseBorder$Border;II)I" } : MethodName) prog_4_method_4_code (7 : Nat) (Option.some FieldType.int)) ∈ gb_wA := gb_t5 41 rfl rfl
theorem w_998 : (Cond.methodLink "GooseBorder" (324 : Nat) ({ cls := "GooseBorder$Flocks", name := "evenest", desc := "(LGooseBorder$Border;II)I" } : MethodName)) ∈ gb_wA := gb_t5 38 rfl rfl
theorem w_999 : (Cond.instanceMethod ({ cls := "GooseBorder$Flocks", name := "evenest", desc := "(LGooseBorder$Border;II)I" } : MethodName)) ∈ gb_wA := gb_t5 39 rfl rfl
theorem w_1000 : (Cond.selects "GooseBorder$Flocks" ({ cls := "GooseBorder$Flocks", name := "evenest", desc := "(LGooseBorder$Border;II)I" } : MethodName) ({ cls := "GooseBorder$Flocks", name := "evenest", desc := "(LGooseBorder$Border;II)I" } : MethodName)) ∈ gb_wA := gb_t5 40 rfl rfl
theorem dX11_split_48 : decode cX11_split 48 = .ok (.istore 6, 2) := by decide +kernel
theorem dX11_split_50 : decode cX11_split 50 = .ok (.iload 4, 2) := by decide +kernel
theorem dX11_split_52 : decode cX11_split 52 = .ok (.ifCond .eq 13, 3) := by decide +kernel
theorem dX11_split_65 : decode cX11_split 65 = .ok (.iload 6, 2) := by decide +kernel
theorem dX11_split_67 : decode cX11_split 67 = .ok (.ireturn, 1) := by decide +kernel
theorem dX11_split_55 : decode cX11_split 55 = .ok (.aload_n 0, 1) := by decide +kernel
theorem dX11_split_56 : decode cX11_split 56 = .ok (.getfield 70, 3) := by decide +kernel
theorem dX11_split_59 : decode cX11_split 59 = .ok (.getfield 328, 3) := by decide +kernel
theorem w_300 : (Cond.fieldLink "GooseBorder" (328 : Nat) "GooseBorder$Flocks" "apart" "I") ∈ gb_wA := gb_t2 60 rfl rfl
theorem dX11_split_62 : decode cX11_split 62 = .ok (.goto 5, 3) := by decide +kernel
def cs_Face_split (n : Nat) (σ : gb_S) (p1 : Int32) (p2 : Int32) (p3 : Int32) (p4 : Int32) : gb_CR Int32 := gb_cd (cs_Face_borderAt n σ p1) (fun s_1 r_2 => (if r_2 = 0 then some (s_1, (-1)) else gb_kk (gb_kB r_2) ((if p2 = p3 then some (s_1, (-1)) else gb_cd (cs_Border_hasPath_B n s_1 r_2 p2) (fun s_8 r_9 => (if r_9 = 0 then some (s_8, (-1)) else gb_cd (cs_Border_hasPath_B n s_8 r_2 p3) (fun s_13 r_14 => (if r_14 = 0 then some (s_13, (-1)) else gb_cd (cs_Flocks_evenest_B n s_13 r_2 p2 p3) (fun s_18 r_19 => (if p4 = 0 then some (s_18, r_19) else some (s_18, (s_18.1 130 5))))))))))))
set_option maxHeartbeats 8000000 in
set_option maxRecDepth 100000 in
theorem cc_Face_split (l : Launch) (D : va_G) (cT : Nat → ClassId) (tt : Nat → Nat) (b1 b : Nat) (hb1 : b1 ≤ b) (n : Nat) (σ : gb_S) (p1 : Int32) (p2 : Int32) (p3 : Int32) (p4 : Int32) (σE : gb_S) (rE : Int32) (h : cs_Face_split n σ p1 p2 p3 p4 = some (σE, rE)) : Met l yX11_split (.code yX11_split cX11_split 7 (some FieldType.int) :: gb_wA) ({ frames := 5, cells := 0, slots := 0, locals := 123 }) (gb_Pc D cT tt b1 [.ref (b + 0), .int p1, .int p2, .int p3, .int p4] (fun h => va_P D vwCl (gb_wl b (gb_CW cT b σ)) h)) (gb_Qi (fun r h => r = rE ∧ va_P D vwCl (gb_wl b (gb_CW cT b σE)) h) (gb_fr b 135)) 0 0 (gb_fr b 135) := by
  refine Met.ofW (cc := cX11_split) (maxL := 7) (ret := (some FieldType.int)) (by decide) rfl ?_
  intro p e s m args below meth c s₁ B hml hv
  obtain ⟨rfl, hSt, hP⟩ := hv
  have hx := B.exec
  have hb := B.bytes
  have hr := B.returns
  have hts := atoms_spec (ws := .code yX11_split cX11_split 7 (some FieldType.int) :: gb_wA) B.pre
  have hq : ∀ w ∈ gb_wA, w.before _ s = true := fun w h => hts w (List.mem_cons_of_mem _ h)
  have hown : s.vm.findClass RX11 = some m.cls := findClass_of_methodNamed B.named
  have hlocks := B.notSynchronized
  clear B hts
  have hK := hSt.1
  have hS : va_S (gb_fr b 135) s.heap s.heap [] := va_S.rf
  have hl := lv_entry ([.ref (b + 0), .int p1, .int p2, .int p3, .int p4]) (n := 7) (Nat.le_of_ble_eq_true rfl)
  rw [lg_entry_eq]
  generalize (lg_sl ([.ref (b + 0), .int p1, .int p2, .int p3, .int p4]) ++ List.replicate (7 - (lg_sl ([.ref (b + 0), .int p1, .int p2, .int p3, .int p4])).length) Slot.unset).toArray = ls at hl ⊢
  replace hl : lv_has ls 7 [(0, .ref (b + 0)), (1, .int p1), (2, .int p2), (3, .int p3), (4, .int p4)] := hl
  unfold cs_Face_split at h
  refine lv_aload_n hx hb dX11_split_0 rfl (lv_at hl 0 rfl) ?_
  refine lv_iload_n hx hb dX11_split_1 rfl (lv_at hl 1 rfl) ?_
  obtain ⟨s_1, r_2, z_3, h⟩ := gb_cd_s h
  refine gb_callq (va_runV (C := RX11) (As := [.int p1]) (rest := []) ⟨hx, hb, hml, hown, hq⟩ (cc_Face_borderAt l D cT tt b1 b hb1 n σ p1 s_1 r_2 z_3) (cwV 1 hq (gb_gV w_593 w_595 s_1_7 w_1 w_596) rfl rfl rfl (by decide +kernel) ⟨Nat.le_of_ble_eq_true rfl, Nat.le_of_ble_eq_true rfl⟩) (gb_preV (r := (RX11, TX11, 10)) (ci := 9) (q0 := 0) hSt hP rfl (gb_at b rfl) hS (fun q h => Nat.le_trans hb1 h.1) hP) rfl rfl hl.1 rfl (lv_room (Nat.le_of_ble_eq_true rfl)) dX11_split_2 ⟨Nat.le_of_ble_eq_true rfl, Nat.le_of_ble_eq_true rfl⟩) hS (fun _ h => h) (fun _ h => h) (fun q_4 H locs hY hk hS => ?_)
  obtain ⟨hq_4, hP⟩ := hY
  subst hq_4
  rw [gb_onv]
  by_cases c_5 : r_2 = 0
  · rw [if_pos c_5] at h
    rw [gb_nv0 c_5]
    refine lv_astoreN (lv' := [(5, .null), (0, .ref (b + 0)), (1, .int p1), (2, .int p2), (3, .int p3), (4, .int p4)]) hx hb dX11_split_5 hl (by decide) rfl (fun ls hl => ?_)
    refine lv_aloadN hx hb dX11_split_7 (lv_at hl 0 rfl) ?_
    refine lv_ifnullN (tgt := 35) hx hb dX11_split_9 (by decide) ?_
    refine lv_iconst (v := (-1)) hx hb dX11_split_35 (by decide) ?_
    obtain ⟨e1, e2⟩ := gb_eq2 h
    exact W.iret (v := (-1)) hx hb hr (fun t ht hW => gb_ri ht ⟨e2, by rw [← e1]; exact hP⟩ hS) hS.2.2 dX11_split_36
  rw [if_neg c_5] at h
  rw [gb_nv1 c_5]
  obtain ⟨z_6, h⟩ := gb_kk_s h
  refine lv_astore (lv' := [(5, .ref (b + r_2)), (0, .ref (b + 0)), (1, .int p1), (2, .int p2), (3, .int p3), (4, .int p4)]) hx hb dX11_split_5 hl (by decide) rfl (fun ls hl => ?_)
  refine lv_aload hx hb dX11_split_7 (lv_at hl 0 rfl) ?_
  refine lv_ifnull hx hb dX11_split_9 ?_
  refine lv_iload_n hx hb dX11_split_12 rfl (lv_at hl 3 rfl) ?_
  refine lv_iload_n hx hb dX11_split_13 rfl (lv_at hl 4 rfl) ?_
  refine lv_icmp_eq (tgt := 35) hx hb dX11_split_14 (by decide) (fun c_7 => ?_) (fun c_7 => ?_)
  · rw [if_pos c_7] at h
    refine lv_iconst (v := (-1)) hx hb dX11_split_35 (by decide) ?_
    obtain ⟨e1, e2⟩ := gb_eq2 h
    exact W.iret (v := (-1)) hx hb hr (fun t ht hW => gb_ri ht ⟨e2, by rw [← e1]; exact hP⟩ hS) hS.2.2 dX11_split_36
  · rw [if_neg c_7] at h
    refine lv_aload hx hb dX11_split_17 (lv_at hl 0 rfl) ?_
    refine lv_iload_n hx hb dX11_split_19 rfl (lv_at hl 3 rfl) ?_
    obtain ⟨s_8, r_9, z_10, h⟩ := gb_cd_s h
    refine gb_calli (va_runV (C := RX0) (As := [.int p2]) (rest := []) ⟨hx, hb, hml, hown, hq⟩ (cc_Border_hasPath_B l D cT tt b1 b hb1 n s_1 r_2 p2 s_8 r_9 z_10) (cwV 1 hq (gb_gV w_620 w_608 w_609 w_4 w_610) rfl rfl rfl (by decide +kernel) ⟨Nat.le_of_ble_eq_true rfl, Nat.le_of_ble_eq_true rfl⟩) (gb_preV (r := (RX0, TX0, 1)) (ci := 0) (q0 := r_2) hSt hP rfl (gb_at b (gb_cB z_6).1) hS (fun q h => Nat.le_trans hb1 h.1) hP) rfl rfl hl.1 rfl (lv_room (Nat.le_of_ble_eq_true rfl)) dX11_split_20 ⟨Nat.le_of_ble_eq_true rfl, Nat.le_of_ble_eq_true rfl⟩) hS (fun _ h => h) (fun _ h => h) (fun q_11 H locs hY hk hS => ?_)
    obtain ⟨hq_11, hP⟩ := hY
    replace hq_11 := hq_11.symm
    subst hq_11
    refine lv_if_eq (tgt := 35) hx hb dX11_split_23 (by decide) (fun c_12 => ?_) (fun c_12 => ?_)
    · rw [if_pos c_12] at h
      refine lv_iconst (v := (-1)) hx hb dX11_split_35 (by decide) ?_
      obtain ⟨e1, e2⟩ := gb_eq2 h
      exact W.iret (v := (-1)) hx hb hr (fun t ht hW => gb_ri ht ⟨e2, by rw [← e1]; exact hP⟩ hS) hS.2.2 dX11_split_36
    · rw [if_neg c_12] at h
      refine lv_aload hx hb dX11_split_26 (lv_at hl 0 rfl) ?_
      refine lv_iload_n hx hb dX11_split_28 rfl (lv_at hl 4 rfl) ?_
      obtain ⟨s_13, r_14, z_15, h⟩ := gb_cd_s h
      refine gb_calli (va_runV (C := RX0) (As := [.int p3]) (rest := []) ⟨hx, hb, hml, hown, hq⟩ (cc_Border_hasPath_B l D cT tt b1 b hb1 n s_8 r_2 p3 s_13 r_14 z_15) (cwV 1 hq (gb_gV w_620 w_608 w_609 w_4 w_610) rfl rfl rfl (by decide +kernel) ⟨Nat.le_of_ble_eq_true rfl, Nat.le_of_ble_eq_true rfl⟩) (gb_preV (r := (RX0, TX0, 1)) (ci := 0) (q0 := r_2) hSt hP rfl (gb_at b (gb_cB z_6).1) hS (fun q h => Nat.le_trans hb1 h.1) hP) rfl rfl hl.1 rfl (lv_room (Nat.le_of_ble_eq_true rfl)) dX11_split_29 ⟨Nat.le_of_ble_eq_true rfl, Nat.le_of_ble_eq_true rfl⟩) hS (fun _ h => h) (fun _ h => h) (fun q_16 H locs hY hk hS => ?_)
      obtain ⟨hq_16, hP⟩ := hY
      replace hq_16 := hq_16.symm
      subst hq_16
      refine lv_if_ne (tgt := 37) hx hb dX11_split_32 (by decide) (fun c_17 => ?_) (fun c_17 => ?_)
      · rw [if_neg c_17] at h
        refine lv_aload_n hx hb dX11_split_37 rfl (lv_at hl 1 rfl) ?_
        refine va_get (ci := 9) (v := (.ref (b + 130))) (C := RX11) (T := TX11) (N := 10) hx hb hq i_X11 hown hK hP 0 (gb_at b rfl) rfl 8 (by decide) (hq _ w_323) (fun _ h9 => h9) rfl dX11_split_38 ?_
        refine lv_aload hx hb dX11_split_41 (lv_at hl 0 rfl) ?_
        refine lv_iload_n hx hb dX11_split_43 rfl (lv_at hl 3 rfl) ?_
        refine lv_iload_n hx hb dX11_split_44 rfl (lv_at hl 4 rfl) ?_
        obtain ⟨s_18, r_19, z_20, h⟩ := gb_cd_s h
        refine gb_calli (va_runV (C := RX2) (As := [.ref (b + r_2), .int p2, .int p3]) (rest := []) ⟨hx, hb, hml, hown, hq⟩ (cc_Flocks_evenest_B l D cT tt b1 b hb1 n s_13 r_2 p2 p3 s_18 r_19 z_20) (cwV 3 hq (gb_gV w_998 w_999 w_1000 w_13 w_1001) rfl rfl rfl (by decide +kernel) ⟨Nat.le_of_ble_eq_true rfl, Nat.le_of_ble_eq_true rfl⟩) (gb_preV (r := (RX2, TX2, 6)) (ci := 2) (q0 := 130) hSt hP rfl (gb_at b rfl) hS (fun q h => Nat.le_trans hb1 h.1) hP) rfl rfl hl.1 rfl (lv_room (Nat.le_of_ble_eq_true rfl)) dX11_split_45 ⟨Nat.le_of_ble_eq_true rfl, Nat.le_of_ble_eq_true rfl⟩) hS (fun _ h => h) (fun _ h => h) (fun q_21 H locs hY hk hS => ?_)
        obtain ⟨hq_21, hP⟩ := hY
        replace hq_21 := hq_21.symm
        subst hq_21
        refine lv_istore (lv' := [(6, .int r_19), (5, .ref (b + r_2)), (0, .ref (b + 0)), (1, .int p1), (2, .int p2), (3, .int p3), (4, .int p4)]) hx hb dX11_split_48 hl (by decide) rfl (fun ls hl => ?_)
        refine lv_iload hx hb dX11_split_50 (lv_at hl 6 rfl) ?_
        refine lv_if_eq (tgt := 65) hx hb dX11_split_52 (by decide) (fun c_22 => ?_) (fun c_22 => ?_)
        · rw [if_pos c_22] at h
          refine lv_iload hx hb dX11_split_65 (lv_at hl 0 rfl) ?_
          obtain ⟨e1, e2⟩ := gb_eq2 h
          exact W.iret (v := r_19) hx hb hr (fun t ht hW => gb_ri ht ⟨e2, by rw [← e1]; exact hP⟩ hS) hS.2.2 dX11_split_67
        · rw [if_neg c_22] at h
          refine lv_aload_n hx hb dX11_split_55 rfl (lv_at hl 2 rfl) ?_
          refine va_get (ci := 9) (v := (.ref (b + 130))) (C := RX11) (T := TX11) (N := 10) hx hb hq i_X11 hown hK hP 0 (gb_at b rfl) rfl 8 (by decide) (hq _ w_323) (fun _ h9 => h9) rfl dX11_split_56 ?_
          refine va_get (ci := 2) (v := (.int (s_18.1 130 5))) (C := RX2) (T := TX2) (N := 6) hx hb hq i_X2 hown hK hP 130 (gb_at b rfl) rfl 5 (by decide) (hq _ w_300) (fun _ h9 => h9) rfl dX11_split_59 ?_
          refine lv_goto (tgt := 67) hx hb dX11_split_62 (by decide) ?_
          obtain ⟨e1, e2⟩ := gb_eq2 h
          exact W.iret (v := (s_18.1 130 5)) hx hb hr (fun t ht hW => gb_ri ht ⟨e2, by rw [← e1]; exact hP⟩ hS) hS.2.2 dX11_split_67
      · rw [if_pos c_17] at h
        refine lv_iconst (v := (-1)) hx hb dX11_split_35 (by decide) ?_
        obtain ⟨e1, e2⟩ := gb_eq2 h
        exact W.iret (v := (-1)) hx hb hr (fun t ht hW => gb_ri ht ⟨e2, by rw [← e1]; exact hP⟩ hS) hS.2.2 dX11_split_36
theorem dX11_backs_0 : decode cX11_backs 0 = .ok (.aload_n 0, 1) := by decide +kernel
theorem dX11_backs_1 : decode cX11_backs 1 = .ok (.iload_n 1, 1) := by decide +kernel
theorem dX11_backs_2 : decode cX11_backs 2 = .ok (.invokevirtual 113, 3) := by decide +kernel
theorem dX11_backs_5 : decode cX11_backs 5 = .ok (.astore 5, 2) := by decide +kernel
theorem dX11_backs_7 : decode cX11_backs 7 = .ok (.aload 5, 2) := by decide +kernel
theorem dX11_backs_9 : decode cX11_backs 9 = .ok (.ifnull 23, 3) := by decide +kernel
theorem dX11_backs_32 : decode cX11_backs 32 = .ok (.iconst (-1), 1) := by decide +kernel
theorem dX11_backs_33 : decode cX11_backs 33 = .ok (.ireturn, 1) := by decide +kernel
theorem dX11_backs_12 : decode cX11_backs 12 = .ok (.aload 5, 2) := by decide +kernel
theorem dX11_backs_14 : decode cX11_backs 14 = .ok (.iload_n 2, 1) := by decide +kernel
theorem dX11_backs_15 : decode cX11_backs 15 = .ok (.invokevirtual 135, 3) := by decide +kernel
theorem dX11_backs_18 : decode cX11_backs 18 = .ok (.ifCond .eq 14, 3) := by decide +kernel
theorem dX11_backs_21 : decode cX11_backs 21 = .ok (.iload_n 3, 1) := by decide +kernel
theorem dX11_backs_22 : decode cX11_backs 22 = .ok (.ifCond .lt 10, 3) := by decide +kernel
theorem dX11_backs_25 : decode cX11_backs 25 = .ok (.iload_n 3, 1) := by decide +kernel
theorem dX11_backs_26 : decode cX11_backs 26 = .ok (.sipush 9999, 3) := by decide +kernel
theorem dX11_backs_29 : decode cX11_backs 29 = .ok (.if_icmp .le 5, 3) := by decide +kernel
theorem dX11_backs_34 : decode cX11_backs 34 = .ok (.aload_n 0, 1) := by decide +kernel
theorem dX11_backs_35 : decode cX11_backs 35 = .ok (.getfield 70, 3) := by decide +kernel
theorem dX11_backs_38 : decode cX11_backs 38 = .ok (.aload 5, 2) := by decide +kernel
theorem dX11_backs_40 : decode cX11_backs 40 = .ok (.iload_n 2, 1) := by decide +kernel
theorem dX11_backs_41 : decode cX11_backs 41 = .ok (.iload_n 3, 1) := by decide +kernel
theorem dX11_backs_42 : decode cX11_backs 42 = .ok (.invokevirtual 331, 3) := by decide +kernel
theorem dX2_fewestBackwards_0 : decode cX2_fewestBackwards 0 = .ok (.aload_n 0, 1) := by decide +kernel
theorem dX2_fewestBackwards_1 : decode cX2_fewestBackwards 1 = .ok (.aload_n 1, 1) := by decide +kernel
theorem dX2_fewestBackwards_2 : decode cX2_fewestBackwards 2 = .ok (.iload_n 2, 1) := by decide +kernel
theorem dX2_fewestBackwards_3 : decode cX2_fewestBackwards 3 = .ok (.aload_n 0, 1) := by decide +kernel
theorem dX2_fewestBackwards_4 : decode cX2_fewestBackwards 4 = .ok (.getfield 9, 3) := by decide +kernel
theorem dX2_fewestBackwards_7 : decode cX2_fewestBackwards 7 = .ok (.invokevirtual 39, 3) := by decide +kernel
theorem dX2_fewestBackwards_10 : decode cX2_fewestBackwards 10 = .ok (.aload_n 0, 1) := by decide +kernel
theorem dX2_fewestBackwards_11 : decode cX2_fewestBackwards 11 = .ok (.getfield 31, 3) := by decide +kernel
theorem dX2_fewestBackwards_14 : decode cX2_fewestBackwards 14 = .ok (.iconst 1, 1) := by decide +kernel
theorem dX2_fewestBackwards_15 : decode cX2_fewestBackwards 15 = .ok (.isub, 1) := by decide +kernel
theorem dX2_fewestBackwards_16 : decode cX2_fewestBackwards 16 = .ok (.istore 4, 2) := by decide +kernel
theorem dX2_fewestBackwards_18 : decode cX2_fewestBackwards 18 = .ok (.iconst 0, 1) := by decide +kernel
theorem dX2_fewestBackwards_19 : decode cX2_fewestBackwards 19 = .ok (.istore 5, 2) := by decide +kernel
theorem dX2_fewestBackwards_21 : decode cX2_fewestBackwards 21 = .ok (.iload 5, 2) := by decide +kernel
theorem dX2_fewestBackwards_23 : decode cX2_fewestBackwards 23 = .ok (.aload_n 0, 1) := by decide +kernel
theorem dX2_fewestBackwards_24 : decode cX2_fewestBackwards 24 = .ok (.getfield 31, 3) := by decide +kernel
theorem dX2_fewestBackwards_27 : decode cX2_fewestBackwards 27 = .ok (.if_icmp .ge 63, 3) := by decide +kernel
theorem dX2_fewestBackwards_90 : decode cX2_fewestBackwards 90 = .ok (.iload 4, 2) := by decide +kernel
theorem dX2_fewestBackwards_92 : decode cX2_fewestBackwards 92 = .ok (.ireturn, 1) := by decide +kernel
theorem dX2_fewestBackwards_30 : decode cX2_fewestBackwards 30 = .ok (.aload_n 0, 1) := by decide +kernel
theorem dX2_fewestBackwards_31 : decode cX2_fewestBackwards 31 = .ok (.getfield 9, 3) := by decide +kernel
theorem dX2_fewestBackwards_34 : decode cX2_fewestBackwards 34 = .ok (.aload_n 0, 1) := by decide +kernel
theorem dX2_fewestBackwards_35 : decode cX2_fewestBackwards 35 = .ok (.getfield 31, 3) := by decide +kernel
theorem dX2_fewestBackwards_38 : decode cX2_fewestBackwards 38 = .ok (.iconst 1, 1) := by decide +kernel
theorem dX2_fewestBackwards_39 : decode cX2_fewestBackwards 39 = .ok (.isub, 1) := by decide +kernel
theorem dX2_fewestBackwards_40 : decode cX2_fewestBackwards 40 = .ok (.iaload, 1) := by decide +kernel
theorem dX2_fewestBackwards_41 : decode cX2_fewestBackwards 41 = .ok (.iconst 2, 1) := by decide +kernel
theorem dX2_fewestBackwards_42 : decode cX2_fewestBackwards 42 = .ok (.aload_n 0, 1) := by decide +kernel
theorem dX2_fewestBackwards_43 : decode cX2_fewestBackwards 43 = .ok (.getfield 9, 3) := by decide +kernel
theorem dX2_fewestBackwards_46 : decode cX2_fewestBackwards 46 = .ok (.iload 5, 2) := by decide +kernel
theorem dX2_fewestBackwards_48 : decode cX2_fewestBackwards 48 = .ok (.iaload, 1) := by decide +kernel
theorem dX2_fewestBackwards_49 : decode cX2_fewestBackwards 49 = .ok (.imul, 1) := by decide +kernel
theorem dX2_fewestBackwards_50 : decode cX2_fewestBackwards 50 = .ok (.isub, 1) := by decide +kernel
theorem dX2_fewestBackwards_51 : decode cX2_fewestBackwards 51 = .ok (.iload_n 3, 1) := by decide +kernel
theorem dX2_fewestBackwards_52 : decode cX2_fewestBackwards 52 = .ok (.if_icmp .gt 7, 3) := by decide +kernel
theorem dX2_fewestBackwards_59 : decode cX2_fewestBackwards 59 = .ok (.iconst 0, 1) := by decide +kernel
theorem dX2_fewestBackwards_60 : decode cX2_fewestBackwards 60 = .ok (.istore 6, 2) := by decide +kernel
theorem dX2_fewestBackwards_62 : decode cX2_fewestBackwards 62 = .ok (.iload 6, 2) := by decide +kernel
theorem dX2_fewestBackwards_64 : decode cX2_fewestBackwards 64 = .ok (.ifCond .eq 20, 3) := by decide +kernel
theorem dX2_fewestBackwards_84 : decode cX2_fewestBackwards 84 = .ok (.iinc 5 1, 3) := by decide +kernel
theorem dX2_fewestBackwards_87 : decode cX2_fewestBackwards 87 = .ok (.goto (-66), 3) := by decide +kernel
theorem dX2_fewestBackwards_67 : decode cX2_fewestBackwards 67 = .ok (.iload 5, 2) := by decide +kernel
theorem dX2_fewestBackwards_69 : decode cX2_fewestBackwards 69 = .ok (.invokestatic 43, 3) := by decide +kernel
theorem dX11_near_0 : decode cX11_near 0 = .ok (.aload_n 0, 1) := by decide +kernel
theorem dX11_near_1 : decode cX11_near 1 = .ok (.iload_n 1, 1) := by decide +kernel
theorem dX11_near_2 : decode cX11_near 2 = .ok (.invokevirtual 113, 3) := by decide +kernel
theorem dX11_near_5 : decode cX11_near 5 = .ok (.astore 4, 2) := by decide +kernel
theorem dX11_near_7 : decode cX11_near 7 = .ok (.aload_n 0, 1) := by decide +kernel
theorem dX11_near_8 : decode cX11_near 8 = .ok (.iload_n 2, 1) := by decide +kernel
theorem dX11_near_9 : decode cX11_near 9 = .ok (.invokevirtual 160, 3) := by decide +kernel
theorem dX11_near_12 : decode cX11_near 12 = .ok (.astore 5, 2) := by decide +kernel
theorem dX11_near_14 : decode cX11_near 14 = .ok (.aload 4, 2) := by decide +kernel
theorem dX11_near_16 : decode cX11_near 16 = .ok (.ifnull 35, 3) := by decide +kernel
theorem dX11_near_51 : decode cX11_near 51 = .ok (.iconst (-1), 1) := by decide +kernel
theorem dX11_near_52 : decode cX11_near 52 = .ok (.ireturn, 1) := by decide +kernel
theorem dX11_near_19 : decode cX11_near 19 = .ok (.aload 5, 2) := by decide +kernel
theorem dX11_near_21 : decode cX11_near 21 = .ok (.ifnull 30, 3) := by decide +kernel
theorem dX11_near_24 : decode cX11_near 24 = .ok (.iload_n 3, 1) := by decide +kernel
theorem dX11_near_25 : decode cX11_near 25 = .ok (.ifCond .lt 26, 3) := by decide +kernel
theorem dX11_near_28 : decode cX11_near 28 = .ok (.iload_n 3, 1) := by decide +kernel
theorem dX11_near_29 : decode cX11_near 29 = .ok (.aload 5, 2) := by decide +kernel
theorem dX11_near_31 : decode cX11_near 31 = .ok (.invokevirtual 339, 3) := by decide +kernel
theorem w_1018 : (Cond.methodLink "GooseBorder" (339 : Nat) ({ cls := "GooseBorder$Dawn", name := "size", desc := "()I" } : MethodName)) ∈ gb_wA := gb_t5 58 rfl rfl
theorem dX11_near_34 : decode cX11_near 34 = .ok (.if_icmp .ge 17, 3) := by decide +kernel
theorem dX11_near_37 : decode cX11_near 37 = .ok (.aload 4, 2) := by decide +kernel
theorem dX11_near_39 : decode cX11_near 39 = .ok (.aload 5, 2) := by decide +kernel
theorem dX11_near_41 : decode cX11_near 41 = .ok (.iload_n 3, 1) := by decide +kernel
theorem dX11_near_42 : decode cX11_near 42 = .ok (.invokevirtual 340, 3) := by decide +kernel
theorem w_1019 : (Cond.methodLink "GooseBorder" (340 : Nat) ({ cls := "GooseBorder$Dawn", name := "pathSeen", desc := "(I)I" } : MethodName)) ∈ gb_wA := gb_t5 59 rfl rfl
theorem dX11_near_45 : decode cX11_near 45 = .ok (.invokevirtual 135, 3) := by decide +kernel
theorem dX11_near_48 : decode cX11_near 48 = .ok (.ifCond .ne 5, 3) := by decide +kernel
theorem dX11_near_53 : decode cX11_near 53 = .ok (.aload_n 0, 1) := by decide +kernel
theorem dX11_near_54 : decode cX11_near 54 = .ok (.getfield 70, 3) := by decide +kernel
theorem dX11_near_57 : decode cX11_near 57 = .ok (.aload 4, 2) := by decide +kernel
theorem dX11_near_59 : decode cX11_near 59 = .ok (.aload 5, 2) := by decide +kernel
theorem dX11_near_61 : decode cX11_near 61 = .ok (.iload_n 3, 1) := by decide +kernel
theorem dX11_near_62 : decode cX11_near 62 = .ok (.invokevirtual 340, 3) := by decide +kernel
theorem dX11_near_65 : decode cX11_near 65 = .ok (.aload 5, 2) := by decide +kernel
theorem dX11_near_67 : decode cX11_near 67 = .ok (.iload_n 3, 1) := by decide +kernel
theorem dX11_near_68 : decode cX11_near 68 = .ok (.invokevirtual 343, 3) := by decide +kernel
theorem w_1020 : (Cond.methodLink "GooseBorder" (343 : Nat) ({ cls := "GooseBorder$Dawn", name := "marksSeen", desc := "(I)I" } : MethodName)) ∈ gb_wA := gb_t5 60 rfl rfl
theorem dX11_near_71 : decode cX11_near 71 = .ok (.invokevirtual 346, 3) := by decide +kernel
theorem dX2_nearest_0 : decode cX2_nearest 0 = .ok (.aload_n 0, 1) := by decide +kernel
theorem dX2_nearest_1 : decode cX2_nearest 1 = .ok (.aload_n 1, 1) := by decide +kernel
theorem dX2_nearest_2 : decode cX2_nearest 2 = .ok (.iload_n 2, 1) := by decide +kernel
theorem dX2_nearest_3 : decode cX2_nearest 3 = .ok (.aload_n 0, 1) := by decide +kernel
theorem dX2_nearest_4 : decode cX2_nearest 4 = .ok (.getfield 9, 3) := by decide +kernel
theorem dX2_nearest_7 : decode cX2_nearest 7 = .ok (.invokevirtual 39, 3) := by decide +kernel
theorem dX2_nearest_10 : decode cX2_nearest 10 = .ok (.iconst 0, 1) := by decide +kernel
theorem dX2_nearest_11 : decode cX2_nearest 11 = .ok (.istore 4, 2) := by decide +kernel
theorem dX2_nearest_13 : decode cX2_nearest 13 = .ok (.iconst 1, 1) := by decide +kernel
theorem dX2_nearest_14 : decode cX2_nearest 14 = .ok (.istore 5, 2) := by decide +kernel
theorem dX2_nearest_16 : decode cX2_nearest 16 = .ok (.iload 5, 2) := by decide +kernel
theorem dX2_nearest_18 : decode cX2_nearest 18 = .ok (.aload_n 0, 1) := by decide +kernel
theorem dX2_nearest_19 : decode cX2_nearest 19 = .ok (.getfield 31, 3) := by decide +kernel
theorem dX2_nearest_22 : decode cX2_nearest 22 = .ok (.if_icmp .ge 40, 3) := by decide +kernel
theorem dX2_nearest_62 : decode cX2_nearest 62 = .ok (.iload 4, 2) := by decide +kernel
theorem dX2_nearest_64 : decode cX2_nearest 64 = .ok (.ireturn, 1) := by decide +kernel
theorem dX2_nearest_25 : decode cX2_nearest 25 = .ok (.aload_n 0, 1) := by decide +kernel
theorem dX2_nearest_26 : decode cX2_nearest 26 = .ok (.getfield 9, 3) := by decide +kernel
theorem dX2_nearest_29 : decode cX2_nearest 29 = .ok (.iload 5, 2) := by decide +kernel
theorem dX2_nearest_31 : decode cX2_nearest 31 = .ok (.iaload, 1) := by decide +kernel
theorem dX2_nearest_32 : decode cX2_nearest 32 = .ok (.iload_n 3, 1) := by decide +kernel
theorem dX2_nearest_33 : decode cX2_nearest 33 = .ok (.isub, 1) := by decide +kernel
theorem dX2_nearest_34 : decode cX2_nearest 34 = .ok (.invokestatic 52, 3) := by decide +kernel
theorem dX2_nearest_37 : decode cX2_nearest 37 = .ok (.aload_n 0, 1) := by decide +kernel
theorem dX2_nearest_38 : decode cX2_nearest 38 = .ok (.getfield 9, 3) := by decide +kernel
theorem dX2_nearest_41 : decode cX2_nearest 41 = .ok (.iload 4, 2) := by decide +kernel
theorem dX2_nearest_43 : decode cX2_nearest 43 = .ok (.iaload, 1) := by decide +kernel
theorem dX2_nearest_44 : decode cX2_nearest 44 = .ok (.iload_n 3, 1) := by decide +kernel
theorem dX2_nearest_45 : decode cX2_nearest 45 = .ok (.isub, 1) := by decide +kernel
theorem dX2_nearest_46 : decode cX2_nearest 46 = .ok (.invokestatic 52, 3) := by decide +kernel
theorem dX2_nearest_49 : decode cX2_nearest 49 = .ok (.if_icmp .ge 7, 3) := by decide +kernel
theorem dX2_nearest_56 : decode cX2_nearest 56 = .ok (.iinc 5 1, 3) := by decide +kernel
theorem dX2_nearest_59 : decode cX2_nearest 59 = .ok (.goto (-43), 3) := by decide +kernel
theorem dX2_nearest_52 : decode cX2_nearest 52 = .ok (.iload 5, 2) := by decide +kernel
theorem dX2_nearest_54 : decode cX2_nearest 54 = .ok (.istore 4, 2) := by decide +kernel
def cs_Flocks_nearest_B_16 (n : Nat) : Nat → gb_S → Int32 → Int32 → Int32 → gb_CR Int32
  | 0, _, _, _, _ => none
  | mm + 1, σ, v3, v4, v5 => (if (σ.1 130 4) ≤ v5 then some (σ, v4) else gb_ck v5 256 (gb_lt ((σ.1 131) (Int32.toNatClampNeg v5)) (fun x_8 => gb_lt (if 0 ≤ (x_8 - v3) then (x_8 - v3) else 0 - (x_8 - v3)) (fun x_9 => gb_ck v4 256 (gb_lt ((σ.1 131) (Int32.toNatClampNeg v4)) (fun x_11 => gb_lt (if 0 ≤ (x_11 - v3) then (x_11 - v3) else 0 - (x_11 - v3)) (fun x_12 => (if x_12 ≤ x_9 then gb_lt (v5 + 1) (fun x_14 => cs_Flocks_nearest_B_16 n mm σ v3 v4 x_14) else gb_lt (v5 + 1) (fun x_15 => cs_Flocks_nearest_B_16 n mm σ v3 v5 x_15)))))))))
def cs_Flocks_nearest_B (n : Nat) (σ : gb_S) (p1 : Nat) (p2 : Int32) (p3 : Int32) : gb_CR Int32 := gb_kk (gb_kB p1) (gb_cd (cs_Flocks_sumUp_B_c131 n σ p1 p2) (fun s_2 _ => cs_Flocks_nearest_B_16 n n s_2 p3 0 1))
set_option maxHeartbeats 8000000 in
set_option maxRecDepth 100000 in
theorem cc_Flocks_nearest_B (l : Launch) (D : va_G) (cT : Nat → ClassId) (tt : Nat → Nat) (b1 b : Nat) (hb1 : b1 ≤ b) (n : Nat) (σ : gb_S) (p1 : Nat) (p2 : Int32) (p3 : Int32) (σE : gb_S) (rE : Int32) (h : cs_Flocks_nearest_B n σ p1 p2 p3 = some (σE, rE)) : Met l yX2_nearest (.code yX2_nearest cX2_nearest 6 (some FieldType.int) :: gb_wA) ({ frames := 4, cells := 0, slots := 0, locals := 97 }) (gb_Pc D cT tt b1 [.ref (b + 130), .ref (b + p1), .int p2, .int p3] (fun h => va_P D vwCl (gb_wl b (gb_CW cT b σ)) h)) (gb_Qi (fun r h => r = rE ∧ va_P D vwCl (gb_wl b (gb_CW cT b σE)) h) (gb_fr b 135)) 0 0 (gb_fr b 135) := by
  refine Met.ofW (cc := cX2_nearest) (maxL := 6) (ret := (some FieldType.int)) (by decide) rfl ?_
  intro p e s m args below meth c s₁ B hml hv
  obtain ⟨rfl, hSt, hP⟩ := hv
  have hx := B.exec
  have hb := B.bytes
  have hr := B.returns
  have hts := atoms_spec (ws := .code yX2_nearest cX2_nearest 6 (some FieldType.int) :: gb_wA) B.pre
  have hq : ∀ w ∈ gb_wA, w.before _ s = true := fun w h => hts w (List.mem_cons_of_mem _ h)
  have hown : s.vm.findClass RX2 = some m.cls := findClass_of_methodNamed B.named
  have hlocks := B.notSynchronized
  clear B hts
  have hK := hSt.1
  have hS : va_S (gb_fr b 135) s.heap s.heap [] := va_S.rf
  have hl := lv_entry ([.ref (b + 130), .ref (b + p1), .int p2, .int p3]) (n := 6) (Nat.le_of_ble_eq_true rfl)
  rw [lg_entry_eq]
  generalize (lg_sl ([.ref (b + 130), .ref (b + p1), .int p2, .int p3]) ++ List.replicate (6 - (lg_sl ([.ref (b + 130), .ref (b + p1), .int p2, .int p3])).length) Slot.unset).toArray = ls at hl ⊢
  replace hl : lv_has ls 6 [(0, .ref (b + 130)), (1, .ref (b + p1)), (2, .int p2), (3, .int p3)] := hl
  have L16_1 : ∀ (mm : Nat) (σ : gb_S) (v3 : Int32) (v4 : Int32) (v5 : Int32) (H : Heap) (locs : List Loc) (ls : Array Slot), cs_Flocks_nearest_B_16 n mm σ v3 v4 v5 = some (σE, rE) → va_P D vwCl (gb_wl b (gb_CW cT b σ)) H → va_S (gb_fr b 135) s.heap H locs → lv_has ls 6 [(0, .ref (b + 130)), (3, .int v3), (4, .int v4), (5, .int v5)] → W p l e (headSpec (.code yX2_nearest cX2_nearest 6 (some FieldType.int) :: gb_wA) ({ frames := 4, cells := 0, slots := 0, locals := 97 })).room s m ([.ref (b + 130), .ref (b + p1), .int p2, .int p3]).toArray below meth c H locs 0 0 (MQ below (gb_Qi (fun r h => r = rE ∧ va_P D vwCl (gb_wl b (gb_CW cT b σE)) h) (gb_fr b 135)) ([.ref (b + 130), .ref (b + p1), .int p2, .int p3]).toArray s 0 0 (gb_fr b 135)) (F0 m 16 ls []) := by
    clear h hP hS hl ls
    intro mm
    induction mm with
    | zero =>
      intro σ v3 v4 v5 H locs ls h
      cases h
    | succ mm ih =>
      intro σ v3 v4 v5 H locs ls h hP hS hl
      rw [cs_Flocks_nearest_B_16] at h
      refine lv_iload hx hb dX2_nearest_16 (lv_at hl 3 rfl) ?_
      refine lv_aload_n hx hb dX2_nearest_18 rfl (lv_at hl 0 rfl) ?_
      refine va_get (ci := 2) (v := (.int (σ.1 130 4))) (C := RX2) (T := TX2) (N := 6) hx hb hq i_X2 hown hK hP 130 (gb_at b rfl) rfl 4 (by decide) (hq _ w_298) (fun _ h9 => h9) rfl dX2_nearest_19 ?_
      refine lv_icmp_ge (tgt := 62) hx hb dX2_nearest_22 (by decide) (fun c_6 => ?_) (fun c_6 => ?_)
      · rw [if_pos c_6] at h
        refine lv_iload hx hb dX2_nearest_62 (lv_at hl 2 rfl) ?_
        obtain ⟨e1, e2⟩ := gb_eq2 h
        exact W.iret (v := v4) hx hb hr (fun t ht hW => gb_ri ht ⟨e2, by rw [← e1]; exact hP⟩ hS) hS.2.2 dX2_nearest_64
      · rw [if_neg c_6] at h
        refine lv_aload_n hx hb dX2_nearest_25 rfl (lv_at hl 0 rfl) ?_
        refine va_get (ci := 2) (v := (.ref (b + 131))) (C := RX2) (T := TX2) (N := 6) hx hb hq i_X2 hown hK hP 130 (gb_at b rfl) rfl 0 (by decide) (hq _ w_294) (fun _ h9 => h9) rfl dX2_nearest_26 ?_
        refine lv_iload hx hb dX2_nearest_29 (lv_at hl 3 rfl) ?_
        obtain ⟨z_7, h⟩ := gb_ck_s h
        refine va_iald hx hb hK hP 131 0 (gb_at b rfl) rfl z_7 dX2_nearest_31 ?_
        refine lv_topi (fun x_8 ex_8 => ?_)
        replace h := gb_lt_s ex_8 h
        refine lv_iload_n hx hb dX2_nearest_32 rfl (lv_at hl 1 rfl) ?_
        refine lv_isub hx hb dX2_nearest_33 ?_
        refine va_mabs hx hb (hml.trans hl.1.symm) hown (hq _ w_1002) (hq _ w_1003) (hq _ w_5) (hq _ w_1004) (Nat.le_of_ble_eq_true rfl) (Nat.le_of_ble_eq_true rfl) (Nat.le_of_ble_eq_true rfl) (Nat.le_of_ble_eq_true rfl) dX2_nearest_34 ?_
        refine lv_topi (fun x_9 ex_9 => ?_)
        replace h := gb_lt_s ex_9 h
        refine lv_aload_n hx hb dX2_nearest_37 rfl (lv_at hl 0 rfl) ?_
        refine va_get (ci := 2) (v := (.ref (b + 131))) (C := RX2) (T := TX2) (N := 6) hx hb hq i_X2 hown hK hP 130 (gb_at b rfl) rfl 0 (by decide) (hq _ w_294) (fun _ h9 => h9) rfl dX2_nearest_38 ?_
        refine lv_iload hx hb dX2_nearest_41 (lv_at hl 2 rfl) ?_
        obtain ⟨z_10, h⟩ := gb_ck_s h
        refine va_iald hx hb hK hP 131 0 (gb_at b rfl) rfl z_10 dX2_nearest_43 ?_
        refine lv_topi (fun x_11 ex_11 => ?_)
        replace h := gb_lt_s ex_11 h
        refine lv_iload_n hx hb dX2_nearest_44 rfl (lv_at hl 1 rfl) ?_
        refine lv_isub hx hb dX2_nearest_45 ?_
        refine va_mabs hx hb (hml.trans hl.1.symm) hown (hq _ w_1002) (hq _ w_1003) (hq _ w_5) (hq _ w_1004) (Nat.le_of_ble_eq_true rfl) (Nat.le_of_ble_eq_true rfl) (Nat.le_of_ble_eq_true rfl) (Nat.le_of_ble_eq_true rfl) dX2_nearest_46 ?_
        refine lv_topi (fun x_12 ex_12 => ?_)
        replace h := gb_lt_s ex_12 h
        refine lv_icmp_ge (tgt := 56) hx hb dX2_nearest_49 (by decide) (fun c_13 => ?_) (fun c_13 => ?_)
        · rw [if_pos c_13] at h
          obtain ⟨x_14, ex_14⟩ : ∃ q, q = (v5 + 1) := ⟨_, rfl⟩
          replace h := gb_lt_s ex_14 h
          refine lv_iinc (v := x_14) (lv' := [(5, .int x_14), (0, .ref (b + 130)), (3, .int v3), (4, .int v4)]) hx hb dX2_nearest_56 hl (k := 3) rfl (by rw [ex_14]; rfl) (by decide) rfl (fun ls hl => ?_)
          refine lv_goto (tgt := 16) hx hb dX2_nearest_59 (by decide) ?_
          exact ih _ _ _ _ _ _ _ h hP hS (lv_sub hl [1, 2, 3, 0] rfl)
        · rw [if_neg c_13] at h
          refine lv_iload hx hb dX2_nearest_52 (lv_at hl 3 rfl) ?_
          refine lv_istore (lv' := [(4, .int v5), (0, .ref (b + 130)), (3, .int v3), (5, .int v5)]) hx hb dX2_nearest_54 hl (by decide) rfl (fun ls hl => ?_)
          obtain ⟨x_15, ex_15⟩ : ∃ q, q = (v5 + 1) := ⟨_, rfl⟩
          replace h := gb_lt_s ex_15 h
          refine lv_iinc (v := x_15) (lv' := [(5, .int x_15), (4, .int v5), (0, .ref (b + 130)), (3, .int v3)]) hx hb dX2_nearest_56 hl (k := 3) rfl (by rw [ex_15]; rfl) (by decide) rfl (fun ls hl => ?_)
          refine lv_goto (tgt := 16) hx hb dX2_nearest_59 (by decide) ?_
          exact ih _ _ _ _ _ _ _ h hP hS (lv_sub hl [2, 3, 1, 0] rfl)
  unfold cs_Flocks_nearest_B at h
  obtain ⟨z_1, h⟩ := gb_kk_s h
  refine lv_aload_n hx hb dX2_nearest_0 rfl (lv_at hl 0 rfl) ?_
  refine lv_aload_n hx hb dX2_nearest_1 rfl (lv_at hl 1 rfl) ?_
  refine lv_iload_n hx hb dX2_nearest_2 rfl (lv_at hl 2 rfl) ?_
  refine lv_aload_n hx hb dX2_nearest_3 rfl (lv_at hl 0 rfl) ?_
  refine va_get (ci := 2) (v := (.ref (b + 131))) (C := RX2) (T := TX2) (N := 6) hx hb hq i_X2 hown hK hP 130 (gb_at b rfl) rfl 0 (by decide) (hq _ w_294) (fun _ h9 => h9) rfl dX2_nearest_4 ?_
  obtain ⟨s_2, r_3, z_4, h⟩ := gb_cd_s h
  refine gb_callv (va_runV (C := RX2) (As := [.ref (b + p1), .int p2, .ref (b + 131)]) (rest := []) ⟨hx, hb, hml, hown, hq⟩ (cc_Flocks_sumUp_B_c131 l D cT tt b1 b hb1 n σ p1 p2 s_2 r_3 z_4) (cwV 3 hq (gb_gV w_982 w_984 s_2_10 w_13 w_985) rfl rfl rfl (by decide +kernel) ⟨Nat.le_of_ble_eq_true rfl, Nat.le_of_ble_eq_true rfl⟩) (gb_preV (r := (RX2, TX2, 6)) (ci := 2) (q0 := 130) hSt hP rfl (gb_at b rfl) hS (fun q h => Nat.le_trans hb1 h.1) hP) rfl rfl hl.1 rfl (lv_room (Nat.le_of_ble_eq_true rfl)) dX2_nearest_7 ⟨Nat.le_of_ble_eq_true rfl, Nat.le_of_ble_eq_true rfl⟩) hS (fun _ h => h) (fun _ h => h) (fun H locs hY hk hS => ?_)
  have hP := hY
  refine lv_iconst (v := 0) hx hb dX2_nearest_10 (by decide) ?_
  refine lv_istore (lv' := [(4, .int 0), (0, .ref (b + 130)), (1, .ref (b + p1)), (2, .int p2), (3, .int p3)]) hx hb dX2_nearest_11 hl (by decide) rfl (fun ls hl => ?_)
  refine lv_iconst (v := 1) hx hb dX2_nearest_13 (by decide) ?_
  refine lv_istore (lv' := [(5, .int 1), (4, .int 0), (0, .ref (b + 130)), (1, .ref (b + p1)), (2, .int p2), (3, .int p3)]) hx hb dX2_nearest_14 hl (by decide) rfl (fun ls hl => ?_)
  exact L16_1 n _ _ _ _ _ _ _ h hP hS (lv_sub hl [2, 5, 1, 0] rfl)
theorem w_1024 : (Cond.code ({ cls := "GooseBorder$Flocks", name := "nearest", desc := "(LGooseBorder$Border;II)I" } : MethodName) prog_4_method_6_code (6 : Nat) (Option.some FieldType.int)) ∈ gb_wA := gb_t5 64 rfl rfl
theorem w_1021 : (Cond.methodLink "GooseBorder" (346 : Nat) ({ cls := "GooseBorder$Flocks", name := "nearest", desc := "(LGooseBorder$Border;II)I" } : MethodName)) ∈ gb_wA := gb_t5 61 rfl rfl
theorem w_1022 : (Cond.instanceMethod ({ cls := "GooseBorder$Flocks", name := "nearest", desc := "(LGooseBorder$Border;II)I" } : MethodName)) ∈ gb_wA := gb_t5 62 rfl rfl
theorem w_1023 : (Cond.selects "GooseBorder$Flocks" ({ cls := "GooseBorder$Flocks", name := "nearest", desc := "(LGooseBorder$Border;II)I" } : MethodName) ({ cls := "GooseBorder$Flocks", name := "nearest", desc := "(LGooseBorder$Border;II)I" } : MethodName)) ∈ gb_wA := gb_t5 63 rfl rfl
theorem dX11_near_74 : decode cX11_near 74 = .ok (.ireturn, 1) := by decide +kernel
def cs_Face_near (n : Nat) (σ : gb_S) (p1 : Int32) (p2 : Int32) (p3 : Int32) : gb_CR Int32 := gb_cd (cs_Face_borderAt n σ p1) (fun s_1 r_2 => (if r_2 = 0 then gb_cd (cs_Face_dawnAt n s_1 p2) (fun s_6 r_7 => (if r_7 = 0 then some (s_6, (-1)) else gb_kk (gb_kD r_7) (some (s_6, (-1))))) else gb_kk (gb_kB r_2) (gb_cd (cs_Face_dawnAt n s_1 p2) (fun s_13 r_14 => (if r_14 = 0 then some (s_13, (-1)) else gb_kk (gb_kD r_14) ((if p3 < 0 then some (s_13, (-1)) else gb_cd (cs_Lines_size_D n s_13 r_14) (fun s_20 r_21 => (if r_21 ≤ p3 then some (s_20, (-1)) else gb_cd (cs_Dawn_pathSeen_D n s_20 r_14 p3) (fun s_25 r_26 => gb_cd (cs_Border_hasPath_B n s_25 r_2 r_26) (fun s_29 r_30 => (if r_30 = 0 then some (s_29, (-1)) else gb_cd (cs_Dawn_pathSeen_D n s_29 r_14 p3) (fun s_34 r_35 => gb_cd (cs_Dawn_marksSeen_D n s_34 r_14 p3) (fun s_38 r_39 => gb_cd (cs_Flocks_nearest_B n s_38 r_2 r_35 r_39) (fun s_42 r_43 => some (s_42, r_43))))))))))))))))
set_option maxHeartbeats 8000000 in
set_option maxRecDepth 100000 in
theorem cc_Face_near (l : Launch) (D : va_G) (cT : Nat → ClassId) (tt : Nat → Nat) (b1 b : Nat) (hb1 : b1 ≤ b) (n : Nat) (σ : gb_S) (p1 : Int32) (p2 : Int32) (p3 : Int32) (σE : gb_S) (rE : Int32) (h : cs_Face_near n σ p1 p2 p3 = some (σE, rE)) : Met l yX11_near (.code yX11_near cX11_near 6 (some FieldType.int) :: gb_wA) ({ frames := 5, cells := 0, slots := 0, locals := 122 }) (gb_Pc D cT tt b1 [.ref (b + 0), .int p1, .int p2, .int p3] (fun h => va_P D vwCl (gb_wl b (gb_CW cT b σ)) h)) (gb_Qi (fun r h => r = rE ∧ va_P D vwCl (gb_wl b (gb_CW cT b σE)) h) (gb_fr b 135)) 0 0 (gb_fr b 135) := by
  refine Met.ofW (cc := cX11_near) (maxL := 6) (ret := (some FieldType.int)) (by decide) rfl ?_
  intro p e s m args below meth c s₁ B hml hv
  obtain ⟨rfl, hSt, hP⟩ := hv
  have hx := B.exec
  have hb := B.bytes
  have hr := B.returns
  have hts := atoms_spec (ws := .code yX11_near cX11_near 6 (some FieldType.int) :: gb_wA) B.pre
  have hq : ∀ w ∈ gb_wA, w.before _ s = true := fun w h => hts w (List.mem_cons_of_mem _ h)
  have hown : s.vm.findClass RX11 = some m.cls := findClass_of_methodNamed B.named
  have hlocks := B.notSynchronized
  clear B hts
  have hK := hSt.1
  have hS : va_S (gb_fr b 135) s.heap s.heap [] := va_S.rf
  have hl := lv_entry ([.ref (b + 0), .int p1, .int p2, .int p3]) (n := 6) (Nat.le_of_ble_eq_true rfl)
  rw [lg_entry_eq]
  generalize (lg_sl ([.ref (b + 0), .int p1, .int p2, .int p3]) ++ List.replicate (6 - (lg_sl ([.ref (b + 0), .int p1, .int p2, .int p3])).length) Slot.unset).toArray = ls at hl ⊢
  replace hl : lv_has ls 6 [(0, .ref (b + 0)), (1, .int p1), (2, .int p2), (3, .int p3)] := hl
  unfold cs_Face_near at h
  refine lv_aload_n hx hb dX11_near_0 rfl (lv_at hl 0 rfl) ?_
  refine lv_iload_n hx hb dX11_near_1 rfl (lv_at hl 1 rfl) ?_
  obtain ⟨s_1, r_2, z_3, h⟩ := gb_cd_s h
  refine gb_callq (va_runV (C := RX11) (As := [.int p1]) (rest := []) ⟨hx, hb, hml, hown, hq⟩ (cc_Face_borderAt l D cT tt b1 b hb1 n σ p1 s_1 r_2 z_3) (cwV 1 hq (gb_gV w_593 w_595 s_1_7 w_1 w_596) rfl rfl rfl (by decide +kernel) ⟨Nat.le_of_ble_eq_true rfl, Nat.le_of_ble_eq_true rfl⟩) (gb_preV (r := (RX11, TX11, 10)) (ci := 9) (q0 := 0) hSt hP rfl (gb_at b rfl) hS (fun q h => Nat.le_trans hb1 h.1) hP) rfl rfl hl.1 rfl (lv_room (Nat.le_of_ble_eq_true rfl)) dX11_near_2 ⟨Nat.le_of_ble_eq_true rfl, Nat.le_of_ble_eq_true rfl⟩) hS (fun _ h => h) (fun _ h => h) (fun q_4 H locs hY hk hS => ?_)
  obtain ⟨hq_4, hP⟩ := hY
  subst hq_4
  rw [gb_onv]
  by_cases c_5 : r_2 = 0
  · rw [if_pos c_5] at h
    rw [gb_nv0 c_5]
    refine lv_astoreN (lv' := [(4, .null), (0, .ref (b + 0)), (1, .int p1), (2, .int p2), (3, .int p3)]) hx hb dX11_near_5 hl (by decide) rfl (fun ls hl => ?_)
    refine lv_aload_n hx hb dX11_near_7 rfl (lv_at hl 1 rfl) ?_
    refine lv_iload_n hx hb dX11_near_8 rfl (lv_at hl 3 rfl) ?_
    obtain ⟨s_6, r_7, z_8, h⟩ := gb_cd_s h
    refine gb_callq (va_runV (C := RX11) (As := [.int p2]) (rest := []) ⟨hx, hb, hml, hown, hq⟩ (cc_Face_dawnAt l D cT tt b1 b hb1 n s_1 p2 s_6 r_7 z_8) (cwV 1 hq (gb_gV w_667 w_669 s_1_10 w_1 w_670) rfl rfl rfl (by decide +kernel) ⟨Nat.le_of_ble_eq_true rfl, Nat.le_of_ble_eq_true rfl⟩) (gb_preV (r := (RX11, TX11, 10)) (ci := 9) (q0 := 0) hSt hP rfl (gb_at b rfl) hS (fun q h => Nat.le_trans hb1 h.1) hP) rfl rfl hl.1 rfl (lv_room (Nat.le_of_ble_eq_true rfl)) dX11_near_9 ⟨Nat.le_of_ble_eq_true rfl, Nat.le_of_ble_eq_true rfl⟩) hS (fun _ h => h) (fun _ h => h) (fun q_9 H locs hY hk hS => ?_)
    obtain ⟨hq_9, hP⟩ := hY
    subst hq_9
    rw [gb_onv]
    by_cases c_10 : r_7 = 0
    · rw [if_pos c_10] at h
      rw [gb_nv0 c_10]
      refine lv_astoreN (lv' := [(5, .null), (4, .null), (0, .ref (b + 0)), (1, .int p1), (2, .int p2), (3, .int p3)]) hx hb dX11_near_12 hl (by decide) rfl (fun ls hl => ?_)
      refine lv_aloadN hx hb dX11_near_14 (lv_at hl 1 rfl) ?_
      refine lv_ifnullN (tgt := 51) hx hb dX11_near_16 (by decide) ?_
      refine lv_iconst (v := (-1)) hx hb dX11_near_51 (by decide) ?_
      obtain ⟨e1, e2⟩ := gb_eq2 h
      exact W.iret (v := (-1)) hx hb hr (fun t ht hW => gb_ri ht ⟨e2, by rw [← e1]; exact hP⟩ hS) hS.2.2 dX11_near_52
    rw [if_neg c_10] at h
    rw [gb_nv1 c_10]
    obtain ⟨z_11, h⟩ := gb_kk_s h
    refine lv_astore (lv' := [(5, .ref (b + r_7)), (4, .null), (0, .ref (b + 0)), (1, .int p1), (2, .int p2), (3, .int p3)]) hx hb dX11_near_12 hl (by decide) rfl (fun ls hl => ?_)
    refine lv_aloadN hx hb dX11_near_14 (lv_at hl 1 rfl) ?_
    refine lv_ifnullN (tgt := 51) hx hb dX11_near_16 (by decide) ?_
    refine lv_iconst (v := (-1)) hx hb dX11_near_51 (by decide) ?_
    obtain ⟨e1, e2⟩ := gb_eq2 h
    exact W.iret (v := (-1)) hx hb hr (fun t ht hW => gb_ri ht ⟨e2, by rw [← e1]; exact hP⟩ hS) hS.2.2 dX11_near_52
  rw [if_neg c_5] at h
  rw [gb_nv1 c_5]
  obtain ⟨z_12, h⟩ := gb_kk_s h
  refine lv_astore (lv' := [(4, .ref (b + r_2)), (0, .ref (b + 0)), (1, .int p1), (2, .int p2), (3, .int p3)]) hx hb dX11_near_5 hl (by decide) rfl (fun ls hl => ?_)
  refine lv_aload_n hx hb dX11_near_7 rfl (lv_at hl 1 rfl) ?_
  refine lv_iload_n hx hb dX11_near_8 rfl (lv_at hl 3 rfl) ?_
  obtain ⟨s_13, r_14, z_15, h⟩ := gb_cd_s h
  refine gb_callq (va_runV (C := RX11) (As := [.int p2]) (rest := []) ⟨hx, hb, hml, hown, hq⟩ (cc_Face_dawnAt l D cT tt b1 b hb1 n s_1 p2 s_13 r_14 z_15) (cwV 1 hq (gb_gV w_667 w_669 s_1_10 w_1 w_670) rfl rfl rfl (by decide +kernel) ⟨Nat.le_of_ble_eq_true rfl, Nat.le_of_ble_eq_true rfl⟩) (gb_preV (r := (RX11, TX11, 10)) (ci := 9) (q0 := 0) hSt hP rfl (gb_at b rfl) hS (fun q h => Nat.le_trans hb1 h.1) hP) rfl rfl hl.1 rfl (lv_room (Nat.le_of_ble_eq_true rfl)) dX11_near_9 ⟨Nat.le_of_ble_eq_true rfl, Nat.le_of_ble_eq_true rfl⟩) hS (fun _ h => h) (fun _ h => h) (fun q_16 H locs hY hk hS => ?_)
  obtain ⟨hq_16, hP⟩ := hY
  subst hq_16
  rw [gb_onv]
  by_cases c_17 : r_14 = 0
  · rw [if_pos c_17] at h
    rw [gb_nv0 c_17]
    refine lv_astoreN (lv' := [(5, .null), (4, .ref (b + r_2)), (0, .ref (b + 0)), (1, .int p1), (2, .int p2), (3, .int p3)]) hx hb dX11_near_12 hl (by decide) rfl (fun ls hl => ?_)
    refine lv_aload hx hb dX11_near_14 (lv_at hl 1 rfl) ?_
    refine lv_ifnull hx hb dX11_near_16 ?_
    refine lv_aloadN hx hb dX11_near_19 (lv_at hl 0 rfl) ?_
    refine lv_ifnullN (tgt := 51) hx hb dX11_near_21 (by decide) ?_
    refine lv_iconst (v := (-1)) hx hb dX11_near_51 (by decide) ?_
    obtain ⟨e1, e2⟩ := gb_eq2 h
    exact W.iret (v := (-1)) hx hb hr (fun t ht hW => gb_ri ht ⟨e2, by rw [← e1]; exact hP⟩ hS) hS.2.2 dX11_near_52
  rw [if_neg c_17] at h
  rw [gb_nv1 c_17]
  obtain ⟨z_18, h⟩ := gb_kk_s h
  refine lv_astore (lv' := [(5, .ref (b + r_14)), (4, .ref (b + r_2)), (0, .ref (b + 0)), (1, .int p1), (2, .int p2), (3, .int p3)]) hx hb dX11_near_12 hl (by decide) rfl (fun ls hl => ?_)
  refine lv_aload hx hb dX11_near_14 (lv_at hl 1 rfl) ?_
  refine lv_ifnull hx hb dX11_near_16 ?_
  refine lv_aload hx hb dX11_near_19 (lv_at hl 0 rfl) ?_
  refine lv_ifnull hx hb dX11_near_21 ?_
  refine lv_iload_n hx hb dX11_near_24 rfl (lv_at hl 5 rfl) ?_
  refine lv_if_lt (tgt := 51) hx hb dX11_near_25 (by decide) (fun c_19 => ?_) (fun c_19 => ?_)
  · rw [if_pos c_19] at h
    refine lv_iconst (v := (-1)) hx hb dX11_near_51 (by decide) ?_
    obtain ⟨e1, e2⟩ := gb_eq2 h
    exact W.iret (v := (-1)) hx hb hr (fun t ht hW => gb_ri ht ⟨e2, by rw [← e1]; exact hP⟩ hS) hS.2.2 dX11_near_52
  · rw [if_neg c_19] at h
    refine lv_iload_n hx hb dX11_near_28 rfl (lv_at hl 5 rfl) ?_
    refine lv_aload hx hb dX11_near_29 (lv_at hl 0 rfl) ?_
    obtain ⟨s_20, r_21, z_22, h⟩ := gb_cd_s h
    refine gb_calli (va_runU (x := ⟨"GooseBorder$Dawn", "size", "()I"⟩) (C := RX1) (owner := "GooseBorder$Lines") (As := []) (rest := [.int p3]) ⟨hx, hb, hml, hown, hq⟩ (cc_Lines_size_D l D cT tt b1 b hb1 n s_13 r_14 s_20 r_21 z_22) (va_cwU (owner := "GooseBorder$Lines") (C := RX1) 0 hq (gb_gU w_1018 w_535 w_537 w_484 w_6 w_489) rfl rfl rfl rfl (by decide +kernel) ⟨Nat.le_of_ble_eq_true rfl, Nat.le_of_ble_eq_true rfl⟩) (gb_preV (r := (RX1, TX1, 4)) (ci := 1) (q0 := r_14) hSt hP rfl (gb_at b (gb_cD z_18).1) hS (fun q h => Nat.le_trans hb1 h.1) hP) rfl rfl hl.1 rfl (lv_room (Nat.le_of_ble_eq_true rfl)) dX11_near_31 ⟨Nat.le_of_ble_eq_true rfl, Nat.le_of_ble_eq_true rfl⟩) hS (fun _ h => h) (fun _ h => h) (fun q_23 H locs hY hk hS => ?_)
    obtain ⟨hq_23, hP⟩ := hY
    replace hq_23 := hq_23.symm
    subst hq_23
    refine lv_icmp_ge (tgt := 51) hx hb dX11_near_34 (by decide) (fun c_24 => ?_) (fun c_24 => ?_)
    · rw [if_pos c_24] at h
      refine lv_iconst (v := (-1)) hx hb dX11_near_51 (by decide) ?_
      obtain ⟨e1, e2⟩ := gb_eq2 h
      exact W.iret (v := (-1)) hx hb hr (fun t ht hW => gb_ri ht ⟨e2, by rw [← e1]; exact hP⟩ hS) hS.2.2 dX11_near_52
    · rw [if_neg c_24] at h
      refine lv_aload hx hb dX11_near_37 (lv_at hl 1 rfl) ?_
      refine lv_aload hx hb dX11_near_39 (lv_at hl 0 rfl) ?_
      refine lv_iload_n hx hb dX11_near_41 rfl (lv_at hl 5 rfl) ?_
      obtain ⟨s_25, r_26, z_27, h⟩ := gb_cd_s h
      refine gb_calli (va_runV (C := RX1) (As := [.int p3]) (rest := [.ref (b + r_2)]) ⟨hx, hb, hml, hown, hq⟩ (cc_Dawn_pathSeen_D l D cT tt b1 b hb1 n s_20 r_14 p3 s_25 r_26 z_27) (cwV 1 hq (gb_gV w_1019 w_539 w_540 w_9 w_541) rfl rfl rfl (by decide +kernel) ⟨Nat.le_of_ble_eq_true rfl, Nat.le_of_ble_eq_true rfl⟩) (gb_preV (r := (RX1, TX1, 4)) (ci := 1) (q0 := r_14) hSt hP rfl (gb_at b (gb_cD z_18).1) hS (fun q h => Nat.le_trans hb1 h.1) hP) rfl rfl hl.1 rfl (lv_room (Nat.le_of_ble_eq_true rfl)) dX11_near_42 ⟨Nat.le_of_ble_eq_true rfl, Nat.le_of_ble_eq_true rfl⟩) hS (fun _ h => h) (fun _ h => h) (fun q_28 H locs hY hk hS => ?_)
      obtain ⟨hq_28, hP⟩ := hY
      replace hq_28 := hq_28.symm
      subst hq_28
      obtain ⟨s_29, r_30, z_31, h⟩ := gb_cd_s h
      refine gb_calli (va_runV (C := RX0) (As := [.int r_26]) (rest := []) ⟨hx, hb, hml, hown, hq⟩ (cc_Border_hasPath_B l D cT tt b1 b hb1 n s_25 r_2 r_26 s_29 r_30 z_31) (cwV 1 hq (gb_gV w_620 w_608 w_609 w_4 w_610) rfl rfl rfl (by decide +kernel) ⟨Nat.le_of_ble_eq_true rfl, Nat.le_of_ble_eq_true rfl⟩) (gb_preV (r := (RX0, TX0, 1)) (ci := 0) (q0 := r_2) hSt hP rfl (gb_at b (gb_cB z_12).1) hS (fun q h => Nat.le_trans hb1 h.1) hP) rfl rfl hl.1 rfl (lv_room (Nat.le_of_ble_eq_true rfl)) dX11_near_45 ⟨Nat.le_of_ble_eq_true rfl, Nat.le_of_ble_eq_true rfl⟩) hS (fun _ h => h) (fun _ h => h) (fun q_32 H locs hY hk hS => ?_)
      obtain ⟨hq_32, hP⟩ := hY
      replace hq_32 := hq_32.symm
      subst hq_32
      refine lv_if_ne (tgt := 53) hx hb dX11_near_48 (by decide) (fun c_33 => ?_) (fun c_33 => ?_)
      · rw [if_neg c_33] at h
        refine lv_aload_n hx hb dX11_near_53 rfl (lv_at hl 2 rfl) ?_
        refine va_get (ci := 9) (v := (.ref (b + 130))) (C := RX11) (T := TX11) (N := 10) hx hb hq i_X11 hown hK hP 0 (gb_at b rfl) rfl 8 (by decide) (hq _ w_323) (fun _ h9 => h9) rfl dX11_near_54 ?_
        refine lv_aload hx hb dX11_near_57 (lv_at hl 1 rfl) ?_
        refine lv_aload hx hb dX11_near_59 (lv_at hl 0 rfl) ?_
        refine lv_iload_n hx hb dX11_near_61 rfl (lv_at hl 5 rfl) ?_
        obtain ⟨s_34, r_35, z_36, h⟩ := gb_cd_s h
        refine gb_calli (va_runV (C := RX1) (As := [.int p3]) (rest := [.ref (b + r_2), .ref (b + 130)]) ⟨hx, hb, hml, hown, hq⟩ (cc_Dawn_pathSeen_D l D cT tt b1 b hb1 n s_29 r_14 p3 s_34 r_35 z_36) (cwV 1 hq (gb_gV w_1019 w_539 w_540 w_9 w_541) rfl rfl rfl (by decide +kernel) ⟨Nat.le_of_ble_eq_true rfl, Nat.le_of_ble_eq_true rfl⟩) (gb_preV (r := (RX1, TX1, 4)) (ci := 1) (q0 := r_14) hSt hP rfl (gb_at b (gb_cD z_18).1) hS (fun q h => Nat.le_trans hb1 h.1) hP) rfl rfl hl.1 rfl (lv_room (Nat.le_of_ble_eq_true rfl)) dX11_near_62 ⟨Nat.le_of_ble_eq_true rfl, Nat.le_of_ble_eq_true rfl⟩) hS (fun _ h => h) (fun _ h => h) (fun q_37 H locs hY hk hS => ?_)
        obtain ⟨hq_37, hP⟩ := hY
        replace hq_37 := hq_37.symm
        subst hq_37
        refine lv_aload hx hb dX11_near_65 (lv_at hl 0 rfl) ?_
        refine lv_iload_n hx hb dX11_near_67 rfl (lv_at hl 5 rfl) ?_
        obtain ⟨s_38, r_39, z_40, h⟩ := gb_cd_s h
        refine gb_calli (va_runV (C := RX1) (As := [.int p3]) (rest := [.int r_35, .ref (b + r_2), .ref (b + 130)]) ⟨hx, hb, hml, hown, hq⟩ (cc_Dawn_marksSeen_D l D cT tt b1 b hb1 n s_34 r_14 p3 s_38 r_39 z_40) (cwV 1 hq (gb_gV w_1020 w_859 w_860 w_9 w_861) rfl rfl rfl (by decide +kernel) ⟨Nat.le_of_ble_eq_true rfl, Nat.le_of_ble_eq_true rfl⟩) (gb_preV (r := (RX1, TX1, 4)) (ci := 1) (q0 := r_14) hSt hP rfl (gb_at b (gb_cD z_18).1) hS (fun q h => Nat.le_trans hb1 h.1) hP) rfl rfl hl.1 rfl (lv_room (Nat.le_of_ble_eq_true rfl)) dX11_near_68 ⟨Nat.le_of_ble_eq_true rfl, Nat.le_of_ble_eq_true rfl⟩) hS (fun _ h => h) (fun _ h => h) (fun q_41 H locs hY hk hS => ?_)
        obtain ⟨hq_41, hP⟩ := hY
        replace hq_41 := hq_41.symm
        subst hq_41
        obtain ⟨s_42, r_43, z_44, h⟩ := gb_cd_s h
        refine gb_calli (va_runV (C := RX2) (As := [.ref (b + r_2), .int r_35, .int r_39]) (rest := []) ⟨hx, hb, hml, hown, hq⟩ (cc_Flocks_nearest_B l D cT tt b1 b hb1 n s_38 r_2 r_35 r_39 s_42 r_43 z_44) (cwV 3 hq (gb_gV w_1021 w_1022 w_1023 w_13 w_1024) rfl rfl rfl (by decide +kernel) ⟨Nat.le_of_ble_eq_true rfl, Nat.le_of_ble_eq_true rfl⟩) (gb_preV (r := (RX2, TX2, 6)) (ci := 2) (q0 := 130) hSt hP rfl (gb_at b rfl) hS (fun q h => Nat.le_trans hb1 h.1) hP) rfl rfl hl.1 rfl (lv_room (Nat.le_of_ble_eq_true rfl)) dX11_near_71 ⟨Nat.le_of_ble_eq_true rfl, Nat.le_of_ble_eq_true rfl⟩) hS (fun _ h => h) (fun _ h => h) (fun q_45 H locs hY hk hS => ?_)
        obtain ⟨hq_45, hP⟩ := hY
        replace hq_45 := hq_45.symm
        subst hq_45
        obtain ⟨e1, e2⟩ := gb_eq2 h
        exact W.iret (v := r_43) hx hb hr (fun t ht hW => gb_ri ht ⟨e2, by rw [← e1]; exact hP⟩ hS) hS.2.2 dX11_near_74
      · rw [if_pos c_33] at h
        refine lv_iconst (v := (-1)) hx hb dX11_near_51 (by decide) ?_
        obtain ⟨e1, e2⟩ := gb_eq2 h
        exact W.iret (v := (-1)) hx hb hr (fun t ht hW => gb_ri ht ⟨e2, by rw [← e1]; exact hP⟩ hS) hS.2.2 dX11_near_52
theorem dX11_thrift_0 : decode cX11_thrift 0 = .ok (.aload_n 0, 1) := by decide +kernel
theorem dX11_thrift_1 : decode cX11_thrift 1 = .ok (.iload_n 1, 1) := by decide +kernel
theorem dX11_thrift_2 : decode cX11_thrift 2 = .ok (.invokevirtual 113, 3) := by decide +kernel
theorem dX11_thrift_5 : decode cX11_thrift 5 = .ok (.astore_n 2, 1) := by decide +kernel
theorem dX11_thrift_6 : decode cX11_thrift 6 = .ok (.aload_n 2, 1) := by decide +kernel
theorem dX11_thrift_7 : decode cX11_thrift 7 = .ok (.ifnonnull 7, 3) := by decide +kernel
theorem dX11_thrift_10 : decode cX11_thrift 10 = .ok (.iconst (-1), 1) := by decide +kernel
theorem dX11_thrift_11 : decode cX11_thrift 11 = .ok (.goto 11, 3) := by decide +kernel
theorem dX11_thrift_22 : decode cX11_thrift 22 = .ok (.ireturn, 1) := by decide +kernel
theorem dX11_thrift_14 : decode cX11_thrift 14 = .ok (.aload_n 0, 1) := by decide +kernel
theorem dX11_thrift_15 : decode cX11_thrift 15 = .ok (.getfield 70, 3) := by decide +kernel
theorem dX11_thrift_18 : decode cX11_thrift 18 = .ok (.aload_n 2, 1) := by decide +kernel
theorem dX11_thrift_19 : decode cX11_thrift 19 = .ok (.invokevirtual 349, 3) := by decide +kernel
theorem dX2_thriftiest_0 : decode cX2_thriftiest 0 = .ok (.aload_n 0, 1) := by decide +kernel
theorem dX2_thriftiest_1 : decode cX2_thriftiest 1 = .ok (.iconst 1, 1) := by decide +kernel
theorem dX2_thriftiest_2 : decode cX2_thriftiest 2 = .ok (.aload_n 1, 1) := by decide +kernel
theorem dX2_thriftiest_3 : decode cX2_thriftiest 3 = .ok (.invokevirtual 25, 3) := by decide +kernel
theorem dX2_thriftiest_6 : decode cX2_thriftiest 6 = .ok (.ishl, 1) := by decide +kernel
theorem dX2_thriftiest_7 : decode cX2_thriftiest 7 = .ok (.putfield 31, 3) := by decide +kernel
theorem dX2_thriftiest_10 : decode cX2_thriftiest 10 = .ok (.aload_n 0, 1) := by decide +kernel
theorem dX2_thriftiest_11 : decode cX2_thriftiest 11 = .ok (.getfield 18, 3) := by decide +kernel
theorem dX2_thriftiest_14 : decode cX2_thriftiest 14 = .ok (.iconst 0, 1) := by decide +kernel
theorem dX2_thriftiest_15 : decode cX2_thriftiest 15 = .ok (.lconst 1, 1) := by decide +kernel
theorem dX2_thriftiest_16 : decode cX2_thriftiest 16 = .ok (.lastore, 1) := by decide +kernel
theorem dX2_thriftiest_17 : decode cX2_thriftiest 17 = .ok (.aload_n 1, 1) := by decide +kernel
theorem dX2_thriftiest_18 : decode cX2_thriftiest 18 = .ok (.invokevirtual 57, 3) := by decide +kernel
theorem w_1033 : (Cond.methodLink "GooseBorder$Flocks" (57 : Nat) ({ cls := "GooseBorder$Border", name := "paths", desc := "()I" } : MethodName)) ∈ gb_wA := gb_t5 73 rfl rfl
theorem dX2_thriftiest_21 : decode cX2_thriftiest 21 = .ok (.ifCond .ne 5, 3) := by decide +kernel
theorem dX2_thriftiest_26 : decode cX2_thriftiest 26 = .ok (.iconst 1, 1) := by decide +kernel
theorem dX2_thriftiest_27 : decode cX2_thriftiest 27 = .ok (.istore_n 2, 1) := by decide +kernel
theorem dX2_thriftiest_28 : decode cX2_thriftiest 28 = .ok (.iload_n 2, 1) := by decide +kernel
theorem dX2_thriftiest_29 : decode cX2_thriftiest 29 = .ok (.aload_n 0, 1) := by decide +kernel
theorem dX2_thriftiest_30 : decode cX2_thriftiest 30 = .ok (.getfield 31, 3) := by decide +kernel
theorem dX2_thriftiest_33 : decode cX2_thriftiest 33 = .ok (.if_icmp .ge 68, 3) := by decide +kernel
theorem dX2_thriftiest_101 : decode cX2_thriftiest 101 = .ok (.iconst (-1), 1) := by decide +kernel
theorem dX2_thriftiest_102 : decode cX2_thriftiest 102 = .ok (.ireturn, 1) := by decide +kernel
theorem dX2_thriftiest_36 : decode cX2_thriftiest 36 = .ok (.iload_n 2, 1) := by decide +kernel
theorem dX2_thriftiest_37 : decode cX2_thriftiest 37 = .ok (.invokestatic 43, 3) := by decide +kernel
theorem dX11_fits_0 : decode cX11_fits 0 = .ok (.aload_n 0, 1) := by decide +kernel
theorem dX11_fits_1 : decode cX11_fits 1 = .ok (.iload_n 1, 1) := by decide +kernel
theorem dX11_fits_2 : decode cX11_fits 2 = .ok (.invokevirtual 113, 3) := by decide +kernel
theorem dX11_fits_5 : decode cX11_fits 5 = .ok (.astore_n 3, 1) := by decide +kernel
theorem dX11_fits_6 : decode cX11_fits 6 = .ok (.aload_n 0, 1) := by decide +kernel
theorem dX11_fits_7 : decode cX11_fits 7 = .ok (.iload_n 2, 1) := by decide +kernel
theorem dX11_fits_8 : decode cX11_fits 8 = .ok (.invokevirtual 160, 3) := by decide +kernel
theorem dX11_fits_11 : decode cX11_fits 11 = .ok (.astore 4, 2) := by decide +kernel
theorem dX11_fits_13 : decode cX11_fits 13 = .ok (.aload_n 3, 1) := by decide +kernel
theorem dX11_fits_14 : decode cX11_fits 14 = .ok (.ifnull 8, 3) := by decide +kernel
theorem dX11_fits_22 : decode cX11_fits 22 = .ok (.ldc2_w 353, 3) := by decide +kernel
theorem w_1043 : (Cond.constantLong "GooseBorder" (353 : Nat) (-1 : Int64)) ∈ gb_wA := gb_t5 83 rfl rfl
theorem dX11_fits_25 : decode cX11_fits 25 = .ok (.lreturn, 1) := by decide +kernel
theorem dX11_fits_17 : decode cX11_fits 17 = .ok (.aload 4, 2) := by decide +kernel
theorem dX11_fits_19 : decode cX11_fits 19 = .ok (.ifnonnull 7, 3) := by decide +kernel
theorem dX11_fits_26 : decode cX11_fits 26 = .ok (.aload_n 0, 1) := by decide +kernel
theorem dX11_fits_27 : decode cX11_fits 27 = .ok (.getfield 70, 3) := by decide +kernel
theorem dX11_fits_30 : decode cX11_fits 30 = .ok (.aload_n 3, 1) := by decide +kernel
theorem dX11_fits_31 : decode cX11_fits 31 = .ok (.aload 4, 2) := by decide +kernel
theorem dX11_fits_33 : decode cX11_fits 33 = .ok (.iconst (-1), 1) := by decide +kernel
theorem dX11_fits_34 : decode cX11_fits 34 = .ok (.iconst (-1), 1) := by decide +kernel
theorem dX11_fits_35 : decode cX11_fits 35 = .ok (.invokevirtual 355, 3) := by decide +kernel
theorem dX2_findWays_0 : decode cX2_findWays 0 = .ok (.aload_n 0, 1) := by decide +kernel
theorem dX2_findWays_1 : decode cX2_findWays 1 = .ok (.iconst 1, 1) := by decide +kernel
theorem dX2_findWays_2 : decode cX2_findWays 2 = .ok (.aload_n 1, 1) := by decide +kernel
theorem dX2_findWays_3 : decode cX2_findWays 3 = .ok (.invokevirtual 25, 3) := by decide +kernel
theorem dX2_findWays_6 : decode cX2_findWays 6 = .ok (.ishl, 1) := by decide +kernel
theorem dX2_findWays_7 : decode cX2_findWays 7 = .ok (.putfield 31, 3) := by decide +kernel
theorem dX2_findWays_10 : decode cX2_findWays 10 = .ok (.aload_n 0, 1) := by decide +kernel
theorem dX2_findWays_11 : decode cX2_findWays 11 = .ok (.getfield 18, 3) := by decide +kernel
theorem dX2_findWays_14 : decode cX2_findWays 14 = .ok (.lconst 0, 1) := by decide +kernel
theorem dX2_findWays_15 : decode cX2_findWays 15 = .ok (.invokestatic 67, 3) := by decide +kernel
theorem dX11_told_0 : decode cX11_told 0 = .ok (.aload_n 0, 1) := by decide +kernel
theorem dX11_told_1 : decode cX11_told 1 = .ok (.iload_n 1, 1) := by decide +kernel
theorem dX11_told_2 : decode cX11_told 2 = .ok (.invokevirtual 113, 3) := by decide +kernel
theorem dX11_told_5 : decode cX11_told 5 = .ok (.astore 4, 2) := by decide +kernel
theorem dX11_told_7 : decode cX11_told 7 = .ok (.aload_n 0, 1) := by decide +kernel
theorem dX11_told_8 : decode cX11_told 8 = .ok (.iload_n 2, 1) := by decide +kernel
theorem dX11_told_9 : decode cX11_told 9 = .ok (.invokevirtual 160, 3) := by decide +kernel
theorem dX11_told_12 : decode cX11_told 12 = .ok (.astore 5, 2) := by decide +kernel
theorem dX11_told_14 : decode cX11_told 14 = .ok (.aload 4, 2) := by decide +kernel
theorem dX11_told_16 : decode cX11_told 16 = .ok (.ifnull 8, 3) := by decide +kernel
theorem dX11_told_24 : decode cX11_told 24 = .ok (.bipush (-2), 2) := by decide +kernel
theorem dX11_told_26 : decode cX11_told 26 = .ok (.ireturn, 1) := by decide +kernel
theorem dX11_told_19 : decode cX11_told 19 = .ok (.aload 5, 2) := by decide +kernel
theorem dX11_told_21 : decode cX11_told 21 = .ok (.ifnonnull 6, 3) := by decide +kernel
theorem dX11_told_27 : decode cX11_told 27 = .ok (.iload_n 3, 1) := by decide +kernel
theorem dX11_told_28 : decode cX11_told 28 = .ok (.iconst 3, 1) := by decide +kernel
theorem dX11_told_29 : decode cX11_told 29 = .ok (.if_icmp .ne 11, 3) := by decide +kernel
theorem dX11_told_40 : decode cX11_told 40 = .ok (.iload_n 3, 1) := by decide +kernel
theorem dX11_told_41 : decode cX11_told 41 = .ok (.bipush 10, 2) := by decide +kernel
theorem dX11_told_43 : decode cX11_told 43 = .ok (.if_icmp .lt 19, 3) := by decide +kernel
theorem dX11_told_62 : decode cX11_told 62 = .ok (.iconst 0, 1) := by decide +kernel
theorem dX11_told_63 : decode cX11_told 63 = .ok (.istore 6, 2) := by decide +kernel
theorem dX11_told_65 : decode cX11_told 65 = .ok (.iload 6, 2) := by decide +kernel
theorem dX11_told_67 : decode cX11_told 67 = .ok (.ifCond .ne 15, 3) := by decide +kernel
theorem dX11_told_82 : decode cX11_told 82 = .ok (.aload_n 0, 1) := by decide +kernel
theorem dX11_told_83 : decode cX11_told 83 = .ok (.getfield 70, 3) := by decide +kernel
theorem dX11_told_86 : decode cX11_told 86 = .ok (.aload 4, 2) := by decide +kernel
theorem dX11_told_88 : decode cX11_told 88 = .ok (.aload 5, 2) := by decide +kernel
theorem dX11_told_90 : decode cX11_told 90 = .ok (.iconst (-1), 1) := by decide +kernel
theorem dX11_told_91 : decode cX11_told 91 = .ok (.iconst (-1), 1) := by decide +kernel
theorem dX11_told_92 : decode cX11_told 92 = .ok (.invokevirtual 355, 3) := by decide +kernel
theorem dX11_drawn_0 : decode cX11_drawn 0 = .ok (.aload_n 0, 1) := by decide +kernel
theorem dX11_drawn_1 : decode cX11_drawn 1 = .ok (.iload_n 1, 1) := by decide +kernel
theorem dX11_drawn_2 : decode cX11_drawn 2 = .ok (.invokevirtual 113, 3) := by decide +kernel
theorem dX11_drawn_5 : decode cX11_drawn 5 = .ok (.astore 5, 2) := by decide +kernel
theorem dX11_drawn_7 : decode cX11_drawn 7 = .ok (.aload 5, 2) := by decide +kernel
theorem dX11_drawn_9 : decode cX11_drawn 9 = .ok (.ifnull 32, 3) := by decide +kernel
theorem dX11_drawn_41 : decode cX11_drawn 41 = .ok (.iconst (-1), 1) := by decide +kernel
theorem dX11_drawn_42 : decode cX11_drawn 42 = .ok (.ireturn, 1) := by decide +kernel
theorem dX11_drawn_12 : decode cX11_drawn 12 = .ok (.aload 5, 2) := by decide +kernel
theorem dX11_drawn_14 : decode cX11_drawn 14 = .ok (.invokevirtual 117, 3) := by decide +kernel
theorem dX11_drawn_17 : decode cX11_drawn 17 = .ok (.ifCond .eq 24, 3) := by decide +kernel
theorem dX11_drawn_20 : decode cX11_drawn 20 = .ok (.iload_n 3, 1) := by decide +kernel
theorem dX11_drawn_21 : decode cX11_drawn 21 = .ok (.iconst 1, 1) := by decide +kernel
theorem dX11_drawn_22 : decode cX11_drawn 22 = .ok (.if_icmp .lt 19, 3) := by decide +kernel
theorem dX11_drawn_25 : decode cX11_drawn 25 = .ok (.iload_n 3, 1) := by decide +kernel
theorem dX11_drawn_26 : decode cX11_drawn 26 = .ok (.bipush 20, 2) := by decide +kernel
theorem dX11_drawn_28 : decode cX11_drawn 28 = .ok (.if_icmp .gt 13, 3) := by decide +kernel
theorem dX11_drawn_31 : decode cX11_drawn 31 = .ok (.aload 5, 2) := by decide +kernel
theorem dX11_drawn_33 : decode cX11_drawn 33 = .ok (.iload 4, 2) := by decide +kernel
theorem dX11_drawn_35 : decode cX11_drawn 35 = .ok (.invokestatic 380, 3) := by decide +kernel
theorem dX11_isDrawnOf_0 : decode cX11_isDrawnOf 0 = .ok (.iload_n 1, 1) := by decide +kernel
theorem dX11_isDrawnOf_1 : decode cX11_isDrawnOf 1 = .ok (.ifCond .lt 8, 3) := by decide +kernel
theorem dX11_isDrawnOf_9 : decode cX11_isDrawnOf 9 = .ok (.iload_n 1, 1) := by decide +kernel
theorem dX11_isDrawnOf_10 : decode cX11_isDrawnOf 10 = .ok (.bipush 10, 2) := by decide +kernel
theorem dX11_isDrawnOf_12 : decode cX11_isDrawnOf 12 = .ok (.if_icmp .lt 20, 3) := by decide +kernel
theorem dX11_isDrawnOf_32 : decode cX11_isDrawnOf 32 = .ok (.iload_n 1, 1) := by decide +kernel
theorem dX11_isDrawnOf_33 : decode cX11_isDrawnOf 33 = .ok (.bipush 20, 2) := by decide +kernel
theorem dX11_isDrawnOf_35 : decode cX11_isDrawnOf 35 = .ok (.if_icmp .lt 18, 3) := by decide +kernel
theorem dX11_isDrawnOf_53 : decode cX11_isDrawnOf 53 = .ok (.iconst 0, 1) := by decide +kernel
theorem dX11_isDrawnOf_54 : decode cX11_isDrawnOf 54 = .ok (.ireturn, 1) := by decide +kernel
theorem dX11_isDrawnOf_38 : decode cX11_isDrawnOf 38 = .ok (.aload_n 0, 1) := by decide +kernel
theorem dX11_isDrawnOf_39 : decode cX11_isDrawnOf 39 = .ok (.iload_n 1, 1) := by decide +kernel
theorem dX11_isDrawnOf_40 : decode cX11_isDrawnOf 40 = .ok (.bipush 20, 2) := by decide +kernel
theorem dX11_isDrawnOf_42 : decode cX11_isDrawnOf 42 = .ok (.isub, 1) := by decide +kernel
theorem dX11_isDrawnOf_43 : decode cX11_isDrawnOf 43 = .ok (.invokevirtual 131, 3) := by decide +kernel
theorem dX11_isDrawnOf_46 : decode cX11_isDrawnOf 46 = .ok (.ifCond .eq 7, 3) := by decide +kernel
theorem dX11_isDrawnOf_49 : decode cX11_isDrawnOf 49 = .ok (.iconst 1, 1) := by decide +kernel
theorem dX11_isDrawnOf_50 : decode cX11_isDrawnOf 50 = .ok (.goto 4, 3) := by decide +kernel
theorem dX11_isDrawnOf_15 : decode cX11_isDrawnOf 15 = .ok (.iload_n 1, 1) := by decide +kernel
theorem dX11_isDrawnOf_16 : decode cX11_isDrawnOf 16 = .ok (.bipush 20, 2) := by decide +kernel
theorem dX11_isDrawnOf_18 : decode cX11_isDrawnOf 18 = .ok (.if_icmp .ge 14, 3) := by decide +kernel
theorem dX11_isDrawnOf_21 : decode cX11_isDrawnOf 21 = .ok (.aload_n 0, 1) := by decide +kernel
theorem dX11_isDrawnOf_22 : decode cX11_isDrawnOf 22 = .ok (.iload_n 1, 1) := by decide +kernel
theorem dX11_isDrawnOf_23 : decode cX11_isDrawnOf 23 = .ok (.bipush 10, 2) := by decide +kernel
theorem dX11_isDrawnOf_25 : decode cX11_isDrawnOf 25 = .ok (.isub, 1) := by decide +kernel
theorem dX11_isDrawnOf_26 : decode cX11_isDrawnOf 26 = .ok (.invokevirtual 135, 3) := by decide +kernel
theorem dX11_isDrawnOf_29 : decode cX11_isDrawnOf 29 = .ok (.ifCond .ne 20, 3) := by decide +kernel
theorem dX11_isDrawnOf_4 : decode cX11_isDrawnOf 4 = .ok (.iload_n 1, 1) := by decide +kernel
theorem dX11_isDrawnOf_5 : decode cX11_isDrawnOf 5 = .ok (.iconst 2, 1) := by decide +kernel
theorem dX11_isDrawnOf_6 : decode cX11_isDrawnOf 6 = .ok (.if_icmp .le 43, 3) := by decide +kernel
def cs_Face_isDrawnOf_B_9 (n : Nat) (σ : gb_S) (v0 : Nat) (v1 : Int32) : gb_CR Int32 := gb_kk (gb_kB v0) ((if v1 < 10 then (if v1 < 20 then some (σ, 0) else gb_cd (cs_Border_hasGoose_B n σ v0 (v1 - 20)) (fun s_6 r_7 => (if r_7 = 0 then some (s_6, 0) else some (s_6, 1)))) else (if (20 : Int32) ≤ v1 then (if v1 < 20 then some (σ, 0) else gb_cd (cs_Border_hasGoose_B n σ v0 (v1 - 20)) (fun s_13 r_14 => (if r_14 = 0 then some (s_13, 0) else some (s_13, 1)))) else gb_cd (cs_Border_hasPath_B n σ v0 (v1 - 10)) (fun s_18 r_19 => (if r_19 = 0 then (if v1 < 20 then some (s_18, 0) else gb_cd (cs_Border_hasGoose_B n s_18 v0 (v1 - 20)) (fun s_24 r_25 => (if r_25 = 0 then some (s_24, 0) else some (s_24, 1)))) else some (s_18, 1))))))
def cs_Face_isDrawnOf_B (n : Nat) (σ : gb_S) (p1 : Nat) (p2 : Int32) : gb_CR Int32 := gb_kk (gb_kB p1) ((if p2 < 0 then cs_Face_isDrawnOf_B_9 n σ p1 p2 else (if p2 ≤ 2 then some (σ, 1) else cs_Face_isDrawnOf_B_9 n σ p1 p2)))
set_option maxHeartbeats 8000000 in
set_option maxRecDepth 100000 in
theorem cc_Face_isDrawnOf_B (l : Launch) (D : va_G) (cT : Nat → ClassId) (tt : Nat → Nat) (b1 b : Nat) (hb1 : b1 ≤ b) (n : Nat) (σ : gb_S) (p1 : Nat) (p2 : Int32) (σE : gb_S) (rE : Int32) (h : cs_Face_isDrawnOf_B n σ p1 p2 = some (σE, rE)) : Met l yX11_isDrawnOf (.code yX11_isDrawnOf cX11_isDrawnOf 2 (some FieldType.boolean) :: gb_wA) ({ frames := 2, cells := 0, slots := 0, locals := 41 }) (gb_Pc D cT tt b1 [.ref (b + p1), .int p2] (fun h => va_P D vwCl (gb_wl b (gb_CW cT b σ)) h)) (gb_Qi (fun r h => r = rE ∧ va_P D vwCl (gb_wl b (gb_CW cT b σE)) h) (gb_fr b 135)) 0 0 (gb_fr b 135) := by
  refine Met.ofW (cc := cX11_isDrawnOf) (maxL := 2) (ret := (some FieldType.boolean)) (by decide) rfl ?_
  intro p e s m args below meth c s₁ B hml hv
  obtain ⟨rfl, hSt, hP⟩ := hv
  have hx := B.exec
  have hb := B.bytes
  have hr := B.returns
  have hts := atoms_spec (ws := .code yX11_isDrawnOf cX11_isDrawnOf 2 (some FieldType.boolean) :: gb_wA) B.pre
  have hq : ∀ w ∈ gb_wA, w.before _ s = true := fun w h => hts w (List.mem_cons_of_mem _ h)
  have hown : s.vm.findClass RX11 = some m.cls := findClass_of_methodNamed B.named
  have hlocks := B.notSynchronized
  clear B hts
  have hK := hSt.1
  have hS : va_S (gb_fr b 135) s.heap s.heap [] := va_S.rf
  have hl := lv_entry ([.ref (b + p1), .int p2]) (n := 2) (Nat.le_of_ble_eq_true rfl)
  rw [lg_entry_eq]
  generalize (lg_sl ([.ref (b + p1), .int p2]) ++ List.replicate (2 - (lg_sl ([.ref (b + p1), .int p2])).length) Slot.unset).toArray = ls at hl ⊢
  replace hl : lv_has ls 2 [(0, .ref (b + p1)), (1, .int p2)] := hl
  have L9_1 : ∀ (σ : gb_S) (v0 : Nat) (v1 : Int32) (H : Heap) (locs : List Loc) (ls : Array Slot), cs_Face_isDrawnOf_B_9 n σ v0 v1 = some (σE, rE) → va_P D vwCl (gb_wl b (gb_CW cT b σ)) H → va_S (gb_fr b 135) s.heap H locs → lv_has ls 2 [(0, .ref (b + v0)), (1, .int v1)] → W p l e (headSpec (.code yX11_isDrawnOf cX11_isDrawnOf 2 (some FieldType.boolean) :: gb_wA) ({ frames := 2, cells := 0, slots := 0, locals := 41 })).room s m ([.ref (b + p1), .int p2]).toArray below meth c H locs 0 0 (MQ below (gb_Qi (fun r h => r = rE ∧ va_P D vwCl (gb_wl b (gb_CW cT b σE)) h) (gb_fr b 135)) ([.ref (b + p1), .int p2]).toArray s 0 0 (gb_fr b 135)) (F0 m 9 ls []) := by
    clear h hP hS hl ls
    intro σ v0 v1 H locs ls h hP hS hl
    unfold cs_Face_isDrawnOf_B_9 at h
    obtain ⟨z_3, h⟩ := gb_kk_s h
    refine lv_iload_n hx hb dX11_isDrawnOf_9 rfl (lv_at hl 1 rfl) ?_
    refine lv_bipush (v := 10) hx hb dX11_isDrawnOf_10 (by decide) ?_
    refine lv_icmp_lt (tgt := 32) hx hb dX11_isDrawnOf_12 (by decide) (fun c_4 => ?_) (fun c_4 => ?_)
    · rw [if_pos c_4] at h
      refine lv_iload_n hx hb dX11_isDrawnOf_32 rfl (lv_at hl 1 rfl) ?_
      refine lv_bipush (v := 20) hx hb dX11_isDrawnOf_33 (by decide) ?_
      refine lv_icmp_lt (tgt := 53) hx hb dX11_isDrawnOf_35 (by decide) (fun c_5 => ?_) (fun c_5 => ?_)
      · rw [if_pos c_5] at h
        refine lv_iconst (v := 0) hx hb dX11_isDrawnOf_53 (by decide) ?_
        obtain ⟨e1, e2⟩ := gb_eq2 h
        exact W.zret (v := 0) hx hb hr (by decide) (fun t ht hW => gb_ri ht ⟨e2, by rw [← e1]; exact hP⟩ hS) hS.2.2 dX11_isDrawnOf_54
      · rw [if_neg c_5] at h
        refine lv_aload_n hx hb dX11_isDrawnOf_38 rfl (lv_at hl 0 rfl) ?_
        refine lv_iload_n hx hb dX11_isDrawnOf_39 rfl (lv_at hl 1 rfl) ?_
        refine lv_bipush (v := 20) hx hb dX11_isDrawnOf_40 (by decide) ?_
        refine lv_isub hx hb dX11_isDrawnOf_42 ?_
        obtain ⟨s_6, r_7, z_8, h⟩ := gb_cd_s h
        refine gb_calli (va_runV (C := RX0) (As := [.int (v1 - 20)]) (rest := []) ⟨hx, hb, hml, hown, hq⟩ (cc_Border_hasGoose_B l D cT tt b1 b hb1 n σ v0 (v1 - 20) s_6 r_7 z_8) (cwV 1 hq (gb_gV w_619 w_612 w_613 w_4 w_614) rfl rfl rfl (by decide +kernel) ⟨Nat.le_of_ble_eq_true rfl, Nat.le_of_ble_eq_true rfl⟩) (gb_preV (r := (RX0, TX0, 1)) (ci := 0) (q0 := v0) hSt hP rfl (gb_at b (gb_cB z_3).1) hS (fun q h => Nat.le_trans hb1 h.1) hP) rfl rfl hl.1 rfl (lv_room (Nat.le_of_ble_eq_true rfl)) dX11_isDrawnOf_43 ⟨Nat.le_of_ble_eq_true rfl, Nat.le_of_ble_eq_true rfl⟩) hS (fun _ h => h) (fun _ h => h) (fun q_9 H locs hY hk hS => ?_)
        obtain ⟨hq_9, hP⟩ := hY
        replace hq_9 := hq_9.symm
        subst hq_9
        refine lv_if_eq (tgt := 53) hx hb dX11_isDrawnOf_46 (by decide) (fun c_10 => ?_) (fun c_10 => ?_)
        · rw [if_pos c_10] at h
          refine lv_iconst (v := 0) hx hb dX11_isDrawnOf_53 (by decide) ?_
          obtain ⟨e1, e2⟩ := gb_eq2 h
          exact W.zret (v := 0) hx hb hr (by decide) (fun t ht hW => gb_ri ht ⟨e2, by rw [← e1]; exact hP⟩ hS) hS.2.2 dX11_isDrawnOf_54
        · rw [if_neg c_10] at h
          refine lv_iconst (v := 1) hx hb dX11_isDrawnOf_49 (by decide) ?_
          refine lv_goto (tgt := 54) hx hb dX11_isDrawnOf_50 (by decide) ?_
          obtain ⟨e1, e2⟩ := gb_eq2 h
          exact W.zret (v := 1) hx hb hr (by decide) (fun t ht hW => gb_ri ht ⟨e2, by rw [← e1]; exact hP⟩ hS) hS.2.2 dX11_isDrawnOf_54
    · rw [if_neg c_4] at h
      refine lv_iload_n hx hb dX11_isDrawnOf_15 rfl (lv_at hl 1 rfl) ?_
      refine lv_bipush (v := 20) hx hb dX11_isDrawnOf_16 (by decide) ?_
      refine lv_icmp_ge (tgt := 32) hx hb dX11_isDrawnOf_18 (by decide) (fun c_11 => ?_) (fun c_11 => ?_)
      · rw [if_pos c_11] at h
        refine lv_iload_n hx hb dX11_isDrawnOf_32 rfl (lv_at hl 1 rfl) ?_
        refine lv_bipush (v := 20) hx hb dX11_isDrawnOf_33 (by decide) ?_
        refine lv_icmp_lt (tgt := 53) hx hb dX11_isDrawnOf_35 (by decide) (fun c_12 => ?_) (fun c_12 => ?_)
        · rw [if_pos c_12] at h
          refine lv_iconst (v := 0) hx hb dX11_isDrawnOf_53 (by decide) ?_
          obtain ⟨e1, e2⟩ := gb_eq2 h
          exact W.zret (v := 0) hx hb hr (by decide) (fun t ht hW => gb_ri ht ⟨e2, by rw [← e1]; exact hP⟩ hS) hS.2.2 dX11_isDrawnOf_54
        · rw [if_neg c_12] at h
          refine lv_aload_n hx hb dX11_isDrawnOf_38 rfl (lv_at hl 0 rfl) ?_
          refine lv_iload_n hx hb dX11_isDrawnOf_39 rfl (lv_at hl 1 rfl) ?_
          refine lv_bipush (v := 20) hx hb dX11_isDrawnOf_40 (by decide) ?_
          refine lv_isub hx hb dX11_isDrawnOf_42 ?_
          obtain ⟨s_13, r_14, z_15, h⟩ := gb_cd_s h
          refine gb_calli (va_runV (C := RX0) (As := [.int (v1 - 20)]) (rest := []) ⟨hx, hb, hml, hown, hq⟩ (cc_Border_hasGoose_B l D cT tt b1 b hb1 n σ v0 (v1 - 20) s_13 r_14 z_15) (cwV 1 hq (gb_gV w_619 w_612 w_613 w_4 w_614) rfl rfl rfl (by decide +kernel) ⟨Nat.le_of_ble_eq_true rfl, Nat.le_of_ble_eq_true rfl⟩) (gb_preV (r := (RX0, TX0, 1)) (ci := 0) (q0 := v0) hSt hP rfl (gb_at b (gb_cB z_3).1) hS (fun q h => Nat.le_trans hb1 h.1) hP) rfl rfl hl.1 rfl (lv_room (Nat.le_of_ble_eq_true rfl)) dX11_isDrawnOf_43 ⟨Nat.le_of_ble_eq_true rfl, Nat.le_of_ble_eq_true rfl⟩) hS (fun _ h => h) (fun _ h => h) (fun q_16 H locs hY hk hS => ?_)
          obtain ⟨hq_16, hP⟩ := hY
          replace hq_16 := hq_16.symm
          subst hq_16
          refine lv_if_eq (tgt := 53) hx hb dX11_isDrawnOf_46 (by decide) (fun c_17 => ?_) (fun c_17 => ?_)
          · rw [if_pos c_17] at h
            refine lv_iconst (v := 0) hx hb dX11_isDrawnOf_53 (by decide) ?_
            obtain ⟨e1, e2⟩ := gb_eq2 h
            exact W.zret (v := 0) hx hb hr (by decide) (fun t ht hW => gb_ri ht ⟨e2, by rw [← e1]; exact hP⟩ hS) hS.2.2 dX11_isDrawnOf_54
          · rw [if_neg c_17] at h
            refine lv_iconst (v := 1) hx hb dX11_isDrawnOf_49 (by decide) ?_
            refine lv_goto (tgt := 54) hx hb dX11_isDrawnOf_50 (by decide) ?_
            obtain ⟨e1, e2⟩ := gb_eq2 h
            exact W.zret (v := 1) hx hb hr (by decide) (fun t ht hW => gb_ri ht ⟨e2, by rw [← e1]; exact hP⟩ hS) hS.2.2 dX11_isDrawnOf_54
      · rw [if_neg c_11] at h
        refine lv_aload_n hx hb dX11_isDrawnOf_21 rfl (lv_at hl 0 rfl) ?_
        refine lv_iload_n hx hb dX11_isDrawnOf_22 rfl (lv_at hl 1 rfl) ?_
        refine lv_bipush (v := 10) hx hb dX11_isDrawnOf_23 (by decide) ?_
        refine lv_isub hx hb dX11_isDrawnOf_25 ?_
        obtain ⟨s_18, r_19, z_20, h⟩ := gb_cd_s h
        refine gb_calli (va_runV (C := RX0) (As := [.int (v1 - 10)]) (rest := []) ⟨hx, hb, hml, hown, hq⟩ (cc_Border_hasPath_B l D cT tt b1 b hb1 n σ v0 (v1 - 10) s_18 r_19 z_20) (cwV 1 hq (gb_gV w_620 w_608 w_609 w_4 w_610) rfl rfl rfl (by decide +kernel) ⟨Nat.le_of_ble_eq_true rfl, Nat.le_of_ble_eq_true rfl⟩) (gb_preV (r := (RX0, TX0, 1)) (ci := 0) (q0 := v0) hSt hP rfl (gb_at b (gb_cB z_3).1) hS (fun q h => Nat.le_trans hb1 h.1) hP) rfl rfl hl.1 rfl (lv_room (Nat.le_of_ble_eq_true rfl)) dX11_isDrawnOf_26 ⟨Nat.le_of_ble_eq_true rfl, Nat.le_of_ble_eq_true rfl⟩) hS (fun _ h => h) (fun _ h => h) (fun q_21 H locs hY hk hS => ?_)
        obtain ⟨hq_21, hP⟩ := hY
        replace hq_21 := hq_21.symm
        subst hq_21
        refine lv_if_ne (tgt := 49) hx hb dX11_isDrawnOf_29 (by decide) (fun c_22 => ?_) (fun c_22 => ?_)
        · rw [if_neg c_22] at h
          refine lv_iconst (v := 1) hx hb dX11_isDrawnOf_49 (by decide) ?_
          refine lv_goto (tgt := 54) hx hb dX11_isDrawnOf_50 (by decide) ?_
          obtain ⟨e1, e2⟩ := gb_eq2 h
          exact W.zret (v := 1) hx hb hr (by decide) (fun t ht hW => gb_ri ht ⟨e2, by rw [← e1]; exact hP⟩ hS) hS.2.2 dX11_isDrawnOf_54
        · rw [if_pos c_22] at h
          refine lv_iload_n hx hb dX11_isDrawnOf_32 rfl (lv_at hl 1 rfl) ?_
          refine lv_bipush (v := 20) hx hb dX11_isDrawnOf_33 (by decide) ?_
          refine lv_icmp_lt (tgt := 53) hx hb dX11_isDrawnOf_35 (by decide) (fun c_23 => ?_) (fun c_23 => ?_)
          · rw [if_pos c_23] at h
            refine lv_iconst (v := 0) hx hb dX11_isDrawnOf_53 (by decide) ?_
            obtain ⟨e1, e2⟩ := gb_eq2 h
            exact W.zret (v := 0) hx hb hr (by decide) (fun t ht hW => gb_ri ht ⟨e2, by rw [← e1]; exact hP⟩ hS) hS.2.2 dX11_isDrawnOf_54
          · rw [if_neg c_23] at h
            refine lv_aload_n hx hb dX11_isDrawnOf_38 rfl (lv_at hl 0 rfl) ?_
            refine lv_iload_n hx hb dX11_isDrawnOf_39 rfl (lv_at hl 1 rfl) ?_
            refine lv_bipush (v := 20) hx hb dX11_isDrawnOf_40 (by decide) ?_
            refine lv_isub hx hb dX11_isDrawnOf_42 ?_
            obtain ⟨s_24, r_25, z_26, h⟩ := gb_cd_s h
            refine gb_calli (va_runV (C := RX0) (As := [.int (v1 - 20)]) (rest := []) ⟨hx, hb, hml, hown, hq⟩ (cc_Border_hasGoose_B l D cT tt b1 b hb1 n s_18 v0 (v1 - 20) s_24 r_25 z_26) (cwV 1 hq (gb_gV w_619 w_612 w_613 w_4 w_614) rfl rfl rfl (by decide +kernel) ⟨Nat.le_of_ble_eq_true rfl, Nat.le_of_ble_eq_true rfl⟩) (gb_preV (r := (RX0, TX0, 1)) (ci := 0) (q0 := v0) hSt hP rfl (gb_at b (gb_cB z_3).1) hS (fun q h => Nat.le_trans hb1 h.1) hP) rfl rfl hl.1 rfl (lv_room (Nat.le_of_ble_eq_true rfl)) dX11_isDrawnOf_43 ⟨Nat.le_of_ble_eq_true rfl, Nat.le_of_ble_eq_true rfl⟩) hS (fun _ h => h) (fun _ h => h) (fun q_27 H locs hY hk hS => ?_)
            obtain ⟨hq_27, hP⟩ := hY
            replace hq_27 := hq_27.symm
            subst hq_27
            refine lv_if_eq (tgt := 53) hx hb dX11_isDrawnOf_46 (by decide) (fun c_28 => ?_) (fun c_28 => ?_)
            · rw [if_pos c_28] at h
              refine lv_iconst (v := 0) hx hb dX11_isDrawnOf_53 (by decide) ?_
              obtain ⟨e1, e2⟩ := gb_eq2 h
              exact W.zret (v := 0) hx hb hr (by decide) (fun t ht hW => gb_ri ht ⟨e2, by rw [← e1]; exact hP⟩ hS) hS.2.2 dX11_isDrawnOf_54
            · rw [if_neg c_28] at h
              refine lv_iconst (v := 1) hx hb dX11_isDrawnOf_49 (by decide) ?_
              refine lv_goto (tgt := 54) hx hb dX11_isDrawnOf_50 (by decide) ?_
              obtain ⟨e1, e2⟩ := gb_eq2 h
              exact W.zret (v := 1) hx hb hr (by decide) (fun t ht hW => gb_ri ht ⟨e2, by rw [← e1]; exact hP⟩ hS) hS.2.2 dX11_isDrawnOf_54
  unfold cs_Face_isDrawnOf_B at h
  obtain ⟨z_1, h⟩ := gb_kk_s h
  refine lv_iload_n hx hb dX11_isDrawnOf_0 rfl (lv_at hl 1 rfl) ?_
  refine lv_if_lt (tgt := 9) hx hb dX11_isDrawnOf_1 (by decide) (fun c_2 => ?_) (fun c_2 => ?_)
  · rw [if_pos c_2] at h
    exact L9_1 _ _ _ _ _ _ h hP hS (lv_sub hl [0, 1] rfl)
  · rw [if_neg c_2] at h
    refine lv_iload_n hx hb dX11_isDrawnOf_4 rfl (lv_at hl 1 rfl) ?_
    refine lv_iconst (v := 2) hx hb dX11_isDrawnOf_5 (by decide) ?_
    refine lv_icmp_le (tgt := 49) hx hb dX11_isDrawnOf_6 (by decide) (fun c_29 => ?_) (fun c_29 => ?_)
    · rw [if_pos c_29] at h
      refine lv_iconst (v := 1) hx hb dX11_isDrawnOf_49 (by decide) ?_
      refine lv_goto (tgt := 54) hx hb dX11_isDrawnOf_50 (by decide) ?_
      obtain ⟨e1, e2⟩ := gb_eq2 h
      exact W.zret (v := 1) hx hb hr (by decide) (fun t ht hW => gb_ri ht ⟨e2, by rw [← e1]; exact hP⟩ hS) hS.2.2 dX11_isDrawnOf_54
    · rw [if_neg c_29] at h
      exact L9_1 _ _ _ _ _ _ h hP hS (lv_sub hl [0, 1] rfl)
theorem w_1100 : (Cond.code ({ cls := "GooseBorder", name := "isDrawnOf", desc := "(LGooseBorder$Border;I)Z" } : MethodName) prog_1_method_49_code (2 : Nat) (Option.some FieldType.boolean)) ∈ gb_wA := gb_t5 140 rfl rfl
theorem w_1098 : (Cond.methodLink "GooseBorder" (380 : Nat) ({ cls := "GooseBorder", name := "isDrawnOf", desc := "(LGooseBorder$Border;I)Z" } : MethodName)) ∈ gb_wA := gb_t5 138 rfl rfl
theorem w_1099 : (Cond.static ({ cls := "GooseBorder", name := "isDrawnOf", desc := "(LGooseBorder$Border;I)Z" } : MethodName)) ∈ gb_wA := gb_t5 139 rfl rfl
theorem dX11_drawn_38 : decode cX11_drawn 38 = .ok (.ifCond .ne 5, 3) := by decide +kernel
theorem dX11_drawn_43 : decode cX11_drawn 43 = .ok (.aload_n 0, 1) := by decide +kernel
theorem dX11_drawn_44 : decode cX11_drawn 44 = .ok (.iload_n 2, 1) := by decide +kernel
theorem dX11_drawn_45 : decode cX11_drawn 45 = .ok (.putfield 384, 3) := by decide +kernel
theorem w_324 : (Cond.fieldLink "GooseBorder" (384 : Nat) "GooseBorder" "chance" "I") ∈ gb_wA := gb_t2 84 rfl rfl
theorem dX11_drawn_48 : decode cX11_drawn 48 = .ok (.iconst 0, 1) := by decide +kernel
theorem dX11_drawn_49 : decode cX11_drawn 49 = .ok (.istore 6, 2) := by decide +kernel
theorem dX11_drawn_51 : decode cX11_drawn 51 = .ok (.iconst 0, 1) := by decide +kernel
theorem dX11_drawn_52 : decode cX11_drawn 52 = .ok (.istore 7, 2) := by decide +kernel
theorem dX11_drawn_54 : decode cX11_drawn 54 = .ok (.iload 7, 2) := by decide +kernel
theorem dX11_drawn_56 : decode cX11_drawn 56 = .ok (.iload_n 3, 1) := by decide +kernel
theorem dX11_drawn_57 : decode cX11_drawn 57 = .ok (.if_icmp .ge 22, 3) := by decide +kernel
theorem dX11_drawn_79 : decode cX11_drawn 79 = .ok (.iload 6, 2) := by decide +kernel
theorem dX11_drawn_81 : decode cX11_drawn 81 = .ok (.ireturn, 1) := by decide +kernel
theorem dX11_drawn_60 : decode cX11_drawn 60 = .ok (.iload 6, 2) := by decide +kernel
theorem dX11_drawn_62 : decode cX11_drawn 62 = .ok (.aload_n 0, 1) := by decide +kernel
theorem dX11_drawn_63 : decode cX11_drawn 63 = .ok (.aload 5, 2) := by decide +kernel
theorem dX11_drawn_65 : decode cX11_drawn 65 = .ok (.iload 4, 2) := by decide +kernel
theorem dX11_drawn_67 : decode cX11_drawn 67 = .ok (.invokevirtual 387, 3) := by decide +kernel
theorem dX11_drawnNight_0 : decode cX11_drawnNight 0 = .ok (.aload_n 0, 1) := by decide +kernel
theorem dX11_drawnNight_1 : decode cX11_drawnNight 1 = .ok (.getfield 56, 3) := by decide +kernel
theorem dX11_drawnNight_4 : decode cX11_drawnNight 4 = .ok (.aload_n 1, 1) := by decide +kernel
theorem dX11_drawnNight_5 : decode cX11_drawnNight 5 = .ok (.invokevirtual 390, 3) := by decide +kernel
