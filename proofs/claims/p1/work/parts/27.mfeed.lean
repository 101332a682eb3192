theorem dX12_feed_0 : decode cX12_feed 0 = .ok (.aload_n 0, 1) := by decide +kernel
theorem dX12_feed_1 : decode cX12_feed 1 = .ok (.getfield 7, 3) := by decide +kernel
theorem dX12_feed_4 : decode cX12_feed 4 = .ok (.iconst 4, 1) := by decide +kernel
theorem dX12_feed_5 : decode cX12_feed 5 = .ok (.iaload, 1) := by decide +kernel
theorem dX12_feed_6 : decode cX12_feed 6 = .ok (.bipush 20, 2) := by decide +kernel
theorem dX12_feed_8 : decode cX12_feed 8 = .ok (.iadd, 1) := by decide +kernel
theorem dX12_feed_9 : decode cX12_feed 9 = .ok (.sipush 600, 3) := by decide +kernel
theorem dX12_feed_12 : decode cX12_feed 12 = .ok (.if_icmp .le 5, 3) := by decide +kernel
theorem dX12_feed_17 : decode cX12_feed 17 = .ok (.iconst 0, 1) := by decide +kernel
theorem dX12_feed_18 : decode cX12_feed 18 = .ok (.istore 6, 2) := by decide +kernel
theorem dX12_feed_20 : decode cX12_feed 20 = .ok (.iload 6, 2) := by decide +kernel
theorem dX12_feed_22 : decode cX12_feed 22 = .ok (.bipush 20, 2) := by decide +kernel
theorem dX12_feed_24 : decode cX12_feed 24 = .ok (.if_icmp .ge 98, 3) := by decide +kernel
theorem dX12_feed_27 : decode cX12_feed 27 = .ok (.iload 6, 2) := by decide +kernel
theorem dX12_feed_29 : decode cX12_feed 29 = .ok (.iconst 4, 1) := by decide +kernel
theorem dX12_feed_30 : decode cX12_feed 30 = .ok (.if_icmp .ge 7, 3) := by decide +kernel
theorem dX12_feed_37 : decode cX12_feed 37 = .ok (.iload 6, 2) := by decide +kernel
theorem dX12_feed_39 : decode cX12_feed 39 = .ok (.bipush 8, 2) := by decide +kernel
theorem dX12_feed_41 : decode cX12_feed 41 = .ok (.if_icmp .ge 7, 3) := by decide +kernel
theorem dX12_feed_48 : decode cX12_feed 48 = .ok (.iload 6, 2) := by decide +kernel
theorem dX12_feed_50 : decode cX12_feed 50 = .ok (.bipush 12, 2) := by decide +kernel
theorem dX12_feed_52 : decode cX12_feed 52 = .ok (.if_icmp .ge 7, 3) := by decide +kernel
theorem dX12_feed_59 : decode cX12_feed 59 = .ok (.iload 6, 2) := by decide +kernel
theorem dX12_feed_61 : decode cX12_feed 61 = .ok (.bipush 16, 2) := by decide +kernel
theorem dX12_feed_63 : decode cX12_feed 63 = .ok (.if_icmp .ge 8, 3) := by decide +kernel
theorem dX12_feed_71 : decode cX12_feed 71 = .ok (.iload 5, 2) := by decide +kernel
theorem dX12_feed_73 : decode cX12_feed 73 = .ok (.istore 7, 2) := by decide +kernel
theorem dX12_feed_75 : decode cX12_feed 75 = .ok (.aload_n 0, 1) := by decide +kernel
theorem dX12_feed_76 : decode cX12_feed 76 = .ok (.getfield 7, 3) := by decide +kernel
theorem dX12_feed_79 : decode cX12_feed 79 = .ok (.bipush 10, 2) := by decide +kernel
theorem dX12_feed_81 : decode cX12_feed 81 = .ok (.aload_n 0, 1) := by decide +kernel
theorem dX12_feed_82 : decode cX12_feed 82 = .ok (.getfield 7, 3) := by decide +kernel
theorem dX12_feed_85 : decode cX12_feed 85 = .ok (.iconst 4, 1) := by decide +kernel
theorem dX12_feed_86 : decode cX12_feed 86 = .ok (.iaload, 1) := by decide +kernel
theorem dX12_feed_87 : decode cX12_feed 87 = .ok (.iadd, 1) := by decide +kernel
theorem dX12_feed_88 : decode cX12_feed 88 = .ok (.iload 7, 2) := by decide +kernel
theorem dX12_feed_90 : decode cX12_feed 90 = .ok (.bipush 24, 2) := by decide +kernel
theorem dX12_feed_92 : decode cX12_feed 92 = .ok (.bipush 8, 2) := by decide +kernel
theorem dX12_feed_94 : decode cX12_feed 94 = .ok (.iload 6, 2) := by decide +kernel
theorem dX12_feed_96 : decode cX12_feed 96 = .ok (.iconst 4, 1) := by decide +kernel
theorem dX12_feed_97 : decode cX12_feed 97 = .ok (.irem, 1) := by decide +kernel
theorem dX12_feed_98 : decode cX12_feed 98 = .ok (.imul, 1) := by decide +kernel
theorem dX12_feed_99 : decode cX12_feed 99 = .ok (.isub, 1) := by decide +kernel
theorem dX12_feed_100 : decode cX12_feed 100 = .ok (.ishr, 1) := by decide +kernel
theorem dX12_feed_101 : decode cX12_feed 101 = .ok (.sipush 255, 3) := by decide +kernel
theorem dX12_feed_104 : decode cX12_feed 104 = .ok (.iand, 1) := by decide +kernel
theorem dX12_feed_105 : decode cX12_feed 105 = .ok (.iastore, 1) := by decide +kernel
theorem dX12_feed_106 : decode cX12_feed 106 = .ok (.aload_n 0, 1) := by decide +kernel
theorem dX12_feed_107 : decode cX12_feed 107 = .ok (.getfield 7, 3) := by decide +kernel
theorem dX12_feed_110 : decode cX12_feed 110 = .ok (.iconst 4, 1) := by decide +kernel
theorem dX12_feed_111 : decode cX12_feed 111 = .ok (.dup2, 1) := by decide +kernel
theorem dX12_feed_112 : decode cX12_feed 112 = .ok (.iaload, 1) := by decide +kernel
theorem dX12_feed_113 : decode cX12_feed 113 = .ok (.iconst 1, 1) := by decide +kernel
theorem dX12_feed_114 : decode cX12_feed 114 = .ok (.iadd, 1) := by decide +kernel
theorem dX12_feed_115 : decode cX12_feed 115 = .ok (.iastore, 1) := by decide +kernel
theorem dX12_feed_116 : decode cX12_feed 116 = .ok (.iinc 6 1, 3) := by decide +kernel
theorem dX12_feed_119 : decode cX12_feed 119 = .ok (.goto (-99), 3) := by decide +kernel
theorem dX12_feed_66 : decode cX12_feed 66 = .ok (.iload 4, 2) := by decide +kernel
theorem dX12_feed_68 : decode cX12_feed 68 = .ok (.goto 5, 3) := by decide +kernel
theorem dX12_feed_55 : decode cX12_feed 55 = .ok (.iload_n 3, 1) := by decide +kernel
theorem dX12_feed_56 : decode cX12_feed 56 = .ok (.goto 17, 3) := by decide +kernel
theorem dX12_feed_44 : decode cX12_feed 44 = .ok (.iload_n 2, 1) := by decide +kernel
theorem dX12_feed_45 : decode cX12_feed 45 = .ok (.goto 28, 3) := by decide +kernel
theorem dX12_feed_33 : decode cX12_feed 33 = .ok (.iload_n 1, 1) := by decide +kernel
theorem dX12_feed_34 : decode cX12_feed 34 = .ok (.goto 39, 3) := by decide +kernel
theorem dX12_feed_122 : decode cX12_feed 122 = .ok (.aload_n 0, 1) := by decide +kernel
theorem dX12_feed_123 : decode cX12_feed 123 = .ok (.getfield 7, 3) := by decide +kernel
theorem dX12_feed_126 : decode cX12_feed 126 = .ok (.iconst 4, 1) := by decide +kernel
theorem dX12_feed_127 : decode cX12_feed 127 = .ok (.iaload, 1) := by decide +kernel
theorem dX12_feed_128 : decode cX12_feed 128 = .ok (.ireturn, 1) := by decide +kernel
set_option maxHeartbeats 4000000 in
set_option maxRecDepth 100000 in
theorem a_X12_feed (l : Launch) (D : va_G) (cT : Nat → ClassId) (tt : Nat → Nat) (b1 b : Nat) (hb1 : b1 ≤ b) (p1 : Int32) (p2 : Int32) (p3 : Int32) (p4 : Int32) (p5 : Int32) : Met l yX12_feed (.code yX12_feed cX12_feed 8 (some FieldType.int) :: gb_wA) ({ frames := 0, cells := 0, slots := 0, locals := 0 }) (gb_Pc D cT tt b1 [.ref (b + 0), .int p1, .int p2, .int p3, .int p4, .int p5] (fun h => va_P D vwCl (gb_wl b (gb_M cT b)) h)) (gb_Qi (fun r _ => r = 20) (gb_fr b 22)) 0 0 (gb_fr b 22) := by
  refine Met.ofW (cc := cX12_feed) (maxL := 8) (ret := (some FieldType.int)) (by decide) rfl ?_
  intro p e s m args below meth c s₁ B hml hv
  obtain ⟨rfl, hSt, hP⟩ := hv
  have hx := B.exec
  have hb := B.bytes
  have hr := B.returns
  have hts := atoms_spec (ws := .code yX12_feed cX12_feed 8 (some FieldType.int) :: gb_wA) B.pre
  have hq : ∀ w ∈ gb_wA, w.before _ s = true := fun w h => hts w (List.mem_cons_of_mem _ h)
  have hown : s.vm.findClass RX12 = some m.cls := findClass_of_methodNamed B.named
  have hlocks := B.notSynchronized
  have hK := hSt.1
  have hS : va_S (gb_fr b 22) s.heap s.heap [] := va_S.rf
  have hl := lv_entry ([.ref (b + 0), .int p1, .int p2, .int p3, .int p4, .int p5]) (n := 8) (Nat.le_of_ble_eq_true rfl)
  rw [lg_entry_eq]
  generalize (lg_sl ([.ref (b + 0), .int p1, .int p2, .int p3, .int p4, .int p5]) ++ List.replicate (8 - (lg_sl ([.ref (b + 0), .int p1, .int p2, .int p3, .int p4, .int p5])).length) Slot.unset).toArray = ls at hl ⊢
  have hl : lv_has ls 8 [(0, .ref (b + 0)), (1, .int p1), (2, .int p2), (3, .int p3), (4, .int p4), (5, .int p5)] := hl
  refine lv_aload_n hx hb dX12_feed_0 rfl (lv_at hl 0 rfl) ?_
  refine va_get (ci := 10) (v := (.ref (b + 1))) (C := RX12) (T := TX12) (N := 44) hx hb hq i_X12 hown hK hP 0 (gb_at b rfl) rfl 0 (by decide) (hq _ w_1124) (fun _ h9 => h9) rfl dX12_feed_1 ?_
  refine lv_iconst (v := 4) hx hb dX12_feed_4 (by decide) ?_
  refine gb_iald (v := 0) hx hb hK hP 1 0 (gb_at b rfl) rfl (gb_in rfl) rfl dX12_feed_5 ?_
  refine lv_bipush (v := 20) hx hb dX12_feed_6 (by decide) ?_
  refine lv_iadd hx hb dX12_feed_8 ?_
  refine W.eq (g2 := F0 m 9 ls [.int 20]) (congrArg (fun v => F0 m 9 ls (Value.int v :: [])) (show (0 : Int32) + 20 = 20 by decide)) ?_
  refine lv_sipush (v := 600) hx hb dX12_feed_9 (by decide) ?_
  refine lv_icmp_le (tgt := 17) hx hb dX12_feed_12 (by decide) (fun _ => ?_) (fun hc => absurd (by decide) hc)
  refine lv_iconst (v := 0) hx hb dX12_feed_17 (by decide) ?_
  refine lv_istore (lv' := [(6, .int 0), (0, .ref (b + 0)), (1, .int p1), (2, .int p2), (3, .int p3), (4, .int p4), (5, .int p5)]) hx hb dX12_feed_18 hl (by decide) rfl (fun ls hl => ?_)
  refine gb_loop (I := fun i H locs ls => ∃ F : Nat → Int32, F 4 = nI i ∧ va_P D vwCl (gb_wl b [.inr (10, [.ref (b + 1), .ref (b + 2), .int 0, .int 0, .int 0, .int 0, .int 0, .int 0, .int 0, .int 0, .ref (b + 3), .int 0, .int 0, .ref (b + 4), .ref (b + 5), .ref (b + 6), .ref (b + 7), .ref (b + 8), .ref (b + 9), .ref (b + 10), .ref (b + 11), .ref (b + 12), .int 0, .int 0, .int 0, .int 0, .ref (b + 13), .ref (b + 14), .int 0, .int 0, .ref (b + 15), .ref (b + 16), .ref (b + 17), .long 0, .int 0, .int 0, .int 0, .ref (b + 18), .int 0, .ref (b + 19), .ref (b + 20), .int 0, .int 0, .ref (b + 21)]), .inl (cT 0, 3968, .inl F), .inl (cT 2, 3, .inl (fun _ => 0)), .inl (cT 0, 97, .inl (fun _ => 0)), .inl (cT 0, 8, .inl (fun _ => 0)), .inl (cT 0, 8, .inl (fun _ => 0)), .inl (cT 0, 8, .inl (fun _ => 0)), .inl (cT 0, 8, .inl (fun _ => 0)), .inl (cT 2, 8, .inl (fun _ => 0)), .inl (cT 0, 40, .inl (fun _ => 0)), .inl (cT 0, 5, .inl (fun _ => 0)), .inl (cT 0, 5, .inl (fun _ => 0)), .inl (cT 0, 5, .inl (fun _ => 0)), .inl (cT 0, 40, .inl (fun _ => 0)), .inl (cT 0, 5, .inl (fun _ => 0)), .inl (cT 0, 5, .inl (fun _ => 0)), .inl (cT 0, 8, .inl (fun _ => 0)), .inl (cT 2, 8, .inl (fun _ => 0)), .inl (cT 0, 8, .inl (fun _ => 0)), .inl (cT 0, 5, .inl (fun _ => 0)), .inl (cT 0, 8, .inl (fun _ => 0)), .inl (cT 2, 256, .inl (fun _ => 0))]) H ∧ va_S (gb_fr b 22) s.heap H locs ∧ lv_has ls 8 [(6, .int (nI i)), (0, .ref (b + 0)), (1, .int p1), (2, .int p2), (3, .int p3), (4, .int p4), (5, .int p5)]) 20 ?_ ?_ 0 _ _ _ (by decide) ⟨_, rfl, hP, hS, hl⟩
  · intro i H locs ls hi hI ih
    obtain ⟨F, hf_20_0, hP, hS, hl⟩ := hI
    refine lv_iload hx hb dX12_feed_20 (lv_at hl 0 rfl) ?_
    refine lv_bipush (v := 20) hx hb dX12_feed_22 (by decide) ?_
    refine lv_icmp_ge (tgt := 122) hx hb dX12_feed_24 (by decide) (fun c_24 => absurd c_24 (nI_ge hi (by decide))) (fun c_24 => ?_)
    refine lv_iload hx hb dX12_feed_27 (lv_at hl 0 rfl) ?_
    refine lv_iconst (v := 4) hx hb dX12_feed_29 (by decide) ?_
    refine lv_icmp_ge (tgt := 37) hx hb dX12_feed_30 (by decide) (fun c_30 => ?_) (fun c_30 => ?_)
    · refine lv_iload hx hb dX12_feed_37 (lv_at hl 0 rfl) ?_
      refine lv_bipush (v := 8) hx hb dX12_feed_39 (by decide) ?_
      refine lv_icmp_ge (tgt := 48) hx hb dX12_feed_41 (by decide) (fun c_41 => ?_) (fun c_41 => ?_)
      · refine lv_iload hx hb dX12_feed_48 (lv_at hl 0 rfl) ?_
        refine lv_bipush (v := 12) hx hb dX12_feed_50 (by decide) ?_
        refine lv_icmp_ge (tgt := 59) hx hb dX12_feed_52 (by decide) (fun c_52 => ?_) (fun c_52 => ?_)
        · refine lv_iload hx hb dX12_feed_59 (lv_at hl 0 rfl) ?_
          refine lv_bipush (v := 16) hx hb dX12_feed_61 (by decide) ?_
          refine lv_icmp_ge (tgt := 71) hx hb dX12_feed_63 (by decide) (fun c_63 => ?_) (fun c_63 => ?_)
          · refine lv_iload hx hb dX12_feed_71 (lv_at hl 6 rfl) ?_
            refine lv_istore (lv' := [(7, .int p5), (6, .int (nI i)), (0, .ref (b + 0)), (1, .int p1), (2, .int p2), (3, .int p3), (4, .int p4), (5, .int p5)]) hx hb dX12_feed_73 hl (by decide) rfl (fun ls hl => ?_)
            refine lv_aload_n hx hb dX12_feed_75 rfl (lv_at hl 2 rfl) ?_
            refine va_get (ci := 10) (v := (.ref (b + 1))) (C := RX12) (T := TX12) (N := 44) hx hb hq i_X12 hown hK hP 0 (gb_at b rfl) rfl 0 (by decide) (hq _ w_1124) (fun _ h9 => h9) rfl dX12_feed_76 ?_
            refine lv_bipush (v := 10) hx hb dX12_feed_79 (by decide) ?_
            refine lv_aload_n hx hb dX12_feed_81 rfl (lv_at hl 2 rfl) ?_
            refine va_get (ci := 10) (v := (.ref (b + 1))) (C := RX12) (T := TX12) (N := 44) hx hb hq i_X12 hown hK hP 0 (gb_at b rfl) rfl 0 (by decide) (hq _ w_1124) (fun _ h9 => h9) rfl dX12_feed_82 ?_
            refine lv_iconst (v := 4) hx hb dX12_feed_85 (by decide) ?_
            refine gb_iald (v := (nI i)) hx hb hK hP 1 0 (gb_at b rfl) rfl (gb_in rfl) hf_20_0 dX12_feed_86 ?_
            refine lv_iadd hx hb dX12_feed_87 ?_
            refine W.eq (g2 := F0 m 88 ls [.int (nI (10 + i)), .ref (b + 1)]) (congrArg (fun v => F0 m 88 ls (Value.int v :: [.ref (b + 1)])) (nI_add 10 i)) ?_
            refine lv_iload hx hb dX12_feed_88 (lv_at hl 0 rfl) ?_
            refine lv_bipush (v := 24) hx hb dX12_feed_90 (by decide) ?_
            refine lv_bipush (v := 8) hx hb dX12_feed_92 (by decide) ?_
            refine lv_iload hx hb dX12_feed_94 (lv_at hl 1 rfl) ?_
            refine lv_iconst (v := 4) hx hb dX12_feed_96 (by decide) ?_
            refine lv_irem hx hb dX12_feed_97 (by decide) ?_
            refine lv_topi (fun x_1 ex_1 => ?_)
            refine lv_imul hx hb dX12_feed_98 ?_
            refine lv_topi (fun x_2 ex_2 => ?_)
            refine lv_isub hx hb dX12_feed_99 ?_
            refine lv_topi (fun x_3 ex_3 => ?_)
            refine lv_ishr hx hb dX12_feed_100 ?_
            refine lv_topi (fun x_4 ex_4 => ?_)
            refine lv_sipush (v := 255) hx hb dX12_feed_101 (by decide) ?_
            refine lv_iand hx hb dX12_feed_104 ?_
            refine lv_topi (fun x_5 ex_5 => ?_)
            refine gb_iast (x := x_5) hx hb hK hP (fun k h => ⟨Nat.le_add_right b k, Nat.add_lt_add_left h b⟩) hS rfl 1 0 rfl rfl (vp_in_nI (by omega) (by decide)) dX12_feed_105 (fun H locs hP hz_ hS => ?_)
            have hP : va_P D vwCl (gb_wl b [.inr (10, [.ref (b + 1), .ref (b + 2), .int 0, .int 0, .int 0, .int 0, .int 0, .int 0, .int 0, .int 0, .ref (b + 3), .int 0, .int 0, .ref (b + 4), .ref (b + 5), .ref (b + 6), .ref (b + 7), .ref (b + 8), .ref (b + 9), .ref (b + 10), .ref (b + 11), .ref (b + 12), .int 0, .int 0, .int 0, .int 0, .ref (b + 13), .ref (b + 14), .int 0, .int 0, .ref (b + 15), .ref (b + 16), .ref (b + 17), .long 0, .int 0, .int 0, .int 0, .ref (b + 18), .int 0, .ref (b + 19), .ref (b + 20), .int 0, .int 0, .ref (b + 21)]), .inl (cT 0, 3968, .inl (upd F ((nI (10 + i))).toNatClampNeg x_5)), .inl (cT 2, 3, .inl (fun _ => 0)), .inl (cT 0, 97, .inl (fun _ => 0)), .inl (cT 0, 8, .inl (fun _ => 0)), .inl (cT 0, 8, .inl (fun _ => 0)), .inl (cT 0, 8, .inl (fun _ => 0)), .inl (cT 0, 8, .inl (fun _ => 0)), .inl (cT 2, 8, .inl (fun _ => 0)), .inl (cT 0, 40, .inl (fun _ => 0)), .inl (cT 0, 5, .inl (fun _ => 0)), .inl (cT 0, 5, .inl (fun _ => 0)), .inl (cT 0, 5, .inl (fun _ => 0)), .inl (cT 0, 40, .inl (fun _ => 0)), .inl (cT 0, 5, .inl (fun _ => 0)), .inl (cT 0, 5, .inl (fun _ => 0)), .inl (cT 0, 8, .inl (fun _ => 0)), .inl (cT 2, 8, .inl (fun _ => 0)), .inl (cT 0, 8, .inl (fun _ => 0)), .inl (cT 0, 5, .inl (fun _ => 0)), .inl (cT 0, 8, .inl (fun _ => 0)), .inl (cT 2, 256, .inl (fun _ => 0))]) H := hP
            refine lv_aload_n hx hb dX12_feed_106 rfl (lv_at hl 2 rfl) ?_
            refine va_get (ci := 10) (v := (.ref (b + 1))) (C := RX12) (T := TX12) (N := 44) hx hb hq i_X12 hown hK hP 0 (gb_at b rfl) rfl 0 (by decide) (hq _ w_1124) (fun _ h9 => h9) rfl dX12_feed_107 ?_
            refine lv_iconst (v := 4) hx hb dX12_feed_110 (by decide) ?_
            refine lv_dup2_11 hx hb dX12_feed_111 rfl rfl ?_
            refine gb_iald (v := (nI i)) hx hb hK hP 1 0 (gb_at b rfl) rfl (gb_in rfl) ((pk_un (by rw [nI_clamp (by omega)]; show (4 : Nat) ≠ 10 + i; omega)).trans hf_20_0) dX12_feed_112 ?_
            refine lv_iconst (v := 1) hx hb dX12_feed_113 (by decide) ?_
            refine lv_iadd hx hb dX12_feed_114 ?_
            refine W.eq (g2 := F0 m 115 ls [.int (nI (i + 1)), .int 4, .ref (b + 1)]) (congrArg (fun v => F0 m 115 ls (Value.int v :: [.int 4, .ref (b + 1)])) (nI_add i 1)) ?_
            refine gb_iast (x := (nI (i + 1))) hx hb hK hP (fun k h => ⟨Nat.le_add_right b k, Nat.add_lt_add_left h b⟩) hS rfl 1 0 rfl rfl (gb_in rfl) dX12_feed_115 (fun H locs hP hz_ hS => ?_)
            have hP : va_P D vwCl (gb_wl b [.inr (10, [.ref (b + 1), .ref (b + 2), .int 0, .int 0, .int 0, .int 0, .int 0, .int 0, .int 0, .int 0, .ref (b + 3), .int 0, .int 0, .ref (b + 4), .ref (b + 5), .ref (b + 6), .ref (b + 7), .ref (b + 8), .ref (b + 9), .ref (b + 10), .ref (b + 11), .ref (b + 12), .int 0, .int 0, .int 0, .int 0, .ref (b + 13), .ref (b + 14), .int 0, .int 0, .ref (b + 15), .ref (b + 16), .ref (b + 17), .long 0, .int 0, .int 0, .int 0, .ref (b + 18), .int 0, .ref (b + 19), .ref (b + 20), .int 0, .int 0, .ref (b + 21)]), .inl (cT 0, 3968, .inl (upd (upd F ((nI (10 + i))).toNatClampNeg x_5) 4 (nI (i + 1)))), .inl (cT 2, 3, .inl (fun _ => 0)), .inl (cT 0, 97, .inl (fun _ => 0)), .inl (cT 0, 8, .inl (fun _ => 0)), .inl (cT 0, 8, .inl (fun _ => 0)), .inl (cT 0, 8, .inl (fun _ => 0)), .inl (cT 0, 8, .inl (fun _ => 0)), .inl (cT 2, 8, .inl (fun _ => 0)), .inl (cT 0, 40, .inl (fun _ => 0)), .inl (cT 0, 5, .inl (fun _ => 0)), .inl (cT 0, 5, .inl (fun _ => 0)), .inl (cT 0, 5, .inl (fun _ => 0)), .inl (cT 0, 40, .inl (fun _ => 0)), .inl (cT 0, 5, .inl (fun _ => 0)), .inl (cT 0, 5, .inl (fun _ => 0)), .inl (cT 0, 8, .inl (fun _ => 0)), .inl (cT 2, 8, .inl (fun _ => 0)), .inl (cT 0, 8, .inl (fun _ => 0)), .inl (cT 0, 5, .inl (fun _ => 0)), .inl (cT 0, 8, .inl (fun _ => 0)), .inl (cT 2, 256, .inl (fun _ => 0))]) H := hP
            refine lv_iinc (v := (nI (i + 1))) (lv' := [(6, .int (nI (i + 1))), (7, .int p5), (0, .ref (b + 0)), (1, .int p1), (2, .int p2), (3, .int p3), (4, .int p4), (5, .int p5)]) hx hb dX12_feed_116 hl (k := 1) rfl (nI_succ i).symm (by decide) rfl (fun ls hl => ?_)
            refine lv_goto (tgt := 20) hx hb dX12_feed_119 (by decide) ?_
            exact ih _ _ _ ⟨_, pk_us, hP, hS, lv_sub hl [0, 2, 3, 4, 5, 6, 7] rfl⟩
          · refine lv_iload hx hb dX12_feed_66 (lv_at hl 5 rfl) ?_
            refine lv_goto (tgt := 73) hx hb dX12_feed_68 (by decide) ?_
            refine lv_istore (lv' := [(7, .int p4), (6, .int (nI i)), (0, .ref (b + 0)), (1, .int p1), (2, .int p2), (3, .int p3), (4, .int p4), (5, .int p5)]) hx hb dX12_feed_73 hl (by decide) rfl (fun ls hl => ?_)
            refine lv_aload_n hx hb dX12_feed_75 rfl (lv_at hl 2 rfl) ?_
            refine va_get (ci := 10) (v := (.ref (b + 1))) (C := RX12) (T := TX12) (N := 44) hx hb hq i_X12 hown hK hP 0 (gb_at b rfl) rfl 0 (by decide) (hq _ w_1124) (fun _ h9 => h9) rfl dX12_feed_76 ?_
            refine lv_bipush (v := 10) hx hb dX12_feed_79 (by decide) ?_
            refine lv_aload_n hx hb dX12_feed_81 rfl (lv_at hl 2 rfl) ?_
            refine va_get (ci := 10) (v := (.ref (b + 1))) (C := RX12) (T := TX12) (N := 44) hx hb hq i_X12 hown hK hP 0 (gb_at b rfl) rfl 0 (by decide) (hq _ w_1124) (fun _ h9 => h9) rfl dX12_feed_82 ?_
            refine lv_iconst (v := 4) hx hb dX12_feed_85 (by decide) ?_
            refine gb_iald (v := (nI i)) hx hb hK hP 1 0 (gb_at b rfl) rfl (gb_in rfl) hf_20_0 dX12_feed_86 ?_
            refine lv_iadd hx hb dX12_feed_87 ?_
            refine W.eq (g2 := F0 m 88 ls [.int (nI (10 + i)), .ref (b + 1)]) (congrArg (fun v => F0 m 88 ls (Value.int v :: [.ref (b + 1)])) (nI_add 10 i)) ?_
            refine lv_iload hx hb dX12_feed_88 (lv_at hl 0 rfl) ?_
            refine lv_bipush (v := 24) hx hb dX12_feed_90 (by decide) ?_
            refine lv_bipush (v := 8) hx hb dX12_feed_92 (by decide) ?_
            refine lv_iload hx hb dX12_feed_94 (lv_at hl 1 rfl) ?_
            refine lv_iconst (v := 4) hx hb dX12_feed_96 (by decide) ?_
            refine lv_irem hx hb dX12_feed_97 (by decide) ?_
            refine lv_topi (fun x_6 ex_6 => ?_)
            refine lv_imul hx hb dX12_feed_98 ?_
            refine lv_topi (fun x_7 ex_7 => ?_)
            refine lv_isub hx hb dX12_feed_99 ?_
            refine lv_topi (fun x_8 ex_8 => ?_)
            refine lv_ishr hx hb dX12_feed_100 ?_
            refine lv_topi (fun x_9 ex_9 => ?_)
            refine lv_sipush (v := 255) hx hb dX12_feed_101 (by decide) ?_
            refine lv_iand hx hb dX12_feed_104 ?_
            refine lv_topi (fun x_10 ex_10 => ?_)
            refine gb_iast (x := x_10) hx hb hK hP (fun k h => ⟨Nat.le_add_right b k, Nat.add_lt_add_left h b⟩) hS rfl 1 0 rfl rfl (vp_in_nI (by omega) (by decide)) dX12_feed_105 (fun H locs hP hz_ hS => ?_)
            have hP : va_P D vwCl (gb_wl b [.inr (10, [.ref (b + 1), .ref (b + 2), .int 0, .int 0, .int 0, .int 0, .int 0, .int 0, .int 0, .int 0, .ref (b + 3), .int 0, .int 0, .ref (b + 4), .ref (b + 5), .ref (b + 6), .ref (b + 7), .ref (b + 8), .ref (b + 9), .ref (b + 10), .ref (b + 11), .ref (b + 12), .int 0, .int 0, .int 0, .int 0, .ref (b + 13), .ref (b + 14), .int 0, .int 0, .ref (b + 15), .ref (b + 16), .ref (b + 17), .long 0, .int 0, .int 0, .int 0, .ref (b + 18), .int 0, .ref (b + 19), .ref (b + 20), .int 0, .int 0, .ref (b + 21)]), .inl (cT 0, 3968, .inl (upd F ((nI (10 + i))).toNatClampNeg x_10)), .inl (cT 2, 3, .inl (fun _ => 0)), .inl (cT 0, 97, .inl (fun _ => 0)), .inl (cT 0, 8, .inl (fun _ => 0)), .inl (cT 0, 8, .inl (fun _ => 0)), .inl (cT 0, 8, .inl (fun _ => 0)), .inl (cT 0, 8, .inl (fun _ => 0)), .inl (cT 2, 8, .inl (fun _ => 0)), .inl (cT 0, 40, .inl (fun _ => 0)), .inl (cT 0, 5, .inl (fun _ => 0)), .inl (cT 0, 5, .inl (fun _ => 0)), .inl (cT 0, 5, .inl (fun _ => 0)), .inl (cT 0, 40, .inl (fun _ => 0)), .inl (cT 0, 5, .inl (fun _ => 0)), .inl (cT 0, 5, .inl (fun _ => 0)), .inl (cT 0, 8, .inl (fun _ => 0)), .inl (cT 2, 8, .inl (fun _ => 0)), .inl (cT 0, 8, .inl (fun _ => 0)), .inl (cT 0, 5, .inl (fun _ => 0)), .inl (cT 0, 8, .inl (fun _ => 0)), .inl (cT 2, 256, .inl (fun _ => 0))]) H := hP
            refine lv_aload_n hx hb dX12_feed_106 rfl (lv_at hl 2 rfl) ?_
            refine va_get (ci := 10) (v := (.ref (b + 1))) (C := RX12) (T := TX12) (N := 44) hx hb hq i_X12 hown hK hP 0 (gb_at b rfl) rfl 0 (by decide) (hq _ w_1124) (fun _ h9 => h9) rfl dX12_feed_107 ?_
            refine lv_iconst (v := 4) hx hb dX12_feed_110 (by decide) ?_
            refine lv_dup2_11 hx hb dX12_feed_111 rfl rfl ?_
            refine gb_iald (v := (nI i)) hx hb hK hP 1 0 (gb_at b rfl) rfl (gb_in rfl) ((pk_un (by rw [nI_clamp (by omega)]; show (4 : Nat) ≠ 10 + i; omega)).trans hf_20_0) dX12_feed_112 ?_
            refine lv_iconst (v := 1) hx hb dX12_feed_113 (by decide) ?_
            refine lv_iadd hx hb dX12_feed_114 ?_
            refine W.eq (g2 := F0 m 115 ls [.int (nI (i + 1)), .int 4, .ref (b + 1)]) (congrArg (fun v => F0 m 115 ls (Value.int v :: [.int 4, .ref (b + 1)])) (nI_add i 1)) ?_
            refine gb_iast (x := (nI (i + 1))) hx hb hK hP (fun k h => ⟨Nat.le_add_right b k, Nat.add_lt_add_left h b⟩) hS rfl 1 0 rfl rfl (gb_in rfl) dX12_feed_115 (fun H locs hP hz_ hS => ?_)
            have hP : va_P D vwCl (gb_wl b [.inr (10, [.ref (b + 1), .ref (b + 2), .int 0, .int 0, .int 0, .int 0, .int 0, .int 0, .int 0, .int 0, .ref (b + 3), .int 0, .int 0, .ref (b + 4), .ref (b + 5), .ref (b + 6), .ref (b + 7), .ref (b + 8), .ref (b + 9), .ref (b + 10), .ref (b + 11), .ref (b + 12), .int 0, .int 0, .int 0, .int 0, .ref (b + 13), .ref (b + 14), .int 0, .int 0, .ref (b + 15), .ref (b + 16), .ref (b + 17), .long 0, .int 0, .int 0, .int 0, .ref (b + 18), .int 0, .ref (b + 19), .ref (b + 20), .int 0, .int 0, .ref (b + 21)]), .inl (cT 0, 3968, .inl (upd (upd F ((nI (10 + i))).toNatClampNeg x_10) 4 (nI (i + 1)))), .inl (cT 2, 3, .inl (fun _ => 0)), .inl (cT 0, 97, .inl (fun _ => 0)), .inl (cT 0, 8, .inl (fun _ => 0)), .inl (cT 0, 8, .inl (fun _ => 0)), .inl (cT 0, 8, .inl (fun _ => 0)), .inl (cT 0, 8, .inl (fun _ => 0)), .inl (cT 2, 8, .inl (fun _ => 0)), .inl (cT 0, 40, .inl (fun _ => 0)), .inl (cT 0, 5, .inl (fun _ => 0)), .inl (cT 0, 5, .inl (fun _ => 0)), .inl (cT 0, 5, .inl (fun _ => 0)), .inl (cT 0, 40, .inl (fun _ => 0)), .inl (cT 0, 5, .inl (fun _ => 0)), .inl (cT 0, 5, .inl (fun _ => 0)), .inl (cT 0, 8, .inl (fun _ => 0)), .inl (cT 2, 8, .inl (fun _ => 0)), .inl (cT 0, 8, .inl (fun _ => 0)), .inl (cT 0, 5, .inl (fun _ => 0)), .inl (cT 0, 8, .inl (fun _ => 0)), .inl (cT 2, 256, .inl (fun _ => 0))]) H := hP
            refine lv_iinc (v := (nI (i + 1))) (lv' := [(6, .int (nI (i + 1))), (7, .int p4), (0, .ref (b + 0)), (1, .int p1), (2, .int p2), (3, .int p3), (4, .int p4), (5, .int p5)]) hx hb dX12_feed_116 hl (k := 1) rfl (nI_succ i).symm (by decide) rfl (fun ls hl => ?_)
            refine lv_goto (tgt := 20) hx hb dX12_feed_119 (by decide) ?_
            exact ih _ _ _ ⟨_, pk_us, hP, hS, lv_sub hl [0, 2, 3, 4, 5, 6, 7] rfl⟩
        · refine lv_iload_n hx hb dX12_feed_55 rfl (lv_at hl 4 rfl) ?_
          refine lv_goto (tgt := 73) hx hb dX12_feed_56 (by decide) ?_
          refine lv_istore (lv' := [(7, .int p3), (6, .int (nI i)), (0, .ref (b + 0)), (1, .int p1), (2, .int p2), (3, .int p3), (4, .int p4), (5, .int p5)]) hx hb dX12_feed_73 hl (by decide) rfl (fun ls hl => ?_)
          refine lv_aload_n hx hb dX12_feed_75 rfl (lv_at hl 2 rfl) ?_
          refine va_get (ci := 10) (v := (.ref (b + 1))) (C := RX12) (T := TX12) (N := 44) hx hb hq i_X12 hown hK hP 0 (gb_at b rfl) rfl 0 (by decide) (hq _ w_1124) (fun _ h9 => h9) rfl dX12_feed_76 ?_
          refine lv_bipush (v := 10) hx hb dX12_feed_79 (by decide) ?_
          refine lv_aload_n hx hb dX12_feed_81 rfl (lv_at hl 2 rfl) ?_
          refine va_get (ci := 10) (v := (.ref (b + 1))) (C := RX12) (T := TX12) (N := 44) hx hb hq i_X12 hown hK hP 0 (gb_at b rfl) rfl 0 (by decide) (hq _ w_1124) (fun _ h9 => h9) rfl dX12_feed_82 ?_
          refine lv_iconst (v := 4) hx hb dX12_feed_85 (by decide) ?_
          refine gb_iald (v := (nI i)) hx hb hK hP 1 0 (gb_at b rfl) rfl (gb_in rfl) hf_20_0 dX12_feed_86 ?_
          refine lv_iadd hx hb dX12_feed_87 ?_
          refine W.eq (g2 := F0 m 88 ls [.int (nI (10 + i)), .ref (b + 1)]) (congrArg (fun v => F0 m 88 ls (Value.int v :: [.ref (b + 1)])) (nI_add 10 i)) ?_
          refine lv_iload hx hb dX12_feed_88 (lv_at hl 0 rfl) ?_
          refine lv_bipush (v := 24) hx hb dX12_feed_90 (by decide) ?_
          refine lv_bipush (v := 8) hx hb dX12_feed_92 (by decide) ?_
          refine lv_iload hx hb dX12_feed_94 (lv_at hl 1 rfl) ?_
          refine lv_iconst (v := 4) hx hb dX12_feed_96 (by decide) ?_
          refine lv_irem hx hb dX12_feed_97 (by decide) ?_
          refine lv_topi (fun x_11 ex_11 => ?_)
          refine lv_imul hx hb dX12_feed_98 ?_
          refine lv_topi (fun x_12 ex_12 => ?_)
          refine lv_isub hx hb dX12_feed_99 ?_
          refine lv_topi (fun x_13 ex_13 => ?_)
          refine lv_ishr hx hb dX12_feed_100 ?_
          refine lv_topi (fun x_14 ex_14 => ?_)
          refine lv_sipush (v := 255) hx hb dX12_feed_101 (by decide) ?_
          refine lv_iand hx hb dX12_feed_104 ?_
          refine lv_topi (fun x_15 ex_15 => ?_)
          refine gb_iast (x := x_15) hx hb hK hP (fun k h => ⟨Nat.le_add_right b k, Nat.add_lt_add_left h b⟩) hS rfl 1 0 rfl rfl (vp_in_nI (by omega) (by decide)) dX12_feed_105 (fun H locs hP hz_ hS => ?_)
          have hP : va_P D vwCl (gb_wl b [.inr (10, [.ref (b + 1), .ref (b + 2), .int 0, .int 0, .int 0, .int 0, .int 0, .int 0, .int 0, .int 0, .ref (b + 3), .int 0, .int 0, .ref (b + 4), .ref (b + 5), .ref (b + 6), .ref (b + 7), .ref (b + 8), .ref (b + 9), .ref (b + 10), .ref (b + 11), .ref (b + 12), .int 0, .int 0, .int 0, .int 0, .ref (b + 13), .ref (b + 14), .int 0, .int 0, .ref (b + 15), .ref (b + 16), .ref (b + 17), .long 0, .int 0, .int 0, .int 0, .ref (b + 18), .int 0, .ref (b + 19), .ref (b + 20), .int 0, .int 0, .ref (b + 21)]), .inl (cT 0, 3968, .inl (upd F ((nI (10 + i))).toNatClampNeg x_15)), .inl (cT 2, 3, .inl (fun _ => 0)), .inl (cT 0, 97, .inl (fun _ => 0)), .inl (cT 0, 8, .inl (fun _ => 0)), .inl (cT 0, 8, .inl (fun _ => 0)), .inl (cT 0, 8, .inl (fun _ => 0)), .inl (cT 0, 8, .inl (fun _ => 0)), .inl (cT 2, 8, .inl (fun _ => 0)), .inl (cT 0, 40, .inl (fun _ => 0)), .inl (cT 0, 5, .inl (fun _ => 0)), .inl (cT 0, 5, .inl (fun _ => 0)), .inl (cT 0, 5, .inl (fun _ => 0)), .inl (cT 0, 40, .inl (fun _ => 0)), .inl (cT 0, 5, .inl (fun _ => 0)), .inl (cT 0, 5, .inl (fun _ => 0)), .inl (cT 0, 8, .inl (fun _ => 0)), .inl (cT 2, 8, .inl (fun _ => 0)), .inl (cT 0, 8, .inl (fun _ => 0)), .inl (cT 0, 5, .inl (fun _ => 0)), .inl (cT 0, 8, .inl (fun _ => 0)), .inl (cT 2, 256, .inl (fun _ => 0))]) H := hP
          refine lv_aload_n hx hb dX12_feed_106 rfl (lv_at hl 2 rfl) ?_
          refine va_get (ci := 10) (v := (.ref (b + 1))) (C := RX12) (T := TX12) (N := 44) hx hb hq i_X12 hown hK hP 0 (gb_at b rfl) rfl 0 (by decide) (hq _ w_1124) (fun _ h9 => h9) rfl dX12_feed_107 ?_
          refine lv_iconst (v := 4) hx hb dX12_feed_110 (by decide) ?_
          refine lv_dup2_11 hx hb dX12_feed_111 rfl rfl ?_
          refine gb_iald (v := (nI i)) hx hb hK hP 1 0 (gb_at b rfl) rfl (gb_in rfl) ((pk_un (by rw [nI_clamp (by omega)]; show (4 : Nat) ≠ 10 + i; omega)).trans hf_20_0) dX12_feed_112 ?_
          refine lv_iconst (v := 1) hx hb dX12_feed_113 (by decide) ?_
          refine lv_iadd hx hb dX12_feed_114 ?_
          refine W.eq (g2 := F0 m 115 ls [.int (nI (i + 1)), .int 4, .ref (b + 1)]) (congrArg (fun v => F0 m 115 ls (Value.int v :: [.int 4, .ref (b + 1)])) (nI_add i 1)) ?_
          refine gb_iast (x := (nI (i + 1))) hx hb hK hP (fun k h => ⟨Nat.le_add_right b k, Nat.add_lt_add_left h b⟩) hS rfl 1 0 rfl rfl (gb_in rfl) dX12_feed_115 (fun H locs hP hz_ hS => ?_)
          have hP : va_P D vwCl (gb_wl b [.inr (10, [.ref (b + 1), .ref (b + 2), .int 0, .int 0, .int 0, .int 0, .int 0, .int 0, .int 0, .int 0, .ref (b + 3), .int 0, .int 0, .ref (b + 4), .ref (b + 5), .ref (b + 6), .ref (b + 7), .ref (b + 8), .ref (b + 9), .ref (b + 10), .ref (b + 11), .ref (b + 12), .int 0, .int 0, .int 0, .int 0, .ref (b + 13), .ref (b + 14), .int 0, .int 0, .ref (b + 15), .ref (b + 16), .ref (b + 17), .long 0, .int 0, .int 0, .int 0, .ref (b + 18), .int 0, .ref (b + 19), .ref (b + 20), .int 0, .int 0, .ref (b + 21)]), .inl (cT 0, 3968, .inl (upd (upd F ((nI (10 + i))).toNatClampNeg x_15) 4 (nI (i + 1)))), .inl (cT 2, 3, .inl (fun _ => 0)), .inl (cT 0, 97, .inl (fun _ => 0)), .inl (cT 0, 8, .inl (fun _ => 0)), .inl (cT 0, 8, .inl (fun _ => 0)), .inl (cT 0, 8, .inl (fun _ => 0)), .inl (cT 0, 8, .inl (fun _ => 0)), .inl (cT 2, 8, .inl (fun _ => 0)), .inl (cT 0, 40, .inl (fun _ => 0)), .inl (cT 0, 5, .inl (fun _ => 0)), .inl (cT 0, 5, .inl (fun _ => 0)), .inl (cT 0, 5, .inl (fun _ => 0)), .inl (cT 0, 40, .inl (fun _ => 0)), .inl (cT 0, 5, .inl (fun _ => 0)), .inl (cT 0, 5, .inl (fun _ => 0)), .inl (cT 0, 8, .inl (fun _ => 0)), .inl (cT 2, 8, .inl (fun _ => 0)), .inl (cT 0, 8, .inl (fun _ => 0)), .inl (cT 0, 5, .inl (fun _ => 0)), .inl (cT 0, 8, .inl (fun _ => 0)), .inl (cT 2, 256, .inl (fun _ => 0))]) H := hP
          refine lv_iinc (v := (nI (i + 1))) (lv' := [(6, .int (nI (i + 1))), (7, .int p3), (0, .ref (b + 0)), (1, .int p1), (2, .int p2), (3, .int p3), (4, .int p4), (5, .int p5)]) hx hb dX12_feed_116 hl (k := 1) rfl (nI_succ i).symm (by decide) rfl (fun ls hl => ?_)
          refine lv_goto (tgt := 20) hx hb dX12_feed_119 (by decide) ?_
          exact ih _ _ _ ⟨_, pk_us, hP, hS, lv_sub hl [0, 2, 3, 4, 5, 6, 7] rfl⟩
      · refine lv_iload_n hx hb dX12_feed_44 rfl (lv_at hl 3 rfl) ?_
        refine lv_goto (tgt := 73) hx hb dX12_feed_45 (by decide) ?_
        refine lv_istore (lv' := [(7, .int p2), (6, .int (nI i)), (0, .ref (b + 0)), (1, .int p1), (2, .int p2), (3, .int p3), (4, .int p4), (5, .int p5)]) hx hb dX12_feed_73 hl (by decide) rfl (fun ls hl => ?_)
        refine lv_aload_n hx hb dX12_feed_75 rfl (lv_at hl 2 rfl) ?_
        refine va_get (ci := 10) (v := (.ref (b + 1))) (C := RX12) (T := TX12) (N := 44) hx hb hq i_X12 hown hK hP 0 (gb_at b rfl) rfl 0 (by decide) (hq _ w_1124) (fun _ h9 => h9) rfl dX12_feed_76 ?_
        refine lv_bipush (v := 10) hx hb dX12_feed_79 (by decide) ?_
        refine lv_aload_n hx hb dX12_feed_81 rfl (lv_at hl 2 rfl) ?_
        refine va_get (ci := 10) (v := (.ref (b + 1))) (C := RX12) (T := TX12) (N := 44) hx hb hq i_X12 hown hK hP 0 (gb_at b rfl) rfl 0 (by decide) (hq _ w_1124) (fun _ h9 => h9) rfl dX12_feed_82 ?_
        refine lv_iconst (v := 4) hx hb dX12_feed_85 (by decide) ?_
        refine gb_iald (v := (nI i)) hx hb hK hP 1 0 (gb_at b rfl) rfl (gb_in rfl) hf_20_0 dX12_feed_86 ?_
        refine lv_iadd hx hb dX12_feed_87 ?_
        refine W.eq (g2 := F0 m 88 ls [.int (nI (10 + i)), .ref (b + 1)]) (congrArg (fun v => F0 m 88 ls (Value.int v :: [.ref (b + 1)])) (nI_add 10 i)) ?_
        refine lv_iload hx hb dX12_feed_88 (lv_at hl 0 rfl) ?_
        refine lv_bipush (v := 24) hx hb dX12_feed_90 (by decide) ?_
        refine lv_bipush (v := 8) hx hb dX12_feed_92 (by decide) ?_
        refine lv_iload hx hb dX12_feed_94 (lv_at hl 1 rfl) ?_
        refine lv_iconst (v := 4) hx hb dX12_feed_96 (by decide) ?_
        refine lv_irem hx hb dX12_feed_97 (by decide) ?_
        refine lv_topi (fun x_16 ex_16 => ?_)
        refine lv_imul hx hb dX12_feed_98 ?_
        refine lv_topi (fun x_17 ex_17 => ?_)
        refine lv_isub hx hb dX12_feed_99 ?_
        refine lv_topi (fun x_18 ex_18 => ?_)
        refine lv_ishr hx hb dX12_feed_100 ?_
        refine lv_topi (fun x_19 ex_19 => ?_)
        refine lv_sipush (v := 255) hx hb dX12_feed_101 (by decide) ?_
        refine lv_iand hx hb dX12_feed_104 ?_
        refine lv_topi (fun x_20 ex_20 => ?_)
        refine gb_iast (x := x_20) hx hb hK hP (fun k h => ⟨Nat.le_add_right b k, Nat.add_lt_add_left h b⟩) hS rfl 1 0 rfl rfl (vp_in_nI (by omega) (by decide)) dX12_feed_105 (fun H locs hP hz_ hS => ?_)
        have hP : va_P D vwCl (gb_wl b [.inr (10, [.ref (b + 1), .ref (b + 2), .int 0, .int 0, .int 0, .int 0, .int 0, .int 0, .int 0, .int 0, .ref (b + 3), .int 0, .int 0, .ref (b + 4), .ref (b + 5), .ref (b + 6), .ref (b + 7), .ref (b + 8), .ref (b + 9), .ref (b + 10), .ref (b + 11), .ref (b + 12), .int 0, .int 0, .int 0, .int 0, .ref (b + 13), .ref (b + 14), .int 0, .int 0, .ref (b + 15), .ref (b + 16), .ref (b + 17), .long 0, .int 0, .int 0, .int 0, .ref (b + 18), .int 0, .ref (b + 19), .ref (b + 20), .int 0, .int 0, .ref (b + 21)]), .inl (cT 0, 3968, .inl (upd F ((nI (10 + i))).toNatClampNeg x_20)), .inl (cT 2, 3, .inl (fun _ => 0)), .inl (cT 0, 97, .inl (fun _ => 0)), .inl (cT 0, 8, .inl (fun _ => 0)), .inl (cT 0, 8, .inl (fun _ => 0)), .inl (cT 0, 8, .inl (fun _ => 0)), .inl (cT 0, 8, .inl (fun _ => 0)), .inl (cT 2, 8, .inl (fun _ => 0)), .inl (cT 0, 40, .inl (fun _ => 0)), .inl (cT 0, 5, .inl (fun _ => 0)), .inl (cT 0, 5, .inl (fun _ => 0)), .inl (cT 0, 5, .inl (fun _ => 0)), .inl (cT 0, 40, .inl (fun _ => 0)), .inl (cT 0, 5, .inl (fun _ => 0)), .inl (cT 0, 5, .inl (fun _ => 0)), .inl (cT 0, 8, .inl (fun _ => 0)), .inl (cT 2, 8, .inl (fun _ => 0)), .inl (cT 0, 8, .inl (fun _ => 0)), .inl (cT 0, 5, .inl (fun _ => 0)), .inl (cT 0, 8, .inl (fun _ => 0)), .inl (cT 2, 256, .inl (fun _ => 0))]) H := hP
        refine lv_aload_n hx hb dX12_feed_106 rfl (lv_at hl 2 rfl) ?_
        refine va_get (ci := 10) (v := (.ref (b + 1))) (C := RX12) (T := TX12) (N := 44) hx hb hq i_X12 hown hK hP 0 (gb_at b rfl) rfl 0 (by decide) (hq _ w_1124) (fun _ h9 => h9) rfl dX12_feed_107 ?_
        refine lv_iconst (v := 4) hx hb dX12_feed_110 (by decide) ?_
        refine lv_dup2_11 hx hb dX12_feed_111 rfl rfl ?_
        refine gb_iald (v := (nI i)) hx hb hK hP 1 0 (gb_at b rfl) rfl (gb_in rfl) ((pk_un (by rw [nI_clamp (by omega)]; show (4 : Nat) ≠ 10 + i; omega)).trans hf_20_0) dX12_feed_112 ?_
        refine lv_iconst (v := 1) hx hb dX12_feed_113 (by decide) ?_
        refine lv_iadd hx hb dX12_feed_114 ?_
        refine W.eq (g2 := F0 m 115 ls [.int (nI (i + 1)), .int 4, .ref (b + 1)]) (congrArg (fun v => F0 m 115 ls (Value.int v :: [.int 4, .ref (b + 1)])) (nI_add i 1)) ?_
        refine gb_iast (x := (nI (i + 1))) hx hb hK hP (fun k h => ⟨Nat.le_add_right b k, Nat.add_lt_add_left h b⟩) hS rfl 1 0 rfl rfl (gb_in rfl) dX12_feed_115 (fun H locs hP hz_ hS => ?_)
        have hP : va_P D vwCl (gb_wl b [.inr (10, [.ref (b + 1), .ref (b + 2), .int 0, .int 0, .int 0, .int 0, .int 0, .int 0, .int 0, .int 0, .ref (b + 3), .int 0, .int 0, .ref (b + 4), .ref (b + 5), .ref (b + 6), .ref (b + 7), .ref (b + 8), .ref (b + 9), .ref (b + 10), .ref (b + 11), .ref (b + 12), .int 0, .int 0, .int 0, .int 0, .ref (b + 13), .ref (b + 14), .int 0, .int 0, .ref (b + 15), .ref (b + 16), .ref (b + 17), .long 0, .int 0, .int 0, .int 0, .ref (b + 18), .int 0, .ref (b + 19), .ref (b + 20), .int 0, .int 0, .ref (b + 21)]), .inl (cT 0, 3968, .inl (upd (upd F ((nI (10 + i))).toNatClampNeg x_20) 4 (nI (i + 1)))), .inl (cT 2, 3, .inl (fun _ => 0)), .inl (cT 0, 97, .inl (fun _ => 0)), .inl (cT 0, 8, .inl (fun _ => 0)), .inl (cT 0, 8, .inl (fun _ => 0)), .inl (cT 0, 8, .inl (fun _ => 0)), .inl (cT 0, 8, .inl (fun _ => 0)), .inl (cT 2, 8, .inl (fun _ => 0)), .inl (cT 0, 40, .inl (fun _ => 0)), .inl (cT 0, 5, .inl (fun _ => 0)), .inl (cT 0, 5, .inl (fun _ => 0)), .inl (cT 0, 5, .inl (fun _ => 0)), .inl (cT 0, 40, .inl (fun _ => 0)), .inl (cT 0, 5, .inl (fun _ => 0)), .inl (cT 0, 5, .inl (fun _ => 0)), .inl (cT 0, 8, .inl (fun _ => 0)), .inl (cT 2, 8, .inl (fun _ => 0)), .inl (cT 0, 8, .inl (fun _ => 0)), .inl (cT 0, 5, .inl (fun _ => 0)), .inl (cT 0, 8, .inl (fun _ => 0)), .inl (cT 2, 256, .inl (fun _ => 0))]) H := hP
        refine lv_iinc (v := (nI (i + 1))) (lv' := [(6, .int (nI (i + 1))), (7, .int p2), (0, .ref (b + 0)), (1, .int p1), (2, .int p2), (3, .int p3), (4, .int p4), (5, .int p5)]) hx hb dX12_feed_116 hl (k := 1) rfl (nI_succ i).symm (by decide) rfl (fun ls hl => ?_)
        refine lv_goto (tgt := 20) hx hb dX12_feed_119 (by decide) ?_
        exact ih _ _ _ ⟨_, pk_us, hP, hS, lv_sub hl [0, 2, 3, 4, 5, 6, 7] rfl⟩
    · refine lv_iload_n hx hb dX12_feed_33 rfl (lv_at hl 2 rfl) ?_
      refine lv_goto (tgt := 73) hx hb dX12_feed_34 (by decide) ?_
      refine lv_istore (lv' := [(7, .int p1), (6, .int (nI i)), (0, .ref (b + 0)), (1, .int p1), (2, .int p2), (3, .int p3), (4, .int p4), (5, .int p5)]) hx hb dX12_feed_73 hl (by decide) rfl (fun ls hl => ?_)
      refine lv_aload_n hx hb dX12_feed_75 rfl (lv_at hl 2 rfl) ?_
      refine va_get (ci := 10) (v := (.ref (b + 1))) (C := RX12) (T := TX12) (N := 44) hx hb hq i_X12 hown hK hP 0 (gb_at b rfl) rfl 0 (by decide) (hq _ w_1124) (fun _ h9 => h9) rfl dX12_feed_76 ?_
      refine lv_bipush (v := 10) hx hb dX12_feed_79 (by decide) ?_
      refine lv_aload_n hx hb dX12_feed_81 rfl (lv_at hl 2 rfl) ?_
      refine va_get (ci := 10) (v := (.ref (b + 1))) (C := RX12) (T := TX12) (N := 44) hx hb hq i_X12 hown hK hP 0 (gb_at b rfl) rfl 0 (by decide) (hq _ w_1124) (fun _ h9 => h9) rfl dX12_feed_82 ?_
      refine lv_iconst (v := 4) hx hb dX12_feed_85 (by decide) ?_
      refine gb_iald (v := (nI i)) hx hb hK hP 1 0 (gb_at b rfl) rfl (gb_in rfl) hf_20_0 dX12_feed_86 ?_
      refine lv_iadd hx hb dX12_feed_87 ?_
      refine W.eq (g2 := F0 m 88 ls [.int (nI (10 + i)), .ref (b + 1)]) (congrArg (fun v => F0 m 88 ls (Value.int v :: [.ref (b + 1)])) (nI_add 10 i)) ?_
      refine lv_iload hx hb dX12_feed_88 (lv_at hl 0 rfl) ?_
      refine lv_bipush (v := 24) hx hb dX12_feed_90 (by decide) ?_
      refine lv_bipush (v := 8) hx hb dX12_feed_92 (by decide) ?_
      refine lv_iload hx hb dX12_feed_94 (lv_at hl 1 rfl) ?_
      refine lv_iconst (v := 4) hx hb dX12_feed_96 (by decide) ?_
      refine lv_irem hx hb dX12_feed_97 (by decide) ?_
      refine lv_topi (fun x_21 ex_21 => ?_)
      refine lv_imul hx hb dX12_feed_98 ?_
      refine lv_topi (fun x_22 ex_22 => ?_)
      refine lv_isub hx hb dX12_feed_99 ?_
      refine lv_topi (fun x_23 ex_23 => ?_)
      refine lv_ishr hx hb dX12_feed_100 ?_
      refine lv_topi (fun x_24 ex_24 => ?_)
      refine lv_sipush (v := 255) hx hb dX12_feed_101 (by decide) ?_
      refine lv_iand hx hb dX12_feed_104 ?_
      refine lv_topi (fun x_25 ex_25 => ?_)
      refine gb_iast (x := x_25) hx hb hK hP (fun k h => ⟨Nat.le_add_right b k, Nat.add_lt_add_left h b⟩) hS rfl 1 0 rfl rfl (vp_in_nI (by omega) (by decide)) dX12_feed_105 (fun H locs hP hz_ hS => ?_)
      have hP : va_P D vwCl (gb_wl b [.inr (10, [.ref (b + 1), .ref (b + 2), .int 0, .int 0, .int 0, .int 0, .int 0, .int 0, .int 0, .int 0, .ref (b + 3), .int 0, .int 0, .ref (b + 4), .ref (b + 5), .ref (b + 6), .ref (b + 7), .ref (b + 8), .ref (b + 9), .ref (b + 10), .ref (b + 11), .ref (b + 12), .int 0, .int 0, .int 0, .int 0, .ref (b + 13), .ref (b + 14), .int 0, .int 0, .ref (b + 15), .ref (b + 16), .ref (b + 17), .long 0, .int 0, .int 0, .int 0, .ref (b + 18), .int 0, .ref (b + 19), .ref (b + 20), .int 0, .int 0, .ref (b + 21)]), .inl (cT 0, 3968, .inl (upd F ((nI (10 + i))).toNatClampNeg x_25)), .inl (cT 2, 3, .inl (fun _ => 0)), .inl (cT 0, 97, .inl (fun _ => 0)), .inl (cT 0, 8, .inl (fun _ => 0)), .inl (cT 0, 8, .inl (fun _ => 0)), .inl (cT 0, 8, .inl (fun _ => 0)), .inl (cT 0, 8, .inl (fun _ => 0)), .inl (cT 2, 8, .inl (fun _ => 0)), .inl (cT 0, 40, .inl (fun _ => 0)), .inl (cT 0, 5, .inl (fun _ => 0)), .inl (cT 0, 5, .inl (fun _ => 0)), .inl (cT 0, 5, .inl (fun _ => 0)), .inl (cT 0, 40, .inl (fun _ => 0)), .inl (cT 0, 5, .inl (fun _ => 0)), .inl (cT 0, 5, .inl (fun _ => 0)), .inl (cT 0, 8, .inl (fun _ => 0)), .inl (cT 2, 8, .inl (fun _ => 0)), .inl (cT 0, 8, .inl (fun _ => 0)), .inl (cT 0, 5, .inl (fun _ => 0)), .inl (cT 0, 8, .inl (fun _ => 0)), .inl (cT 2, 256, .inl (fun _ => 0))]) H := hP
      refine lv_aload_n hx hb dX12_feed_106 rfl (lv_at hl 2 rfl) ?_
      refine va_get (ci := 10) (v := (.ref (b + 1))) (C := RX12) (T := TX12) (N := 44) hx hb hq i_X12 hown hK hP 0 (gb_at b rfl) rfl 0 (by decide) (hq _ w_1124) (fun _ h9 => h9) rfl dX12_feed_107 ?_
      refine lv_iconst (v := 4) hx hb dX12_feed_110 (by decide) ?_
      refine lv_dup2_11 hx hb dX12_feed_111 rfl rfl ?_
      refine gb_iald (v := (nI i)) hx hb hK hP 1 0 (gb_at b rfl) rfl (gb_in rfl) ((pk_un (by rw [nI_clamp (by omega)]; show (4 : Nat) ≠ 10 + i; omega)).trans hf_20_0) dX12_feed_112 ?_
      refine lv_iconst (v := 1) hx hb dX12_feed_113 (by decide) ?_
      refine lv_iadd hx hb dX12_feed_114 ?_
      refine W.eq (g2 := F0 m 115 ls [.int (nI (i + 1)), .int 4, .ref (b + 1)]) (congrArg (fun v => F0 m 115 ls (Value.int v :: [.int 4, .ref (b + 1)])) (nI_add i 1)) ?_
      refine gb_iast (x := (nI (i + 1))) hx hb hK hP (fun k h => ⟨Nat.le_add_right b k, Nat.add_lt_add_left h b⟩) hS rfl 1 0 rfl rfl (gb_in rfl) dX12_feed_115 (fun H locs hP hz_ hS => ?_)
      have hP : va_P D vwCl (gb_wl b [.inr (10, [.ref (b + 1), .ref (b + 2), .int 0, .int 0, .int 0, .int 0, .int 0, .int 0, .int 0, .int 0, .ref (b + 3), .int 0, .int 0, .ref (b + 4), .ref (b + 5), .ref (b + 6), .ref (b + 7), .ref (b + 8), .ref (b + 9), .ref (b + 10), .ref (b + 11), .ref (b + 12), .int 0, .int 0, .int 0, .int 0, .ref (b + 13), .ref (b + 14), .int 0, .int 0, .ref (b + 15), .ref (b + 16), .ref (b + 17), .long 0, .int 0, .int 0, .int 0, .ref (b + 18), .int 0, .ref (b + 19), .ref (b + 20), .int 0, .int 0, .ref (b + 21)]), .inl (cT 0, 3968, .inl (upd (upd F ((nI (10 + i))).toNatClampNeg x_25) 4 (nI (i + 1)))), .inl (cT 2, 3, .inl (fun _ => 0)), .inl (cT 0, 97, .inl (fun _ => 0)), .inl (cT 0, 8, .inl (fun _ => 0)), .inl (cT 0, 8, .inl (fun _ => 0)), .inl (cT 0, 8, .inl (fun _ => 0)), .inl (cT 0, 8, .inl (fun _ => 0)), .inl (cT 2, 8, .inl (fun _ => 0)), .inl (cT 0, 40, .inl (fun _ => 0)), .inl (cT 0, 5, .inl (fun _ => 0)), .inl (cT 0, 5, .inl (fun _ => 0)), .inl (cT 0, 5, .inl (fun _ => 0)), .inl (cT 0, 40, .inl (fun _ => 0)), .inl (cT 0, 5, .inl (fun _ => 0)), .inl (cT 0, 5, .inl (fun _ => 0)), .inl (cT 0, 8, .inl (fun _ => 0)), .inl (cT 2, 8, .inl (fun _ => 0)), .inl (cT 0, 8, .inl (fun _ => 0)), .inl (cT 0, 5, .inl (fun _ => 0)), .inl (cT 0, 8, .inl (fun _ => 0)), .inl (cT 2, 256, .inl (fun _ => 0))]) H := hP
      refine lv_iinc (v := (nI (i + 1))) (lv' := [(6, .int (nI (i + 1))), (7, .int p1), (0, .ref (b + 0)), (1, .int p1), (2, .int p2), (3, .int p3), (4, .int p4), (5, .int p5)]) hx hb dX12_feed_116 hl (k := 1) rfl (nI_succ i).symm (by decide) rfl (fun ls hl => ?_)
      refine lv_goto (tgt := 20) hx hb dX12_feed_119 (by decide) ?_
      exact ih _ _ _ ⟨_, pk_us, hP, hS, lv_sub hl [0, 2, 3, 4, 5, 6, 7] rfl⟩
  · intro H locs ls hI
    obtain ⟨F, hf_20_0, hP, hS, hl⟩ := hI
    refine lv_iload hx hb dX12_feed_20 (lv_at hl 0 rfl) ?_
    refine lv_bipush (v := 20) hx hb dX12_feed_22 (by decide) ?_
    refine lv_icmp_ge (tgt := 122) hx hb dX12_feed_24 (by decide) (fun _ => ?_) (fun hc => absurd (by decide) hc)
    refine lv_aload_n hx hb dX12_feed_122 rfl (lv_at hl 1 rfl) ?_
    refine va_get (ci := 10) (v := (.ref (b + 1))) (C := RX12) (T := TX12) (N := 44) hx hb hq i_X12 hown hK hP 0 (gb_at b rfl) rfl 0 (by decide) (hq _ w_1124) (fun _ h9 => h9) rfl dX12_feed_123 ?_
    refine lv_iconst (v := 4) hx hb dX12_feed_126 (by decide) ?_
    refine gb_iald (v := (nI 20)) hx hb hK hP 1 0 (gb_at b rfl) rfl (gb_in rfl) hf_20_0 dX12_feed_127 ?_
    exact W.iret (v := (nI 20)) hx hb hr (fun t ht hW => gb_ri ht (by decide) hS) hS.2.2 dX12_feed_128
