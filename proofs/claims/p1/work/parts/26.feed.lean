abbrev gb_CF (cT : Nat → ClassId) (b : Nat) (x6 : Int32) (F : Nat → Int32) : List va_E := [.inr (9, [.ref (b + 1), .ref (b + 24), .ref (b + 94), .ref (b + 95), .ref (b + 104), .ref (b + 106), .ref (b + 109), .ref (b + 120), .ref (b + 130), .int 0]), .inr (8, [.ref (b + 2), .ref (b + 7), .ref (b + 12), .ref (b + 17), .ref (b + 22), .ref (b + 23), .int x6, .int 0, .int (-1)]), .inl (cT 4, 2, .inr (.inr (.inr (.inr (va_up (va_up (fun _ => none) 0 (some (b + 3))) 1 (some (b + 5))))))), .inr (0, [.ref (b + 4)]), .inl (cT 0, 58, .inl (upd (fun _ => 0) 2 (-1))), .inr (0, [.ref (b + 6)]), .inl (cT 0, 58, .inl (upd (fun _ => 0) 2 (-1))), .inl (cT 5, 2, .inr (.inr (.inr (.inr (va_up (va_up (fun _ => none) 0 (some (b + 8))) 1 (some (b + 10))))))), .inr (4, [.int 24, .int 3, .int 3, .ref (b + 9)]), .inl (cT 0, 97, .inl (fun _ => 0)), .inr (4, [.int 24, .int 3, .int 3, .ref (b + 11)]), .inl (cT 0, 97, .inl (fun _ => 0)), .inl (cT 6, 2, .inr (.inr (.inr (.inr (va_up (va_up (fun _ => none) 0 (some (b + 13))) 1 (some (b + 15))))))), .inr (3, [.int 8, .int 2, .int 12, .ref (b + 14)]), .inl (cT 0, 25, .inl (fun _ => 0)), .inr (3, [.int 8, .int 2, .int 12, .ref (b + 16)]), .inl (cT 0, 25, .inl (fun _ => 0)), .inl (cT 7, 2, .inr (.inr (.inr (.inr (va_up (va_up (fun _ => none) 0 (some (b + 18))) 1 (some (b + 20))))))), .inr (1, [.int 5, .int 2, .int 17, .ref (b + 19)]), .inl (cT 0, 16, .inl (fun _ => 0)), .inr (1, [.int 5, .int 2, .int 17, .ref (b + 21)]), .inl (cT 0, 16, .inl (fun _ => 0)), .inl (cT 0, 4, .inl (fun _ => 0)), .inl (cT 1, 600, .inl F), .inl (cT 8, 3, .inr (.inr (.inr (.inr (va_up (va_up (va_up (fun _ => none) 0 (some (b + 25))) 1 (some (b + 48))) 2 (some (b + 71))))))), .inr (8, [.ref (b + 26), .ref (b + 31), .ref (b + 36), .ref (b + 41), .ref (b + 46), .ref (b + 47), .int 0, .int 0, .int (-1)]), .inl (cT 4, 2, .inr (.inr (.inr (.inr (va_up (va_up (fun _ => none) 0 (some (b + 27))) 1 (some (b + 29))))))), .inr (0, [.ref (b + 28)]), .inl (cT 0, 58, .inl (upd (fun _ => 0) 2 (-1))), .inr (0, [.ref (b + 30)]), .inl (cT 0, 58, .inl (upd (fun _ => 0) 2 (-1))), .inl (cT 5, 2, .inr (.inr (.inr (.inr (va_up (va_up (fun _ => none) 0 (some (b + 32))) 1 (some (b + 34))))))), .inr (4, [.int 24, .int 3, .int 3, .ref (b + 33)]), .inl (cT 0, 97, .inl (fun _ => 0)), .inr (4, [.int 24, .int 3, .int 3, .ref (b + 35)]), .inl (cT 0, 97, .inl (fun _ => 0)), .inl (cT 6, 2, .inr (.inr (.inr (.inr (va_up (va_up (fun _ => none) 0 (some (b + 37))) 1 (some (b + 39))))))), .inr (3, [.int 8, .int 2, .int 12, .ref (b + 38)]), .inl (cT 0, 25, .inl (fun _ => 0)), .inr (3, [.int 8, .int 2, .int 12, .ref (b + 40)]), .inl (cT 0, 25, .inl (fun _ => 0)), .inl (cT 7, 2, .inr (.inr (.inr (.inr (va_up (va_up (fun _ => none) 0 (some (b + 42))) 1 (some (b + 44))))))), .inr (1, [.int 5, .int 2, .int 17, .ref (b + 43)]), .inl (cT 0, 16, .inl (fun _ => 0)), .inr (1, [.int 5, .int 2, .int 17, .ref (b + 45)]), .inl (cT 0, 16, .inl (fun _ => 0)), .inl (cT 0, 4, .inl (fun _ => 0)), .inl (cT 1, 600, .inl (fun _ => 0)), .inr (8, [.ref (b + 49), .ref (b + 54), .ref (b + 59), .ref (b + 64), .ref (b + 69), .ref (b + 70), .int 0, .int 0, .int (-1)]), .inl (cT 4, 2, .inr (.inr (.inr (.inr (va_up (va_up (fun _ => none) 0 (some (b + 50))) 1 (some (b + 52))))))), .inr (0, [.ref (b + 51)]), .inl (cT 0, 58, .inl (upd (fun _ => 0) 2 (-1))), .inr (0, [.ref (b + 53)]), .inl (cT 0, 58, .inl (upd (fun _ => 0) 2 (-1))), .inl (cT 5, 2, .inr (.inr (.inr (.inr (va_up (va_up (fun _ => none) 0 (some (b + 55))) 1 (some (b + 57))))))), .inr (4, [.int 24, .int 3, .int 3, .ref (b + 56)]), .inl (cT 0, 97, .inl (fun _ => 0)), .inr (4, [.int 24, .int 3, .int 3, .ref (b + 58)]), .inl (cT 0, 97, .inl (fun _ => 0)), .inl (cT 6, 2, .inr (.inr (.inr (.inr (va_up (va_up (fun _ => none) 0 (some (b + 60))) 1 (some (b + 62))))))), .inr (3, [.int 8, .int 2, .int 12, .ref (b + 61)]), .inl (cT 0, 25, .inl (fun _ => 0)), .inr (3, [.int 8, .int 2, .int 12, .ref (b + 63)]), .inl (cT 0, 25, .inl (fun _ => 0)), .inl (cT 7, 2, .inr (.inr (.inr (.inr (va_up (va_up (fun _ => none) 0 (some (b + 65))) 1 (some (b + 67))))))), .inr (1, [.int 5, .int 2, .int 17, .ref (b + 66)]), .inl (cT 0, 16, .inl (fun _ => 0)), .inr (1, [.int 5, .int 2, .int 17, .ref (b + 68)]), .inl (cT 0, 16, .inl (fun _ => 0)), .inl (cT 0, 4, .inl (fun _ => 0)), .inl (cT 1, 600, .inl (fun _ => 0)), .inr (8, [.ref (b + 72), .ref (b + 77), .ref (b + 82), .ref (b + 87), .ref (b + 92), .ref (b + 93), .int 0, .int 0, .int (-1)]), .inl (cT 4, 2, .inr (.inr (.inr (.inr (va_up (va_up (fun _ => none) 0 (some (b + 73))) 1 (some (b + 75))))))), .inr (0, [.ref (b + 74)]), .inl (cT 0, 58, .inl (upd (fun _ => 0) 2 (-1))), .inr (0, [.ref (b + 76)]), .inl (cT 0, 58, .inl (upd (fun _ => 0) 2 (-1))), .inl (cT 5, 2, .inr (.inr (.inr (.inr (va_up (va_up (fun _ => none) 0 (some (b + 78))) 1 (some (b + 80))))))), .inr (4, [.int 24, .int 3, .int 3, .ref (b + 79)]), .inl (cT 0, 97, .inl (fun _ => 0)), .inr (4, [.int 24, .int 3, .int 3, .ref (b + 81)]), .inl (cT 0, 97, .inl (fun _ => 0)), .inl (cT 6, 2, .inr (.inr (.inr (.inr (va_up (va_up (fun _ => none) 0 (some (b + 83))) 1 (some (b + 85))))))), .inr (3, [.int 8, .int 2, .int 12, .ref (b + 84)]), .inl (cT 0, 25, .inl (fun _ => 0)), .inr (3, [.int 8, .int 2, .int 12, .ref (b + 86)]), .inl (cT 0, 25, .inl (fun _ => 0)), .inl (cT 7, 2, .inr (.inr (.inr (.inr (va_up (va_up (fun _ => none) 0 (some (b + 88))) 1 (some (b + 90))))))), .inr (1, [.int 5, .int 2, .int 17, .ref (b + 89)]), .inl (cT 0, 16, .inl (fun _ => 0)), .inr (1, [.int 5, .int 2, .int 17, .ref (b + 91)]), .inl (cT 0, 16, .inl (fun _ => 0)), .inl (cT 0, 4, .inl (fun _ => 0)), .inl (cT 1, 600, .inl (fun _ => 0)), .inl (cT 2, 3, .inl (fun _ => 0)), .inl (cT 9, 4, .inr (.inr (.inr (.inr (va_up (va_up (va_up (va_up (fun _ => none) 0 (some (b + 96))) 1 (some (b + 98))) 2 (some (b + 100))) 3 (some (b + 102))))))), .inr (0, [.ref (b + 97)]), .inl (cT 0, 58, .inl (upd (fun _ => 0) 2 (-1))), .inr (4, [.int 24, .int 3, .int 3, .ref (b + 99)]), .inl (cT 0, 97, .inl (fun _ => 0)), .inr (3, [.int 8, .int 2, .int 12, .ref (b + 101)]), .inl (cT 0, 25, .inl (fun _ => 0)), .inr (1, [.int 5, .int 2, .int 17, .ref (b + 103)]), .inl (cT 0, 16, .inl (fun _ => 0)), .inr (4, [.int 24, .int 3, .int 3, .ref (b + 105)]), .inl (cT 0, 97, .inl (fun _ => 0)), .inr (6, [.ref (b + 107), .ref (b + 108), .int 0, .int 0, .int 0, .int 0]), .inl (cT 0, 5, .inl (fun _ => 0)), .inl (cT 1, 0, .inl (fun _ => 0)), .inr (5, [.ref (b + 110), .ref (b + 112), .ref (b + 113), .ref (b + 114), .ref (b + 115), .ref (b + 116), .ref (b + 117), .ref (b + 118), .ref (b + 119), .int 0, .int 0, .int 0]), .inr (0, [.ref (b + 111)]), .inl (cT 0, 58, .inl (upd (fun _ => 0) 2 (-1))), .inl (cT 0, 8, .inl (fun _ => 0)), .inl (cT 0, 8, .inl (fun _ => 0)), .inl (cT 0, 8, .inl (fun _ => 0)), .inl (cT 0, 8, .inl (fun _ => 0)), .inl (cT 0, 5, .inl (fun _ => 0)), .inl (cT 0, 5, .inl (fun _ => 0)), .inl (cT 0, 5, .inl (fun _ => 0)), .inl (cT 0, 40, .inl (fun _ => 0)), .inr (7, [.ref (b + 121), .null, .ref (b + 123), .ref (b + 124), .int 0, .ref (b + 125), .ref (b + 126), .ref (b + 127), .ref (b + 128), .ref (b + 129), .int 0]), .inr (0, [.ref (b + 122)]), .inl (cT 0, 58, .inl (upd (fun _ => 0) 2 (-1))), .inl (cT 0, 40, .inl (fun _ => 0)), .inl (cT 0, 5, .inl (fun _ => 0)), .inl (cT 0, 8, .inl (fun _ => 0)), .inl (cT 0, 5, .inl (fun _ => 0)), .inl (cT 0, 5, .inl (fun _ => 0)), .inl (cT 0, 8, .inl (fun _ => 0)), .inl (cT 0, 5, .inl (fun _ => 0)), .inr (2, [.ref (b + 131), .ref (b + 132), .ref (b + 133), .ref (b + 134), .int 0, .int 0]), .inl (cT 0, 256, .inl (fun _ => 0)), .inl (cT 0, 256, .inl (fun _ => 0)), .inl (cT 3, 256, .inr (.inl (fun _ => 0))), .inl (cT 3, 256, .inr (.inl (fun _ => 0)))]
theorem dX10_addBytes_0 : decode cX10_addBytes 0 = .ok (.aload_n 0, 1) := by decide +kernel
theorem dX10_addBytes_1 : decode cX10_addBytes 1 = .ok (.getfield 51, 3) := by decide +kernel
theorem dX10_addBytes_4 : decode cX10_addBytes 4 = .ok (.sipush 596, 3) := by decide +kernel
theorem dX10_addBytes_7 : decode cX10_addBytes 7 = .ok (.if_icmp .le 4, 3) := by decide +kernel
theorem dX10_addBytes_11 : decode cX10_addBytes 11 = .ok (.bipush 24, 2) := by decide +kernel
theorem dX10_addBytes_13 : decode cX10_addBytes 13 = .ok (.istore_n 2, 1) := by decide +kernel
theorem dX10_addBytes_14 : decode cX10_addBytes 14 = .ok (.iload_n 2, 1) := by decide +kernel
theorem dX10_addBytes_15 : decode cX10_addBytes 15 = .ok (.ifCond .lt 32, 3) := by decide +kernel
theorem dX10_addBytes_18 : decode cX10_addBytes 18 = .ok (.aload_n 0, 1) := by decide +kernel
theorem dX10_addBytes_19 : decode cX10_addBytes 19 = .ok (.getfield 43, 3) := by decide +kernel
theorem dX10_addBytes_22 : decode cX10_addBytes 22 = .ok (.aload_n 0, 1) := by decide +kernel
theorem dX10_addBytes_23 : decode cX10_addBytes 23 = .ok (.getfield 51, 3) := by decide +kernel
theorem dX10_addBytes_26 : decode cX10_addBytes 26 = .ok (.iload_n 1, 1) := by decide +kernel
theorem dX10_addBytes_27 : decode cX10_addBytes 27 = .ok (.iload_n 2, 1) := by decide +kernel
theorem dX10_addBytes_28 : decode cX10_addBytes 28 = .ok (.ishr, 1) := by decide +kernel
theorem dX10_addBytes_29 : decode cX10_addBytes 29 = .ok (.i2b, 1) := by decide +kernel
theorem dX10_addBytes_30 : decode cX10_addBytes 30 = .ok (.bastore, 1) := by decide +kernel
theorem dX10_addBytes_31 : decode cX10_addBytes 31 = .ok (.aload_n 0, 1) := by decide +kernel
theorem dX10_addBytes_32 : decode cX10_addBytes 32 = .ok (.dup, 1) := by decide +kernel
theorem dX10_addBytes_33 : decode cX10_addBytes 33 = .ok (.getfield 51, 3) := by decide +kernel
theorem dX10_addBytes_36 : decode cX10_addBytes 36 = .ok (.iconst 1, 1) := by decide +kernel
theorem dX10_addBytes_37 : decode cX10_addBytes 37 = .ok (.iadd, 1) := by decide +kernel
theorem dX10_addBytes_38 : decode cX10_addBytes 38 = .ok (.putfield 51, 3) := by decide +kernel
theorem dX10_addBytes_41 : decode cX10_addBytes 41 = .ok (.iinc 2 (-8), 3) := by decide +kernel
theorem dX10_addBytes_44 : decode cX10_addBytes 44 = .ok (.goto (-30), 3) := by decide +kernel
theorem dX10_addBytes_47 : decode cX10_addBytes 47 = .ok (.return_, 1) := by decide +kernel
set_option maxHeartbeats 4000000 in
set_option maxRecDepth 100000 in
theorem f_addBytes (l : Launch) (D : va_G) (cT : Nat → ClassId) (tt : Nat → Nat) (b1 b : Nat) (hb1 : b1 ≤ b) (L : Nat) (F : Nat → Int32) (hL : L ≤ 596) (p1 : Int32) : Met l yX10_addBytes (.code yX10_addBytes cX10_addBytes 3 none :: gb_wA) ({ frames := 0, cells := 0, slots := 0, locals := 0 }) (gb_Pc D cT tt b1 [.ref (b + 1), .int p1] (fun h => va_P D vwCl (gb_wl b (gb_CF cT b (nI L) F)) h)) (gb_Qv (fun h => ∃ F2, va_P D vwCl (gb_wl b (gb_CF cT b (nI (L + 4)) F2)) h) (gb_fr b 135)) 0 0 (gb_fr b 135) := by
  refine Met.ofW (cc := cX10_addBytes) (maxL := 3) (ret := none) (by decide) rfl ?_
  intro p e s m args below meth c s₁ B hml hv
  obtain ⟨rfl, hSt, hP⟩ := hv
  have hx := B.exec
  have hb := B.bytes
  have hr := B.returns
  have hts := atoms_spec (ws := .code yX10_addBytes cX10_addBytes 3 none :: gb_wA) B.pre
  have hq : ∀ w ∈ gb_wA, w.before _ s = true := fun w h => hts w (List.mem_cons_of_mem _ h)
  have hown : s.vm.findClass RX10 = some m.cls := findClass_of_methodNamed B.named
  have hlocks := B.notSynchronized
  have hK := hSt.1
  have hS : va_S (gb_fr b 135) s.heap s.heap [] := va_S.rf
  have hl := lv_entry ([.ref (b + 1), .int p1]) (n := 3) (Nat.le_of_ble_eq_true rfl)
  rw [lg_entry_eq]
  generalize (lg_sl ([.ref (b + 1), .int p1]) ++ List.replicate (3 - (lg_sl ([.ref (b + 1), .int p1])).length) Slot.unset).toArray = ls at hl ⊢
  have hl : lv_has ls 3 [(0, .ref (b + 1)), (1, .int p1)] := hl
  refine lv_aload_n hx hb dX10_addBytes_0 rfl (lv_at hl 0 rfl) ?_
  refine va_get (ci := 8) (v := (.int (nI L))) (C := RX10) (T := TX10) (N := 9) hx hb hq i_X10 hown hK hP 1 (gb_at b rfl) rfl 6 (by decide) (hq _ w_124) (fun _ h9 => h9) rfl dX10_addBytes_1 ?_
  refine lv_sipush (v := 596) hx hb dX10_addBytes_4 (by decide) ?_
  refine lv_icmp_le (tgt := 11) hx hb dX10_addBytes_7 (by decide) (fun c_7 => ?_) (fun c_7 => absurd (nI_le hL (by decide)) c_7)
  refine lv_bipush (v := 24) hx hb dX10_addBytes_11 (by decide) ?_
  refine lv_istore_n (lv' := [(2, .int 24), (0, .ref (b + 1)), (1, .int p1)]) hx hb dX10_addBytes_13 rfl hl (by decide) rfl (fun ls hl => ?_)
  refine lv_iload_n hx hb dX10_addBytes_14 rfl (lv_at hl 0 rfl) ?_
  refine lv_if_lt (tgt := 47) hx hb dX10_addBytes_15 (by decide) (fun hc => absurd hc (by decide)) (fun _ => ?_)
  refine lv_aload_n hx hb dX10_addBytes_18 rfl (lv_at hl 1 rfl) ?_
  refine va_get (ci := 8) (v := (.ref (b + 23))) (C := RX10) (T := TX10) (N := 9) hx hb hq i_X10 hown hK hP 1 (gb_at b rfl) rfl 5 (by decide) (hq _ w_122) (fun _ h9 => h9) rfl dX10_addBytes_19 ?_
  refine lv_aload_n hx hb dX10_addBytes_22 rfl (lv_at hl 1 rfl) ?_
  refine va_get (ci := 8) (v := (.int (nI L))) (C := RX10) (T := TX10) (N := 9) hx hb hq i_X10 hown hK hP 1 (gb_at b rfl) rfl 6 (by decide) (hq _ w_124) (fun _ h9 => h9) rfl dX10_addBytes_23 ?_
  refine lv_iload_n hx hb dX10_addBytes_26 rfl (lv_at hl 2 rfl) ?_
  refine lv_iload_n hx hb dX10_addBytes_27 rfl (lv_at hl 0 rfl) ?_
  refine lv_ishr hx hb dX10_addBytes_28 ?_
  refine lv_topi (fun x_1 ex_1 => ?_)
  refine lv_i2b hx hb dX10_addBytes_29 rfl ?_
  refine lv_topi (fun x_2 ex_2 => ?_)
  refine va_bast (x := x_2) hx hb hK hP (gb_D (fun k h => ⟨Nat.le_add_right b k, Nat.add_lt_add_left h b⟩)) hS 23 1 (gb_at b rfl) rfl (vp_in_nI (by omega) (by decide)) dX10_addBytes_30 (fun H locs hP hD hS => ?_)
  rw [gb_set] at hP
  have hP : va_P D vwCl (gb_wl b (gb_CF cT b (nI L) (upd F (nI L).toNatClampNeg (vp_nar .byte x_2)))) H := hP
  refine lv_aload_n hx hb dX10_addBytes_31 rfl (lv_at hl 1 rfl) ?_
  refine lv_dup hx hb dX10_addBytes_32 rfl ?_
  refine va_get (ci := 8) (v := (.int (nI L))) (C := RX10) (T := TX10) (N := 9) hx hb hq i_X10 hown hK hP 1 (gb_at b rfl) rfl 6 (by decide) (hq _ w_124) (fun _ h9 => h9) rfl dX10_addBytes_33 ?_
  refine lv_iconst (v := 1) hx hb dX10_addBytes_36 (by decide) ?_
  refine lv_iadd hx hb dX10_addBytes_37 ?_
  refine W.eq (g2 := F0 m 38 ls [.int (nI (L + 1)), .ref (b + 1)]) (congrArg (fun v => F0 m 38 ls (Value.int v :: [.ref (b + 1)])) (nI_add L 1)) ?_
  refine gb_put (ci := 8) (v := (.int (nI (L + 1)))) (ty := .int) (C := RX10) (T := TX10) (N := 9) hx hb hq i_X10 tyX10 tyX10_ok nmX10 hown hK hP (fun k h => ⟨Nat.le_add_right b k, Nat.add_lt_add_left h b⟩) hS rfl 1 rfl rfl 6 (by decide) (hq _ w_124) (fun _ h9 => h9) rfl (by decide +kernel) rfl (by first | rfl | decide) (Nat.le_of_ble_eq_true rfl) dX10_addBytes_38 (fun H locs hP hz_ hS => ?_)
  have hP : va_P D vwCl (gb_wl b (gb_CF cT b (nI (L + 1)) (upd F (nI L).toNatClampNeg (vp_nar .byte x_2)))) H := hP
  refine lv_iinc (v := 16) (lv' := [(2, .int 16), (0, .ref (b + 1)), (1, .int p1)]) hx hb dX10_addBytes_41 hl (k := 0) rfl (by first | rfl | decide) (by decide) rfl (fun ls hl => ?_)
  refine lv_goto (tgt := 14) hx hb dX10_addBytes_44 (by decide) ?_
  refine lv_iload_n hx hb dX10_addBytes_14 rfl (lv_at hl 0 rfl) ?_
  refine lv_if_lt (tgt := 47) hx hb dX10_addBytes_15 (by decide) (fun hc => absurd hc (by decide)) (fun _ => ?_)
  refine lv_aload_n hx hb dX10_addBytes_18 rfl (lv_at hl 1 rfl) ?_
  refine va_get (ci := 8) (v := (.ref (b + 23))) (C := RX10) (T := TX10) (N := 9) hx hb hq i_X10 hown hK hP 1 (gb_at b rfl) rfl 5 (by decide) (hq _ w_122) (fun _ h9 => h9) rfl dX10_addBytes_19 ?_
  refine lv_aload_n hx hb dX10_addBytes_22 rfl (lv_at hl 1 rfl) ?_
  refine va_get (ci := 8) (v := (.int (nI (L + 1)))) (C := RX10) (T := TX10) (N := 9) hx hb hq i_X10 hown hK hP 1 (gb_at b rfl) rfl 6 (by decide) (hq _ w_124) (fun _ h9 => h9) rfl dX10_addBytes_23 ?_
  refine lv_iload_n hx hb dX10_addBytes_26 rfl (lv_at hl 2 rfl) ?_
  refine lv_iload_n hx hb dX10_addBytes_27 rfl (lv_at hl 0 rfl) ?_
  refine lv_ishr hx hb dX10_addBytes_28 ?_
  refine lv_topi (fun x_3 ex_3 => ?_)
  refine lv_i2b hx hb dX10_addBytes_29 rfl ?_
  refine lv_topi (fun x_4 ex_4 => ?_)
  refine va_bast (x := x_4) hx hb hK hP (gb_D (fun k h => ⟨Nat.le_add_right b k, Nat.add_lt_add_left h b⟩)) hS 23 1 (gb_at b rfl) rfl (vp_in_nI (by omega) (by decide)) dX10_addBytes_30 (fun H locs hP hD hS => ?_)
  rw [gb_set] at hP
  have hP : va_P D vwCl (gb_wl b (gb_CF cT b (nI (L + 1)) (upd (upd F (nI L).toNatClampNeg (vp_nar .byte x_2)) (nI (L + 1)).toNatClampNeg (vp_nar .byte x_4)))) H := hP
  refine lv_aload_n hx hb dX10_addBytes_31 rfl (lv_at hl 1 rfl) ?_
  refine lv_dup hx hb dX10_addBytes_32 rfl ?_
  refine va_get (ci := 8) (v := (.int (nI (L + 1)))) (C := RX10) (T := TX10) (N := 9) hx hb hq i_X10 hown hK hP 1 (gb_at b rfl) rfl 6 (by decide) (hq _ w_124) (fun _ h9 => h9) rfl dX10_addBytes_33 ?_
  refine lv_iconst (v := 1) hx hb dX10_addBytes_36 (by decide) ?_
  refine lv_iadd hx hb dX10_addBytes_37 ?_
  refine W.eq (g2 := F0 m 38 ls [.int (nI ((L + 1) + 1)), .ref (b + 1)]) (congrArg (fun v => F0 m 38 ls (Value.int v :: [.ref (b + 1)])) (nI_add (L + 1) 1)) ?_
  refine gb_put (ci := 8) (v := (.int (nI ((L + 1) + 1)))) (ty := .int) (C := RX10) (T := TX10) (N := 9) hx hb hq i_X10 tyX10 tyX10_ok nmX10 hown hK hP (fun k h => ⟨Nat.le_add_right b k, Nat.add_lt_add_left h b⟩) hS rfl 1 rfl rfl 6 (by decide) (hq _ w_124) (fun _ h9 => h9) rfl (by decide +kernel) rfl (by first | rfl | decide) (Nat.le_of_ble_eq_true rfl) dX10_addBytes_38 (fun H locs hP hz_ hS => ?_)
  have hP : va_P D vwCl (gb_wl b (gb_CF cT b (nI ((L + 1) + 1)) (upd (upd F (nI L).toNatClampNeg (vp_nar .byte x_2)) (nI (L + 1)).toNatClampNeg (vp_nar .byte x_4)))) H := hP
  refine lv_iinc (v := 8) (lv' := [(2, .int 8), (0, .ref (b + 1)), (1, .int p1)]) hx hb dX10_addBytes_41 hl (k := 0) rfl (by first | rfl | decide) (by decide) rfl (fun ls hl => ?_)
  refine lv_goto (tgt := 14) hx hb dX10_addBytes_44 (by decide) ?_
  refine lv_iload_n hx hb dX10_addBytes_14 rfl (lv_at hl 0 rfl) ?_
  refine lv_if_lt (tgt := 47) hx hb dX10_addBytes_15 (by decide) (fun hc => absurd hc (by decide)) (fun _ => ?_)
  refine lv_aload_n hx hb dX10_addBytes_18 rfl (lv_at hl 1 rfl) ?_
  refine va_get (ci := 8) (v := (.ref (b + 23))) (C := RX10) (T := TX10) (N := 9) hx hb hq i_X10 hown hK hP 1 (gb_at b rfl) rfl 5 (by decide) (hq _ w_122) (fun _ h9 => h9) rfl dX10_addBytes_19 ?_
  refine lv_aload_n hx hb dX10_addBytes_22 rfl (lv_at hl 1 rfl) ?_
  refine va_get (ci := 8) (v := (.int (nI ((L + 1) + 1)))) (C := RX10) (T := TX10) (N := 9) hx hb hq i_X10 hown hK hP 1 (gb_at b rfl) rfl 6 (by decide) (hq _ w_124) (fun _ h9 => h9) rfl dX10_addBytes_23 ?_
  refine lv_iload_n hx hb dX10_addBytes_26 rfl (lv_at hl 2 rfl) ?_
  refine lv_iload_n hx hb dX10_addBytes_27 rfl (lv_at hl 0 rfl) ?_
  refine lv_ishr hx hb dX10_addBytes_28 ?_
  refine lv_topi (fun x_5 ex_5 => ?_)
  refine lv_i2b hx hb dX10_addBytes_29 rfl ?_
  refine lv_topi (fun x_6 ex_6 => ?_)
  refine va_bast (x := x_6) hx hb hK hP (gb_D (fun k h => ⟨Nat.le_add_right b k, Nat.add_lt_add_left h b⟩)) hS 23 1 (gb_at b rfl) rfl (vp_in_nI (by omega) (by decide)) dX10_addBytes_30 (fun H locs hP hD hS => ?_)
  rw [gb_set] at hP
  have hP : va_P D vwCl (gb_wl b (gb_CF cT b (nI ((L + 1) + 1)) (upd (upd (upd F (nI L).toNatClampNeg (vp_nar .byte x_2)) (nI (L + 1)).toNatClampNeg (vp_nar .byte x_4)) (nI ((L + 1) + 1)).toNatClampNeg (vp_nar .byte x_6)))) H := hP
  refine lv_aload_n hx hb dX10_addBytes_31 rfl (lv_at hl 1 rfl) ?_
  refine lv_dup hx hb dX10_addBytes_32 rfl ?_
  refine va_get (ci := 8) (v := (.int (nI ((L + 1) + 1)))) (C := RX10) (T := TX10) (N := 9) hx hb hq i_X10 hown hK hP 1 (gb_at b rfl) rfl 6 (by decide) (hq _ w_124) (fun _ h9 => h9) rfl dX10_addBytes_33 ?_
  refine lv_iconst (v := 1) hx hb dX10_addBytes_36 (by decide) ?_
  refine lv_iadd hx hb dX10_addBytes_37 ?_
  refine W.eq (g2 := F0 m 38 ls [.int (nI (((L + 1) + 1) + 1)), .ref (b + 1)]) (congrArg (fun v => F0 m 38 ls (Value.int v :: [.ref (b + 1)])) (nI_add ((L + 1) + 1) 1)) ?_
  refine gb_put (ci := 8) (v := (.int (nI (((L + 1) + 1) + 1)))) (ty := .int) (C := RX10) (T := TX10) (N := 9) hx hb hq i_X10 tyX10 tyX10_ok nmX10 hown hK hP (fun k h => ⟨Nat.le_add_right b k, Nat.add_lt_add_left h b⟩) hS rfl 1 rfl rfl 6 (by decide) (hq _ w_124) (fun _ h9 => h9) rfl (by decide +kernel) rfl (by first | rfl | decide) (Nat.le_of_ble_eq_true rfl) dX10_addBytes_38 (fun H locs hP hz_ hS => ?_)
  have hP : va_P D vwCl (gb_wl b (gb_CF cT b (nI (((L + 1) + 1) + 1)) (upd (upd (upd F (nI L).toNatClampNeg (vp_nar .byte x_2)) (nI (L + 1)).toNatClampNeg (vp_nar .byte x_4)) (nI ((L + 1) + 1)).toNatClampNeg (vp_nar .byte x_6)))) H := hP
  refine lv_iinc (v := 0) (lv' := [(2, .int 0), (0, .ref (b + 1)), (1, .int p1)]) hx hb dX10_addBytes_41 hl (k := 0) rfl (by first | rfl | decide) (by decide) rfl (fun ls hl => ?_)
  refine lv_goto (tgt := 14) hx hb dX10_addBytes_44 (by decide) ?_
  refine lv_iload_n hx hb dX10_addBytes_14 rfl (lv_at hl 0 rfl) ?_
  refine lv_if_lt (tgt := 47) hx hb dX10_addBytes_15 (by decide) (fun hc => absurd hc (by decide)) (fun _ => ?_)
  refine lv_aload_n hx hb dX10_addBytes_18 rfl (lv_at hl 1 rfl) ?_
  refine va_get (ci := 8) (v := (.ref (b + 23))) (C := RX10) (T := TX10) (N := 9) hx hb hq i_X10 hown hK hP 1 (gb_at b rfl) rfl 5 (by decide) (hq _ w_122) (fun _ h9 => h9) rfl dX10_addBytes_19 ?_
  refine lv_aload_n hx hb dX10_addBytes_22 rfl (lv_at hl 1 rfl) ?_
  refine va_get (ci := 8) (v := (.int (nI (((L + 1) + 1) + 1)))) (C := RX10) (T := TX10) (N := 9) hx hb hq i_X10 hown hK hP 1 (gb_at b rfl) rfl 6 (by decide) (hq _ w_124) (fun _ h9 => h9) rfl dX10_addBytes_23 ?_
  refine lv_iload_n hx hb dX10_addBytes_26 rfl (lv_at hl 2 rfl) ?_
  refine lv_iload_n hx hb dX10_addBytes_27 rfl (lv_at hl 0 rfl) ?_
  refine lv_ishr hx hb dX10_addBytes_28 ?_
  refine lv_topi (fun x_7 ex_7 => ?_)
  refine lv_i2b hx hb dX10_addBytes_29 rfl ?_
  refine lv_topi (fun x_8 ex_8 => ?_)
  refine va_bast (x := x_8) hx hb hK hP (gb_D (fun k h => ⟨Nat.le_add_right b k, Nat.add_lt_add_left h b⟩)) hS 23 1 (gb_at b rfl) rfl (vp_in_nI (by omega) (by decide)) dX10_addBytes_30 (fun H locs hP hD hS => ?_)
  rw [gb_set] at hP
  have hP : va_P D vwCl (gb_wl b (gb_CF cT b (nI (((L + 1) + 1) + 1)) (upd (upd (upd (upd F (nI L).toNatClampNeg (vp_nar .byte x_2)) (nI (L + 1)).toNatClampNeg (vp_nar .byte x_4)) (nI ((L + 1) + 1)).toNatClampNeg (vp_nar .byte x_6)) (nI (((L + 1) + 1) + 1)).toNatClampNeg (vp_nar .byte x_8)))) H := hP
  refine lv_aload_n hx hb dX10_addBytes_31 rfl (lv_at hl 1 rfl) ?_
  refine lv_dup hx hb dX10_addBytes_32 rfl ?_
  refine va_get (ci := 8) (v := (.int (nI (((L + 1) + 1) + 1)))) (C := RX10) (T := TX10) (N := 9) hx hb hq i_X10 hown hK hP 1 (gb_at b rfl) rfl 6 (by decide) (hq _ w_124) (fun _ h9 => h9) rfl dX10_addBytes_33 ?_
  refine lv_iconst (v := 1) hx hb dX10_addBytes_36 (by decide) ?_
  refine lv_iadd hx hb dX10_addBytes_37 ?_
  refine W.eq (g2 := F0 m 38 ls [.int (nI ((((L + 1) + 1) + 1) + 1)), .ref (b + 1)]) (congrArg (fun v => F0 m 38 ls (Value.int v :: [.ref (b + 1)])) (nI_add (((L + 1) + 1) + 1) 1)) ?_
  refine gb_put (ci := 8) (v := (.int (nI ((((L + 1) + 1) + 1) + 1)))) (ty := .int) (C := RX10) (T := TX10) (N := 9) hx hb hq i_X10 tyX10 tyX10_ok nmX10 hown hK hP (fun k h => ⟨Nat.le_add_right b k, Nat.add_lt_add_left h b⟩) hS rfl 1 rfl rfl 6 (by decide) (hq _ w_124) (fun _ h9 => h9) rfl (by decide +kernel) rfl (by first | rfl | decide) (Nat.le_of_ble_eq_true rfl) dX10_addBytes_38 (fun H locs hP hz_ hS => ?_)
  have hP : va_P D vwCl (gb_wl b (gb_CF cT b (nI ((((L + 1) + 1) + 1) + 1)) (upd (upd (upd (upd F (nI L).toNatClampNeg (vp_nar .byte x_2)) (nI (L + 1)).toNatClampNeg (vp_nar .byte x_4)) (nI ((L + 1) + 1)).toNatClampNeg (vp_nar .byte x_6)) (nI (((L + 1) + 1) + 1)).toNatClampNeg (vp_nar .byte x_8)))) H := hP
  refine lv_iinc (v := (-8)) (lv' := [(2, .int (-8)), (0, .ref (b + 1)), (1, .int p1)]) hx hb dX10_addBytes_41 hl (k := 0) rfl (by first | rfl | decide) (by decide) rfl (fun ls hl => ?_)
  refine lv_goto (tgt := 14) hx hb dX10_addBytes_44 (by decide) ?_
  refine lv_iload_n hx hb dX10_addBytes_14 rfl (lv_at hl 0 rfl) ?_
  refine lv_if_lt (tgt := 47) hx hb dX10_addBytes_15 (by decide) (fun _ => ?_) (fun hc => absurd (by decide) hc)
  exact W.vret hx hb hr (fun t ht hW => gb_rv ht ⟨_, hP⟩ hS) hS.2.2 dX10_addBytes_47
theorem dX11_feed_0 : decode cX11_feed 0 = .ok (.aload_n 0, 1) := by decide +kernel
theorem dX11_feed_1 : decode cX11_feed 1 = .ok (.getfield 12, 3) := by decide +kernel
theorem dX11_feed_4 : decode cX11_feed 4 = .ok (.getfield 74, 3) := by decide +kernel
theorem dX11_feed_7 : decode cX11_feed 7 = .ok (.sipush 580, 3) := by decide +kernel
theorem dX11_feed_10 : decode cX11_feed 10 = .ok (.if_icmp .le 5, 3) := by decide +kernel
theorem dX11_feed_15 : decode cX11_feed 15 = .ok (.aload_n 0, 1) := by decide +kernel
theorem dX11_feed_16 : decode cX11_feed 16 = .ok (.getfield 12, 3) := by decide +kernel
theorem dX11_feed_19 : decode cX11_feed 19 = .ok (.iload_n 1, 1) := by decide +kernel
theorem dX11_feed_20 : decode cX11_feed 20 = .ok (.invokevirtual 78, 3) := by decide +kernel
theorem w_353 : (Cond.code ({ cls := "GooseBorder$Told", name := "addBytes", desc := "(I)V" } : MethodName) prog_12_method_2_code (3 : Nat) (Option.none : Option FieldType)) ∈ gb_wA := gb_t2 113 rfl rfl
theorem w_350 : (Cond.methodLink "GooseBorder" (78 : Nat) ({ cls := "GooseBorder$Told", name := "addBytes", desc := "(I)V" } : MethodName)) ∈ gb_wA := gb_t2 110 rfl rfl
theorem w_351 : (Cond.instanceMethod ({ cls := "GooseBorder$Told", name := "addBytes", desc := "(I)V" } : MethodName)) ∈ gb_wA := gb_t2 111 rfl rfl
theorem w_352 : (Cond.selects "GooseBorder$Told" ({ cls := "GooseBorder$Told", name := "addBytes", desc := "(I)V" } : MethodName) ({ cls := "GooseBorder$Told", name := "addBytes", desc := "(I)V" } : MethodName)) ∈ gb_wA := gb_t2 112 rfl rfl
theorem dX11_feed_23 : decode cX11_feed 23 = .ok (.aload_n 0, 1) := by decide +kernel
theorem dX11_feed_24 : decode cX11_feed 24 = .ok (.getfield 12, 3) := by decide +kernel
theorem dX11_feed_27 : decode cX11_feed 27 = .ok (.iload_n 2, 1) := by decide +kernel
theorem dX11_feed_28 : decode cX11_feed 28 = .ok (.invokevirtual 78, 3) := by decide +kernel
theorem dX11_feed_31 : decode cX11_feed 31 = .ok (.aload_n 0, 1) := by decide +kernel
theorem dX11_feed_32 : decode cX11_feed 32 = .ok (.getfield 12, 3) := by decide +kernel
theorem dX11_feed_35 : decode cX11_feed 35 = .ok (.iload_n 3, 1) := by decide +kernel
theorem dX11_feed_36 : decode cX11_feed 36 = .ok (.invokevirtual 78, 3) := by decide +kernel
theorem dX11_feed_39 : decode cX11_feed 39 = .ok (.aload_n 0, 1) := by decide +kernel
theorem dX11_feed_40 : decode cX11_feed 40 = .ok (.getfield 12, 3) := by decide +kernel
theorem dX11_feed_43 : decode cX11_feed 43 = .ok (.iload 4, 2) := by decide +kernel
theorem dX11_feed_45 : decode cX11_feed 45 = .ok (.invokevirtual 78, 3) := by decide +kernel
theorem dX11_feed_48 : decode cX11_feed 48 = .ok (.aload_n 0, 1) := by decide +kernel
theorem dX11_feed_49 : decode cX11_feed 49 = .ok (.getfield 12, 3) := by decide +kernel
theorem dX11_feed_52 : decode cX11_feed 52 = .ok (.iload 5, 2) := by decide +kernel
theorem dX11_feed_54 : decode cX11_feed 54 = .ok (.invokevirtual 78, 3) := by decide +kernel
theorem dX11_feed_57 : decode cX11_feed 57 = .ok (.aload_n 0, 1) := by decide +kernel
theorem dX11_feed_58 : decode cX11_feed 58 = .ok (.getfield 12, 3) := by decide +kernel
theorem dX11_feed_61 : decode cX11_feed 61 = .ok (.getfield 74, 3) := by decide +kernel
theorem dX11_feed_64 : decode cX11_feed 64 = .ok (.ireturn, 1) := by decide +kernel
set_option maxHeartbeats 4000000 in
set_option maxRecDepth 100000 in
theorem a_X11_feed (l : Launch) (D : va_G) (cT : Nat → ClassId) (tt : Nat → Nat) (b1 b : Nat) (hb1 : b1 ≤ b) (p1 : Int32) (p2 : Int32) (p3 : Int32) (p4 : Int32) (p5 : Int32) : Met l yX11_feed (.code yX11_feed cX11_feed 6 (some FieldType.int) :: gb_wA) ({ frames := 1, cells := 0, slots := 0, locals := 22 }) (gb_Pc D cT tt b1 [.ref (b + 0), .int p1, .int p2, .int p3, .int p4, .int p5] (fun h => va_P D vwCl (gb_wl b (gb_C cT b)) h)) (gb_Qi (fun r _ => r = 20) (gb_fr b 135)) 0 0 (gb_fr b 135) := by
  refine Met.ofW (cc := cX11_feed) (maxL := 6) (ret := (some FieldType.int)) (by decide) rfl ?_
  intro p e s m args below meth c s₁ B hml hv
  obtain ⟨rfl, hSt, hP⟩ := hv
  have hx := B.exec
  have hb := B.bytes
  have hr := B.returns
  have hts := atoms_spec (ws := .code yX11_feed cX11_feed 6 (some FieldType.int) :: gb_wA) B.pre
  have hq : ∀ w ∈ gb_wA, w.before _ s = true := fun w h => hts w (List.mem_cons_of_mem _ h)
  have hown : s.vm.findClass RX11 = some m.cls := findClass_of_methodNamed B.named
  have hlocks := B.notSynchronized
  have hK := hSt.1
  have hS : va_S (gb_fr b 135) s.heap s.heap [] := va_S.rf
  have hl := lv_entry ([.ref (b + 0), .int p1, .int p2, .int p3, .int p4, .int p5]) (n := 6) (Nat.le_of_ble_eq_true rfl)
  rw [lg_entry_eq]
  generalize (lg_sl ([.ref (b + 0), .int p1, .int p2, .int p3, .int p4, .int p5]) ++ List.replicate (6 - (lg_sl ([.ref (b + 0), .int p1, .int p2, .int p3, .int p4, .int p5])).length) Slot.unset).toArray = ls at hl ⊢
  have hl : lv_has ls 6 [(0, .ref (b + 0)), (1, .int p1), (2, .int p2), (3, .int p3), (4, .int p4), (5, .int p5)] := hl
  refine lv_aload_n hx hb dX11_feed_0 rfl (lv_at hl 0 rfl) ?_
  refine va_get (ci := 9) (v := (.ref (b + 1))) (C := RX11) (T := TX11) (N := 10) hx hb hq i_X11 hown hK hP 0 (gb_at b rfl) rfl 0 (by decide) (hq _ w_315) (fun _ h9 => h9) rfl dX11_feed_1 ?_
  refine va_get (ci := 8) (v := (.int 0)) (C := RX10) (T := TX10) (N := 9) hx hb hq i_X10 hown hK hP 1 (gb_at b rfl) rfl 6 (by decide) (hq _ w_125) (fun _ h9 => h9) rfl dX11_feed_4 ?_
  refine lv_sipush (v := 580) hx hb dX11_feed_7 (by decide) ?_
  refine lv_icmp_le (tgt := 15) hx hb dX11_feed_10 (by decide) (fun _ => ?_) (fun hc => absurd (by decide) hc)
  refine lv_aload_n hx hb dX11_feed_15 rfl (lv_at hl 0 rfl) ?_
  refine va_get (ci := 9) (v := (.ref (b + 1))) (C := RX11) (T := TX11) (N := 10) hx hb hq i_X11 hown hK hP 0 (gb_at b rfl) rfl 0 (by decide) (hq _ w_315) (fun _ h9 => h9) rfl dX11_feed_16 ?_
  refine lv_iload_n hx hb dX11_feed_19 rfl (lv_at hl 1 rfl) ?_
  refine gb_callv (va_runV (C := RX10) (As := [.int p1]) (rest := []) ⟨hx, hb, hml, hown, hq⟩ (f_addBytes l D cT tt b1 b hb1 0 (fun _ => 0) (by decide) p1) (cwV 1 hq (gb_gV w_350 w_351 w_352 w_2 w_353) rfl rfl rfl (by decide +kernel) ⟨Nat.le_of_ble_eq_true rfl, Nat.le_of_ble_eq_true rfl⟩) (gb_preV (r := (RX10, TX10, 9)) (ci := 8) (q0 := 1) hSt hP rfl (gb_at b rfl) hS (fun q h => Nat.le_trans hb1 h.1) hP) rfl rfl hl.1 rfl (lv_room (Nat.le_of_ble_eq_true rfl)) dX11_feed_20 ⟨Nat.le_of_ble_eq_true rfl, Nat.le_of_ble_eq_true rfl⟩) hS (fun _ h => h) (fun _ h => h) (fun H locs hY hk hS => ?_)
  obtain ⟨F0, hP⟩ := hY
  have hP : va_P D vwCl (gb_wl b (gb_CF cT b (nI 4) F0)) H := hP
  refine lv_aload_n hx hb dX11_feed_23 rfl (lv_at hl 0 rfl) ?_
  refine va_get (ci := 9) (v := (.ref (b + 1))) (C := RX11) (T := TX11) (N := 10) hx hb hq i_X11 hown hK hP 0 (gb_at b rfl) rfl 0 (by decide) (hq _ w_315) (fun _ h9 => h9) rfl dX11_feed_24 ?_
  refine lv_iload_n hx hb dX11_feed_27 rfl (lv_at hl 2 rfl) ?_
  refine gb_callv (va_runV (C := RX10) (As := [.int p2]) (rest := []) ⟨hx, hb, hml, hown, hq⟩ (f_addBytes l D cT tt b1 b hb1 4 F0 (by decide) p2) (cwV 1 hq (gb_gV w_350 w_351 w_352 w_2 w_353) rfl rfl rfl (by decide +kernel) ⟨Nat.le_of_ble_eq_true rfl, Nat.le_of_ble_eq_true rfl⟩) (gb_preV (r := (RX10, TX10, 9)) (ci := 8) (q0 := 1) hSt hP rfl (gb_at b rfl) hS (fun q h => Nat.le_trans hb1 h.1) hP) rfl rfl hl.1 rfl (lv_room (Nat.le_of_ble_eq_true rfl)) dX11_feed_28 ⟨Nat.le_of_ble_eq_true rfl, Nat.le_of_ble_eq_true rfl⟩) hS (fun _ h => h) (fun _ h => h) (fun H locs hY hk hS => ?_)
  obtain ⟨F1, hP⟩ := hY
  have hP : va_P D vwCl (gb_wl b (gb_CF cT b (nI 8) F1)) H := hP
  refine lv_aload_n hx hb dX11_feed_31 rfl (lv_at hl 0 rfl) ?_
  refine va_get (ci := 9) (v := (.ref (b + 1))) (C := RX11) (T := TX11) (N := 10) hx hb hq i_X11 hown hK hP 0 (gb_at b rfl) rfl 0 (by decide) (hq _ w_315) (fun _ h9 => h9) rfl dX11_feed_32 ?_
  refine lv_iload_n hx hb dX11_feed_35 rfl (lv_at hl 3 rfl) ?_
  refine gb_callv (va_runV (C := RX10) (As := [.int p3]) (rest := []) ⟨hx, hb, hml, hown, hq⟩ (f_addBytes l D cT tt b1 b hb1 8 F1 (by decide) p3) (cwV 1 hq (gb_gV w_350 w_351 w_352 w_2 w_353) rfl rfl rfl (by decide +kernel) ⟨Nat.le_of_ble_eq_true rfl, Nat.le_of_ble_eq_true rfl⟩) (gb_preV (r := (RX10, TX10, 9)) (ci := 8) (q0 := 1) hSt hP rfl (gb_at b rfl) hS (fun q h => Nat.le_trans hb1 h.1) hP) rfl rfl hl.1 rfl (lv_room (Nat.le_of_ble_eq_true rfl)) dX11_feed_36 ⟨Nat.le_of_ble_eq_true rfl, Nat.le_of_ble_eq_true rfl⟩) hS (fun _ h => h) (fun _ h => h) (fun H locs hY hk hS => ?_)
  obtain ⟨F2, hP⟩ := hY
  have hP : va_P D vwCl (gb_wl b (gb_CF cT b (nI 12) F2)) H := hP
  refine lv_aload_n hx hb dX11_feed_39 rfl (lv_at hl 0 rfl) ?_
  refine va_get (ci := 9) (v := (.ref (b + 1))) (C := RX11) (T := TX11) (N := 10) hx hb hq i_X11 hown hK hP 0 (gb_at b rfl) rfl 0 (by decide) (hq _ w_315) (fun _ h9 => h9) rfl dX11_feed_40 ?_
  refine lv_iload hx hb dX11_feed_43 (lv_at hl 4 rfl) ?_
  refine gb_callv (va_runV (C := RX10) (As := [.int p4]) (rest := []) ⟨hx, hb, hml, hown, hq⟩ (f_addBytes l D cT tt b1 b hb1 12 F2 (by decide) p4) (cwV 1 hq (gb_gV w_350 w_351 w_352 w_2 w_353) rfl rfl rfl (by decide +kernel) ⟨Nat.le_of_ble_eq_true rfl, Nat.le_of_ble_eq_true rfl⟩) (gb_preV (r := (RX10, TX10, 9)) (ci := 8) (q0 := 1) hSt hP rfl (gb_at b rfl) hS (fun q h => Nat.le_trans hb1 h.1) hP) rfl rfl hl.1 rfl (lv_room (Nat.le_of_ble_eq_true rfl)) dX11_feed_45 ⟨Nat.le_of_ble_eq_true rfl, Nat.le_of_ble_eq_true rfl⟩) hS (fun _ h => h) (fun _ h => h) (fun H locs hY hk hS => ?_)
  obtain ⟨F3, hP⟩ := hY
  have hP : va_P D vwCl (gb_wl b (gb_CF cT b (nI 16) F3)) H := hP
  refine lv_aload_n hx hb dX11_feed_48 rfl (lv_at hl 0 rfl) ?_
  refine va_get (ci := 9) (v := (.ref (b + 1))) (C := RX11) (T := TX11) (N := 10) hx hb hq i_X11 hown hK hP 0 (gb_at b rfl) rfl 0 (by decide) (hq _ w_315) (fun _ h9 => h9) rfl dX11_feed_49 ?_
  refine lv_iload hx hb dX11_feed_52 (lv_at hl 5 rfl) ?_
  refine gb_callv (va_runV (C := RX10) (As := [.int p5]) (rest := []) ⟨hx, hb, hml, hown, hq⟩ (f_addBytes l D cT tt b1 b hb1 16 F3 (by decide) p5) (cwV 1 hq (gb_gV w_350 w_351 w_352 w_2 w_353) rfl rfl rfl (by decide +kernel) ⟨Nat.le_of_ble_eq_true rfl, Nat.le_of_ble_eq_true rfl⟩) (gb_preV (r := (RX10, TX10, 9)) (ci := 8) (q0 := 1) hSt hP rfl (gb_at b rfl) hS (fun q h => Nat.le_trans hb1 h.1) hP) rfl rfl hl.1 rfl (lv_room (Nat.le_of_ble_eq_true rfl)) dX11_feed_54 ⟨Nat.le_of_ble_eq_true rfl, Nat.le_of_ble_eq_true rfl⟩) hS (fun _ h => h) (fun _ h => h) (fun H locs hY hk hS => ?_)
  obtain ⟨F4, hP⟩ := hY
  have hP : va_P D vwCl (gb_wl b (gb_CF cT b (nI 20) F4)) H := hP
  refine lv_aload_n hx hb dX11_feed_57 rfl (lv_at hl 0 rfl) ?_
  refine va_get (ci := 9) (v := (.ref (b + 1))) (C := RX11) (T := TX11) (N := 10) hx hb hq i_X11 hown hK hP 0 (gb_at b rfl) rfl 0 (by decide) (hq _ w_315) (fun _ h9 => h9) rfl dX11_feed_58 ?_
  refine va_get (ci := 8) (v := (.int (nI 20))) (C := RX10) (T := TX10) (N := 9) hx hb hq i_X10 hown hK hP 1 (gb_at b rfl) rfl 6 (by decide) (hq _ w_125) (fun _ h9 => h9) rfl dX11_feed_61 ?_
  exact W.iret (v := (nI 20)) hx hb hr (fun t ht hW => gb_ri ht (by decide) hS) hS.2.2 dX11_feed_64
