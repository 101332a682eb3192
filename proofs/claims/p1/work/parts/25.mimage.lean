theorem gb_loop {p : Program} {l : Launch} {e : Env} {R : Room} {s : State} {m : MethodId} {args : Array Value} {below : List Frame} {meth : Method} {c : Code} {cells slots : Nat} {Q : State → Prop} {pc : Nat} (I : Nat → Heap → List Loc → Array Slot → Prop) (N : Nat)
    (hs : ∀ (i : Nat) (H : Heap) (locs : List Loc) (ls : Array Slot), i < N → I i H locs ls → (∀ (H' : Heap) (locs' : List Loc) (ls' : Array Slot), I (i + 1) H' locs' ls' → W p l e R s m args below meth c H' locs' cells slots Q (F0 m pc ls' [])) → W p l e R s m args below meth c H locs cells slots Q (F0 m pc ls []))
    (hx : ∀ (H : Heap) (locs : List Loc) (ls : Array Slot), I N H locs ls → W p l e R s m args below meth c H locs cells slots Q (F0 m pc ls [])) (i : Nat) (H : Heap) (locs : List Loc) (ls : Array Slot) (hi : i ≤ N) (h : I i H locs ls) : W p l e R s m args below meth c H locs cells slots Q (F0 m pc ls []) := by
  obtain ⟨n, hn⟩ : ∃ n, i + n = N := ⟨N - i, by omega⟩
  induction n generalizing i H locs ls with
  | zero => exact hx H locs ls (by rw [← hn]; exact h)
  | succ n ih => exact hs i H locs ls (by omega) h (fun H' locs' ls' h' => ih (i + 1) H' locs' ls' (by omega) h' (by omega))
theorem gb_3i {x : Int32} (h0 : ¬ x < 0) (h1 : ¬ 2 < x) : x = 0 ∨ x = 1 ∨ x = 2 := gb_3c h0 (by
  rw [Int32.lt_iff_toInt_lt]
  have h3 := Int32.le_iff_toInt_le.mp (Int32.not_lt.mp h1)
  have h5 : (3 : Int32).toInt = 3 := by decide
  have h7 : (2 : Int32).toInt = 2 := by decide
  omega)
theorem gb_23 {x : Int32} : 2 < x ↔ ¬ x < 3 := by
  rw [Int32.lt_iff_toInt_lt, Int32.lt_iff_toInt_lt]
  have h4 : (3 : Int32).toInt = 3 := by decide
  have h5 : (2 : Int32).toInt = 2 := by decide
  omega
theorem dX12_image_0 : decode cX12_image 0 = .ok (.iload_n 1, 1) := by decide +kernel
theorem dX12_image_1 : decode cX12_image 1 = .ok (.iconst 0, 1) := by decide +kernel
theorem dX12_image_2 : decode cX12_image 2 = .ok (.iconst 2, 1) := by decide +kernel
theorem dX12_image_3 : decode cX12_image 3 = .ok (.invokestatic 129, 3) := by decide +kernel
theorem dX12_image_6 : decode cX12_image 6 = .ok (.ifCond .ne 5, 3) := by decide +kernel
theorem dX12_image_9 : decode cX12_image 9 = .ok (.iconst 0, 1) := by decide +kernel
theorem dX12_image_10 : decode cX12_image 10 = .ok (.ireturn, 1) := by decide +kernel
theorem dX12_image_11 : decode cX12_image 11 = .ok (.aload_n 0, 1) := by decide +kernel
theorem dX12_image_12 : decode cX12_image 12 = .ok (.getfield 13, 3) := by decide +kernel
theorem dX12_image_15 : decode cX12_image 15 = .ok (.iload_n 1, 1) := by decide +kernel
theorem dX12_image_16 : decode cX12_image 16 = .ok (.iconst 1, 1) := by decide +kernel
theorem dX12_image_17 : decode cX12_image 17 = .ok (.bastore, 1) := by decide +kernel
theorem dX12_image_18 : decode cX12_image 18 = .ok (.iconst 0, 1) := by decide +kernel
theorem dX12_image_19 : decode cX12_image 19 = .ok (.istore_n 2, 1) := by decide +kernel
theorem dX12_image_20 : decode cX12_image 20 = .ok (.iload_n 2, 1) := by decide +kernel
theorem dX12_image_21 : decode cX12_image 21 = .ok (.sipush 992, 3) := by decide +kernel
theorem dX12_image_24 : decode cX12_image 24 = .ok (.if_icmp .ge 29, 3) := by decide +kernel
theorem dX12_image_27 : decode cX12_image 27 = .ok (.aload_n 0, 1) := by decide +kernel
theorem dX12_image_28 : decode cX12_image 28 = .ok (.getfield 7, 3) := by decide +kernel
theorem dX12_image_31 : decode cX12_image 31 = .ok (.sipush 992, 3) := by decide +kernel
theorem dX12_image_34 : decode cX12_image 34 = .ok (.iload_n 1, 1) := by decide +kernel
theorem dX12_image_35 : decode cX12_image 35 = .ok (.iconst 1, 1) := by decide +kernel
theorem dX12_image_36 : decode cX12_image 36 = .ok (.iadd, 1) := by decide +kernel
theorem dX12_image_37 : decode cX12_image 37 = .ok (.imul, 1) := by decide +kernel
theorem dX12_image_38 : decode cX12_image 38 = .ok (.iload_n 2, 1) := by decide +kernel
theorem dX12_image_39 : decode cX12_image 39 = .ok (.iadd, 1) := by decide +kernel
theorem dX12_image_40 : decode cX12_image 40 = .ok (.aload_n 0, 1) := by decide +kernel
theorem dX12_image_41 : decode cX12_image 41 = .ok (.getfield 7, 3) := by decide +kernel
theorem dX12_image_44 : decode cX12_image 44 = .ok (.iload_n 2, 1) := by decide +kernel
theorem dX12_image_45 : decode cX12_image 45 = .ok (.iaload, 1) := by decide +kernel
theorem dX12_image_46 : decode cX12_image 46 = .ok (.iastore, 1) := by decide +kernel
theorem dX12_image_47 : decode cX12_image 47 = .ok (.iinc 2 1, 3) := by decide +kernel
theorem dX12_image_50 : decode cX12_image 50 = .ok (.goto (-30), 3) := by decide +kernel
theorem dX12_image_53 : decode cX12_image 53 = .ok (.iconst 1, 1) := by decide +kernel
theorem dX12_image_54 : decode cX12_image 54 = .ok (.ireturn, 1) := by decide +kernel
set_option maxHeartbeats 4000000 in
set_option maxRecDepth 100000 in
theorem a_X12_image (l : Launch) (D : va_G) (cT : Nat → ClassId) (tt : Nat → Nat) (b1 b : Nat) (hb1 : b1 ≤ b) (p1 : Int32) : Met l yX12_image (.code yX12_image cX12_image 3 (some FieldType.boolean) :: gb_wA) ({ frames := 1, cells := 0, slots := 0, locals := 22 }) (gb_Pc D cT tt b1 [.ref (b + 0), .int p1] (fun h => va_P D vwCl (gb_wl b (gb_M cT b)) h)) (gb_Qi (fun r _ => r = (if p1 < 0 then 0 else if p1 < 3 then 1 else 0)) (gb_fr b 22)) 0 0 (gb_fr b 22) := by
  refine Met.ofW (cc := cX12_image) (maxL := 3) (ret := (some FieldType.boolean)) (by decide) rfl ?_
  intro p e s m args below meth c s₁ B hml hv
  obtain ⟨rfl, hSt, hP⟩ := hv
  have hx := B.exec
  have hb := B.bytes
  have hr := B.returns
  have hts := atoms_spec (ws := .code yX12_image cX12_image 3 (some FieldType.boolean) :: gb_wA) B.pre
  have hq : ∀ w ∈ gb_wA, w.before _ s = true := fun w h => hts w (List.mem_cons_of_mem _ h)
  have hown : s.vm.findClass RX12 = some m.cls := findClass_of_methodNamed B.named
  have hlocks := B.notSynchronized
  have hK := hSt.1
  have hS : va_S (gb_fr b 22) s.heap s.heap [] := va_S.rf
  have hl := lv_entry ([.ref (b + 0), .int p1]) (n := 3) (Nat.le_of_ble_eq_true rfl)
  rw [lg_entry_eq]
  generalize (lg_sl ([.ref (b + 0), .int p1]) ++ List.replicate (3 - (lg_sl ([.ref (b + 0), .int p1])).length) Slot.unset).toArray = ls at hl ⊢
  have hl : lv_has ls 3 [(0, .ref (b + 0)), (1, .int p1)] := hl
  refine lv_iload_n hx hb dX12_image_0 rfl (lv_at hl 1 rfl) ?_
  refine lv_iconst (v := 0) hx hb dX12_image_1 (by decide) ?_
  refine lv_iconst (v := 2) hx hb dX12_image_2 (by decide) ?_
  refine gb_calli (va_runS (As := [.int p1, .int 0, .int 2]) (rest := []) ⟨hx, hb, hml, hown, hq⟩ (f_X12_isIn_gen l D cT tt b1 b hb1 p1 0 2) (va_cwS 3 hq (gb_gS w_1269 w_1270 w_14 w_1271) rfl rfl rfl (by decide +kernel) ⟨Nat.le_of_ble_eq_true rfl, Nat.le_of_ble_eq_true rfl⟩) (gb_preS hSt hS (fun q h => Nat.le_trans hb1 h.1) hP) rfl rfl hl.1 rfl (lv_room (Nat.le_of_ble_eq_true rfl)) dX12_image_3 ⟨Nat.le_of_ble_eq_true rfl, Nat.le_of_ble_eq_true rfl⟩) hS (fun _ h => h) (fun _ h => h) (fun r H locs hY hk hS => ?_)
  obtain ⟨hr9, hP⟩ := hY
  by_cases h_3_a : p1 < 0
  · rw [if_pos h_3_a] at hr9
    subst hr9
    refine lv_if_ne (tgt := 11) hx hb dX12_image_6 (by decide) (fun hc => absurd hc (by decide)) (fun _ => ?_)
    refine lv_iconst (v := 0) hx hb dX12_image_9 (by decide) ?_
    exact W.zret (v := 0) hx hb hr (by decide) (fun t ht hW => gb_ri ht (if_pos h_3_a).symm hS) hS.2.2 dX12_image_10
  by_cases h_3_b : 2 < p1
  · rw [if_neg h_3_a, if_pos h_3_b] at hr9
    subst hr9
    refine lv_if_ne (tgt := 11) hx hb dX12_image_6 (by decide) (fun hc => absurd hc (by decide)) (fun _ => ?_)
    refine lv_iconst (v := 0) hx hb dX12_image_9 (by decide) ?_
    exact W.zret (v := 0) hx hb hr (by decide) (fun t ht hW => gb_ri ht (by rw [if_neg h_3_a, if_neg (gb_23.mp h_3_b)]) hS) hS.2.2 dX12_image_10
  rw [if_neg h_3_a, if_neg h_3_b] at hr9
  subst hr9
  refine lv_if_ne (tgt := 11) hx hb dX12_image_6 (by decide) (fun _ => ?_) (fun hc => absurd hc (by decide))
  rcases gb_3i h_3_a h_3_b with h9 | h9 | h9
  · subst h9
    refine lv_aload_n hx hb dX12_image_11 rfl (lv_at hl 0 rfl) ?_
    refine va_get (ci := 10) (v := (.ref (b + 2))) (C := RX12) (T := TX12) (N := 44) hx hb hq i_X12 hown hK hP 0 (gb_at b rfl) rfl 1 (by decide) (hq _ w_1125) (fun _ h9 => h9) rfl dX12_image_12 ?_
    refine lv_iload_n hx hb dX12_image_15 rfl (lv_at hl 1 rfl) ?_
    refine lv_iconst (v := 1) hx hb dX12_image_16 (by decide) ?_
    refine va_zast (x := 1) hx hb hK hP (gb_D (fun k h => ⟨Nat.le_add_right b k, Nat.add_lt_add_left h b⟩)) hS 2 2 (gb_at b rfl) rfl (gb_in rfl) dX12_image_17 (fun H locs hP hD hS => ?_)
    rw [gb_set] at hP
    have hP : va_P D vwCl (gb_wl b [.inr (10, [.ref (b + 1), .ref (b + 2), .int 0, .int 0, .int 0, .int 0, .int 0, .int 0, .int 0, .int 0, .ref (b + 3), .int 0, .int 0, .ref (b + 4), .ref (b + 5), .ref (b + 6), .ref (b + 7), .ref (b + 8), .ref (b + 9), .ref (b + 10), .ref (b + 11), .ref (b + 12), .int 0, .int 0, .int 0, .int 0, .ref (b + 13), .ref (b + 14), .int 0, .int 0, .ref (b + 15), .ref (b + 16), .ref (b + 17), .long 0, .int 0, .int 0, .int 0, .ref (b + 18), .int 0, .ref (b + 19), .ref (b + 20), .int 0, .int 0, .ref (b + 21)]), .inl (cT 0, 3968, .inl (upd (fun _ => 0) 6 (-1))), .inl (cT 2, 3, .inl (upd (fun _ => 0) 0 (vp_nar .boolean 1))), .inl (cT 0, 97, .inl (fun _ => 0)), .inl (cT 0, 8, .inl (fun _ => 0)), .inl (cT 0, 8, .inl (fun _ => 0)), .inl (cT 0, 8, .inl (fun _ => 0)), .inl (cT 0, 8, .inl (fun _ => 0)), .inl (cT 2, 8, .inl (fun _ => 0)), .inl (cT 0, 40, .inl (fun _ => 0)), .inl (cT 0, 5, .inl (fun _ => 0)), .inl (cT 0, 5, .inl (fun _ => 0)), .inl (cT 0, 5, .inl (fun _ => 0)), .inl (cT 0, 40, .inl (fun _ => 0)), .inl (cT 0, 5, .inl (fun _ => 0)), .inl (cT 0, 5, .inl (fun _ => 0)), .inl (cT 0, 8, .inl (fun _ => 0)), .inl (cT 2, 8, .inl (fun _ => 0)), .inl (cT 0, 8, .inl (fun _ => 0)), .inl (cT 0, 5, .inl (fun _ => 0)), .inl (cT 0, 8, .inl (fun _ => 0)), .inl (cT 2, 256, .inl (fun _ => 0))]) H := hP
    refine lv_iconst (v := 0) hx hb dX12_image_18 (by decide) ?_
    refine lv_istore_n (lv' := [(2, .int 0), (0, .ref (b + 0)), (1, .int 0)]) hx hb dX12_image_19 rfl hl (by decide) rfl (fun ls hl => ?_)
    refine gb_loop (I := fun i H locs ls => ∃ F : Nat → Int32, va_P D vwCl (gb_wl b [.inr (10, [.ref (b + 1), .ref (b + 2), .int 0, .int 0, .int 0, .int 0, .int 0, .int 0, .int 0, .int 0, .ref (b + 3), .int 0, .int 0, .ref (b + 4), .ref (b + 5), .ref (b + 6), .ref (b + 7), .ref (b + 8), .ref (b + 9), .ref (b + 10), .ref (b + 11), .ref (b + 12), .int 0, .int 0, .int 0, .int 0, .ref (b + 13), .ref (b + 14), .int 0, .int 0, .ref (b + 15), .ref (b + 16), .ref (b + 17), .long 0, .int 0, .int 0, .int 0, .ref (b + 18), .int 0, .ref (b + 19), .ref (b + 20), .int 0, .int 0, .ref (b + 21)]), .inl (cT 0, 3968, .inl F), .inl (cT 2, 3, .inl (upd (fun _ => 0) 0 (vp_nar .boolean 1))), .inl (cT 0, 97, .inl (fun _ => 0)), .inl (cT 0, 8, .inl (fun _ => 0)), .inl (cT 0, 8, .inl (fun _ => 0)), .inl (cT 0, 8, .inl (fun _ => 0)), .inl (cT 0, 8, .inl (fun _ => 0)), .inl (cT 2, 8, .inl (fun _ => 0)), .inl (cT 0, 40, .inl (fun _ => 0)), .inl (cT 0, 5, .inl (fun _ => 0)), .inl (cT 0, 5, .inl (fun _ => 0)), .inl (cT 0, 5, .inl (fun _ => 0)), .inl (cT 0, 40, .inl (fun _ => 0)), .inl (cT 0, 5, .inl (fun _ => 0)), .inl (cT 0, 5, .inl (fun _ => 0)), .inl (cT 0, 8, .inl (fun _ => 0)), .inl (cT 2, 8, .inl (fun _ => 0)), .inl (cT 0, 8, .inl (fun _ => 0)), .inl (cT 0, 5, .inl (fun _ => 0)), .inl (cT 0, 8, .inl (fun _ => 0)), .inl (cT 2, 256, .inl (fun _ => 0))]) H ∧ va_S (gb_fr b 22) s.heap H locs ∧ lv_has ls 3 [(2, .int (nI i)), (0, .ref (b + 0)), (1, .int 0)]) 992 ?_ ?_ 0 _ _ _ (by decide) ⟨_, hP, hS, hl⟩
    · intro i H locs ls hi hI ih
      obtain ⟨F, hP, hS, hl⟩ := hI
      refine lv_iload_n hx hb dX12_image_20 rfl (lv_at hl 0 rfl) ?_
      refine lv_sipush (v := 992) hx hb dX12_image_21 (by decide) ?_
      refine lv_icmp_ge (tgt := 53) hx hb dX12_image_24 (by decide) (fun c_24 => absurd c_24 (nI_ge hi (by decide))) (fun c_24 => ?_)
      refine lv_aload_n hx hb dX12_image_27 rfl (lv_at hl 1 rfl) ?_
      refine va_get (ci := 10) (v := (.ref (b + 1))) (C := RX12) (T := TX12) (N := 44) hx hb hq i_X12 hown hK hP 0 (gb_at b rfl) rfl 0 (by decide) (hq _ w_1124) (fun _ h9 => h9) rfl dX12_image_28 ?_
      refine lv_sipush (v := 992) hx hb dX12_image_31 (by decide) ?_
      refine lv_iload_n hx hb dX12_image_34 rfl (lv_at hl 2 rfl) ?_
      refine lv_iconst (v := 1) hx hb dX12_image_35 (by decide) ?_
      refine lv_iadd hx hb dX12_image_36 ?_
      refine W.eq (g2 := F0 m 37 ls [.int 1, .int 992, .ref (b + 1)]) (congrArg (fun v => F0 m 37 ls (Value.int v :: [.int 992, .ref (b + 1)])) (show (0 : Int32) + 1 = 1 by decide)) ?_
      refine lv_imul hx hb dX12_image_37 ?_
      refine W.eq (g2 := F0 m 38 ls [.int 992, .ref (b + 1)]) (congrArg (fun v => F0 m 38 ls (Value.int v :: [.ref (b + 1)])) (show (992 : Int32) * 1 = 992 by decide)) ?_
      refine lv_iload_n hx hb dX12_image_38 rfl (lv_at hl 0 rfl) ?_
      refine lv_iadd hx hb dX12_image_39 ?_
      refine W.eq (g2 := F0 m 40 ls [.int (nI (992 + i)), .ref (b + 1)]) (congrArg (fun v => F0 m 40 ls (Value.int v :: [.ref (b + 1)])) (nI_add 992 i)) ?_
      refine lv_aload_n hx hb dX12_image_40 rfl (lv_at hl 1 rfl) ?_
      refine va_get (ci := 10) (v := (.ref (b + 1))) (C := RX12) (T := TX12) (N := 44) hx hb hq i_X12 hown hK hP 0 (gb_at b rfl) rfl 0 (by decide) (hq _ w_1124) (fun _ h9 => h9) rfl dX12_image_41 ?_
      refine lv_iload_n hx hb dX12_image_44 rfl (lv_at hl 0 rfl) ?_
      refine gb_iald (v := (F ((nI i)).toNatClampNeg)) hx hb hK hP 1 0 (gb_at b rfl) rfl (vp_in_nI (by omega) (by decide)) rfl dX12_image_45 ?_
      refine lv_topi (fun x_1 ex_1 => ?_)
      refine gb_iast (x := x_1) hx hb hK hP (fun k h => ⟨Nat.le_add_right b k, Nat.add_lt_add_left h b⟩) hS rfl 1 0 rfl rfl (vp_in_nI (by omega) (by decide)) dX12_image_46 (fun H locs hP hz_ hS => ?_)
      have hP : va_P D vwCl (gb_wl b [.inr (10, [.ref (b + 1), .ref (b + 2), .int 0, .int 0, .int 0, .int 0, .int 0, .int 0, .int 0, .int 0, .ref (b + 3), .int 0, .int 0, .ref (b + 4), .ref (b + 5), .ref (b + 6), .ref (b + 7), .ref (b + 8), .ref (b + 9), .ref (b + 10), .ref (b + 11), .ref (b + 12), .int 0, .int 0, .int 0, .int 0, .ref (b + 13), .ref (b + 14), .int 0, .int 0, .ref (b + 15), .ref (b + 16), .ref (b + 17), .long 0, .int 0, .int 0, .int 0, .ref (b + 18), .int 0, .ref (b + 19), .ref (b + 20), .int 0, .int 0, .ref (b + 21)]), .inl (cT 0, 3968, .inl (upd F ((nI (992 + i))).toNatClampNeg x_1)), .inl (cT 2, 3, .inl (upd (fun _ => 0) 0 (vp_nar .boolean 1))), .inl (cT 0, 97, .inl (fun _ => 0)), .inl (cT 0, 8, .inl (fun _ => 0)), .inl (cT 0, 8, .inl (fun _ => 0)), .inl (cT 0, 8, .inl (fun _ => 0)), .inl (cT 0, 8, .inl (fun _ => 0)), .inl (cT 2, 8, .inl (fun _ => 0)), .inl (cT 0, 40, .inl (fun _ => 0)), .inl (cT 0, 5, .inl (fun _ => 0)), .inl (cT 0, 5, .inl (fun _ => 0)), .inl (cT 0, 5, .inl (fun _ => 0)), .inl (cT 0, 40, .inl (fun _ => 0)), .inl (cT 0, 5, .inl (fun _ => 0)), .inl (cT 0, 5, .inl (fun _ => 0)), .inl (cT 0, 8, .inl (fun _ => 0)), .inl (cT 2, 8, .inl (fun _ => 0)), .inl (cT 0, 8, .inl (fun _ => 0)), .inl (cT 0, 5, .inl (fun _ => 0)), .inl (cT 0, 8, .inl (fun _ => 0)), .inl (cT 2, 256, .inl (fun _ => 0))]) H := hP
      refine lv_iinc (v := (nI (i + 1))) (lv' := [(2, .int (nI (i + 1))), (0, .ref (b + 0)), (1, .int 0)]) hx hb dX12_image_47 hl (k := 0) rfl (nI_succ i).symm (by decide) rfl (fun ls hl => ?_)
      refine lv_goto (tgt := 20) hx hb dX12_image_50 (by decide) ?_
      exact ih _ _ _ ⟨_, hP, hS, lv_sub hl [0, 1, 2] rfl⟩
    · intro H locs ls hI
      obtain ⟨F, hP, hS, hl⟩ := hI
      refine lv_iload_n hx hb dX12_image_20 rfl (lv_at hl 0 rfl) ?_
      refine lv_sipush (v := 992) hx hb dX12_image_21 (by decide) ?_
      refine lv_icmp_ge (tgt := 53) hx hb dX12_image_24 (by decide) (fun _ => ?_) (fun hc => absurd (by decide) hc)
      refine lv_iconst (v := 1) hx hb dX12_image_53 (by decide) ?_
      exact W.zret (v := 1) hx hb hr (by decide) (fun t ht hW => gb_ri ht (by decide) hS) hS.2.2 dX12_image_54
  · subst h9
    refine lv_aload_n hx hb dX12_image_11 rfl (lv_at hl 0 rfl) ?_
    refine va_get (ci := 10) (v := (.ref (b + 2))) (C := RX12) (T := TX12) (N := 44) hx hb hq i_X12 hown hK hP 0 (gb_at b rfl) rfl 1 (by decide) (hq _ w_1125) (fun _ h9 => h9) rfl dX12_image_12 ?_
    refine lv_iload_n hx hb dX12_image_15 rfl (lv_at hl 1 rfl) ?_
    refine lv_iconst (v := 1) hx hb dX12_image_16 (by decide) ?_
    refine va_zast (x := 1) hx hb hK hP (gb_D (fun k h => ⟨Nat.le_add_right b k, Nat.add_lt_add_left h b⟩)) hS 2 2 (gb_at b rfl) rfl (gb_in rfl) dX12_image_17 (fun H locs hP hD hS => ?_)
    rw [gb_set] at hP
    have hP : va_P D vwCl (gb_wl b [.inr (10, [.ref (b + 1), .ref (b + 2), .int 0, .int 0, .int 0, .int 0, .int 0, .int 0, .int 0, .int 0, .ref (b + 3), .int 0, .int 0, .ref (b + 4), .ref (b + 5), .ref (b + 6), .ref (b + 7), .ref (b + 8), .ref (b + 9), .ref (b + 10), .ref (b + 11), .ref (b + 12), .int 0, .int 0, .int 0, .int 0, .ref (b + 13), .ref (b + 14), .int 0, .int 0, .ref (b + 15), .ref (b + 16), .ref (b + 17), .long 0, .int 0, .int 0, .int 0, .ref (b + 18), .int 0, .ref (b + 19), .ref (b + 20), .int 0, .int 0, .ref (b + 21)]), .inl (cT 0, 3968, .inl (upd (fun _ => 0) 6 (-1))), .inl (cT 2, 3, .inl (upd (fun _ => 0) 1 (vp_nar .boolean 1))), .inl (cT 0, 97, .inl (fun _ => 0)), .inl (cT 0, 8, .inl (fun _ => 0)), .inl (cT 0, 8, .inl (fun _ => 0)), .inl (cT 0, 8, .inl (fun _ => 0)), .inl (cT 0, 8, .inl (fun _ => 0)), .inl (cT 2, 8, .inl (fun _ => 0)), .inl (cT 0, 40, .inl (fun _ => 0)), .inl (cT 0, 5, .inl (fun _ => 0)), .inl (cT 0, 5, .inl (fun _ => 0)), .inl (cT 0, 5, .inl (fun _ => 0)), .inl (cT 0, 40, .inl (fun _ => 0)), .inl (cT 0, 5, .inl (fun _ => 0)), .inl (cT 0, 5, .inl (fun _ => 0)), .inl (cT 0, 8, .inl (fun _ => 0)), .inl (cT 2, 8, .inl (fun _ => 0)), .inl (cT 0, 8, .inl (fun _ => 0)), .inl (cT 0, 5, .inl (fun _ => 0)), .inl (cT 0, 8, .inl (fun _ => 0)), .inl (cT 2, 256, .inl (fun _ => 0))]) H := hP
    refine lv_iconst (v := 0) hx hb dX12_image_18 (by decide) ?_
    refine lv_istore_n (lv' := [(2, .int 0), (0, .ref (b + 0)), (1, .int 1)]) hx hb dX12_image_19 rfl hl (by decide) rfl (fun ls hl => ?_)
    refine gb_loop (I := fun i H locs ls => ∃ F : Nat → Int32, va_P D vwCl (gb_wl b [.inr (10, [.ref (b + 1), .ref (b + 2), .int 0, .int 0, .int 0, .int 0, .int 0, .int 0, .int 0, .int 0, .ref (b + 3), .int 0, .int 0, .ref (b + 4), .ref (b + 5), .ref (b + 6), .ref (b + 7), .ref (b + 8), .ref (b + 9), .ref (b + 10), .ref (b + 11), .ref (b + 12), .int 0, .int 0, .int 0, .int 0, .ref (b + 13), .ref (b + 14), .int 0, .int 0, .ref (b + 15), .ref (b + 16), .ref (b + 17), .long 0, .int 0, .int 0, .int 0, .ref (b + 18), .int 0, .ref (b + 19), .ref (b + 20), .int 0, .int 0, .ref (b + 21)]), .inl (cT 0, 3968, .inl F), .inl (cT 2, 3, .inl (upd (fun _ => 0) 1 (vp_nar .boolean 1))), .inl (cT 0, 97, .inl (fun _ => 0)), .inl (cT 0, 8, .inl (fun _ => 0)), .inl (cT 0, 8, .inl (fun _ => 0)), .inl (cT 0, 8, .inl (fun _ => 0)), .inl (cT 0, 8, .inl (fun _ => 0)), .inl (cT 2, 8, .inl (fun _ => 0)), .inl (cT 0, 40, .inl (fun _ => 0)), .inl (cT 0, 5, .inl (fun _ => 0)), .inl (cT 0, 5, .inl (fun _ => 0)), .inl (cT 0, 5, .inl (fun _ => 0)), .inl (cT 0, 40, .inl (fun _ => 0)), .inl (cT 0, 5, .inl (fun _ => 0)), .inl (cT 0, 5, .inl (fun _ => 0)), .inl (cT 0, 8, .inl (fun _ => 0)), .inl (cT 2, 8, .inl (fun _ => 0)), .inl (cT 0, 8, .inl (fun _ => 0)), .inl (cT 0, 5, .inl (fun _ => 0)), .inl (cT 0, 8, .inl (fun _ => 0)), .inl (cT 2, 256, .inl (fun _ => 0))]) H ∧ va_S (gb_fr b 22) s.heap H locs ∧ lv_has ls 3 [(2, .int (nI i)), (0, .ref (b + 0)), (1, .int 1)]) 992 ?_ ?_ 0 _ _ _ (by decide) ⟨_, hP, hS, hl⟩
    · intro i H locs ls hi hI ih
      obtain ⟨F, hP, hS, hl⟩ := hI
      refine lv_iload_n hx hb dX12_image_20 rfl (lv_at hl 0 rfl) ?_
      refine lv_sipush (v := 992) hx hb dX12_image_21 (by decide) ?_
      refine lv_icmp_ge (tgt := 53) hx hb dX12_image_24 (by decide) (fun c_24 => absurd c_24 (nI_ge hi (by decide))) (fun c_24 => ?_)
      refine lv_aload_n hx hb dX12_image_27 rfl (lv_at hl 1 rfl) ?_
      refine va_get (ci := 10) (v := (.ref (b + 1))) (C := RX12) (T := TX12) (N := 44) hx hb hq i_X12 hown hK hP 0 (gb_at b rfl) rfl 0 (by decide) (hq _ w_1124) (fun _ h9 => h9) rfl dX12_image_28 ?_
      refine lv_sipush (v := 992) hx hb dX12_image_31 (by decide) ?_
      refine lv_iload_n hx hb dX12_image_34 rfl (lv_at hl 2 rfl) ?_
      refine lv_iconst (v := 1) hx hb dX12_image_35 (by decide) ?_
      refine lv_iadd hx hb dX12_image_36 ?_
      refine W.eq (g2 := F0 m 37 ls [.int 2, .int 992, .ref (b + 1)]) (congrArg (fun v => F0 m 37 ls (Value.int v :: [.int 992, .ref (b + 1)])) (show (1 : Int32) + 1 = 2 by decide)) ?_
      refine lv_imul hx hb dX12_image_37 ?_
      refine W.eq (g2 := F0 m 38 ls [.int 1984, .ref (b + 1)]) (congrArg (fun v => F0 m 38 ls (Value.int v :: [.ref (b + 1)])) (show (992 : Int32) * 2 = 1984 by decide)) ?_
      refine lv_iload_n hx hb dX12_image_38 rfl (lv_at hl 0 rfl) ?_
      refine lv_iadd hx hb dX12_image_39 ?_
      refine W.eq (g2 := F0 m 40 ls [.int (nI (1984 + i)), .ref (b + 1)]) (congrArg (fun v => F0 m 40 ls (Value.int v :: [.ref (b + 1)])) (nI_add 1984 i)) ?_
      refine lv_aload_n hx hb dX12_image_40 rfl (lv_at hl 1 rfl) ?_
      refine va_get (ci := 10) (v := (.ref (b + 1))) (C := RX12) (T := TX12) (N := 44) hx hb hq i_X12 hown hK hP 0 (gb_at b rfl) rfl 0 (by decide) (hq _ w_1124) (fun _ h9 => h9) rfl dX12_image_41 ?_
      refine lv_iload_n hx hb dX12_image_44 rfl (lv_at hl 0 rfl) ?_
      refine gb_iald (v := (F ((nI i)).toNatClampNeg)) hx hb hK hP 1 0 (gb_at b rfl) rfl (vp_in_nI (by omega) (by decide)) rfl dX12_image_45 ?_
      refine lv_topi (fun x_2 ex_2 => ?_)
      refine gb_iast (x := x_2) hx hb hK hP (fun k h => ⟨Nat.le_add_right b k, Nat.add_lt_add_left h b⟩) hS rfl 1 0 rfl rfl (vp_in_nI (by omega) (by decide)) dX12_image_46 (fun H locs hP hz_ hS => ?_)
      have hP : va_P D vwCl (gb_wl b [.inr (10, [.ref (b + 1), .ref (b + 2), .int 0, .int 0, .int 0, .int 0, .int 0, .int 0, .int 0, .int 0, .ref (b + 3), .int 0, .int 0, .ref (b + 4), .ref (b + 5), .ref (b + 6), .ref (b + 7), .ref (b + 8), .ref (b + 9), .ref (b + 10), .ref (b + 11), .ref (b + 12), .int 0, .int 0, .int 0, .int 0, .ref (b + 13), .ref (b + 14), .int 0, .int 0, .ref (b + 15), .ref (b + 16), .ref (b + 17), .long 0, .int 0, .int 0, .int 0, .ref (b + 18), .int 0, .ref (b + 19), .ref (b + 20), .int 0, .int 0, .ref (b + 21)]), .inl (cT 0, 3968, .inl (upd F ((nI (1984 + i))).toNatClampNeg x_2)), .inl (cT 2, 3, .inl (upd (fun _ => 0) 1 (vp_nar .boolean 1))), .inl (cT 0, 97, .inl (fun _ => 0)), .inl (cT 0, 8, .inl (fun _ => 0)), .inl (cT 0, 8, .inl (fun _ => 0)), .inl (cT 0, 8, .inl (fun _ => 0)), .inl (cT 0, 8, .inl (fun _ => 0)), .inl (cT 2, 8, .inl (fun _ => 0)), .inl (cT 0, 40, .inl (fun _ => 0)), .inl (cT 0, 5, .inl (fun _ => 0)), .inl (cT 0, 5, .inl (fun _ => 0)), .inl (cT 0, 5, .inl (fun _ => 0)), .inl (cT 0, 40, .inl (fun _ => 0)), .inl (cT 0, 5, .inl (fun _ => 0)), .inl (cT 0, 5, .inl (fun _ => 0)), .inl (cT 0, 8, .inl (fun _ => 0)), .inl (cT 2, 8, .inl (fun _ => 0)), .inl (cT 0, 8, .inl (fun _ => 0)), .inl (cT 0, 5, .inl (fun _ => 0)), .inl (cT 0, 8, .inl (fun _ => 0)), .inl (cT 2, 256, .inl (fun _ => 0))]) H := hP
      refine lv_iinc (v := (nI (i + 1))) (lv' := [(2, .int (nI (i + 1))), (0, .ref (b + 0)), (1, .int 1)]) hx hb dX12_image_47 hl (k := 0) rfl (nI_succ i).symm (by decide) rfl (fun ls hl => ?_)
      refine lv_goto (tgt := 20) hx hb dX12_image_50 (by decide) ?_
      exact ih _ _ _ ⟨_, hP, hS, lv_sub hl [0, 1, 2] rfl⟩
    · intro H locs ls hI
      obtain ⟨F, hP, hS, hl⟩ := hI
      refine lv_iload_n hx hb dX12_image_20 rfl (lv_at hl 0 rfl) ?_
      refine lv_sipush (v := 992) hx hb dX12_image_21 (by decide) ?_
      refine lv_icmp_ge (tgt := 53) hx hb dX12_image_24 (by decide) (fun _ => ?_) (fun hc => absurd (by decide) hc)
      refine lv_iconst (v := 1) hx hb dX12_image_53 (by decide) ?_
      exact W.zret (v := 1) hx hb hr (by decide) (fun t ht hW => gb_ri ht (by decide) hS) hS.2.2 dX12_image_54
  · subst h9
    refine lv_aload_n hx hb dX12_image_11 rfl (lv_at hl 0 rfl) ?_
    refine va_get (ci := 10) (v := (.ref (b + 2))) (C := RX12) (T := TX12) (N := 44) hx hb hq i_X12 hown hK hP 0 (gb_at b rfl) rfl 1 (by decide) (hq _ w_1125) (fun _ h9 => h9) rfl dX12_image_12 ?_
    refine lv_iload_n hx hb dX12_image_15 rfl (lv_at hl 1 rfl) ?_
    refine lv_iconst (v := 1) hx hb dX12_image_16 (by decide) ?_
    refine va_zast (x := 1) hx hb hK hP (gb_D (fun k h => ⟨Nat.le_add_right b k, Nat.add_lt_add_left h b⟩)) hS 2 2 (gb_at b rfl) rfl (gb_in rfl) dX12_image_17 (fun H locs hP hD hS => ?_)
    rw [gb_set] at hP
    have hP : va_P D vwCl (gb_wl b [.inr (10, [.ref (b + 1), .ref (b + 2), .int 0, .int 0, .int 0, .int 0, .int 0, .int 0, .int 0, .int 0, .ref (b + 3), .int 0, .int 0, .ref (b + 4), .ref (b + 5), .ref (b + 6), .ref (b + 7), .ref (b + 8), .ref (b + 9), .ref (b + 10), .ref (b + 11), .ref (b + 12), .int 0, .int 0, .int 0, .int 0, .ref (b + 13), .ref (b + 14), .int 0, .int 0, .ref (b + 15), .ref (b + 16), .ref (b + 17), .long 0, .int 0, .int 0, .int 0, .ref (b + 18), .int 0, .ref (b + 19), .ref (b + 20), .int 0, .int 0, .ref (b + 21)]), .inl (cT 0, 3968, .inl (upd (fun _ => 0) 6 (-1))), .inl (cT 2, 3, .inl (upd (fun _ => 0) 2 (vp_nar .boolean 1))), .inl (cT 0, 97, .inl (fun _ => 0)), .inl (cT 0, 8, .inl (fun _ => 0)), .inl (cT 0, 8, .inl (fun _ => 0)), .inl (cT 0, 8, .inl (fun _ => 0)), .inl (cT 0, 8, .inl (fun _ => 0)), .inl (cT 2, 8, .inl (fun _ => 0)), .inl (cT 0, 40, .inl (fun _ => 0)), .inl (cT 0, 5, .inl (fun _ => 0)), .inl (cT 0, 5, .inl (fun _ => 0)), .inl (cT 0, 5, .inl (fun _ => 0)), .inl (cT 0, 40, .inl (fun _ => 0)), .inl (cT 0, 5, .inl (fun _ => 0)), .inl (cT 0, 5, .inl (fun _ => 0)), .inl (cT 0, 8, .inl (fun _ => 0)), .inl (cT 2, 8, .inl (fun _ => 0)), .inl (cT 0, 8, .inl (fun _ => 0)), .inl (cT 0, 5, .inl (fun _ => 0)), .inl (cT 0, 8, .inl (fun _ => 0)), .inl (cT 2, 256, .inl (fun _ => 0))]) H := hP
    refine lv_iconst (v := 0) hx hb dX12_image_18 (by decide) ?_
    refine lv_istore_n (lv' := [(2, .int 0), (0, .ref (b + 0)), (1, .int 2)]) hx hb dX12_image_19 rfl hl (by decide) rfl (fun ls hl => ?_)
    refine gb_loop (I := fun i H locs ls => ∃ F : Nat → Int32, va_P D vwCl (gb_wl b [.inr (10, [.ref (b + 1), .ref (b + 2), .int 0, .int 0, .int 0, .int 0, .int 0, .int 0, .int 0, .int 0, .ref (b + 3), .int 0, .int 0, .ref (b + 4), .ref (b + 5), .ref (b + 6), .ref (b + 7), .ref (b + 8), .ref (b + 9), .ref (b + 10), .ref (b + 11), .ref (b + 12), .int 0, .int 0, .int 0, .int 0, .ref (b + 13), .ref (b + 14), .int 0, .int 0, .ref (b + 15), .ref (b + 16), .ref (b + 17), .long 0, .int 0, .int 0, .int 0, .ref (b + 18), .int 0, .ref (b + 19), .ref (b + 20), .int 0, .int 0, .ref (b + 21)]), .inl (cT 0, 3968, .inl F), .inl (cT 2, 3, .inl (upd (fun _ => 0) 2 (vp_nar .boolean 1))), .inl (cT 0, 97, .inl (fun _ => 0)), .inl (cT 0, 8, .inl (fun _ => 0)), .inl (cT 0, 8, .inl (fun _ => 0)), .inl (cT 0, 8, .inl (fun _ => 0)), .inl (cT 0, 8, .inl (fun _ => 0)), .inl (cT 2, 8, .inl (fun _ => 0)), .inl (cT 0, 40, .inl (fun _ => 0)), .inl (cT 0, 5, .inl (fun _ => 0)), .inl (cT 0, 5, .inl (fun _ => 0)), .inl (cT 0, 5, .inl (fun _ => 0)), .inl (cT 0, 40, .inl (fun _ => 0)), .inl (cT 0, 5, .inl (fun _ => 0)), .inl (cT 0, 5, .inl (fun _ => 0)), .inl (cT 0, 8, .inl (fun _ => 0)), .inl (cT 2, 8, .inl (fun _ => 0)), .inl (cT 0, 8, .inl (fun _ => 0)), .inl (cT 0, 5, .inl (fun _ => 0)), .inl (cT 0, 8, .inl (fun _ => 0)), .inl (cT 2, 256, .inl (fun _ => 0))]) H ∧ va_S (gb_fr b 22) s.heap H locs ∧ lv_has ls 3 [(2, .int (nI i)), (0, .ref (b + 0)), (1, .int 2)]) 992 ?_ ?_ 0 _ _ _ (by decide) ⟨_, hP, hS, hl⟩
    · intro i H locs ls hi hI ih
      obtain ⟨F, hP, hS, hl⟩ := hI
      refine lv_iload_n hx hb dX12_image_20 rfl (lv_at hl 0 rfl) ?_
      refine lv_sipush (v := 992) hx hb dX12_image_21 (by decide) ?_
      refine lv_icmp_ge (tgt := 53) hx hb dX12_image_24 (by decide) (fun c_24 => absurd c_24 (nI_ge hi (by decide))) (fun c_24 => ?_)
      refine lv_aload_n hx hb dX12_image_27 rfl (lv_at hl 1 rfl) ?_
      refine va_get (ci := 10) (v := (.ref (b + 1))) (C := RX12) (T := TX12) (N := 44) hx hb hq i_X12 hown hK hP 0 (gb_at b rfl) rfl 0 (by decide) (hq _ w_1124) (fun _ h9 => h9) rfl dX12_image_28 ?_
      refine lv_sipush (v := 992) hx hb dX12_image_31 (by decide) ?_
      refine lv_iload_n hx hb dX12_image_34 rfl (lv_at hl 2 rfl) ?_
      refine lv_iconst (v := 1) hx hb dX12_image_35 (by decide) ?_
      refine lv_iadd hx hb dX12_image_36 ?_
      refine W.eq (g2 := F0 m 37 ls [.int 3, .int 992, .ref (b + 1)]) (congrArg (fun v => F0 m 37 ls (Value.int v :: [.int 992, .ref (b + 1)])) (show (2 : Int32) + 1 = 3 by decide)) ?_
      refine lv_imul hx hb dX12_image_37 ?_
      refine W.eq (g2 := F0 m 38 ls [.int 2976, .ref (b + 1)]) (congrArg (fun v => F0 m 38 ls (Value.int v :: [.ref (b + 1)])) (show (992 : Int32) * 3 = 2976 by decide)) ?_
      refine lv_iload_n hx hb dX12_image_38 rfl (lv_at hl 0 rfl) ?_
      refine lv_iadd hx hb dX12_image_39 ?_
      refine W.eq (g2 := F0 m 40 ls [.int (nI (2976 + i)), .ref (b + 1)]) (congrArg (fun v => F0 m 40 ls (Value.int v :: [.ref (b + 1)])) (nI_add 2976 i)) ?_
      refine lv_aload_n hx hb dX12_image_40 rfl (lv_at hl 1 rfl) ?_
      refine va_get (ci := 10) (v := (.ref (b + 1))) (C := RX12) (T := TX12) (N := 44) hx hb hq i_X12 hown hK hP 0 (gb_at b rfl) rfl 0 (by decide) (hq _ w_1124) (fun _ h9 => h9) rfl dX12_image_41 ?_
      refine lv_iload_n hx hb dX12_image_44 rfl (lv_at hl 0 rfl) ?_
      refine gb_iald (v := (F ((nI i)).toNatClampNeg)) hx hb hK hP 1 0 (gb_at b rfl) rfl (vp_in_nI (by omega) (by decide)) rfl dX12_image_45 ?_
      refine lv_topi (fun x_3 ex_3 => ?_)
      refine gb_iast (x := x_3) hx hb hK hP (fun k h => ⟨Nat.le_add_right b k, Nat.add_lt_add_left h b⟩) hS rfl 1 0 rfl rfl (vp_in_nI (by omega) (by decide)) dX12_image_46 (fun H locs hP hz_ hS => ?_)
      have hP : va_P D vwCl (gb_wl b [.inr (10, [.ref (b + 1), .ref (b + 2), .int 0, .int 0, .int 0, .int 0, .int 0, .int 0, .int 0, .int 0, .ref (b + 3), .int 0, .int 0, .ref (b + 4), .ref (b + 5), .ref (b + 6), .ref (b + 7), .ref (b + 8), .ref (b + 9), .ref (b + 10), .ref (b + 11), .ref (b + 12), .int 0, .int 0, .int 0, .int 0, .ref (b + 13), .ref (b + 14), .int 0, .int 0, .ref (b + 15), .ref (b + 16), .ref (b + 17), .long 0, .int 0, .int 0, .int 0, .ref (b + 18), .int 0, .ref (b + 19), .ref (b + 20), .int 0, .int 0, .ref (b + 21)]), .inl (cT 0, 3968, .inl (upd F ((nI (2976 + i))).toNatClampNeg x_3)), .inl (cT 2, 3, .inl (upd (fun _ => 0) 2 (vp_nar .boolean 1))), .inl (cT 0, 97, .inl (fun _ => 0)), .inl (cT 0, 8, .inl (fun _ => 0)), .inl (cT 0, 8, .inl (fun _ => 0)), .inl (cT 0, 8, .inl (fun _ => 0)), .inl (cT 0, 8, .inl (fun _ => 0)), .inl (cT 2, 8, .inl (fun _ => 0)), .inl (cT 0, 40, .inl (fun _ => 0)), .inl (cT 0, 5, .inl (fun _ => 0)), .inl (cT 0, 5, .inl (fun _ => 0)), .inl (cT 0, 5, .inl (fun _ => 0)), .inl (cT 0, 40, .inl (fun _ => 0)), .inl (cT 0, 5, .inl (fun _ => 0)), .inl (cT 0, 5, .inl (fun _ => 0)), .inl (cT 0, 8, .inl (fun _ => 0)), .inl (cT 2, 8, .inl (fun _ => 0)), .inl (cT 0, 8, .inl (fun _ => 0)), .inl (cT 0, 5, .inl (fun _ => 0)), .inl (cT 0, 8, .inl (fun _ => 0)), .inl (cT 2, 256, .inl (fun _ => 0))]) H := hP
      refine lv_iinc (v := (nI (i + 1))) (lv' := [(2, .int (nI (i + 1))), (0, .ref (b + 0)), (1, .int 2)]) hx hb dX12_image_47 hl (k := 0) rfl (nI_succ i).symm (by decide) rfl (fun ls hl => ?_)
      refine lv_goto (tgt := 20) hx hb dX12_image_50 (by decide) ?_
      exact ih _ _ _ ⟨_, hP, hS, lv_sub hl [0, 1, 2] rfl⟩
    · intro H locs ls hI
      obtain ⟨F, hP, hS, hl⟩ := hI
      refine lv_iload_n hx hb dX12_image_20 rfl (lv_at hl 0 rfl) ?_
      refine lv_sipush (v := 992) hx hb dX12_image_21 (by decide) ?_
      refine lv_icmp_ge (tgt := 53) hx hb dX12_image_24 (by decide) (fun _ => ?_) (fun hc => absurd (by decide) hc)
      refine lv_iconst (v := 1) hx hb dX12_image_53 (by decide) ?_
      exact W.zret (v := 1) hx hb hr (by decide) (fun t ht hW => gb_ri ht (by decide) hS) hS.2.2 dX12_image_54
