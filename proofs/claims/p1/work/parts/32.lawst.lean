theorem w_23 : (Cond.instantiable "GooseBorder" (10 : Nat)) ∈ gb_wA := gb_t1 23 rfl rfl
theorem w_1119 : (Cond.instantiable "GooseBorderModel" (44 : Nat)) ∈ gb_wA := gb_t5 159 rfl rfl
set_option maxHeartbeats 4000000 in
set_option maxRecDepth 100000 in
theorem law_St {p : Program} {s : State} {m : MethodId} {meth : Method} {c : Code} {b L : Nat} {xs : Nat → Int32} (C0 : lw_At p s m meth c b L xs) : ∃ (D : va_G) (cT : Nat → ClassId) (tt : Nat → Nat), gb_St D cT tt s.heap.size s := by
  obtain ⟨hx, hb, hr, hml, hown, hts, hX, hbl, hlocks, hgv⟩ := C0
  have hq : ∀ w ∈ gb_wA, w.before #[Value.ref b] s = true := fun w h => hts w (gb_wA_tbl w h)
  obtain ⟨c0, iS0, hKn0⟩ := u_known (C := RX0) (T := TX0) (N := 1) (n := 1) hq i_X0 (hq _ w_38)
  obtain ⟨c1, iS1, hKn1⟩ := u_known (C := RX1) (T := TX1) (N := 4) (n := 4) hq i_X1 (hq _ w_101)
  obtain ⟨c2, iS2, hKn2⟩ := u_known (C := RX2) (T := TX2) (N := 6) (n := 6) hq i_X2 (hq _ w_289)
  obtain ⟨c3, iS3, hKn3⟩ := u_known (C := RX3) (T := TX3) (N := 4) (n := 4) hq i_X3 (hq _ w_88)
  obtain ⟨c4, iS4, hKn4⟩ := u_known (C := RX5) (T := TX5) (N := 4) (n := 4) hq i_X5 (hq _ w_62)
  obtain ⟨c5, iS5, hKn5⟩ := u_known (C := RX6) (T := TX6) (N := 12) (n := 12) hq i_X6 (hq _ w_190)
  obtain ⟨c6, iS6, hKn6⟩ := u_known (C := RX7) (T := TX7) (N := 6) (n := 6) hq i_X7 (hq _ w_162)
  obtain ⟨c7, iS7, hKn7⟩ := u_known (C := RX8) (T := TX8) (N := 11) (n := 11) hq i_X8 (hq _ w_244)
  obtain ⟨c8, iS8, hKn8⟩ := u_known (C := RX10) (T := TX10) (N := 9) (n := 9) hq i_X10 (hq _ w_31)
  obtain ⟨c9, iS9, hKn9⟩ := u_known (C := RX11) (T := TX11) (N := 10) (n := 10) hq i_X11 (hq _ w_23)
  obtain ⟨c10, iS10, hKn10⟩ := u_known (C := RX12) (T := TX12) (N := 44) (n := 44) hq i_X12 (hq _ w_1119)
  have hKc : ∀ (k : Nat) (q : vw_C), vwCl[k]? = some q → u_Kn s q.1 q.2.1 q.2.2 ((fun k => match k with | 0 => c0 | 1 => c1 | 2 => c2 | 3 => c3 | 4 => c4 | 5 => c5 | 6 => c6 | 7 => c7 | 8 => c8 | 9 => c9 | _ => c10 : Nat → ClassId) k) ((fun k => match k with | 0 => iS0 | 1 => iS1 | 2 => iS2 | 3 => iS3 | 4 => iS4 | 5 => iS5 | 6 => iS6 | 7 => iS7 | 8 => iS8 | 9 => iS9 | _ => iS10 : Nat → Nat → Nat) k) := by
    intro k q hq9
    match k, hq9 with
    | 0, hq9 => cases hq9; exact hKn0
    | 1, hq9 => cases hq9; exact hKn1
    | 2, hq9 => cases hq9; exact hKn2
    | 3, hq9 => cases hq9; exact hKn3
    | 4, hq9 => cases hq9; exact hKn4
    | 5, hq9 => cases hq9; exact hKn5
    | 6, hq9 => cases hq9; exact hKn6
    | 7, hq9 => cases hq9; exact hKn7
    | 8, hq9 => cases hq9; exact hKn8
    | 9, hq9 => cases hq9; exact hKn9
    | 10, hq9 => cases hq9; exact hKn10
    | k + 11, hq9 => simp [vwCl] at hq9
  obtain ⟨a0, ha0, hb0⟩ := law_prim (ty := .int) (fun _ h => h) (hq _ w_59)
  obtain ⟨a1, ha1, hb1⟩ := law_prim (ty := .byte) (fun _ h => h) (hq _ w_149)
  obtain ⟨a2, ha2, hb2⟩ := law_prim (ty := .boolean) (fun _ h => h) (hq _ w_188)
  obtain ⟨a3, ha3, hb3⟩ := law_prim (ty := .long) (fun _ h => h) (hq _ w_314)
  have hw4 : (Cond.arrayOver (.object "GooseBorder$Border")).before #[Value.ref b] s = true := hts _ (List.mem_append_right _ (gb_tt1 (i := 37) rfl))
  obtain ⟨a4, ha4, hb4⟩ := law_objs hw4
  have hw5 : (Cond.arrayOver (.object "GooseBorder$Night")).before #[Value.ref b] s = true := hts _ (List.mem_append_right _ (gb_tt1 (i := 61) rfl))
  obtain ⟨a5, ha5, hb5⟩ := law_objs hw5
  have hw6 : (Cond.arrayOver (.object "GooseBorder$Law")).before #[Value.ref b] s = true := hts _ (List.mem_append_right _ (gb_tt1 (i := 87) rfl))
  obtain ⟨a6, ha6, hb6⟩ := law_objs hw6
  have hw7 : (Cond.arrayOver (.object "GooseBorder$Dawn")).before #[Value.ref b] s = true := hts _ (List.mem_append_right _ (gb_tt1 (i := 100) rfl))
  obtain ⟨a7, ha7, hb7⟩ := law_objs hw7
  have hw8 : (Cond.arrayOver (.object "GooseBorder$Told")).before #[Value.ref b] s = true := hts _ (List.mem_append_right _ (gb_tt1 (i := 150) rfl))
  obtain ⟨a8, ha8, hb8⟩ := law_objs hw8
  have hw9 : (Cond.arrayOver (.object "GooseBorder$Sheet")).before #[Value.ref b] s = true := hts _ (List.mem_append_right _ (gb_tt1 (i := 152) rfl))
  obtain ⟨a9, ha9, hb9⟩ := law_objs hw9
  obtain ⟨t0, hz0, ht0⟩ := law_t0 hgv (hts _ (List.mem_append_right _ (gb_tt1 (i := 67) rfl))) (hq _ w_1)
  obtain ⟨t1, hz1, ht1⟩ := law_t1 hgv (hts _ (List.mem_append_right _ (gb_tt3 (i := 17) rfl))) (hq _ w_1)
  obtain ⟨t2, hz2, ht2⟩ := law_t2 hgv (hts _ (List.mem_append_right _ (gb_tt3 (i := 27) rfl))) (hq _ w_1)
  refine ⟨(fun k => match k with | 0 => c0 | 1 => c1 | 2 => c2 | 3 => c3 | 4 => c4 | 5 => c5 | 6 => c6 | 7 => c7 | 8 => c8 | 9 => c9 | _ => c10, fun k => match k with | 0 => iS0 | 1 => iS1 | 2 => iS2 | 3 => iS3 | 4 => iS4 | 5 => iS5 | 6 => iS6 | 7 => iS7 | 8 => iS8 | 9 => iS9 | _ => iS10), fun k => match k with | 0 => a0 | 1 => a1 | 2 => a2 | 3 => a3 | 4 => a4 | 5 => a5 | 6 => a6 | 7 => a7 | 8 => a8 | _ => a9, fun k => match k with | 0 => t0 | 1 => t1 | _ => t2, ⟨hKc, ?_⟩, law_nw hts, ?_, ⟨hz0, ht0⟩, ⟨hz1, ht1⟩, ⟨hz2, ht2⟩⟩
  · intro k q hk
    match k, hk with
    | 0, hk => cases hk; exact ⟨ha0, hb0⟩
    | 1, hk => cases hk; exact ⟨ha1, hb1⟩
    | 2, hk => cases hk; exact ⟨ha2, hb2⟩
    | 3, hk => cases hk; exact ⟨ha3, hb3⟩
    | 4, hk => cases hk; exact ⟨ha4, hb4⟩
    | 5, hk => cases hk; exact ⟨ha5, hb5⟩
    | 6, hk => cases hk; exact ⟨ha6, hb6⟩
    | 7, hk => cases hk; exact ⟨ha7, hb7⟩
    | 8, hk => cases hk; exact ⟨ha8, hb8⟩
    | 9, hk => cases hk; exact ⟨ha9, hb9⟩
    | k + 10, hk => simp [gb_TY] at hk
  · intro C hC
    simp only [gb_aC, List.mem_cons, List.not_mem_nil, or_false] at hC
    rcases hC with h | h | h | h | h | h
    · rw [h]; exact va_AO.of hw4
    · rw [h]; exact va_AO.of hw5
    · rw [h]; exact va_AO.of hw6
    · rw [h]; exact va_AO.of hw7
    · rw [h]; exact va_AO.of hw8
    · rw [h]; exact va_AO.of hw9
theorem dL_law_1891 : decode cL_law 1891 = .ok (.iinc 3 6, 3) := by decide +kernel
theorem dL_law_1894 : decode cL_law 1894 = .ok (.goto (-1876), 3) := by decide +kernel
theorem dL_law_18 : decode cL_law 18 = .ok (.iload_n 3, 1) := by decide +kernel
theorem dL_law_19 : decode cL_law 19 = .ok (.aload_n 0, 1) := by decide +kernel
theorem dL_law_20 : decode cL_law 20 = .ok (.arraylength, 1) := by decide +kernel
theorem dL_law_21 : decode cL_law 21 = .ok (.bipush 6, 2) := by decide +kernel
theorem dL_law_23 : decode cL_law 23 = .ok (.isub, 1) := by decide +kernel
theorem dL_law_24 : decode cL_law 24 = .ok (.if_icmp .gt 1873, 3) := by decide +kernel
theorem dL_law_1897 : decode cL_law 1897 = .ok (.iconst 1, 1) := by decide +kernel
theorem dL_law_1898 : decode cL_law 1898 = .ok (.ireturn, 1) := by decide +kernel
set_option maxHeartbeats 4000000 in
set_option maxRecDepth 100000 in
theorem law_end {p : Program} {l : Launch} {e : Env} {s : State} {m : MethodId} {below : List Frame} {meth : Method} {c : Code} {b z : Nat} {xs : Nat → Int32} (C0 : lw_At p s m meth c b 6 xs) (hzz : Array.size s.heap = z) {H : Heap} {locs : List Loc} {ls : Array Slot} (hS : va_S (gb_ge z) s.heap H locs) (hl : lv_has ls 4 [(3, .int 0), (0, .ref b)]) : W p l e room_1 s m #[Value.ref b] below meth c H locs 157 10381 (lw_Z below #[Value.ref b] s) (F0 m 1891 ls []) := by
  obtain ⟨hx, hb, hr, hml, hown, hts, hX, hbl, hlocks, hgv⟩ := C0
  have hq : ∀ w ∈ gb_wA, w.before #[Value.ref b] s = true := fun w h => hts w (gb_wA_tbl w h)
  have hbA : ¬ gb_ge z b := Nat.not_le.mpr (by rw [← hzz]; exact hbl)
  refine lv_iinc (v := 6) (lv' := [(3, .int 6), (0, .ref b)]) hx hb dL_law_1891 hl (k := 0) rfl (by decide) (by decide) rfl (fun ls hl => ?_)
  refine lv_goto (tgt := 18) hx hb dL_law_1894 (by decide) ?_
  refine lv_iload_n hx hb dL_law_18 rfl (lv_at hl 0 rfl) ?_
  refine lv_aload_n hx hb dL_law_19 rfl (lv_at hl 1 rfl) ?_
  refine va_slen hx hb hX hbl hbA hS dL_law_20 ?_
  refine lv_bipush (v := 6) hx hb dL_law_21 (by decide) ?_
  refine lv_isub hx hb dL_law_23 ?_
  refine lv_icmp_gt (tgt := 1897) hx hb dL_law_24 (by decide) (fun _ => ?_) (fun hc => absurd (by decide) hc)
  refine lv_iconst (v := 1) hx hb dL_law_1897 (by decide) ?_
  refine va_forget (fun q hq => by rw [hzz]; exact hS.2.2 q hq) ?_
  refine W.widen (k := 600000) (n := 7302250) (Nat.le_of_ble_eq_true rfl) (Nat.le_of_ble_eq_true rfl) ?_
  exact lw_ret hx hb hr hlocks dL_law_1898
