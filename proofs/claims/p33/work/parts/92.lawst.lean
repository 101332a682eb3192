theorem w_23 : (Cond.instantiable "GooseBorder" (10 : Nat)) ∈ gb_wA := gb_t1 23 rfl rfl
theorem w_1119 : (Cond.instantiable "GooseBorderModel" (44 : Nat)) ∈ gb_wA := gb_t5 159 rfl rfl
set_option maxHeartbeats 4000000 in
set_option maxRecDepth 100000 in
theorem law_St {p : Program} {s : State} {m : MethodId} {meth : Method} {c : Code} {b L : Nat} {xs : Nat → Int32} (C0 : lw_At p s m meth c b L xs) : ∃ (D : va_G) (cT : Nat → ClassId) (tt : Nat → Nat), gb_St D cT tt s.heap.size s := by
  obtain ⟨hx, hb, hr, hml, hown, hts, hX, hbl, hlocks, hgv⟩ := C0
  have hq : ∀ w ∈ gb_wA, w.before #[Value.ref b] s = true := fun w h => hts w (gb_wA_tbl w h)
  obtain ⟨c0, iS0, hKn0⟩ := u_known (C := RX0) (T := TX0) (N := 1) (n := 1) hq i_X0 (hq _ w_38)
  obtain ⟨c1, iS1, hKn1⟩ := u_known (C := RX1) (T := TX1) (N := 4) (n := 4) hq i_X1 (hq _ w_101)
  obtain ⟨c2, iS2, hKn2⟩ := u_known (C := RX2) (T := TX2) (N := 6) (n := 6) hq i_X2 (hq _ w_289)
  obtain ⟨c3, iS3, hKn3⟩ := u_known (C := RX3) (T := TX3) (N := 4) (n := 4) hq i_X3 (hq _ w_88)
  obtain ⟨c4, iS4, hKn4⟩ := u_known (C := RX5) (T := TX5) (N := 4) (n := 4) hq i_X5 (hq _ w_62)
  obtain ⟨c5, iS5, hKn5⟩ := u_known (C := RX6) (T := TX6) (N := 12) (n := 12) hq i_X6 (hq _ w_190)
  obtain ⟨c6, iS6, hKn6⟩ := u_known (C := RX7) (T := TX7) (N := 6) (n := 6) hq i_X7 (hq _ w_162)
  obtain ⟨c7, iS7, hKn7⟩ := u_known (C := RX8) (T := TX8) (N := 11) (n := 11) hq i_X8 (hq _ w_244)
  obtain ⟨c8, iS8, hKn8⟩ := u_known (C := RX10) (T := TX10) (N := 9) (n := 9) hq i_X10 (hq _ w_31)
  obtain ⟨c9, iS9, hKn9⟩ := u_known (C := RX11) (T := TX11) (N := 10) (n := 10) hq i_X11 (hq _ w_23)
  obtain ⟨c10, iS10, hKn10⟩ := u_known (C := RX12) (T := TX12) (N := 44) (n := 44) hq i_X12 (hq _ w_1119)
  have hKc : ∀ (k : Nat) (q : vw_C), vwCl[k]? = some q → u_Kn s q.1 q.2.1 q.2.2 ((fun k => match k with | 0 => c0 | 1 => c1 | 2 => c2 | 3 => c3 | 4 => c4 | 5 => c5 | 6 => c6 | 7 => c7 | 8 => c8 | 9 => c9 | _ => c10 : Nat → ClassId) k) ((fun k => match k with | 0 => iS0 | 1 => iS1 | 2 => iS2 | 3 => iS3 | 4 => iS4 | 5 => iS5 | 6 => iS6 | 7 => iS7 | 8 => iS8 | 9 => iS9 | _ => iS10 : Nat → Nat → Nat) k) := by
    intro k q hq9
    match k, hq9 with
    | 0, hq9 => cases hq9; exact hKn0
    | 1, hq9 => cases hq9; exact hKn1
    | 2, hq9 => cases hq9; exact hKn2
    | 3, hq9 => cases hq9; exact hKn3
    | 4, hq9 => cases hq9; exact hKn4
    | 5, hq9 => cases hq9; exact hKn5
    | 6, hq9 => cases hq9; exact hKn6
    | 7, hq9 => cases hq9; exact hKn7
    | 8, hq9 => cases hq9; exact hKn8
    | 9, hq9 => cases hq9; exact hKn9
    | 10, hq9 => cases hq9; exact hKn10
    | k + 11, hq9 => simp [vwCl] at hq9
  obtain ⟨a0, ha0, hb0⟩ := law_prim (ty := .int) (fun _ h => h) (hq _ w_59)
  obtain ⟨a1, ha1, hb1⟩ := law_prim (ty := .byte) (fun _ h => h) (hq _ w_149)
  obtain ⟨a2, ha2, hb2⟩ := law_prim (ty := .boolean) (fun _ h => h) (hq _ w_188)
  obtain ⟨a3, ha3, hb3⟩ := law_prim (ty := .long) (fun _ h => h) (hq _ w_314)
  have hw4 : (Cond.arrayOver (.object "GooseBorder$Border")).before #[Value.ref b] s = true := hts _ (List.mem_append_right _ (gb_tt1 (i := 37) rfl))
  obtain ⟨a4, ha4, hb4⟩ := law_objs hw4
  have hw5 : (Cond.arrayOver (.object "GooseBorder$Night")).before #[Value.ref b] s = true := hts _ (List.mem_append_right _ (gb_tt1 (i := 61) rfl))
  obtain ⟨a5, ha5, hb5⟩ := law_objs hw5
  have hw6 : (Cond.arrayOver (.object "GooseBorder$Law")).before #[Value.ref b] s = true := hts _ (List.mem_append_right _ (gb_tt1 (i := 87) rfl))
  obtain ⟨a6, ha6, hb6⟩ := law_objs hw6
  have hw7 : (Cond.arrayOver (.object "GooseBorder$Dawn")).before #[Value.ref b] s = true := hts _ (List.mem_append_right _ (gb_tt1 (i := 100) rfl))
  obtain ⟨a7, ha7, hb7⟩ := law_objs hw7
  have hw8 : (Cond.arrayOver (.object "GooseBorder$Told")).before #[Value.ref b] s = true := hts _ (List.mem_append_right _ (gb_tt1 (i := 150) rfl))
  obtain ⟨a8, ha8, hb8⟩ := law_objs hw8
  have hw9 : (Cond.arrayOver (.object "GooseBorder$Sheet")).before #[Value.ref b] s = true := hts _ (List.mem_append_right _ (gb_tt1 (i := 152) rfl))
  obtain ⟨a9, ha9, hb9⟩ := law_objs hw9
  obtain ⟨t0, hz0, ht0⟩ := law_t0 hgv (hts _ (List.mem_append_right _ (gb_tt1 (i := 67) rfl))) (hq _ w_1)
  obtain ⟨t1, hz1, ht1⟩ := law_t1 hgv (hts _ (List.mem_append_right _ (gb_tt3 (i := 17) rfl))) (hq _ w_1)
  obtain ⟨t2, hz2, ht2⟩ := law_t2 hgv (hts _ (List.mem_append_right _ (gb_tt3 (i := 27) rfl))) (hq _ w_1)
  refine ⟨(fun k => match k with | 0 => c0 | 1 => c1 | 2 => c2 | 3 => c3 | 4 => c4 | 5 => c5 | 6 => c6 | 7 => c7 | 8 => c8 | 9 => c9 | _ => c10, fun k => match k with | 0 => iS0 | 1 => iS1 | 2 => iS2 | 3 => iS3 | 4 => iS4 | 5 => iS5 | 6 => iS6 | 7 => iS7 | 8 => iS8 | 9 => iS9 | _ => iS10), fun k => match k with | 0 => a0 | 1 => a1 | 2 => a2 | 3 => a3 | 4 => a4 | 5 => a5 | 6 => a6 | 7 => a7 | 8 => a8 | _ => a9, fun k => match k with | 0 => t0 | 1 => t1 | _ => t2, ⟨hKc, ?_⟩, law_nw hts, ?_, ⟨hz0, ht0⟩, ⟨hz1, ht1⟩, ⟨hz2, ht2⟩⟩
  · intro k q hk
    match k, hk with
    | 0, hk => cases hk; exact ⟨ha0, hb0⟩
    | 1, hk => cases hk; exact ⟨ha1, hb1⟩
    | 2, hk => cases hk; exact ⟨ha2, hb2⟩
    | 3, hk => cases hk; exact ⟨ha3, hb3⟩
    | 4, hk => cases hk; exact ⟨ha4, hb4⟩
    | 5, hk => cases hk; exact ⟨ha5, hb5⟩
    | 6, hk => cases hk; exact ⟨ha6, hb6⟩
    | 7, hk => cases hk; exact ⟨ha7, hb7⟩
    | 8, hk => cases hk; exact ⟨ha8, hb8⟩
    | 9, hk => cases hk; exact ⟨ha9, hb9⟩
    | k + 10, hk => simp [gb_TY] at hk
  · intro C hC
    simp only [gb_aC, List.mem_cons, List.not_mem_nil, or_false] at hC
    rcases hC with h | h | h | h | h | h
    · rw [h]; exact va_AO.of hw4
    · rw [h]; exact va_AO.of hw5
    · rw [h]; exact va_AO.of hw6
    · rw [h]; exact va_AO.of hw7
    · rw [h]; exact va_AO.of hw8
    · rw [h]; exact va_AO.of hw9
theorem dq_cL_law_0 : ((cL_law.data.toList.drop 0).take 67).map UInt8.toNat = [187, 0, 7, 89, 183, 0, 9, 76, 187, 0, 10, 89, 183, 0, 12, 77, 3, 62, 29, 42, 190, 16, 6, 100, 163, 7, 80, 42, 29, 46, 16, 63, 126, 170, 0, 0, 0, 0, 7, 65, 0, 0, 0, 0, 0, 0, 0, 37, 0, 0, 0, 167, 0, 0, 0, 230, 0, 0, 0, 253, 0, 0, 1, 30, 0, 0, 1] := by decide +kernel
theorem dL_law_18 : decode cL_law 18 = .ok (.iload_n 3, 1) := dc_29 (dc_cut (j := 18) (n := 1) (l := [29]) dq_cL_law_0 (by decide +kernel) (by decide))
theorem dL_law_19 : decode cL_law 19 = .ok (.aload_n 0, 1) := dc_42 (dc_cut (j := 19) (n := 1) (l := [42]) dq_cL_law_0 (by decide +kernel) (by decide))
theorem dL_law_20 : decode cL_law 20 = .ok (.arraylength, 1) := dc_190 (dc_cut (j := 20) (n := 1) (l := [190]) dq_cL_law_0 (by decide +kernel) (by decide))
theorem dL_law_21 : decode cL_law 21 = .ok (.bipush 6, 2) := dc_16 (dc_cut (j := 21) (n := 2) (l := [16, 6]) dq_cL_law_0 (by decide +kernel) (by decide)) rfl
theorem dL_law_23 : decode cL_law 23 = .ok (.isub, 1) := dc_100 (dc_cut (j := 23) (n := 1) (l := [100]) dq_cL_law_0 (by decide +kernel) (by decide))
theorem dL_law_24 : decode cL_law 24 = .ok (.if_icmp .gt 1872, 3) := dc_163 (dc_cut (j := 24) (n := 3) (l := [163, 7, 80]) dq_cL_law_0 (by decide +kernel) (by decide)) rfl
theorem dq_cL_law_1856 : ((cL_law.data.toList.drop 1856).take 42).map UInt8.toNat = [29, 4, 96, 46, 182, 0, 170, 87, 167, 0, 26, 43, 42, 29, 4, 96, 46, 182, 0, 171, 87, 44, 42, 29, 4, 96, 46, 182, 0, 174, 87, 167, 0, 3, 132, 3, 6, 167, 248, 173, 4, 172] := by decide +kernel
theorem dL_law_1897 : decode cL_law 1897 = .ok (.ireturn, 1) := dc_172 (dc_cut (j := 41) (n := 1) (l := [172]) dq_cL_law_1856 (by decide +kernel) (by decide))
set_option maxRecDepth 100000 in
set_option maxHeartbeats 4000000 in
theorem law_str {A : Array Value} {s : State} (hgv : (Jvm.Cond.and given_1 narrow_1).before A s = true) (hsr : ∀ i, i < 18 → (Cond.stringRef "GooseBorder$Reader" (gb_six.getD i 0) (gb_stx.getD i "")).before A s = true) : ∃ ak av : Nat → Nat, vk_S 18 gb_slen gb_sbyt ak av (gb_ge s.heap.size) s s.heap ∧ ∀ i, i < 18 → vk_R "GooseBorder$Reader" (gb_six.getD i 0) (gb_stx.getD i "") (ak i) s := by
  have hs := flat_of_before _ hgv
  have hA : ∀ a : Nat, a < s.heap.size → ¬ gb_ge s.heap.size a := fun a h => Nat.not_le.mpr h
  have hex : ∀ i, i < 18 → (Cond.exactly (Term.string "GooseBorder$Reader" (gb_six.getD i 0)) "java/lang/String").before A s = true := by
    intro i hi
    match i, hi with
    | 0, _ => exact hs _ (List.mem_of_getElem? (i := 199) (by decide +kernel))
    | 1, _ => exact hs _ (List.mem_of_getElem? (i := 207) (by decide +kernel))
    | 2, _ => exact hs _ (List.mem_of_getElem? (i := 217) (by decide +kernel))
    | 3, _ => exact hs _ (List.mem_of_getElem? (i := 226) (by decide +kernel))
    | 4, _ => exact hs _ (List.mem_of_getElem? (i := 238) (by decide +kernel))
    | 5, _ => exact hs _ (List.mem_of_getElem? (i := 250) (by decide +kernel))
    | 6, _ => exact hs _ (List.mem_of_getElem? (i := 263) (by decide +kernel))
    | 7, _ => exact hs _ (List.mem_of_getElem? (i := 278) (by decide +kernel))
    | 8, _ => exact hs _ (List.mem_of_getElem? (i := 295) (by decide +kernel))
    | 9, _ => exact hs _ (List.mem_of_getElem? (i := 311) (by decide +kernel))
    | 10, _ => exact hs _ (List.mem_of_getElem? (i := 329) (by decide +kernel))
    | 11, _ => exact hs _ (List.mem_of_getElem? (i := 347) (by decide +kernel))
    | 12, _ => exact hs _ (List.mem_of_getElem? (i := 365) (by decide +kernel))
    | 13, _ => exact hs _ (List.mem_of_getElem? (i := 385) (by decide +kernel))
    | 14, _ => exact hs _ (List.mem_of_getElem? (i := 407) (by decide +kernel))
    | 15, _ => exact hs _ (List.mem_of_getElem? (i := 430) (by decide +kernel))
    | 16, _ => exact hs _ (List.mem_of_getElem? (i := 452) (by decide +kernel))
    | 17, _ => exact hs _ (List.mem_of_getElem? (i := 476) (by decide +kernel))
    | i + 18, hi => exact absurd hi (by omega)
  have hco : ∀ i, i < 18 → (Cond.eq (.field (Term.string "GooseBorder$Reader" (gb_six.getD i 0)) "java/lang/String" "coder" "B") (.int 0)).before A s = true := by
    intro i hi
    match i, hi with
    | 0, _ => exact hs _ (List.mem_of_getElem? (i := 200) (by decide +kernel))
    | 1, _ => exact hs _ (List.mem_of_getElem? (i := 208) (by decide +kernel))
    | 2, _ => exact hs _ (List.mem_of_getElem? (i := 218) (by decide +kernel))
    | 3, _ => exact hs _ (List.mem_of_getElem? (i := 227) (by decide +kernel))
    | 4, _ => exact hs _ (List.mem_of_getElem? (i := 239) (by decide +kernel))
    | 5, _ => exact hs _ (List.mem_of_getElem? (i := 251) (by decide +kernel))
    | 6, _ => exact hs _ (List.mem_of_getElem? (i := 264) (by decide +kernel))
    | 7, _ => exact hs _ (List.mem_of_getElem? (i := 279) (by decide +kernel))
    | 8, _ => exact hs _ (List.mem_of_getElem? (i := 296) (by decide +kernel))
    | 9, _ => exact hs _ (List.mem_of_getElem? (i := 312) (by decide +kernel))
    | 10, _ => exact hs _ (List.mem_of_getElem? (i := 330) (by decide +kernel))
    | 11, _ => exact hs _ (List.mem_of_getElem? (i := 348) (by decide +kernel))
    | 12, _ => exact hs _ (List.mem_of_getElem? (i := 366) (by decide +kernel))
    | 13, _ => exact hs _ (List.mem_of_getElem? (i := 386) (by decide +kernel))
    | 14, _ => exact hs _ (List.mem_of_getElem? (i := 408) (by decide +kernel))
    | 15, _ => exact hs _ (List.mem_of_getElem? (i := 431) (by decide +kernel))
    | 16, _ => exact hs _ (List.mem_of_getElem? (i := 453) (by decide +kernel))
    | 17, _ => exact hs _ (List.mem_of_getElem? (i := 477) (by decide +kernel))
    | i + 18, hi => exact absurd hi (by omega)
  have har : ∀ i, i < 18 → (Cond.arrayOf (.field (Term.string "GooseBorder$Reader" (gb_six.getD i 0)) "java/lang/String" "value" "[B") .byte).before A s = true := by
    intro i hi
    match i, hi with
    | 0, _ => exact hs _ (List.mem_of_getElem? (i := 201) (by decide +kernel))
    | 1, _ => exact hs _ (List.mem_of_getElem? (i := 209) (by decide +kernel))
    | 2, _ => exact hs _ (List.mem_of_getElem? (i := 219) (by decide +kernel))
    | 3, _ => exact hs _ (List.mem_of_getElem? (i := 228) (by decide +kernel))
    | 4, _ => exact hs _ (List.mem_of_getElem? (i := 240) (by decide +kernel))
    | 5, _ => exact hs _ (List.mem_of_getElem? (i := 252) (by decide +kernel))
    | 6, _ => exact hs _ (List.mem_of_getElem? (i := 265) (by decide +kernel))
    | 7, _ => exact hs _ (List.mem_of_getElem? (i := 280) (by decide +kernel))
    | 8, _ => exact hs _ (List.mem_of_getElem? (i := 297) (by decide +kernel))
    | 9, _ => exact hs _ (List.mem_of_getElem? (i := 313) (by decide +kernel))
    | 10, _ => exact hs _ (List.mem_of_getElem? (i := 331) (by decide +kernel))
    | 11, _ => exact hs _ (List.mem_of_getElem? (i := 349) (by decide +kernel))
    | 12, _ => exact hs _ (List.mem_of_getElem? (i := 367) (by decide +kernel))
    | 13, _ => exact hs _ (List.mem_of_getElem? (i := 387) (by decide +kernel))
    | 14, _ => exact hs _ (List.mem_of_getElem? (i := 409) (by decide +kernel))
    | 15, _ => exact hs _ (List.mem_of_getElem? (i := 432) (by decide +kernel))
    | 16, _ => exact hs _ (List.mem_of_getElem? (i := 454) (by decide +kernel))
    | 17, _ => exact hs _ (List.mem_of_getElem? (i := 478) (by decide +kernel))
    | i + 18, hi => exact absurd hi (by omega)
  have hle : ∀ i, i < 18 → (Cond.eq (.length (.field (Term.string "GooseBorder$Reader" (gb_six.getD i 0)) "java/lang/String" "value" "[B")) (.int (Int32.ofNat (gb_slen.getD i 0)))).before A s = true := by
    intro i hi
    match i, hi with
    | 0, _ => exact hs _ (List.mem_of_getElem? (i := 202) (by decide +kernel))
    | 1, _ => exact hs _ (List.mem_of_getElem? (i := 210) (by decide +kernel))
    | 2, _ => exact hs _ (List.mem_of_getElem? (i := 220) (by decide +kernel))
    | 3, _ => exact hs _ (List.mem_of_getElem? (i := 229) (by decide +kernel))
    | 4, _ => exact hs _ (List.mem_of_getElem? (i := 241) (by decide +kernel))
    | 5, _ => exact hs _ (List.mem_of_getElem? (i := 253) (by decide +kernel))
    | 6, _ => exact hs _ (List.mem_of_getElem? (i := 266) (by decide +kernel))
    | 7, _ => exact hs _ (List.mem_of_getElem? (i := 281) (by decide +kernel))
    | 8, _ => exact hs _ (List.mem_of_getElem? (i := 298) (by decide +kernel))
    | 9, _ => exact hs _ (List.mem_of_getElem? (i := 314) (by decide +kernel))
    | 10, _ => exact hs _ (List.mem_of_getElem? (i := 332) (by decide +kernel))
    | 11, _ => exact hs _ (List.mem_of_getElem? (i := 350) (by decide +kernel))
    | 12, _ => exact hs _ (List.mem_of_getElem? (i := 368) (by decide +kernel))
    | 13, _ => exact hs _ (List.mem_of_getElem? (i := 388) (by decide +kernel))
    | 14, _ => exact hs _ (List.mem_of_getElem? (i := 410) (by decide +kernel))
    | 15, _ => exact hs _ (List.mem_of_getElem? (i := 433) (by decide +kernel))
    | 16, _ => exact hs _ (List.mem_of_getElem? (i := 455) (by decide +kernel))
    | 17, _ => exact hs _ (List.mem_of_getElem? (i := 479) (by decide +kernel))
    | i + 18, hi => exact absurd hi (by omega)
  have hel : ∀ i, i < 18 → ∀ j, j < gb_slen.getD i 0 → (Cond.eq (.elem (.field (Term.string "GooseBorder$Reader" (gb_six.getD i 0)) "java/lang/String" "value" "[B") (.int (Int32.ofNat j))) (.int ((gb_sbyt.getD i []).getD j 0))).before A s = true := by
    intro i hi
    match i, hi with
    | 0, _ => exact fun j hj => hs _ (va_run (L := flatC (Jvm.Cond.and given_1 narrow_1)) (N := 4) (p := 203) (f := fun j => Cond.eq (.elem (.field (Term.string "GooseBorder$Reader" 104) "java/lang/String" "value" "[B") (.int (Int32.ofNat j))) (.int (([112, 97, 116, 104] : List Int32).getD j 0))) (by decide +kernel) j hj)
    | 1, _ => exact fun j hj => hs _ (va_run (L := flatC (Jvm.Cond.and given_1 narrow_1)) (N := 5) (p := 211) (f := fun j => Cond.eq (.elem (.field (Term.string "GooseBorder$Reader" 106) "java/lang/String" "value" "[B") (.int (Int32.ofNat j))) (.int (([103, 111, 111, 115, 101] : List Int32).getD j 0))) (by decide +kernel) j hj)
    | 2, _ => exact fun j hj => hs _ (va_run (L := flatC (Jvm.Cond.and given_1 narrow_1)) (N := 3) (p := 221) (f := fun j => Cond.eq (.elem (.field (Term.string "GooseBorder$Reader" 108) "java/lang/String" "value" "[B") (.int (Int32.ofNat j))) (.int (([99, 97, 112] : List Int32).getD j 0))) (by decide +kernel) j hj)
    | 3, _ => exact fun j hj => hs _ (va_run (L := flatC (Jvm.Cond.and given_1 narrow_1)) (N := 5) (p := 230) (f := fun j => Cond.eq (.elem (.field (Term.string "GooseBorder$Reader" 110) "java/lang/String" "value" "[B") (.int (Int32.ofNat j))) (.int (([109, 97, 114, 99, 104] : List Int32).getD j 0))) (by decide +kernel) j hj)
    | 4, _ => exact fun j hj => hs _ (va_run (L := flatC (Jvm.Cond.and given_1 narrow_1)) (N := 4) (p := 242) (f := fun j => Cond.eq (.elem (.field (Term.string "GooseBorder$Reader" 112) "java/lang/String" "value" "[B") (.int (Int32.ofNat j))) (.int (([98, 97, 99, 107] : List Int32).getD j 0))) (by decide +kernel) j hj)
    | 5, _ => exact fun j hj => hs _ (va_run (L := flatC (Jvm.Cond.and given_1 narrow_1)) (N := 4) (p := 254) (f := fun j => Cond.eq (.elem (.field (Term.string "GooseBorder$Reader" 114) "java/lang/String" "value" "[B") (.int (Int32.ofNat j))) (.int (([104, 111, 109, 101] : List Int32).getD j 0))) (by decide +kernel) j hj)
    | 6, _ => exact fun j hj => hs _ (va_run (L := flatC (Jvm.Cond.and given_1 narrow_1)) (N := 5) (p := 267) (f := fun j => Cond.eq (.elem (.field (Term.string "GooseBorder$Reader" 116) "java/lang/String" "value" "[B") (.int (Int32.ofNat j))) (.int (([99, 97, 114, 114, 121] : List Int32).getD j 0))) (by decide +kernel) j hj)
    | 7, _ => exact fun j hj => hs _ (va_run (L := flatC (Jvm.Cond.and given_1 narrow_1)) (N := 6) (p := 282) (f := fun j => Cond.eq (.elem (.field (Term.string "GooseBorder$Reader" 118) "java/lang/String" "value" "[B") (.int (Int32.ofNat j))) (.int (([114, 101, 99, 97, 115, 116] : List Int32).getD j 0))) (by decide +kernel) j hj)
    | 8, _ => exact fun j hj => hs _ (va_run (L := flatC (Jvm.Cond.and given_1 narrow_1)) (N := 4) (p := 299) (f := fun j => Cond.eq (.elem (.field (Term.string "GooseBorder$Reader" 120) "java/lang/String" "value" "[B") (.int (Int32.ofNat j))) (.int (([114, 97, 105, 110] : List Int32).getD j 0))) (by decide +kernel) j hj)
    | 9, _ => exact fun j hj => hs _ (va_run (L := flatC (Jvm.Cond.and given_1 narrow_1)) (N := 5) (p := 315) (f := fun j => Cond.eq (.elem (.field (Term.string "GooseBorder$Reader" 122) "java/lang/String" "value" "[B") (.int (Int32.ofNat j))) (.int (([102, 114, 111, 115, 116] : List Int32).getD j 0))) (by decide +kernel) j hj)
    | 10, _ => exact fun j hj => hs _ (va_run (L := flatC (Jvm.Cond.and given_1 narrow_1)) (N := 4) (p := 333) (f := fun j => Cond.eq (.elem (.field (Term.string "GooseBorder$Reader" 124) "java/lang/String" "value" "[B") (.int (Int32.ofNat j))) (.int (([116, 104, 97, 119] : List Int32).getD j 0))) (by decide +kernel) j hj)
    | 11, _ => exact fun j hj => hs _ (va_run (L := flatC (Jvm.Cond.and given_1 narrow_1)) (N := 3) (p := 351) (f := fun j => Cond.eq (.elem (.field (Term.string "GooseBorder$Reader" 126) "java/lang/String" "value" "[B") (.int (Int32.ofNat j))) (.int (([102, 111, 120] : List Int32).getD j 0))) (by decide +kernel) j hj)
    | 12, _ => exact fun j hj => hs _ (va_run (L := flatC (Jvm.Cond.and given_1 narrow_1)) (N := 4) (p := 369) (f := fun j => Cond.eq (.elem (.field (Term.string "GooseBorder$Reader" 128) "java/lang/String" "value" "[B") (.int (Int32.ofNat j))) (.int (([101, 97, 99, 104] : List Int32).getD j 0))) (by decide +kernel) j hj)
    | 13, _ => exact fun j hj => hs _ (va_run (L := flatC (Jvm.Cond.and given_1 narrow_1)) (N := 5) (p := 389) (f := fun j => Cond.eq (.elem (.field (Term.string "GooseBorder$Reader" 130) "java/lang/String" "value" "[B") (.int (Int32.ofNat j))) (.int (([97, 98, 111, 118, 101] : List Int32).getD j 0))) (by decide +kernel) j hj)
    | 14, _ => exact fun j hj => hs _ (va_run (L := flatC (Jvm.Cond.and given_1 narrow_1)) (N := 5) (p := 411) (f := fun j => Cond.eq (.elem (.field (Term.string "GooseBorder$Reader" 132) "java/lang/String" "value" "[B") (.int (Int32.ofNat j))) (.int (([98, 101, 108, 111, 119] : List Int32).getD j 0))) (by decide +kernel) j hj)
    | 15, _ => exact fun j hj => hs _ (va_run (L := flatC (Jvm.Cond.and given_1 narrow_1)) (N := 3) (p := 434) (f := fun j => Cond.eq (.elem (.field (Term.string "GooseBorder$Reader" 134) "java/lang/String" "value" "[B") (.int (Int32.ofNat j))) (.int (([111, 100, 100] : List Int32).getD j 0))) (by decide +kernel) j hj)
    | 16, _ => exact fun j hj => hs _ (va_run (L := flatC (Jvm.Cond.and given_1 narrow_1)) (N := 4) (p := 456) (f := fun j => Cond.eq (.elem (.field (Term.string "GooseBorder$Reader" 136) "java/lang/String" "value" "[B") (.int (Int32.ofNat j))) (.int (([109, 111, 115, 116] : List Int32).getD j 0))) (by decide +kernel) j hj)
    | 17, _ => exact fun j hj => hs _ (va_run (L := flatC (Jvm.Cond.and given_1 narrow_1)) (N := 4) (p := 480) (f := fun j => Cond.eq (.elem (.field (Term.string "GooseBorder$Reader" 138) "java/lang/String" "value" "[B") (.int (Int32.ofNat j))) (.int (([108, 101, 102, 116] : List Int32).getD j 0))) (by decide +kernel) j hj)
    | i + 18, hi => exact absurd hi (by omega)
  have hn1 : ∀ i, i < 18 → ∀ k, k < i → (Cond.not (Cond.eq (Term.string "GooseBorder$Reader" (gb_six.getD k 0)) (Term.string "GooseBorder$Reader" (gb_six.getD i 0)))).before A s = true := by
    intro i hi
    match i, hi with
    | 0, _ => exact fun k hk => absurd hk (Nat.not_lt_zero k)
    | 1, _ => exact fun k hk => hs _ (va_run (L := flatC (Jvm.Cond.and given_1 narrow_1)) (N := 1) (p := 216) (f := fun k => Cond.not (Cond.eq (Term.string "GooseBorder$Reader" (gb_six.getD k 0)) (Term.string "GooseBorder$Reader" 106))) (by decide +kernel) k hk)
    | 2, _ => exact fun k hk => hs _ (va_run (L := flatC (Jvm.Cond.and given_1 narrow_1)) (N := 2) (p := 224) (f := fun k => Cond.not (Cond.eq (Term.string "GooseBorder$Reader" (gb_six.getD k 0)) (Term.string "GooseBorder$Reader" 108))) (by decide +kernel) k hk)
    | 3, _ => exact fun k hk => hs _ (va_run (L := flatC (Jvm.Cond.and given_1 narrow_1)) (N := 3) (p := 235) (f := fun k => Cond.not (Cond.eq (Term.string "GooseBorder$Reader" (gb_six.getD k 0)) (Term.string "GooseBorder$Reader" 110))) (by decide +kernel) k hk)
    | 4, _ => exact fun k hk => hs _ (va_run (L := flatC (Jvm.Cond.and given_1 narrow_1)) (N := 4) (p := 246) (f := fun k => Cond.not (Cond.eq (Term.string "GooseBorder$Reader" (gb_six.getD k 0)) (Term.string "GooseBorder$Reader" 112))) (by decide +kernel) k hk)
    | 5, _ => exact fun k hk => hs _ (va_run (L := flatC (Jvm.Cond.and given_1 narrow_1)) (N := 5) (p := 258) (f := fun k => Cond.not (Cond.eq (Term.string "GooseBorder$Reader" (gb_six.getD k 0)) (Term.string "GooseBorder$Reader" 114))) (by decide +kernel) k hk)
    | 6, _ => exact fun k hk => hs _ (va_run (L := flatC (Jvm.Cond.and given_1 narrow_1)) (N := 6) (p := 272) (f := fun k => Cond.not (Cond.eq (Term.string "GooseBorder$Reader" (gb_six.getD k 0)) (Term.string "GooseBorder$Reader" 116))) (by decide +kernel) k hk)
    | 7, _ => exact fun k hk => hs _ (va_run (L := flatC (Jvm.Cond.and given_1 narrow_1)) (N := 7) (p := 288) (f := fun k => Cond.not (Cond.eq (Term.string "GooseBorder$Reader" (gb_six.getD k 0)) (Term.string "GooseBorder$Reader" 118))) (by decide +kernel) k hk)
    | 8, _ => exact fun k hk => hs _ (va_run (L := flatC (Jvm.Cond.and given_1 narrow_1)) (N := 8) (p := 303) (f := fun k => Cond.not (Cond.eq (Term.string "GooseBorder$Reader" (gb_six.getD k 0)) (Term.string "GooseBorder$Reader" 120))) (by decide +kernel) k hk)
    | 9, _ => exact fun k hk => hs _ (va_run (L := flatC (Jvm.Cond.and given_1 narrow_1)) (N := 9) (p := 320) (f := fun k => Cond.not (Cond.eq (Term.string "GooseBorder$Reader" (gb_six.getD k 0)) (Term.string "GooseBorder$Reader" 122))) (by decide +kernel) k hk)
    | 10, _ => exact fun k hk => hs _ (va_run (L := flatC (Jvm.Cond.and given_1 narrow_1)) (N := 10) (p := 337) (f := fun k => Cond.not (Cond.eq (Term.string "GooseBorder$Reader" (gb_six.getD k 0)) (Term.string "GooseBorder$Reader" 124))) (by decide +kernel) k hk)
    | 11, _ => exact fun k hk => hs _ (va_run (L := flatC (Jvm.Cond.and given_1 narrow_1)) (N := 11) (p := 354) (f := fun k => Cond.not (Cond.eq (Term.string "GooseBorder$Reader" (gb_six.getD k 0)) (Term.string "GooseBorder$Reader" 126))) (by decide +kernel) k hk)
    | 12, _ => exact fun k hk => hs _ (va_run (L := flatC (Jvm.Cond.and given_1 narrow_1)) (N := 12) (p := 373) (f := fun k => Cond.not (Cond.eq (Term.string "GooseBorder$Reader" (gb_six.getD k 0)) (Term.string "GooseBorder$Reader" 128))) (by decide +kernel) k hk)
    | 13, _ => exact fun k hk => hs _ (va_run (L := flatC (Jvm.Cond.and given_1 narrow_1)) (N := 13) (p := 394) (f := fun k => Cond.not (Cond.eq (Term.string "GooseBorder$Reader" (gb_six.getD k 0)) (Term.string "GooseBorder$Reader" 130))) (by decide +kernel) k hk)
    | 14, _ => exact fun k hk => hs _ (va_run (L := flatC (Jvm.Cond.and given_1 narrow_1)) (N := 14) (p := 416) (f := fun k => Cond.not (Cond.eq (Term.string "GooseBorder$Reader" (gb_six.getD k 0)) (Term.string "GooseBorder$Reader" 132))) (by decide +kernel) k hk)
    | 15, _ => exact fun k hk => hs _ (va_run (L := flatC (Jvm.Cond.and given_1 narrow_1)) (N := 15) (p := 437) (f := fun k => Cond.not (Cond.eq (Term.string "GooseBorder$Reader" (gb_six.getD k 0)) (Term.string "GooseBorder$Reader" 134))) (by decide +kernel) k hk)
    | 16, _ => exact fun k hk => hs _ (va_run (L := flatC (Jvm.Cond.and given_1 narrow_1)) (N := 16) (p := 460) (f := fun k => Cond.not (Cond.eq (Term.string "GooseBorder$Reader" (gb_six.getD k 0)) (Term.string "GooseBorder$Reader" 136))) (by decide +kernel) k hk)
    | 17, _ => exact fun k hk => hs _ (va_run (L := flatC (Jvm.Cond.and given_1 narrow_1)) (N := 17) (p := 484) (f := fun k => Cond.not (Cond.eq (Term.string "GooseBorder$Reader" (gb_six.getD k 0)) (Term.string "GooseBorder$Reader" 138))) (by decide +kernel) k hk)
    | i + 18, hi => exact absurd hi (by omega)
  obtain ⟨ak, av, h1, h2⟩ := vk_Sof (N := 18) (tm := (fun i => Term.string "GooseBorder$Reader" (gb_six.getD i 0))) (len := gb_slen) (byt := gb_sbyt) (A := gb_ge s.heap.size) (by decide) hex hco har hle hel (fun i j hi hj hij => by rcases Nat.lt_or_gt_of_ne hij with h | h; exact Or.inl (hn1 j hj i h); exact Or.inr (hn1 i hi j h)) hA
  exact ⟨ak, av, h1, fun i hi => vk_R.of (hsr i hi) (h2 i hi)⟩
set_option maxHeartbeats 4000000 in
set_option maxRecDepth 100000 in
theorem law_St2 {p : Program} {s : State} {m : MethodId} {meth : Method} {c : Code} {b L : Nat} {xs : Nat → Int32} (C0 : lw_At p s m meth c b L xs) : ∃ (D : va_G) (cT : Nat → ClassId) (tt ak av : Nat → Nat), gb_St2 D cT tt ak av s.heap.size s := by
  obtain ⟨D, cT, tt, hSt⟩ := law_St C0
  obtain ⟨hx, hb, hr, hml, hown, hts, hX, hbl, hlocks, hgv⟩ := C0
  have hq : ∀ w ∈ gb_wA, w.before #[Value.ref b] s = true := fun w h => hts w (gb_wA_tbl w h)
  have hs := flat_of_before _ hgv
  have hA : ∀ a : Nat, a < s.heap.size → ¬ gb_ge s.heap.size a := fun a h => Nat.not_le.mpr h
  have hsr : ∀ i, i < 18 → (Cond.stringRef "GooseBorder$Reader" (gb_six.getD i 0) (gb_stx.getD i "")).before #[Value.ref b] s = true := by
    intro i hi
    match i, hi with
    | 0, _ => exact (hts _ (List.mem_append_right _ (gb_tt2 (i := 156) rfl)))
    | 1, _ => exact (hts _ (List.mem_append_right _ (gb_tt2 (i := 157) rfl)))
    | 2, _ => exact (hts _ (List.mem_append_right _ (gb_tt2 (i := 158) rfl)))
    | 3, _ => exact (hts _ (List.mem_append_right _ (gb_tt2 (i := 159) rfl)))
    | 4, _ => exact (hts _ (List.mem_append_right _ (gb_tt2 (i := 160) rfl)))
    | 5, _ => exact (hts _ (List.mem_append_right _ (gb_tt2 (i := 161) rfl)))
    | 6, _ => exact (hts _ (List.mem_append_right _ (gb_tt2 (i := 162) rfl)))
    | 7, _ => exact (hts _ (List.mem_append_right _ (gb_tt2 (i := 163) rfl)))
    | 8, _ => exact (hts _ (List.mem_append_right _ (gb_tt2 (i := 164) rfl)))
    | 9, _ => exact (hts _ (List.mem_append_right _ (gb_tt2 (i := 165) rfl)))
    | 10, _ => exact (hts _ (List.mem_append_right _ (gb_tt2 (i := 166) rfl)))
    | 11, _ => exact (hts _ (List.mem_append_right _ (gb_tt2 (i := 167) rfl)))
    | 12, _ => exact (hts _ (List.mem_append_right _ (gb_tt2 (i := 168) rfl)))
    | 13, _ => exact (hts _ (List.mem_append_right _ (gb_tt2 (i := 169) rfl)))
    | 14, _ => exact (hts _ (List.mem_append_right _ (gb_tt2 (i := 170) rfl)))
    | 15, _ => exact (hts _ (List.mem_append_right _ (gb_tt2 (i := 171) rfl)))
    | 16, _ => exact (hts _ (List.mem_append_right _ (gb_tt2 (i := 172) rfl)))
    | 17, _ => exact (hts _ (List.mem_append_right _ (gb_tt2 (i := 173) rfl)))
    | i + 18, hi => exact absurd hi (by omega)
  obtain ⟨ak, av, h1, h2⟩ := law_str hgv hsr
  have hc : (Cond.eq (.static "java/lang/String" "COMPACT_STRINGS" "Z") (.int 1)).before #[Value.ref b] s = true := hs _ (List.mem_of_getElem? (i := 12) (by decide +kernel))
  have hf : (Cond.isRef (.static "jdk/internal/util/Preconditions" "SIOOBE_FORMATTER" "Ljava/util/function/BiFunction;")).before #[Value.ref b] s = true := hs _ (List.mem_of_getElem? (i := 13) (by decide +kernel))
  exact ⟨D, cT, tt, ak, av, hSt, h1, h2, va_Zof (hts _ (List.mem_append_right _ (gb_tt2 (i := 187) rfl))) (hq _ w_15) (va_eqt hc) hA, va_Zqof (hts _ (List.mem_append_right _ (gb_tt2 (i := 203) rfl))) (hq _ w_17) hf hA⟩
