theorem law_take {D : va_G} {cl : List vw_C} {b : Nat} {cs ds : List va_E} {H : Heap} (h : va_P D cl (gb_wl b (cs ++ ds)) H) : va_P D cl (gb_wl b cs) H := by
  intro k q hk
  refine h k q ?_
  rw [gb_app]
  exact (List.getElem?_append_left (List.getElem?_eq_some_iff.mp hk).1).trans hk
theorem w_22 : (Cond.classLink "GooseBorderLaw" (7 : Nat) "GooseBorder") ∈ gb_wA := gb_t1 22 rfl rfl
theorem dL_law_0 : decode cL_law 0 = .ok (.new 7, 3) := dc_187 (dc_cut (j := 0) (n := 3) (l := [187, 0, 7]) dq_cL_law_0 (by decide +kernel) (by decide)) rfl
theorem dL_law_3 : decode cL_law 3 = .ok (.dup, 1) := dc_89 (dc_cut (j := 3) (n := 1) (l := [89]) dq_cL_law_0 (by decide +kernel) (by decide))
theorem w_26 : (Cond.code ({ cls := "GooseBorder", name := "<init>", desc := "()V" } : MethodName) prog_1_method_1_code (1 : Nat) (Option.none : Option FieldType)) ∈ gb_wA := gb_t1 26 rfl rfl
theorem w_24 : (Cond.methodLink "GooseBorderLaw" (9 : Nat) ({ cls := "GooseBorder", name := "<init>", desc := "()V" } : MethodName)) ∈ gb_wA := gb_t1 24 rfl rfl
theorem w_25 : (Cond.instanceMethod ({ cls := "GooseBorder", name := "<init>", desc := "()V" } : MethodName)) ∈ gb_wA := gb_t1 25 rfl rfl
theorem dL_law_4 : decode cL_law 4 = .ok (.invokespecial 9, 3) := dc_183 (dc_cut (j := 4) (n := 3) (l := [183, 0, 9]) dq_cL_law_0 (by decide +kernel) (by decide)) rfl
theorem dL_law_7 : decode cL_law 7 = .ok (.astore_n 1, 1) := dc_76 (dc_cut (j := 7) (n := 1) (l := [76]) dq_cL_law_0 (by decide +kernel) (by decide))
theorem w_1118 : (Cond.classLink "GooseBorderLaw" (10 : Nat) "GooseBorderModel") ∈ gb_wA := gb_t5 158 rfl rfl
theorem dL_law_8 : decode cL_law 8 = .ok (.new 10, 3) := dc_187 (dc_cut (j := 8) (n := 3) (l := [187, 0, 10]) dq_cL_law_0 (by decide +kernel) (by decide)) rfl
theorem dL_law_11 : decode cL_law 11 = .ok (.dup, 1) := dc_89 (dc_cut (j := 11) (n := 1) (l := [89]) dq_cL_law_0 (by decide +kernel) (by decide))
theorem w_1122 : (Cond.code ({ cls := "GooseBorderModel", name := "<init>", desc := "()V" } : MethodName) prog_14_method_1_code (1 : Nat) (Option.none : Option FieldType)) ∈ gb_wA := gb_t5 162 rfl rfl
theorem w_1120 : (Cond.methodLink "GooseBorderLaw" (12 : Nat) ({ cls := "GooseBorderModel", name := "<init>", desc := "()V" } : MethodName)) ∈ gb_wA := gb_t5 160 rfl rfl
theorem w_1121 : (Cond.instanceMethod ({ cls := "GooseBorderModel", name := "<init>", desc := "()V" } : MethodName)) ∈ gb_wA := gb_t5 161 rfl rfl
theorem dL_law_12 : decode cL_law 12 = .ok (.invokespecial 12, 3) := dc_183 (dc_cut (j := 12) (n := 3) (l := [183, 0, 12]) dq_cL_law_0 (by decide +kernel) (by decide)) rfl
theorem dL_law_15 : decode cL_law 15 = .ok (.astore_n 2, 1) := dc_77 (dc_cut (j := 15) (n := 1) (l := [77]) dq_cL_law_0 (by decide +kernel) (by decide))
theorem dL_law_16 : decode cL_law 16 = .ok (.iconst 0, 1) := dc_3 (dc_cut (j := 16) (n := 1) (l := [3]) dq_cL_law_0 (by decide +kernel) (by decide))
theorem dL_law_17 : decode cL_law 17 = .ok (.istore_n 3, 1) := dc_62 (dc_cut (j := 17) (n := 1) (l := [62]) dq_cL_law_0 (by decide +kernel) (by decide))
set_option maxHeartbeats 4000000 in
set_option maxRecDepth 100000 in
theorem whole_start {p : Program} {e : Env} {s : State} {m : MethodId} {below : List Frame} {meth : Method} {c : Code} (l : Launch) (hflags : l.flags = flags0) {b L : Nat} {xs : Nat → Int32} (hL : L ≤ 3072) (C0 : lw_At p s m meth c b L xs) : W p l e room_1 s m #[Value.ref b] below meth c s.heap [] 0 0 (lw_Z below #[Value.ref b] s) (entryFrame m ([Value.ref b] : List Value).toArray 4) := by
  have C1 := C0
  obtain ⟨hx, hb, hr, hml, hown, hts, hX, hbl, hlocks, hgv⟩ := C0
  have hq : ∀ w ∈ gb_wA, w.before #[Value.ref b] s = true := fun w h => hts w (gb_wA_tbl w h)
  obtain ⟨D, cT, tt, ak, av, hSt2⟩ := law_St2 C1
  obtain ⟨z, hzz⟩ : ∃ z, Array.size s.heap = z := ⟨_, rfl⟩
  rw [hzz] at hSt2
  have hSt := hSt2.1
  have hbA : ¬ gb_ge z b := Nat.not_le.mpr (by rw [← hzz]; exact hbl)
  have hK := hSt.1
  have hS : va_S (gb_ge z) s.heap s.heap [] := va_S.rf
  have hP : va_P D vwCl (gb_wl z []) s.heap := fun k q h => by simp [gb_wl] at h
  have hz : Array.size s.heap = z + 0 := hzz
  have hl := lv_entry ([.ref b]) (n := 4) (Nat.le_of_ble_eq_true rfl)
  rw [lg_entry_eq]
  generalize (lg_sl ([.ref b]) ++ List.replicate (4 - (lg_sl ([.ref b])).length) Slot.unset).toArray = ls at hl ⊢
  have hl : lv_has ls 4 [(0, .ref b)] := hl
  refine gb_new (ci := 9) (fs := [.null, .null, .null, .null, .null, .null, .null, .null, .null, .int 0]) (C := RX11) (T := TX11) (N := 10) hx hb hq i_X11 tyX11 tyX11_ok hown (hq _ w_22) (hq _ w_23) (hq _ w_1) hK hP hS 0 hz rfl rfl (fun j hj => by rcases (show j = 0 ∨ j = 1 ∨ j = 2 ∨ j = 3 ∨ j = 4 ∨ j = 5 ∨ j = 6 ∨ j = 7 ∨ j = 8 ∨ j = 9 by omega) with rfl | rfl | rfl | rfl | rfl | rfl | rfl | rfl | rfl | rfl <;> rfl) (Nat.le_of_ble_eq_true rfl) (Nat.le_of_ble_eq_true rfl) dL_law_0 (fun H hP hz hS => ?_)
  refine W.widen (k := 1) (n := 10) (Nat.le_of_ble_eq_true rfl) (Nat.le_of_ble_eq_true rfl) ?_
  refine lv_dup hx hb dL_law_3 rfl ?_
  have hPs : va_P D vwCl (gb_wl (z + 0) [.inr (9, [.null, .null, .null, .null, .null, .null, .null, .null, .null, .int 0])]) H := hP
  refine gb_callv (va_runI (As := []) (rest := [.ref (z + 0)]) ⟨hx, hb, hml, hown, hq⟩ (k_X11_init l D cT tt z (z + 0) (Nat.le_add_right z 0)) (cwI 0 hq (gb_gI w_26) rfl rfl rfl (hq _ w_1) (hq _ w_24) (hq _ w_25) rfl (by decide +kernel) ⟨Nat.le_of_ble_eq_true rfl, Nat.le_of_ble_eq_true rfl⟩) (gb_preS hSt hS (fun q h => h) ⟨hPs, hz⟩) rfl rfl hl.1 rfl (lv_room (Nat.le_of_ble_eq_true rfl)) dL_law_4 ⟨Nat.le_of_ble_eq_true rfl, Nat.le_of_ble_eq_true rfl⟩) hS (fun q h => Nat.le_trans (Nat.le_add_right z 0) h) (fun q h => Nat.le_trans (Nat.le_add_right z 0) h) (fun H locs hY hk hS => ?_)
  have hP : va_P D vwCl (gb_wl z (gb_C cT z)) H := hY.1
  have hz : Array.size H = z + 135 := hY.2
  refine W.widen (k := 135) (n := 5831) (Nat.le_of_ble_eq_true rfl) (Nat.le_of_ble_eq_true rfl) ?_
  refine lv_astore_n (lv' := [(1, .ref (z + 0)), (0, .ref b)]) hx hb dL_law_7 rfl hl (by decide) rfl (fun ls hl => ?_)
  refine gb_new (ci := 10) (fs := [.null, .null, .int 0, .int 0, .int 0, .int 0, .int 0, .int 0, .int 0, .int 0, .null, .int 0, .int 0, .null, .null, .null, .null, .null, .null, .null, .null, .null, .int 0, .int 0, .int 0, .int 0, .null, .null, .int 0, .int 0, .null, .null, .null, .long 0, .int 0, .int 0, .int 0, .null, .int 0, .null, .null, .int 0, .int 0, .null]) (C := RX12) (T := TX12) (N := 44) hx hb hq i_X12 tyX12 tyX12_ok hown (hq _ w_1118) (hq _ w_1119) (hq _ w_14) hK hP hS 135 hz rfl rfl (fun j hj => by rcases (show j = 0 ∨ j = 1 ∨ j = 2 ∨ j = 3 ∨ j = 4 ∨ j = 5 ∨ j = 6 ∨ j = 7 ∨ j = 8 ∨ j = 9 ∨ j = 10 ∨ j = 11 ∨ j = 12 ∨ j = 13 ∨ j = 14 ∨ j = 15 ∨ j = 16 ∨ j = 17 ∨ j = 18 ∨ j = 19 ∨ j = 20 ∨ j = 21 ∨ j = 22 ∨ j = 23 ∨ j = 24 ∨ j = 25 ∨ j = 26 ∨ j = 27 ∨ j = 28 ∨ j = 29 ∨ j = 30 ∨ j = 31 ∨ j = 32 ∨ j = 33 ∨ j = 34 ∨ j = 35 ∨ j = 36 ∨ j = 37 ∨ j = 38 ∨ j = 39 ∨ j = 40 ∨ j = 41 ∨ j = 42 ∨ j = 43 by omega) with rfl | rfl | rfl | rfl | rfl | rfl | rfl | rfl | rfl | rfl | rfl | rfl | rfl | rfl | rfl | rfl | rfl | rfl | rfl | rfl | rfl | rfl | rfl | rfl | rfl | rfl | rfl | rfl | rfl | rfl | rfl | rfl | rfl | rfl | rfl | rfl | rfl | rfl | rfl | rfl | rfl | rfl | rfl | rfl <;> rfl) (Nat.le_of_ble_eq_true rfl) (Nat.le_of_ble_eq_true rfl) dL_law_8 (fun H hP hz hS => ?_)
  refine W.widen (k := 136) (n := 5875) (Nat.le_of_ble_eq_true rfl) (Nat.le_of_ble_eq_true rfl) ?_
  refine lv_dup hx hb dL_law_11 rfl ?_
  have hPs : va_P D vwCl (gb_wl (z + 135) [.inr (10, [.null, .null, .int 0, .int 0, .int 0, .int 0, .int 0, .int 0, .int 0, .int 0, .null, .int 0, .int 0, .null, .null, .null, .null, .null, .null, .null, .null, .null, .int 0, .int 0, .int 0, .int 0, .null, .null, .int 0, .int 0, .null, .null, .null, .long 0, .int 0, .int 0, .int 0, .null, .int 0, .null, .null, .int 0, .int 0, .null])]) H := gb_drop hP 135 rfl rfl
  have hPc : va_P D vwCl (gb_wl z (gb_C cT z)) H := law_take hP
  refine gb_callv (va_runI (As := []) (rest := [.ref (z + 135)]) ⟨hx, hb, hml, hown, hq⟩ (k_X12_init l D cT tt z (z + 135) (Nat.le_add_right z 135)) (cwI 0 hq (gb_gI w_1122) rfl rfl rfl (hq _ w_14) (hq _ w_1120) (hq _ w_1121) rfl (by decide +kernel) ⟨Nat.le_of_ble_eq_true rfl, Nat.le_of_ble_eq_true rfl⟩) (gb_preS hSt hS (fun q h => h) ⟨hPs, hz⟩) rfl rfl hl.1 rfl (lv_room (Nat.le_of_ble_eq_true rfl)) dL_law_12 ⟨Nat.le_of_ble_eq_true rfl, Nat.le_of_ble_eq_true rfl⟩) hS (fun q h => Nat.le_trans (Nat.le_add_right z 135) h) (fun q h => Nat.le_trans (Nat.le_add_right z 135) h) (fun H locs hY hk hS => ?_)
  have hPm : va_P D vwCl (gb_wl (z + 135) (gb_M cT (z + 135))) H := hY.1
  have hPc := gb_kept hPc (fun q h1 h2 => hk q (by rw [hz]; exact Nat.lt_of_lt_of_le h2 (Nat.le_succ _)) (fun h3 => Nat.not_lt.mpr h3 h2))
  refine W.widen (k := 157) (n := 10381) (Nat.le_of_ble_eq_true rfl) (Nat.le_of_ble_eq_true rfl) ?_
  refine lv_astore_n (lv' := [(2, .ref (z + 135)), (1, .ref (z + 0)), (0, .ref b)]) hx hb dL_law_15 rfl hl (by decide) rfl (fun ls hl => ?_)
  refine lv_iconst (v := 0) hx hb dL_law_16 (by decide) ?_
  refine lv_istore_n (lv' := [(3, .int 0), (2, .ref (z + 135)), (1, .ref (z + 0)), (0, .ref b)]) hx hb dL_law_17 rfl hl (by decide) rfl (fun ls hl => ?_)
  rw [gb_C_W] at hPc
  rw [gb_M_W] at hPm
  exact law_loop C1 hzz hSt2 hL (L + 7) 0 0 gb_s0 gb_f00 0 H locs ls (by decide) (by omega) (by omega) gb_Inv0 hPc hPm hS hl
