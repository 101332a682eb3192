theorem gb_nzB {k : Nat} (h : gb_kB k = true) : ¬ k = 0 := fun e => by rw [e] at h; cases h
theorem gb_nzN {k : Nat} (h : gb_kN k = true) : ¬ k = 0 := fun e => by rw [e] at h; cases h
theorem gb_nzL {k : Nat} (h : gb_kL k = true) : ¬ k = 0 := fun e => by rw [e] at h; cases h
theorem gb_nzD {k : Nat} (h : gb_kD k = true) : ¬ k = 0 := fun e => by rw [e] at h; cases h
theorem gb_on1 {b k : Nat} (h : ¬ k = 0) : some (b + k) = gb_on b k := by
  cases k with
  | zero => exact absurd rfl h
  | succ k => rfl
theorem gb_kY_eq {k : Nat} (h : (k == 23) = true) : k = 23 := by simpa using h
theorem gb_cY {cT : Nat → ClassId} {b : Nat} {σ : gb_S} {k : Nat} (h : (k == 23) = true) : (gb_CW cT b σ)[k]? = some (.inl (cT 1, 600, .inl (σ.1 k))) := by
  rw [gb_kY_eq h]
  rfl
theorem gb_wTo {cT : Nat → ClassId} {b : Nat} {σ : gb_S} {k : Nat} {F : Nat → Int32} (h : gb_kT k = true) : True := trivial

theorem dX0_clear_0 : decode cX0_clear 0 = .ok (.aload_n 0, 1) := by decide +kernel
theorem dX0_clear_1 : decode cX0_clear 1 = .ok (.getfield 11, 3) := by decide +kernel
theorem dX0_clear_4 : decode cX0_clear 4 = .ok (.iconst 0, 1) := by decide +kernel
theorem dX0_clear_5 : decode cX0_clear 5 = .ok (.iconst 0, 1) := by decide +kernel
theorem dX0_clear_6 : decode cX0_clear 6 = .ok (.iastore, 1) := by decide +kernel
theorem dX0_clear_7 : decode cX0_clear 7 = .ok (.aload_n 0, 1) := by decide +kernel
theorem dX0_clear_8 : decode cX0_clear 8 = .ok (.getfield 11, 3) := by decide +kernel
theorem dX0_clear_11 : decode cX0_clear 11 = .ok (.iconst 1, 1) := by decide +kernel
theorem dX0_clear_12 : decode cX0_clear 12 = .ok (.iconst 0, 1) := by decide +kernel
theorem dX0_clear_13 : decode cX0_clear 13 = .ok (.iastore, 1) := by decide +kernel
theorem dX0_clear_14 : decode cX0_clear 14 = .ok (.aload_n 0, 1) := by decide +kernel
theorem dX0_clear_15 : decode cX0_clear 15 = .ok (.getfield 11, 3) := by decide +kernel
theorem dX0_clear_18 : decode cX0_clear 18 = .ok (.iconst 2, 1) := by decide +kernel
theorem dX0_clear_19 : decode cX0_clear 19 = .ok (.iconst (-1), 1) := by decide +kernel
theorem dX0_clear_20 : decode cX0_clear 20 = .ok (.iastore, 1) := by decide +kernel
theorem dX0_clear_21 : decode cX0_clear 21 = .ok (.return_, 1) := by decide +kernel
def cs_Border_clear_B (n : Nat) (σ : gb_S) (k0 : Nat) : gb_CR Unit := gb_kk (gb_kB k0) (gb_lt (gb_su σ (k0 + 1) (upd (σ.1 (k0 + 1)) (Int32.toNatClampNeg 0) 0)) (fun s_2 => gb_lt (gb_su s_2 (k0 + 1) (upd (s_2.1 (k0 + 1)) (Int32.toNatClampNeg 1) 0)) (fun s_3 => gb_lt (gb_su s_3 (k0 + 1) (upd (s_3.1 (k0 + 1)) (Int32.toNatClampNeg 2) (-1))) (fun s_4 => some (s_4, ())))))
set_option maxHeartbeats 8000000 in
set_option maxRecDepth 100000 in
theorem cc_Border_clear_B (l : Launch) (D : va_G) (cT : Nat → ClassId) (tt : Nat → Nat) (b1 b : Nat) (hb1 : b1 ≤ b) (n : Nat) (σ : gb_S) (k0 : Nat) (σE : gb_S) (rE : Unit) (h : cs_Border_clear_B n σ k0 = some (σE, rE)) : Met l yX0_clear (.code yX0_clear cX0_clear 1 none :: gb_wA) ({ frames := 0, cells := 0, slots := 0, locals := 0 }) (gb_Pc D cT tt b1 [.ref (b + k0)] (fun h => va_P D vwCl (gb_wl b (gb_CW cT b σ)) h)) (gb_Qv (fun h => va_P D vwCl (gb_wl b (gb_CW cT b σE)) h) (gb_fr b 135)) 0 0 (gb_fr b 135) := by
  refine Met.ofW (cc := cX0_clear) (maxL := 1) (ret := none) (by decide) rfl ?_
  intro p e s m args below meth c s₁ B hml hv
  obtain ⟨rfl, hSt, hP⟩ := hv
  have hx := B.exec
  have hb := B.bytes
  have hr := B.returns
  have hts := atoms_spec (ws := .code yX0_clear cX0_clear 1 none :: gb_wA) B.pre
  have hq : ∀ w ∈ gb_wA, w.before _ s = true := fun w h => hts w (List.mem_cons_of_mem _ h)
  have hown : s.vm.findClass RX0 = some m.cls := findClass_of_methodNamed B.named
  have hlocks := B.notSynchronized
  clear B hts
  have hK := hSt.1
  have hS : va_S (gb_fr b 135) s.heap s.heap [] := va_S.rf
  have hl := lv_entry ([.ref (b + k0)]) (n := 1) (Nat.le_of_ble_eq_true rfl)
  rw [lg_entry_eq]
  generalize (lg_sl ([.ref (b + k0)]) ++ List.replicate (1 - (lg_sl ([.ref (b + k0)])).length) Slot.unset).toArray = ls at hl ⊢
  replace hl : lv_has ls 1 [(0, .ref (b + k0))] := hl
  unfold cs_Border_clear_B at h
  obtain ⟨z_1, h⟩ := gb_kk_s h
  refine lv_aload_n hx hb dX0_clear_0 rfl (lv_at hl 0 rfl) ?_
  refine va_get (ci := 0) (v := (.ref (b + (k0 + 1)))) (C := RX0) (T := TX0) (N := 1) hx hb hq i_X0 hown hK hP k0 (gb_at b (gb_cB z_1).1) rfl 0 (by decide) (hq _ w_49) (fun x9 h9 => u_same (hq _ w_50) x9 h9) rfl dX0_clear_1 ?_
  refine lv_iconst (v := 0) hx hb dX0_clear_4 (by decide) ?_
  refine lv_iconst (v := 0) hx hb dX0_clear_5 (by decide) ?_
  refine va_iast (x := 0) hx hb hK hP (gb_D (fun k h => ⟨Nat.le_add_right b k, Nat.add_lt_add_left h b⟩)) hS (k0 + 1) 0 (gb_at b (gb_cB z_1).2) rfl (gb_in rfl) dX0_clear_6 (fun H locs hP hD hS => ?_)
  rw [gb_set] at hP
  obtain ⟨s_2, es_2⟩ : ∃ q, q = (gb_su σ (k0 + 1) (upd (σ.1 (k0 + 1)) (Int32.toNatClampNeg 0) 0)) := ⟨_, rfl⟩
  replace hP : va_P D vwCl (gb_wl b (gb_CW cT b s_2)) H := by rw [es_2, ← gb_wB z_1]; exact hP
  replace h := gb_lt_s es_2 h
  refine lv_aload_n hx hb dX0_clear_7 rfl (lv_at hl 0 rfl) ?_
  refine va_get (ci := 0) (v := (.ref (b + (k0 + 1)))) (C := RX0) (T := TX0) (N := 1) hx hb hq i_X0 hown hK hP k0 (gb_at b (gb_cB z_1).1) rfl 0 (by decide) (hq _ w_49) (fun x9 h9 => u_same (hq _ w_50) x9 h9) rfl dX0_clear_8 ?_
  refine lv_iconst (v := 1) hx hb dX0_clear_11 (by decide) ?_
  refine lv_iconst (v := 0) hx hb dX0_clear_12 (by decide) ?_
  refine va_iast (x := 0) hx hb hK hP (gb_D (fun k h => ⟨Nat.le_add_right b k, Nat.add_lt_add_left h b⟩)) hS (k0 + 1) 0 (gb_at b (gb_cB z_1).2) rfl (gb_in rfl) dX0_clear_13 (fun H locs hP hD hS => ?_)
  rw [gb_set] at hP
  obtain ⟨s_3, es_3⟩ : ∃ q, q = (gb_su s_2 (k0 + 1) (upd (s_2.1 (k0 + 1)) (Int32.toNatClampNeg 1) 0)) := ⟨_, rfl⟩
  replace hP : va_P D vwCl (gb_wl b (gb_CW cT b s_3)) H := by rw [es_3, ← gb_wB z_1]; exact hP
  replace h := gb_lt_s es_3 h
  refine lv_aload_n hx hb dX0_clear_14 rfl (lv_at hl 0 rfl) ?_
  refine va_get (ci := 0) (v := (.ref (b + (k0 + 1)))) (C := RX0) (T := TX0) (N := 1) hx hb hq i_X0 hown hK hP k0 (gb_at b (gb_cB z_1).1) rfl 0 (by decide) (hq _ w_49) (fun x9 h9 => u_same (hq _ w_50) x9 h9) rfl dX0_clear_15 ?_
  refine lv_iconst (v := 2) hx hb dX0_clear_18 (by decide) ?_
  refine lv_iconst (v := (-1)) hx hb dX0_clear_19 (by decide) ?_
  refine va_iast (x := (-1)) hx hb hK hP (gb_D (fun k h => ⟨Nat.le_add_right b k, Nat.add_lt_add_left h b⟩)) hS (k0 + 1) 0 (gb_at b (gb_cB z_1).2) rfl (gb_in rfl) dX0_clear_20 (fun H locs hP hD hS => ?_)
  rw [gb_set] at hP
  obtain ⟨s_4, es_4⟩ : ∃ q, q = (gb_su s_3 (k0 + 1) (upd (s_3.1 (k0 + 1)) (Int32.toNatClampNeg 2) (-1))) := ⟨_, rfl⟩
  replace hP : va_P D vwCl (gb_wl b (gb_CW cT b s_4)) H := by rw [es_4, ← gb_wB z_1]; exact hP
  replace h := gb_lt_s es_4 h
  obtain ⟨e1, -⟩ := gb_eq2 h
  exact W.vret hx hb hr (fun t ht hW => gb_rv ht (by rw [← e1]; exact hP) hS) hS.2.2 dX0_clear_21
theorem dX0_hasRoomFor_0 : decode cX0_hasRoomFor 0 = .ok (.iload_n 1, 1) := by decide +kernel
theorem dX0_hasRoomFor_1 : decode cX0_hasRoomFor 1 = .ok (.iconst 2, 1) := by decide +kernel
theorem dX0_hasRoomFor_2 : decode cX0_hasRoomFor 2 = .ok (.if_icmp .eq 27, 3) := by decide +kernel
theorem dX0_hasRoomFor_29 : decode cX0_hasRoomFor 29 = .ok (.iconst 1, 1) := by decide +kernel
theorem dX0_hasRoomFor_30 : decode cX0_hasRoomFor 30 = .ok (.goto 4, 3) := by decide +kernel
theorem dX0_hasRoomFor_34 : decode cX0_hasRoomFor 34 = .ok (.ireturn, 1) := by decide +kernel
theorem dX0_hasRoomFor_5 : decode cX0_hasRoomFor 5 = .ok (.iload_n 1, 1) := by decide +kernel
theorem dX0_hasRoomFor_6 : decode cX0_hasRoomFor 6 = .ok (.ifCond .ne 14, 3) := by decide +kernel
theorem dX0_hasRoomFor_20 : decode cX0_hasRoomFor 20 = .ok (.aload_n 0, 1) := by decide +kernel
theorem dX0_hasRoomFor_21 : decode cX0_hasRoomFor 21 = .ok (.invokevirtual 19, 3) := by decide +kernel
theorem dX0_geese_0 : decode cX0_geese 0 = .ok (.aload_n 0, 1) := by decide +kernel
theorem dX0_geese_1 : decode cX0_geese 1 = .ok (.getfield 11, 3) := by decide +kernel
theorem dX0_geese_4 : decode cX0_geese 4 = .ok (.iconst 1, 1) := by decide +kernel
theorem dX0_geese_5 : decode cX0_geese 5 = .ok (.iaload, 1) := by decide +kernel
theorem dX0_geese_6 : decode cX0_geese 6 = .ok (.ireturn, 1) := by decide +kernel
def cs_Border_geese_B (n : Nat) (σ : gb_S) (k0 : Nat) : gb_CR Int32 := gb_kk (gb_kB k0) (gb_lt ((σ.1 (k0 + 1)) (Int32.toNatClampNeg 1)) (fun x_2 => some (σ, x_2)))
set_option maxHeartbeats 8000000 in
set_option maxRecDepth 100000 in
theorem cc_Border_geese_B (l : Launch) (D : va_G) (cT : Nat → ClassId) (tt : Nat → Nat) (b1 b : Nat) (hb1 : b1 ≤ b) (n : Nat) (σ : gb_S) (k0 : Nat) (σE : gb_S) (rE : Int32) (h : cs_Border_geese_B n σ k0 = some (σE, rE)) : Met l yX0_geese (.code yX0_geese cX0_geese 1 (some FieldType.int) :: gb_wA) ({ frames := 0, cells := 0, slots := 0, locals := 0 }) (gb_Pc D cT tt b1 [.ref (b + k0)] (fun h => va_P D vwCl (gb_wl b (gb_CW cT b σ)) h)) (gb_Qi (fun r h => r = rE ∧ va_P D vwCl (gb_wl b (gb_CW cT b σE)) h) (gb_fr b 135)) 0 0 (gb_fr b 135) := by
  refine Met.ofW (cc := cX0_geese) (maxL := 1) (ret := (some FieldType.int)) (by decide) rfl ?_
  intro p e s m args below meth c s₁ B hml hv
  obtain ⟨rfl, hSt, hP⟩ := hv
  have hx := B.exec
  have hb := B.bytes
  have hr := B.returns
  have hts := atoms_spec (ws := .code yX0_geese cX0_geese 1 (some FieldType.int) :: gb_wA) B.pre
  have hq : ∀ w ∈ gb_wA, w.before _ s = true := fun w h => hts w (List.mem_cons_of_mem _ h)
  have hown : s.vm.findClass RX0 = some m.cls := findClass_of_methodNamed B.named
  have hlocks := B.notSynchronized
  clear B hts
  have hK := hSt.1
  have hS : va_S (gb_fr b 135) s.heap s.heap [] := va_S.rf
  have hl := lv_entry ([.ref (b + k0)]) (n := 1) (Nat.le_of_ble_eq_true rfl)
  rw [lg_entry_eq]
  generalize (lg_sl ([.ref (b + k0)]) ++ List.replicate (1 - (lg_sl ([.ref (b + k0)])).length) Slot.unset).toArray = ls at hl ⊢
  replace hl : lv_has ls 1 [(0, .ref (b + k0))] := hl
  unfold cs_Border_geese_B at h
  obtain ⟨z_1, h⟩ := gb_kk_s h
  refine lv_aload_n hx hb dX0_geese_0 rfl (lv_at hl 0 rfl) ?_
  refine va_get (ci := 0) (v := (.ref (b + (k0 + 1)))) (C := RX0) (T := TX0) (N := 1) hx hb hq i_X0 hown hK hP k0 (gb_at b (gb_cB z_1).1) rfl 0 (by decide) (hq _ w_49) (fun x9 h9 => u_same (hq _ w_50) x9 h9) rfl dX0_geese_1 ?_
  refine lv_iconst (v := 1) hx hb dX0_geese_4 (by decide) ?_
  refine va_iald hx hb hK hP (k0 + 1) 0 (gb_at b (gb_cB z_1).2) rfl (gb_in rfl) dX0_geese_5 ?_
  refine lv_topi (fun x_2 ex_2 => ?_)
  replace h := gb_lt_s ex_2 h
  obtain ⟨e1, e2⟩ := gb_eq2 h
  exact W.iret (v := x_2) hx hb hr (fun t ht hW => gb_ri ht ⟨e2, by rw [← e1]; exact hP⟩ hS) hS.2.2 dX0_geese_6
theorem w_479 : (Cond.code ({ cls := "GooseBorder$Border", name := "geese", desc := "()I" } : MethodName) prog_2_method_7_code (1 : Nat) (Option.some FieldType.int)) ∈ gb_wA := gb_t2 239 rfl rfl
theorem w_476 : (Cond.methodLink "GooseBorder$Border" (19 : Nat) ({ cls := "GooseBorder$Border", name := "geese", desc := "()I" } : MethodName)) ∈ gb_wA := gb_t2 236 rfl rfl
theorem w_477 : (Cond.instanceMethod ({ cls := "GooseBorder$Border", name := "geese", desc := "()I" } : MethodName)) ∈ gb_wA := gb_t2 237 rfl rfl
theorem w_478 : (Cond.selects "GooseBorder$Border" ({ cls := "GooseBorder$Border", name := "geese", desc := "()I" } : MethodName) ({ cls := "GooseBorder$Border", name := "geese", desc := "()I" } : MethodName)) ∈ gb_wA := gb_t2 238 rfl rfl
theorem dX0_hasRoomFor_24 : decode cX0_hasRoomFor 24 = .ok (.bipush 8, 2) := by decide +kernel
theorem dX0_hasRoomFor_26 : decode cX0_hasRoomFor 26 = .ok (.if_icmp .ge 7, 3) := by decide +kernel
theorem dX0_hasRoomFor_33 : decode cX0_hasRoomFor 33 = .ok (.iconst 0, 1) := by decide +kernel
theorem dX0_hasRoomFor_9 : decode cX0_hasRoomFor 9 = .ok (.aload_n 0, 1) := by decide +kernel
theorem dX0_hasRoomFor_10 : decode cX0_hasRoomFor 10 = .ok (.invokevirtual 15, 3) := by decide +kernel
theorem dX0_paths_0 : decode cX0_paths 0 = .ok (.aload_n 0, 1) := by decide +kernel
theorem dX0_paths_1 : decode cX0_paths 1 = .ok (.getfield 11, 3) := by decide +kernel
theorem dX0_paths_4 : decode cX0_paths 4 = .ok (.iconst 0, 1) := by decide +kernel
theorem dX0_paths_5 : decode cX0_paths 5 = .ok (.iaload, 1) := by decide +kernel
theorem dX0_paths_6 : decode cX0_paths 6 = .ok (.ireturn, 1) := by decide +kernel
def cs_Border_paths_B (n : Nat) (σ : gb_S) (k0 : Nat) : gb_CR Int32 := gb_kk (gb_kB k0) (gb_lt ((σ.1 (k0 + 1)) (Int32.toNatClampNeg 0)) (fun x_2 => some (σ, x_2)))
set_option maxHeartbeats 8000000 in
set_option maxRecDepth 100000 in
theorem cc_Border_paths_B (l : Launch) (D : va_G) (cT : Nat → ClassId) (tt : Nat → Nat) (b1 b : Nat) (hb1 : b1 ≤ b) (n : Nat) (σ : gb_S) (k0 : Nat) (σE : gb_S) (rE : Int32) (h : cs_Border_paths_B n σ k0 = some (σE, rE)) : Met l yX0_paths (.code yX0_paths cX0_paths 1 (some FieldType.int) :: gb_wA) ({ frames := 0, cells := 0, slots := 0, locals := 0 }) (gb_Pc D cT tt b1 [.ref (b + k0)] (fun h => va_P D vwCl (gb_wl b (gb_CW cT b σ)) h)) (gb_Qi (fun r h => r = rE ∧ va_P D vwCl (gb_wl b (gb_CW cT b σE)) h) (gb_fr b 135)) 0 0 (gb_fr b 135) := by
  refine Met.ofW (cc := cX0_paths) (maxL := 1) (ret := (some FieldType.int)) (by decide) rfl ?_
  intro p e s m args below meth c s₁ B hml hv
  obtain ⟨rfl, hSt, hP⟩ := hv
  have hx := B.exec
  have hb := B.bytes
  have hr := B.returns
  have hts := atoms_spec (ws := .code yX0_paths cX0_paths 1 (some FieldType.int) :: gb_wA) B.pre
  have hq : ∀ w ∈ gb_wA, w.before _ s = true := fun w h => hts w (List.mem_cons_of_mem _ h)
  have hown : s.vm.findClass RX0 = some m.cls := findClass_of_methodNamed B.named
  have hlocks := B.notSynchronized
  clear B hts
  have hK := hSt.1
  have hS : va_S (gb_fr b 135) s.heap s.heap [] := va_S.rf
  have hl := lv_entry ([.ref (b + k0)]) (n := 1) (Nat.le_of_ble_eq_true rfl)
  rw [lg_entry_eq]
  generalize (lg_sl ([.ref (b + k0)]) ++ List.replicate (1 - (lg_sl ([.ref (b + k0)])).length) Slot.unset).toArray = ls at hl ⊢
  replace hl : lv_has ls 1 [(0, .ref (b + k0))] := hl
  unfold cs_Border_paths_B at h
  obtain ⟨z_1, h⟩ := gb_kk_s h
  refine lv_aload_n hx hb dX0_paths_0 rfl (lv_at hl 0 rfl) ?_
  refine va_get (ci := 0) (v := (.ref (b + (k0 + 1)))) (C := RX0) (T := TX0) (N := 1) hx hb hq i_X0 hown hK hP k0 (gb_at b (gb_cB z_1).1) rfl 0 (by decide) (hq _ w_49) (fun x9 h9 => u_same (hq _ w_50) x9 h9) rfl dX0_paths_1 ?_
  refine lv_iconst (v := 0) hx hb dX0_paths_4 (by decide) ?_
  refine va_iald hx hb hK hP (k0 + 1) 0 (gb_at b (gb_cB z_1).2) rfl (gb_in rfl) dX0_paths_5 ?_
  refine lv_topi (fun x_2 ex_2 => ?_)
  replace h := gb_lt_s ex_2 h
  obtain ⟨e1, e2⟩ := gb_eq2 h
  exact W.iret (v := x_2) hx hb hr (fun t ht hW => gb_ri ht ⟨e2, by rw [← e1]; exact hP⟩ hS) hS.2.2 dX0_paths_6
theorem w_475 : (Cond.code ({ cls := "GooseBorder$Border", name := "paths", desc := "()I" } : MethodName) prog_2_method_6_code (1 : Nat) (Option.some FieldType.int)) ∈ gb_wA := gb_t2 235 rfl rfl
theorem w_472 : (Cond.methodLink "GooseBorder$Border" (15 : Nat) ({ cls := "GooseBorder$Border", name := "paths", desc := "()I" } : MethodName)) ∈ gb_wA := gb_t2 232 rfl rfl
theorem w_473 : (Cond.instanceMethod ({ cls := "GooseBorder$Border", name := "paths", desc := "()I" } : MethodName)) ∈ gb_wA := gb_t2 233 rfl rfl
theorem w_474 : (Cond.selects "GooseBorder$Border" ({ cls := "GooseBorder$Border", name := "paths", desc := "()I" } : MethodName) ({ cls := "GooseBorder$Border", name := "paths", desc := "()I" } : MethodName)) ∈ gb_wA := gb_t2 234 rfl rfl
theorem dX0_hasRoomFor_13 : decode cX0_hasRoomFor 13 = .ok (.iconst 5, 1) := by decide +kernel
theorem dX0_hasRoomFor_14 : decode cX0_hasRoomFor 14 = .ok (.if_icmp .ge 19, 3) := by decide +kernel
theorem dX0_hasRoomFor_17 : decode cX0_hasRoomFor 17 = .ok (.goto 12, 3) := by decide +kernel
def cs_Border_hasRoomFor_B (n : Nat) (σ : gb_S) (k0 : Nat) (p1 : Int32) : gb_CR Int32 := gb_kk (gb_kB k0) ((if p1 = 2 then some (σ, 1) else (if p1 = 0 then gb_cd (cs_Border_paths_B n σ k0) (fun s_9 r_10 => (if (5 : Int32) ≤ r_10 then some (s_9, 0) else some (s_9, 1))) else gb_cd (cs_Border_geese_B n σ k0) (fun s_4 r_5 => (if (8 : Int32) ≤ r_5 then some (s_4, 0) else some (s_4, 1))))))
set_option maxHeartbeats 8000000 in
set_option maxRecDepth 100000 in
theorem cc_Border_hasRoomFor_B (l : Launch) (D : va_G) (cT : Nat → ClassId) (tt : Nat → Nat) (b1 b : Nat) (hb1 : b1 ≤ b) (n : Nat) (σ : gb_S) (k0 : Nat) (p1 : Int32) (σE : gb_S) (rE : Int32) (h : cs_Border_hasRoomFor_B n σ k0 p1 = some (σE, rE)) : Met l yX0_hasRoomFor (.code yX0_hasRoomFor cX0_hasRoomFor 2 (some FieldType.boolean) :: gb_wA) ({ frames := 1, cells := 0, slots := 0, locals := 20 }) (gb_Pc D cT tt b1 [.ref (b + k0), .int p1] (fun h => va_P D vwCl (gb_wl b (gb_CW cT b σ)) h)) (gb_Qi (fun r h => r = rE ∧ va_P D vwCl (gb_wl b (gb_CW cT b σE)) h) (gb_fr b 135)) 0 0 (gb_fr b 135) := by
  refine Met.ofW (cc := cX0_hasRoomFor) (maxL := 2) (ret := (some FieldType.boolean)) (by decide) rfl ?_
  intro p e s m args below meth c s₁ B hml hv
  obtain ⟨rfl, hSt, hP⟩ := hv
  have hx := B.exec
  have hb := B.bytes
  have hr := B.returns
  have hts := atoms_spec (ws := .code yX0_hasRoomFor cX0_hasRoomFor 2 (some FieldType.boolean) :: gb_wA) B.pre
  have hq : ∀ w ∈ gb_wA, w.before _ s = true := fun w h => hts w (List.mem_cons_of_mem _ h)
  have hown : s.vm.findClass RX0 = some m.cls := findClass_of_methodNamed B.named
  have hlocks := B.notSynchronized
  clear B hts
  have hK := hSt.1
  have hS : va_S (gb_fr b 135) s.heap s.heap [] := va_S.rf
  have hl := lv_entry ([.ref (b + k0), .int p1]) (n := 2) (Nat.le_of_ble_eq_true rfl)
  rw [lg_entry_eq]
  generalize (lg_sl ([.ref (b + k0), .int p1]) ++ List.replicate (2 - (lg_sl ([.ref (b + k0), .int p1])).length) Slot.unset).toArray = ls at hl ⊢
  replace hl : lv_has ls 2 [(0, .ref (b + k0)), (1, .int p1)] := hl
  unfold cs_Border_hasRoomFor_B at h
  obtain ⟨z_1, h⟩ := gb_kk_s h
  refine lv_iload_n hx hb dX0_hasRoomFor_0 rfl (lv_at hl 1 rfl) ?_
  refine lv_iconst (v := 2) hx hb dX0_hasRoomFor_1 (by decide) ?_
  refine lv_icmp_eq (tgt := 29) hx hb dX0_hasRoomFor_2 (by decide) (fun c_2 => ?_) (fun c_2 => ?_)
  · rw [if_pos c_2] at h
    refine lv_iconst (v := 1) hx hb dX0_hasRoomFor_29 (by decide) ?_
    refine lv_goto (tgt := 34) hx hb dX0_hasRoomFor_30 (by decide) ?_
    obtain ⟨e1, e2⟩ := gb_eq2 h
    exact W.zret (v := 1) hx hb hr (by decide) (fun t ht hW => gb_ri ht ⟨e2, by rw [← e1]; exact hP⟩ hS) hS.2.2 dX0_hasRoomFor_34
  · rw [if_neg c_2] at h
    refine lv_iload_n hx hb dX0_hasRoomFor_5 rfl (lv_at hl 1 rfl) ?_
    refine lv_if_ne (tgt := 20) hx hb dX0_hasRoomFor_6 (by decide) (fun c_3 => ?_) (fun c_3 => ?_)
    · rw [if_neg c_3] at h
      refine lv_aload_n hx hb dX0_hasRoomFor_20 rfl (lv_at hl 0 rfl) ?_
      obtain ⟨s_4, r_5, z_6, h⟩ := gb_cd_s h
      refine gb_calli (va_runV (C := RX0) (As := []) (rest := []) ⟨hx, hb, hml, hown, hq⟩ (cc_Border_geese_B l D cT tt b1 b hb1 n σ k0 s_4 r_5 z_6) (cwV 0 hq (gb_gV w_476 w_477 w_478 w_4 w_479) rfl rfl rfl (by decide +kernel) ⟨Nat.le_of_ble_eq_true rfl, Nat.le_of_ble_eq_true rfl⟩) (gb_preV (r := (RX0, TX0, 1)) (ci := 0) (q0 := k0) hSt hP rfl (gb_at b (gb_cB z_1).1) hS (fun q h => Nat.le_trans hb1 h.1) hP) rfl rfl hl.1 rfl (lv_room (Nat.le_of_ble_eq_true rfl)) dX0_hasRoomFor_21 ⟨Nat.le_of_ble_eq_true rfl, Nat.le_of_ble_eq_true rfl⟩) hS (fun _ h => h) (fun _ h => h) (fun q_7 H locs hY hk hS => ?_)
      obtain ⟨hq_7, hP⟩ := hY
      replace hq_7 := hq_7.symm
      subst hq_7
      refine lv_bipush (v := 8) hx hb dX0_hasRoomFor_24 (by decide) ?_
      refine lv_icmp_ge (tgt := 33) hx hb dX0_hasRoomFor_26 (by decide) (fun c_8 => ?_) (fun c_8 => ?_)
      · rw [if_pos c_8] at h
        refine lv_iconst (v := 0) hx hb dX0_hasRoomFor_33 (by decide) ?_
        obtain ⟨e1, e2⟩ := gb_eq2 h
        exact W.zret (v := 0) hx hb hr (by decide) (fun t ht hW => gb_ri ht ⟨e2, by rw [← e1]; exact hP⟩ hS) hS.2.2 dX0_hasRoomFor_34
      · rw [if_neg c_8] at h
        refine lv_iconst (v := 1) hx hb dX0_hasRoomFor_29 (by decide) ?_
        refine lv_goto (tgt := 34) hx hb dX0_hasRoomFor_30 (by decide) ?_
        obtain ⟨e1, e2⟩ := gb_eq2 h
        exact W.zret (v := 1) hx hb hr (by decide) (fun t ht hW => gb_ri ht ⟨e2, by rw [← e1]; exact hP⟩ hS) hS.2.2 dX0_hasRoomFor_34
    · rw [if_pos c_3] at h
      refine lv_aload_n hx hb dX0_hasRoomFor_9 rfl (lv_at hl 0 rfl) ?_
      obtain ⟨s_9, r_10, z_11, h⟩ := gb_cd_s h
      refine gb_calli (va_runV (C := RX0) (As := []) (rest := []) ⟨hx, hb, hml, hown, hq⟩ (cc_Border_paths_B l D cT tt b1 b hb1 n σ k0 s_9 r_10 z_11) (cwV 0 hq (gb_gV w_472 w_473 w_474 w_4 w_475) rfl rfl rfl (by decide +kernel) ⟨Nat.le_of_ble_eq_true rfl, Nat.le_of_ble_eq_true rfl⟩) (gb_preV (r := (RX0, TX0, 1)) (ci := 0) (q0 := k0) hSt hP rfl (gb_at b (gb_cB z_1).1) hS (fun q h => Nat.le_trans hb1 h.1) hP) rfl rfl hl.1 rfl (lv_room (Nat.le_of_ble_eq_true rfl)) dX0_hasRoomFor_10 ⟨Nat.le_of_ble_eq_true rfl, Nat.le_of_ble_eq_true rfl⟩) hS (fun _ h => h) (fun _ h => h) (fun q_12 H locs hY hk hS => ?_)
      obtain ⟨hq_12, hP⟩ := hY
      replace hq_12 := hq_12.symm
      subst hq_12
      refine lv_iconst (v := 5) hx hb dX0_hasRoomFor_13 (by decide) ?_
      refine lv_icmp_ge (tgt := 33) hx hb dX0_hasRoomFor_14 (by decide) (fun c_13 => ?_) (fun c_13 => ?_)
      · rw [if_pos c_13] at h
        refine lv_iconst (v := 0) hx hb dX0_hasRoomFor_33 (by decide) ?_
        obtain ⟨e1, e2⟩ := gb_eq2 h
        exact W.zret (v := 0) hx hb hr (by decide) (fun t ht hW => gb_ri ht ⟨e2, by rw [← e1]; exact hP⟩ hS) hS.2.2 dX0_hasRoomFor_34
      · rw [if_neg c_13] at h
        refine lv_goto (tgt := 29) hx hb dX0_hasRoomFor_17 (by decide) ?_
        refine lv_iconst (v := 1) hx hb dX0_hasRoomFor_29 (by decide) ?_
        refine lv_goto (tgt := 34) hx hb dX0_hasRoomFor_30 (by decide) ?_
        obtain ⟨e1, e2⟩ := gb_eq2 h
        exact W.zret (v := 1) hx hb hr (by decide) (fun t ht hW => gb_ri ht ⟨e2, by rw [← e1]; exact hP⟩ hS) hS.2.2 dX0_hasRoomFor_34
theorem dX0_clashes_0 : decode cX0_clashes 0 = .ok (.iconst 0, 1) := by decide +kernel
theorem dX0_clashes_1 : decode cX0_clashes 1 = .ok (.ireturn, 1) := by decide +kernel
def cs_Border_clashes_B (n : Nat) (σ : gb_S) (k0 : Nat) : gb_CR Int32 := gb_kk (gb_kB k0) (some (σ, 0))
set_option maxHeartbeats 8000000 in
set_option maxRecDepth 100000 in
theorem cc_Border_clashes_B (l : Launch) (D : va_G) (cT : Nat → ClassId) (tt : Nat → Nat) (b1 b : Nat) (hb1 : b1 ≤ b) (n : Nat) (σ : gb_S) (k0 : Nat) (σE : gb_S) (rE : Int32) (h : cs_Border_clashes_B n σ k0 = some (σE, rE)) : Met l yX0_clashes (.code yX0_clashes cX0_clashes 1 (some FieldType.boolean) :: gb_wA) ({ frames := 0, cells := 0, slots := 0, locals := 0 }) (gb_Pc D cT tt b1 [.ref (b + k0)] (fun h => va_P D vwCl (gb_wl b (gb_CW cT b σ)) h)) (gb_Qi (fun r h => r = rE ∧ va_P D vwCl (gb_wl b (gb_CW cT b σE)) h) (gb_fr b 135)) 0 0 (gb_fr b 135) := by
  refine Met.ofW (cc := cX0_clashes) (maxL := 1) (ret := (some FieldType.boolean)) (by decide) rfl ?_
  intro p e s m args below meth c s₁ B hml hv
  obtain ⟨rfl, hSt, hP⟩ := hv
  have hx := B.exec
  have hb := B.bytes
  have hr := B.returns
  have hts := atoms_spec (ws := .code yX0_clashes cX0_clashes 1 (some FieldType.boolean) :: gb_wA) B.pre
  have hq : ∀ w ∈ gb_wA, w.before _ s = true := fun w h => hts w (List.mem_cons_of_mem _ h)
  have hown : s.vm.findClass RX0 = some m.cls := findClass_of_methodNamed B.named
  have hlocks := B.notSynchronized
  clear B hts
  have hK := hSt.1
  have hS : va_S (gb_fr b 135) s.heap s.heap [] := va_S.rf
  have hl := lv_entry ([.ref (b + k0)]) (n := 1) (Nat.le_of_ble_eq_true rfl)
  rw [lg_entry_eq]
  generalize (lg_sl ([.ref (b + k0)]) ++ List.replicate (1 - (lg_sl ([.ref (b + k0)])).length) Slot.unset).toArray = ls at hl ⊢
  replace hl : lv_has ls 1 [(0, .ref (b + k0))] := hl
  unfold cs_Border_clashes_B at h
  obtain ⟨z_1, h⟩ := gb_kk_s h
  refine lv_iconst (v := 0) hx hb dX0_clashes_0 (by decide) ?_
  obtain ⟨e1, e2⟩ := gb_eq2 h
  exact W.zret (v := 0) hx hb hr (by decide) (fun t ht hW => gb_ri ht ⟨e2, by rw [← e1]; exact hP⟩ hS) hS.2.2 dX0_clashes_1
theorem dX0_cap_0 : decode cX0_cap 0 = .ok (.aload_n 0, 1) := by decide +kernel
theorem dX0_cap_1 : decode cX0_cap 1 = .ok (.getfield 11, 3) := by decide +kernel
theorem dX0_cap_4 : decode cX0_cap 4 = .ok (.iconst 2, 1) := by decide +kernel
theorem dX0_cap_5 : decode cX0_cap 5 = .ok (.iaload, 1) := by decide +kernel
theorem dX0_cap_6 : decode cX0_cap 6 = .ok (.ireturn, 1) := by decide +kernel
def cs_Border_cap_B (n : Nat) (σ : gb_S) (k0 : Nat) : gb_CR Int32 := gb_kk (gb_kB k0) (gb_lt ((σ.1 (k0 + 1)) (Int32.toNatClampNeg 2)) (fun x_2 => some (σ, x_2)))
set_option maxHeartbeats 8000000 in
set_option maxRecDepth 100000 in
theorem cc_Border_cap_B (l : Launch) (D : va_G) (cT : Nat → ClassId) (tt : Nat → Nat) (b1 b : Nat) (hb1 : b1 ≤ b) (n : Nat) (σ : gb_S) (k0 : Nat) (σE : gb_S) (rE : Int32) (h : cs_Border_cap_B n σ k0 = some (σE, rE)) : Met l yX0_cap (.code yX0_cap cX0_cap 1 (some FieldType.int) :: gb_wA) ({ frames := 0, cells := 0, slots := 0, locals := 0 }) (gb_Pc D cT tt b1 [.ref (b + k0)] (fun h => va_P D vwCl (gb_wl b (gb_CW cT b σ)) h)) (gb_Qi (fun r h => r = rE ∧ va_P D vwCl (gb_wl b (gb_CW cT b σE)) h) (gb_fr b 135)) 0 0 (gb_fr b 135) := by
  refine Met.ofW (cc := cX0_cap) (maxL := 1) (ret := (some FieldType.int)) (by decide) rfl ?_
  intro p e s m args below meth c s₁ B hml hv
  obtain ⟨rfl, hSt, hP⟩ := hv
  have hx := B.exec
  have hb := B.bytes
  have hr := B.returns
  have hts := atoms_spec (ws := .code yX0_cap cX0_cap 1 (some FieldType.int) :: gb_wA) B.pre
  have hq : ∀ w ∈ gb_wA, w.before _ s = true := fun w h => hts w (List.mem_cons_of_mem _ h)
  have hown : s.vm.findClass RX0 = some m.cls := findClass_of_methodNamed B.named
  have hlocks := B.notSynchronized
  clear B hts
  have hK := hSt.1
  have hS : va_S (gb_fr b 135) s.heap s.heap [] := va_S.rf
  have hl := lv_entry ([.ref (b + k0)]) (n := 1) (Nat.le_of_ble_eq_true rfl)
  rw [lg_entry_eq]
  generalize (lg_sl ([.ref (b + k0)]) ++ List.replicate (1 - (lg_sl ([.ref (b + k0)])).length) Slot.unset).toArray = ls at hl ⊢
  replace hl : lv_has ls 1 [(0, .ref (b + k0))] := hl
  unfold cs_Border_cap_B at h
  obtain ⟨z_1, h⟩ := gb_kk_s h
  refine lv_aload_n hx hb dX0_cap_0 rfl (lv_at hl 0 rfl) ?_
  refine va_get (ci := 0) (v := (.ref (b + (k0 + 1)))) (C := RX0) (T := TX0) (N := 1) hx hb hq i_X0 hown hK hP k0 (gb_at b (gb_cB z_1).1) rfl 0 (by decide) (hq _ w_49) (fun x9 h9 => u_same (hq _ w_50) x9 h9) rfl dX0_cap_1 ?_
  refine lv_iconst (v := 2) hx hb dX0_cap_4 (by decide) ?_
  refine va_iald hx hb hK hP (k0 + 1) 0 (gb_at b (gb_cB z_1).2) rfl (gb_in rfl) dX0_cap_5 ?_
  refine lv_topi (fun x_2 ex_2 => ?_)
  replace h := gb_lt_s ex_2 h
  obtain ⟨e1, e2⟩ := gb_eq2 h
  exact W.iret (v := x_2) hx hb hr (fun t ht hW => gb_ri ht ⟨e2, by rw [← e1]; exact hP⟩ hS) hS.2.2 dX0_cap_6
theorem dX0_hasPath_0 : decode cX0_hasPath 0 = .ok (.iload_n 1, 1) := by decide +kernel
theorem dX0_hasPath_1 : decode cX0_hasPath 1 = .ok (.ifCond .lt 15, 3) := by decide +kernel
theorem dX0_hasPath_16 : decode cX0_hasPath 16 = .ok (.iconst 0, 1) := by decide +kernel
theorem dX0_hasPath_17 : decode cX0_hasPath 17 = .ok (.ireturn, 1) := by decide +kernel
theorem dX0_hasPath_4 : decode cX0_hasPath 4 = .ok (.iload_n 1, 1) := by decide +kernel
theorem dX0_hasPath_5 : decode cX0_hasPath 5 = .ok (.aload_n 0, 1) := by decide +kernel
theorem dX0_hasPath_6 : decode cX0_hasPath 6 = .ok (.invokevirtual 15, 3) := by decide +kernel
theorem dX0_hasPath_9 : decode cX0_hasPath 9 = .ok (.if_icmp .ge 7, 3) := by decide +kernel
theorem dX0_hasPath_12 : decode cX0_hasPath 12 = .ok (.iconst 1, 1) := by decide +kernel
theorem dX0_hasPath_13 : decode cX0_hasPath 13 = .ok (.goto 4, 3) := by decide +kernel
def cs_Border_hasPath_B (n : Nat) (σ : gb_S) (k0 : Nat) (p1 : Int32) : gb_CR Int32 := gb_kk (gb_kB k0) ((if p1 < 0 then some (σ, 0) else gb_cd (cs_Border_paths_B n σ k0) (fun s_3 r_4 => (if r_4 ≤ p1 then some (s_3, 0) else some (s_3, 1)))))
set_option maxHeartbeats 8000000 in
set_option maxRecDepth 100000 in
theorem cc_Border_hasPath_B (l : Launch) (D : va_G) (cT : Nat → ClassId) (tt : Nat → Nat) (b1 b : Nat) (hb1 : b1 ≤ b) (n : Nat) (σ : gb_S) (k0 : Nat) (p1 : Int32) (σE : gb_S) (rE : Int32) (h : cs_Border_hasPath_B n σ k0 p1 = some (σE, rE)) : Met l yX0_hasPath (.code yX0_hasPath cX0_hasPath 2 (some FieldType.boolean) :: gb_wA) ({ frames := 1, cells := 0, slots := 0, locals := 20 }) (gb_Pc D cT tt b1 [.ref (b + k0), .int p1] (fun h => va_P D vwCl (gb_wl b (gb_CW cT b σ)) h)) (gb_Qi (fun r h => r = rE ∧ va_P D vwCl (gb_wl b (gb_CW cT b σE)) h) (gb_fr b 135)) 0 0 (gb_fr b 135) := by
  refine Met.ofW (cc := cX0_hasPath) (maxL := 2) (ret := (some FieldType.boolean)) (by decide) rfl ?_
  intro p e s m args below meth c s₁ B hml hv
  obtain ⟨rfl, hSt, hP⟩ := hv
  have hx := B.exec
  have hb := B.bytes
  have hr := B.returns
  have hts := atoms_spec (ws := .code yX0_hasPath cX0_hasPath 2 (some FieldType.boolean) :: gb_wA) B.pre
  have hq : ∀ w ∈ gb_wA, w.before _ s = true := fun w h => hts w (List.mem_cons_of_mem _ h)
  have hown : s.vm.findClass RX0 = some m.cls := findClass_of_methodNamed B.named
  have hlocks := B.notSynchronized
  clear B hts
  have hK := hSt.1
  have hS : va_S (gb_fr b 135) s.heap s.heap [] := va_S.rf
  have hl := lv_entry ([.ref (b + k0), .int p1]) (n := 2) (Nat.le_of_ble_eq_true rfl)
  rw [lg_entry_eq]
  generalize (lg_sl ([.ref (b + k0), .int p1]) ++ List.replicate (2 - (lg_sl ([.ref (b + k0), .int p1])).length) Slot.unset).toArray = ls at hl ⊢
  replace hl : lv_has ls 2 [(0, .ref (b + k0)), (1, .int p1)] := hl
  unfold cs_Border_hasPath_B at h
  obtain ⟨z_1, h⟩ := gb_kk_s h
  refine lv_iload_n hx hb dX0_hasPath_0 rfl (lv_at hl 1 rfl) ?_
  refine lv_if_lt (tgt := 16) hx hb dX0_hasPath_1 (by decide) (fun c_2 => ?_) (fun c_2 => ?_)
  · rw [if_pos c_2] at h
    refine lv_iconst (v := 0) hx hb dX0_hasPath_16 (by decide) ?_
    obtain ⟨e1, e2⟩ := gb_eq2 h
    exact W.zret (v := 0) hx hb hr (by decide) (fun t ht hW => gb_ri ht ⟨e2, by rw [← e1]; exact hP⟩ hS) hS.2.2 dX0_hasPath_17
  · rw [if_neg c_2] at h
    refine lv_iload_n hx hb dX0_hasPath_4 rfl (lv_at hl 1 rfl) ?_
    refine lv_aload_n hx hb dX0_hasPath_5 rfl (lv_at hl 0 rfl) ?_
    obtain ⟨s_3, r_4, z_5, h⟩ := gb_cd_s h
    refine gb_calli (va_runV (C := RX0) (As := []) (rest := [.int p1]) ⟨hx, hb, hml, hown, hq⟩ (cc_Border_paths_B l D cT tt b1 b hb1 n σ k0 s_3 r_4 z_5) (cwV 0 hq (gb_gV w_472 w_473 w_474 w_4 w_475) rfl rfl rfl (by decide +kernel) ⟨Nat.le_of_ble_eq_true rfl, Nat.le_of_ble_eq_true rfl⟩) (gb_preV (r := (RX0, TX0, 1)) (ci := 0) (q0 := k0) hSt hP rfl (gb_at b (gb_cB z_1).1) hS (fun q h => Nat.le_trans hb1 h.1) hP) rfl rfl hl.1 rfl (lv_room (Nat.le_of_ble_eq_true rfl)) dX0_hasPath_6 ⟨Nat.le_of_ble_eq_true rfl, Nat.le_of_ble_eq_true rfl⟩) hS (fun _ h => h) (fun _ h => h) (fun q_6 H locs hY hk hS => ?_)
    obtain ⟨hq_6, hP⟩ := hY
    replace hq_6 := hq_6.symm
    subst hq_6
    refine lv_icmp_ge (tgt := 16) hx hb dX0_hasPath_9 (by decide) (fun c_7 => ?_) (fun c_7 => ?_)
    · rw [if_pos c_7] at h
      refine lv_iconst (v := 0) hx hb dX0_hasPath_16 (by decide) ?_
      obtain ⟨e1, e2⟩ := gb_eq2 h
      exact W.zret (v := 0) hx hb hr (by decide) (fun t ht hW => gb_ri ht ⟨e2, by rw [← e1]; exact hP⟩ hS) hS.2.2 dX0_hasPath_17
    · rw [if_neg c_7] at h
      refine lv_iconst (v := 1) hx hb dX0_hasPath_12 (by decide) ?_
      refine lv_goto (tgt := 17) hx hb dX0_hasPath_13 (by decide) ?_
      obtain ⟨e1, e2⟩ := gb_eq2 h
      exact W.zret (v := 1) hx hb hr (by decide) (fun t ht hW => gb_ri ht ⟨e2, by rw [← e1]; exact hP⟩ hS) hS.2.2 dX0_hasPath_17
theorem dX0_hasGoose_0 : decode cX0_hasGoose 0 = .ok (.iload_n 1, 1) := by decide +kernel
theorem dX0_hasGoose_1 : decode cX0_hasGoose 1 = .ok (.ifCond .lt 15, 3) := by decide +kernel
theorem dX0_hasGoose_16 : decode cX0_hasGoose 16 = .ok (.iconst 0, 1) := by decide +kernel
theorem dX0_hasGoose_17 : decode cX0_hasGoose 17 = .ok (.ireturn, 1) := by decide +kernel
theorem dX0_hasGoose_4 : decode cX0_hasGoose 4 = .ok (.iload_n 1, 1) := by decide +kernel
theorem dX0_hasGoose_5 : decode cX0_hasGoose 5 = .ok (.aload_n 0, 1) := by decide +kernel
theorem dX0_hasGoose_6 : decode cX0_hasGoose 6 = .ok (.invokevirtual 19, 3) := by decide +kernel
theorem dX0_hasGoose_9 : decode cX0_hasGoose 9 = .ok (.if_icmp .ge 7, 3) := by decide +kernel
theorem dX0_hasGoose_12 : decode cX0_hasGoose 12 = .ok (.iconst 1, 1) := by decide +kernel
theorem dX0_hasGoose_13 : decode cX0_hasGoose 13 = .ok (.goto 4, 3) := by decide +kernel
def cs_Border_hasGoose_B (n : Nat) (σ : gb_S) (k0 : Nat) (p1 : Int32) : gb_CR Int32 := gb_kk (gb_kB k0) ((if p1 < 0 then some (σ, 0) else gb_cd (cs_Border_geese_B n σ k0) (fun s_3 r_4 => (if r_4 ≤ p1 then some (s_3, 0) else some (s_3, 1)))))
set_option maxHeartbeats 8000000 in
set_option maxRecDepth 100000 in
theorem cc_Border_hasGoose_B (l : Launch) (D : va_G) (cT : Nat → ClassId) (tt : Nat → Nat) (b1 b : Nat) (hb1 : b1 ≤ b) (n : Nat) (σ : gb_S) (k0 : Nat) (p1 : Int32) (σE : gb_S) (rE : Int32) (h : cs_Border_hasGoose_B n σ k0 p1 = some (σE, rE)) : Met l yX0_hasGoose (.code yX0_hasGoose cX0_hasGoose 2 (some FieldType.boolean) :: gb_wA) ({ frames := 1, cells := 0, slots := 0, locals := 20 }) (gb_Pc D cT tt b1 [.ref (b + k0), .int p1] (fun h => va_P D vwCl (gb_wl b (gb_CW cT b σ)) h)) (gb_Qi (fun r h => r = rE ∧ va_P D vwCl (gb_wl b (gb_CW cT b σE)) h) (gb_fr b 135)) 0 0 (gb_fr b 135) := by
  refine Met.ofW (cc := cX0_hasGoose) (maxL := 2) (ret := (some FieldType.boolean)) (by decide) rfl ?_
  intro p e s m args below meth c s₁ B hml hv
  obtain ⟨rfl, hSt, hP⟩ := hv
  have hx := B.exec
  have hb := B.bytes
  have hr := B.returns
  have hts := atoms_spec (ws := .code yX0_hasGoose cX0_hasGoose 2 (some FieldType.boolean) :: gb_wA) B.pre
  have hq : ∀ w ∈ gb_wA, w.before _ s = true := fun w h => hts w (List.mem_cons_of_mem _ h)
  have hown : s.vm.findClass RX0 = some m.cls := findClass_of_methodNamed B.named
  have hlocks := B.notSynchronized
  clear B hts
  have hK := hSt.1
  have hS : va_S (gb_fr b 135) s.heap s.heap [] := va_S.rf
  have hl := lv_entry ([.ref (b + k0), .int p1]) (n := 2) (Nat.le_of_ble_eq_true rfl)
  rw [lg_entry_eq]
  generalize (lg_sl ([.ref (b + k0), .int p1]) ++ List.replicate (2 - (lg_sl ([.ref (b + k0), .int p1])).length) Slot.unset).toArray = ls at hl ⊢
  replace hl : lv_has ls 2 [(0, .ref (b + k0)), (1, .int p1)] := hl
  unfold cs_Border_hasGoose_B at h
  obtain ⟨z_1, h⟩ := gb_kk_s h
  refine lv_iload_n hx hb dX0_hasGoose_0 rfl (lv_at hl 1 rfl) ?_
  refine lv_if_lt (tgt := 16) hx hb dX0_hasGoose_1 (by decide) (fun c_2 => ?_) (fun c_2 => ?_)
  · rw [if_pos c_2] at h
    refine lv_iconst (v := 0) hx hb dX0_hasGoose_16 (by decide) ?_
    obtain ⟨e1, e2⟩ := gb_eq2 h
    exact W.zret (v := 0) hx hb hr (by decide) (fun t ht hW => gb_ri ht ⟨e2, by rw [← e1]; exact hP⟩ hS) hS.2.2 dX0_hasGoose_17
  · rw [if_neg c_2] at h
    refine lv_iload_n hx hb dX0_hasGoose_4 rfl (lv_at hl 1 rfl) ?_
    refine lv_aload_n hx hb dX0_hasGoose_5 rfl (lv_at hl 0 rfl) ?_
    obtain ⟨s_3, r_4, z_5, h⟩ := gb_cd_s h
    refine gb_calli (va_runV (C := RX0) (As := []) (rest := [.int p1]) ⟨hx, hb, hml, hown, hq⟩ (cc_Border_geese_B l D cT tt b1 b hb1 n σ k0 s_3 r_4 z_5) (cwV 0 hq (gb_gV w_476 w_477 w_478 w_4 w_479) rfl rfl rfl (by decide +kernel) ⟨Nat.le_of_ble_eq_true rfl, Nat.le_of_ble_eq_true rfl⟩) (gb_preV (r := (RX0, TX0, 1)) (ci := 0) (q0 := k0) hSt hP rfl (gb_at b (gb_cB z_1).1) hS (fun q h => Nat.le_trans hb1 h.1) hP) rfl rfl hl.1 rfl (lv_room (Nat.le_of_ble_eq_true rfl)) dX0_hasGoose_6 ⟨Nat.le_of_ble_eq_true rfl, Nat.le_of_ble_eq_true rfl⟩) hS (fun _ h => h) (fun _ h => h) (fun q_6 H locs hY hk hS => ?_)
    obtain ⟨hq_6, hP⟩ := hY
    replace hq_6 := hq_6.symm
    subst hq_6
    refine lv_icmp_ge (tgt := 16) hx hb dX0_hasGoose_9 (by decide) (fun c_7 => ?_) (fun c_7 => ?_)
    · rw [if_pos c_7] at h
      refine lv_iconst (v := 0) hx hb dX0_hasGoose_16 (by decide) ?_
      obtain ⟨e1, e2⟩ := gb_eq2 h
      exact W.zret (v := 0) hx hb hr (by decide) (fun t ht hW => gb_ri ht ⟨e2, by rw [← e1]; exact hP⟩ hS) hS.2.2 dX0_hasGoose_17
    · rw [if_neg c_7] at h
      refine lv_iconst (v := 1) hx hb dX0_hasGoose_12 (by decide) ?_
      refine lv_goto (tgt := 17) hx hb dX0_hasGoose_13 (by decide) ?_
      obtain ⟨e1, e2⟩ := gb_eq2 h
      exact W.zret (v := 1) hx hb hr (by decide) (fun t ht hW => gb_ri ht ⟨e2, by rw [← e1]; exact hP⟩ hS) hS.2.2 dX0_hasGoose_17
theorem dX0_numberTold_0 : decode cX0_numberTold 0 = .ok (.iload_n 1, 1) := by decide +kernel
theorem dX0_numberTold_1 : decode cX0_numberTold 1 = .ok (.bipush 10, 2) := by decide +kernel
theorem dX0_numberTold_3 : decode cX0_numberTold 3 = .ok (.if_icmp .lt 9, 3) := by decide +kernel
theorem dX0_numberTold_12 : decode cX0_numberTold 12 = .ok (.bipush (-2), 2) := by decide +kernel
theorem dX0_numberTold_14 : decode cX0_numberTold 14 = .ok (.ireturn, 1) := by decide +kernel
theorem dX0_numberTold_6 : decode cX0_numberTold 6 = .ok (.iload_n 1, 1) := by decide +kernel
theorem dX0_numberTold_7 : decode cX0_numberTold 7 = .ok (.bipush 89, 2) := by decide +kernel
theorem dX0_numberTold_9 : decode cX0_numberTold 9 = .ok (.if_icmp .le 6, 3) := by decide +kernel
theorem dX0_numberTold_15 : decode cX0_numberTold 15 = .ok (.iload_n 1, 1) := by decide +kernel
theorem dX0_numberTold_16 : decode cX0_numberTold 16 = .ok (.bipush 10, 2) := by decide +kernel
theorem dX0_numberTold_18 : decode cX0_numberTold 18 = .ok (.idiv, 1) := by decide +kernel
theorem dX0_numberTold_19 : decode cX0_numberTold 19 = .ok (.istore_n 2, 1) := by decide +kernel
theorem dX0_numberTold_20 : decode cX0_numberTold 20 = .ok (.iload_n 1, 1) := by decide +kernel
theorem dX0_numberTold_21 : decode cX0_numberTold 21 = .ok (.bipush 10, 2) := by decide +kernel
theorem dX0_numberTold_23 : decode cX0_numberTold 23 = .ok (.irem, 1) := by decide +kernel
theorem dX0_numberTold_24 : decode cX0_numberTold 24 = .ok (.istore_n 3, 1) := by decide +kernel
theorem dX0_numberTold_25 : decode cX0_numberTold 25 = .ok (.iload_n 2, 1) := by decide +kernel
theorem dX0_numberTold_26 : decode cX0_numberTold 26 = .ok (.iconst 3, 1) := by decide +kernel
theorem dX0_numberTold_27 : decode cX0_numberTold 27 = .ok (.if_icmp .gt 31, 3) := by decide +kernel
theorem dX0_numberTold_58 : decode cX0_numberTold 58 = .ok (.iload_n 2, 1) := by decide +kernel
theorem dX0_numberTold_59 : decode cX0_numberTold 59 = .ok (.iconst 1, 1) := by decide +kernel
theorem dX0_numberTold_60 : decode cX0_numberTold 60 = .ok (.isub, 1) := by decide +kernel
theorem dX0_numberTold_61 : decode cX0_numberTold 61 = .ok (.iconst 3, 1) := by decide +kernel
theorem dX0_numberTold_62 : decode cX0_numberTold 62 = .ok (.isub, 1) := by decide +kernel
theorem dX0_numberTold_63 : decode cX0_numberTold 63 = .ok (.istore 4, 2) := by decide +kernel
theorem dX0_numberTold_65 : decode cX0_numberTold 65 = .ok (.aload_n 0, 1) := by decide +kernel
theorem dX0_numberTold_66 : decode cX0_numberTold 66 = .ok (.iload_n 3, 1) := by decide +kernel
theorem dX0_numberTold_67 : decode cX0_numberTold 67 = .ok (.invokevirtual 35, 3) := by decide +kernel
theorem w_614 : (Cond.code ({ cls := "GooseBorder$Border", name := "hasGoose", desc := "(I)Z" } : MethodName) prog_2_method_10_code (2 : Nat) (Option.some FieldType.boolean)) ∈ gb_wA := gb_t3 134 rfl rfl
theorem w_611 : (Cond.methodLink "GooseBorder$Border" (35 : Nat) ({ cls := "GooseBorder$Border", name := "hasGoose", desc := "(I)Z" } : MethodName)) ∈ gb_wA := gb_t3 131 rfl rfl
theorem w_612 : (Cond.instanceMethod ({ cls := "GooseBorder$Border", name := "hasGoose", desc := "(I)Z" } : MethodName)) ∈ gb_wA := gb_t3 132 rfl rfl
theorem w_613 : (Cond.selects "GooseBorder$Border" ({ cls := "GooseBorder$Border", name := "hasGoose", desc := "(I)Z" } : MethodName) ({ cls := "GooseBorder$Border", name := "hasGoose", desc := "(I)Z" } : MethodName)) ∈ gb_wA := gb_t3 133 rfl rfl
theorem dX0_numberTold_70 : decode cX0_numberTold 70 = .ok (.ifCond .eq 20, 3) := by decide +kernel
theorem dX0_numberTold_90 : decode cX0_numberTold 90 = .ok (.bipush (-2), 2) := by decide +kernel
theorem dX0_numberTold_92 : decode cX0_numberTold 92 = .ok (.ireturn, 1) := by decide +kernel
theorem dX0_numberTold_73 : decode cX0_numberTold 73 = .ok (.aload_n 0, 1) := by decide +kernel
theorem dX0_numberTold_74 : decode cX0_numberTold 74 = .ok (.getfield 11, 3) := by decide +kernel
theorem dX0_numberTold_77 : decode cX0_numberTold 77 = .ok (.bipush 18, 2) := by decide +kernel
theorem dX0_numberTold_79 : decode cX0_numberTold 79 = .ok (.iload_n 3, 1) := by decide +kernel
theorem dX0_numberTold_80 : decode cX0_numberTold 80 = .ok (.iconst 5, 1) := by decide +kernel
theorem dX0_numberTold_81 : decode cX0_numberTold 81 = .ok (.imul, 1) := by decide +kernel
theorem dX0_numberTold_82 : decode cX0_numberTold 82 = .ok (.iadd, 1) := by decide +kernel
theorem dX0_numberTold_83 : decode cX0_numberTold 83 = .ok (.iload 4, 2) := by decide +kernel
theorem dX0_numberTold_85 : decode cX0_numberTold 85 = .ok (.iadd, 1) := by decide +kernel
theorem dX0_numberTold_86 : decode cX0_numberTold 86 = .ok (.iaload, 1) := by decide +kernel
theorem dX0_numberTold_87 : decode cX0_numberTold 87 = .ok (.goto 5, 3) := by decide +kernel
theorem dX0_numberTold_30 : decode cX0_numberTold 30 = .ok (.aload_n 0, 1) := by decide +kernel
theorem dX0_numberTold_31 : decode cX0_numberTold 31 = .ok (.iload_n 3, 1) := by decide +kernel
theorem dX0_numberTold_32 : decode cX0_numberTold 32 = .ok (.invokevirtual 32, 3) := by decide +kernel
theorem w_610 : (Cond.code ({ cls := "GooseBorder$Border", name := "hasPath", desc := "(I)Z" } : MethodName) prog_2_method_9_code (2 : Nat) (Option.some FieldType.boolean)) ∈ gb_wA := gb_t3 130 rfl rfl
theorem w_607 : (Cond.methodLink "GooseBorder$Border" (32 : Nat) ({ cls := "GooseBorder$Border", name := "hasPath", desc := "(I)Z" } : MethodName)) ∈ gb_wA := gb_t3 127 rfl rfl
theorem w_608 : (Cond.instanceMethod ({ cls := "GooseBorder$Border", name := "hasPath", desc := "(I)Z" } : MethodName)) ∈ gb_wA := gb_t3 128 rfl rfl
theorem w_609 : (Cond.selects "GooseBorder$Border" ({ cls := "GooseBorder$Border", name := "hasPath", desc := "(I)Z" } : MethodName) ({ cls := "GooseBorder$Border", name := "hasPath", desc := "(I)Z" } : MethodName)) ∈ gb_wA := gb_t3 129 rfl rfl
theorem dX0_numberTold_35 : decode cX0_numberTold 35 = .ok (.ifCond .eq 20, 3) := by decide +kernel
theorem dX0_numberTold_55 : decode cX0_numberTold 55 = .ok (.bipush (-2), 2) := by decide +kernel
theorem dX0_numberTold_57 : decode cX0_numberTold 57 = .ok (.ireturn, 1) := by decide +kernel
theorem dX0_numberTold_38 : decode cX0_numberTold 38 = .ok (.aload_n 0, 1) := by decide +kernel
theorem dX0_numberTold_39 : decode cX0_numberTold 39 = .ok (.getfield 11, 3) := by decide +kernel
theorem dX0_numberTold_42 : decode cX0_numberTold 42 = .ok (.iconst 3, 1) := by decide +kernel
theorem dX0_numberTold_43 : decode cX0_numberTold 43 = .ok (.iload_n 3, 1) := by decide +kernel
theorem dX0_numberTold_44 : decode cX0_numberTold 44 = .ok (.iconst 3, 1) := by decide +kernel
theorem dX0_numberTold_45 : decode cX0_numberTold 45 = .ok (.imul, 1) := by decide +kernel
theorem dX0_numberTold_46 : decode cX0_numberTold 46 = .ok (.iadd, 1) := by decide +kernel
theorem dX0_numberTold_47 : decode cX0_numberTold 47 = .ok (.iload_n 2, 1) := by decide +kernel
theorem dX0_numberTold_48 : decode cX0_numberTold 48 = .ok (.iadd, 1) := by decide +kernel
theorem dX0_numberTold_49 : decode cX0_numberTold 49 = .ok (.iconst 1, 1) := by decide +kernel
theorem dX0_numberTold_50 : decode cX0_numberTold 50 = .ok (.isub, 1) := by decide +kernel
theorem dX0_numberTold_51 : decode cX0_numberTold 51 = .ok (.iaload, 1) := by decide +kernel
theorem dX0_numberTold_52 : decode cX0_numberTold 52 = .ok (.goto 5, 3) := by decide +kernel
def cs_Border_numberTold_B (n : Nat) (σ : gb_S) (k0 : Nat) (p1 : Int32) : gb_CR Int32 := gb_kk (gb_kB k0) ((if p1 < 10 then some (σ, (-2)) else (if p1 ≤ 89 then gb_lt (p1 / 10) (fun x_4 => gb_lt (p1 - p1 / 10 * 10) (fun x_5 => (if (3 : Int32) < x_4 then gb_lt ((x_4 - 1) - 3) (fun x_7 => gb_cd (cs_Border_hasGoose_B n σ k0 x_5) (fun s_8 r_9 => (if r_9 = 0 then some (s_8, (-2)) else gb_ck (((18 : Int32) + (x_5 * 5)) + x_7) 58 (gb_lt ((s_8.1 (k0 + 1)) (Int32.toNatClampNeg (((18 : Int32) + (x_5 * 5)) + x_7))) (fun x_14 => some (s_8, x_14)))))) else gb_cd (cs_Border_hasPath_B n σ k0 x_5) (fun s_15 r_16 => (if r_16 = 0 then some (s_15, (-2)) else gb_ck ((((3 : Int32) + (x_5 * 3)) + x_4) - 1) 58 (gb_lt ((s_15.1 (k0 + 1)) (Int32.toNatClampNeg ((((3 : Int32) + (x_5 * 3)) + x_4) - 1))) (fun x_21 => some (s_15, x_21)))))))) else some (σ, (-2)))))
set_option maxHeartbeats 8000000 in
set_option maxRecDepth 100000 in
theorem cc_Border_numberTold_B (l : Launch) (D : va_G) (cT : Nat → ClassId) (tt : Nat → Nat) (b1 b : Nat) (hb1 : b1 ≤ b) (n : Nat) (σ : gb_S) (k0 : Nat) (p1 : Int32) (σE : gb_S) (rE : Int32) (h : cs_Border_numberTold_B n σ k0 p1 = some (σE, rE)) : Met l yX0_numberTold (.code yX0_numberTold cX0_numberTold 5 (some FieldType.int) :: gb_wA) ({ frames := 2, cells := 0, slots := 0, locals := 41 }) (gb_Pc D cT tt b1 [.ref (b + k0), .int p1] (fun h => va_P D vwCl (gb_wl b (gb_CW cT b σ)) h)) (gb_Qi (fun r h => r = rE ∧ va_P D vwCl (gb_wl b (gb_CW cT b σE)) h) (gb_fr b 135)) 0 0 (gb_fr b 135) := by
  refine Met.ofW (cc := cX0_numberTold) (maxL := 5) (ret := (some FieldType.int)) (by decide) rfl ?_
  intro p e s m args below meth c s₁ B hml hv
  obtain ⟨rfl, hSt, hP⟩ := hv
  have hx := B.exec
  have hb := B.bytes
  have hr := B.returns
  have hts := atoms_spec (ws := .code yX0_numberTold cX0_numberTold 5 (some FieldType.int) :: gb_wA) B.pre
  have hq : ∀ w ∈ gb_wA, w.before _ s = true := fun w h => hts w (List.mem_cons_of_mem _ h)
  have hown : s.vm.findClass RX0 = some m.cls := findClass_of_methodNamed B.named
  have hlocks := B.notSynchronized
  clear B hts
  have hK := hSt.1
  have hS : va_S (gb_fr b 135) s.heap s.heap [] := va_S.rf
  have hl := lv_entry ([.ref (b + k0), .int p1]) (n := 5) (Nat.le_of_ble_eq_true rfl)
  rw [lg_entry_eq]
  generalize (lg_sl ([.ref (b + k0), .int p1]) ++ List.replicate (5 - (lg_sl ([.ref (b + k0), .int p1])).length) Slot.unset).toArray = ls at hl ⊢
  replace hl : lv_has ls 5 [(0, .ref (b + k0)), (1, .int p1)] := hl
  unfold cs_Border_numberTold_B at h
  obtain ⟨z_1, h⟩ := gb_kk_s h
  refine lv_iload_n hx hb dX0_numberTold_0 rfl (lv_at hl 1 rfl) ?_
  refine lv_bipush (v := 10) hx hb dX0_numberTold_1 (by decide) ?_
  refine lv_icmp_lt (tgt := 12) hx hb dX0_numberTold_3 (by decide) (fun c_2 => ?_) (fun c_2 => ?_)
  · rw [if_pos c_2] at h
    refine lv_bipush (v := (-2)) hx hb dX0_numberTold_12 (by decide) ?_
    obtain ⟨e1, e2⟩ := gb_eq2 h
    exact W.iret (v := (-2)) hx hb hr (fun t ht hW => gb_ri ht ⟨e2, by rw [← e1]; exact hP⟩ hS) hS.2.2 dX0_numberTold_14
  · rw [if_neg c_2] at h
    refine lv_iload_n hx hb dX0_numberTold_6 rfl (lv_at hl 1 rfl) ?_
    refine lv_bipush (v := 89) hx hb dX0_numberTold_7 (by decide) ?_
    refine lv_icmp_le (tgt := 15) hx hb dX0_numberTold_9 (by decide) (fun c_3 => ?_) (fun c_3 => ?_)
    · rw [if_pos c_3] at h
      refine lv_iload_n hx hb dX0_numberTold_15 rfl (lv_at hl 1 rfl) ?_
      refine lv_bipush (v := 10) hx hb dX0_numberTold_16 (by decide) ?_
      refine lv_idiv hx hb dX0_numberTold_18 (by decide) ?_
      refine lv_topi (fun x_4 ex_4 => ?_)
      replace h := gb_lt_s ex_4 h
      refine lv_istore_n (lv' := [(2, .int x_4), (0, .ref (b + k0)), (1, .int p1)]) hx hb dX0_numberTold_19 rfl hl (by decide) rfl (fun ls hl => ?_)
      refine lv_iload_n hx hb dX0_numberTold_20 rfl (lv_at hl 2 rfl) ?_
      refine lv_bipush (v := 10) hx hb dX0_numberTold_21 (by decide) ?_
      refine lv_irem hx hb dX0_numberTold_23 (by decide) ?_
      refine lv_topi (fun x_5 ex_5 => ?_)
      replace h := gb_lt_s ex_5 h
      refine lv_istore_n (lv' := [(3, .int x_5), (2, .int x_4), (0, .ref (b + k0)), (1, .int p1)]) hx hb dX0_numberTold_24 rfl hl (by decide) rfl (fun ls hl => ?_)
      refine lv_iload_n hx hb dX0_numberTold_25 rfl (lv_at hl 1 rfl) ?_
      refine lv_iconst (v := 3) hx hb dX0_numberTold_26 (by decide) ?_
      refine lv_icmp_gt (tgt := 58) hx hb dX0_numberTold_27 (by decide) (fun c_6 => ?_) (fun c_6 => ?_)
      · rw [if_pos c_6] at h
        refine lv_iload_n hx hb dX0_numberTold_58 rfl (lv_at hl 1 rfl) ?_
        refine lv_iconst (v := 1) hx hb dX0_numberTold_59 (by decide) ?_
        refine lv_isub hx hb dX0_numberTold_60 ?_
        refine lv_iconst (v := 3) hx hb dX0_numberTold_61 (by decide) ?_
        refine lv_isub hx hb dX0_numberTold_62 ?_
        refine lv_topi (fun x_7 ex_7 => ?_)
        replace h := gb_lt_s ex_7 h
        refine lv_istore (lv' := [(4, .int x_7), (3, .int x_5), (2, .int x_4), (0, .ref (b + k0)), (1, .int p1)]) hx hb dX0_numberTold_63 hl (by decide) rfl (fun ls hl => ?_)
        refine lv_aload_n hx hb dX0_numberTold_65 rfl (lv_at hl 3 rfl) ?_
        refine lv_iload_n hx hb dX0_numberTold_66 rfl (lv_at hl 1 rfl) ?_
        obtain ⟨s_8, r_9, z_10, h⟩ := gb_cd_s h
        refine gb_calli (va_runV (C := RX0) (As := [.int x_5]) (rest := []) ⟨hx, hb, hml, hown, hq⟩ (cc_Border_hasGoose_B l D cT tt b1 b hb1 n σ k0 x_5 s_8 r_9 z_10) (cwV 1 hq (gb_gV w_611 w_612 w_613 w_4 w_614) rfl rfl rfl (by decide +kernel) ⟨Nat.le_of_ble_eq_true rfl, Nat.le_of_ble_eq_true rfl⟩) (gb_preV (r := (RX0, TX0, 1)) (ci := 0) (q0 := k0) hSt hP rfl (gb_at b (gb_cB z_1).1) hS (fun q h => Nat.le_trans hb1 h.1) hP) rfl rfl hl.1 rfl (lv_room (Nat.le_of_ble_eq_true rfl)) dX0_numberTold_67 ⟨Nat.le_of_ble_eq_true rfl, Nat.le_of_ble_eq_true rfl⟩) hS (fun _ h => h) (fun _ h => h) (fun q_11 H locs hY hk hS => ?_)
        obtain ⟨hq_11, hP⟩ := hY
        replace hq_11 := hq_11.symm
        subst hq_11
        refine lv_if_eq (tgt := 90) hx hb dX0_numberTold_70 (by decide) (fun c_12 => ?_) (fun c_12 => ?_)
        · rw [if_pos c_12] at h
          refine lv_bipush (v := (-2)) hx hb dX0_numberTold_90 (by decide) ?_
          obtain ⟨e1, e2⟩ := gb_eq2 h
          exact W.iret (v := (-2)) hx hb hr (fun t ht hW => gb_ri ht ⟨e2, by rw [← e1]; exact hP⟩ hS) hS.2.2 dX0_numberTold_92
        · rw [if_neg c_12] at h
          refine lv_aload_n hx hb dX0_numberTold_73 rfl (lv_at hl 3 rfl) ?_
          refine va_get (ci := 0) (v := (.ref (b + (k0 + 1)))) (C := RX0) (T := TX0) (N := 1) hx hb hq i_X0 hown hK hP k0 (gb_at b (gb_cB z_1).1) rfl 0 (by decide) (hq _ w_49) (fun x9 h9 => u_same (hq _ w_50) x9 h9) rfl dX0_numberTold_74 ?_
          refine lv_bipush (v := 18) hx hb dX0_numberTold_77 (by decide) ?_
          refine lv_iload_n hx hb dX0_numberTold_79 rfl (lv_at hl 1 rfl) ?_
          refine lv_iconst (v := 5) hx hb dX0_numberTold_80 (by decide) ?_
          refine lv_imul hx hb dX0_numberTold_81 ?_
          refine lv_iadd hx hb dX0_numberTold_82 ?_
          refine lv_iload hx hb dX0_numberTold_83 (lv_at hl 0 rfl) ?_
          refine lv_iadd hx hb dX0_numberTold_85 ?_
          obtain ⟨z_13, h⟩ := gb_ck_s h
          refine va_iald hx hb hK hP (k0 + 1) 0 (gb_at b (gb_cB z_1).2) rfl z_13 dX0_numberTold_86 ?_
          refine lv_topi (fun x_14 ex_14 => ?_)
          replace h := gb_lt_s ex_14 h
          refine lv_goto (tgt := 92) hx hb dX0_numberTold_87 (by decide) ?_
          obtain ⟨e1, e2⟩ := gb_eq2 h
          exact W.iret (v := x_14) hx hb hr (fun t ht hW => gb_ri ht ⟨e2, by rw [← e1]; exact hP⟩ hS) hS.2.2 dX0_numberTold_92
      · rw [if_neg c_6] at h
        refine lv_aload_n hx hb dX0_numberTold_30 rfl (lv_at hl 2 rfl) ?_
        refine lv_iload_n hx hb dX0_numberTold_31 rfl (lv_at hl 0 rfl) ?_
        obtain ⟨s_15, r_16, z_17, h⟩ := gb_cd_s h
        refine gb_calli (va_runV (C := RX0) (As := [.int x_5]) (rest := []) ⟨hx, hb, hml, hown, hq⟩ (cc_Border_hasPath_B l D cT tt b1 b hb1 n σ k0 x_5 s_15 r_16 z_17) (cwV 1 hq (gb_gV w_607 w_608 w_609 w_4 w_610) rfl rfl rfl (by decide +kernel) ⟨Nat.le_of_ble_eq_true rfl, Nat.le_of_ble_eq_true rfl⟩) (gb_preV (r := (RX0, TX0, 1)) (ci := 0) (q0 := k0) hSt hP rfl (gb_at b (gb_cB z_1).1) hS (fun q h => Nat.le_trans hb1 h.1) hP) rfl rfl hl.1 rfl (lv_room (Nat.le_of_ble_eq_true rfl)) dX0_numberTold_32 ⟨Nat.le_of_ble_eq_true rfl, Nat.le_of_ble_eq_true rfl⟩) hS (fun _ h => h) (fun _ h => h) (fun q_18 H locs hY hk hS => ?_)
        obtain ⟨hq_18, hP⟩ := hY
        replace hq_18 := hq_18.symm
        subst hq_18
        refine lv_if_eq (tgt := 55) hx hb dX0_numberTold_35 (by decide) (fun c_19 => ?_) (fun c_19 => ?_)
        · rw [if_pos c_19] at h
          refine lv_bipush (v := (-2)) hx hb dX0_numberTold_55 (by decide) ?_
          obtain ⟨e1, e2⟩ := gb_eq2 h
          exact W.iret (v := (-2)) hx hb hr (fun t ht hW => gb_ri ht ⟨e2, by rw [← e1]; exact hP⟩ hS) hS.2.2 dX0_numberTold_57
        · rw [if_neg c_19] at h
          refine lv_aload_n hx hb dX0_numberTold_38 rfl (lv_at hl 2 rfl) ?_
          refine va_get (ci := 0) (v := (.ref (b + (k0 + 1)))) (C := RX0) (T := TX0) (N := 1) hx hb hq i_X0 hown hK hP k0 (gb_at b (gb_cB z_1).1) rfl 0 (by decide) (hq _ w_49) (fun x9 h9 => u_same (hq _ w_50) x9 h9) rfl dX0_numberTold_39 ?_
          refine lv_iconst (v := 3) hx hb dX0_numberTold_42 (by decide) ?_
          refine lv_iload_n hx hb dX0_numberTold_43 rfl (lv_at hl 0 rfl) ?_
          refine lv_iconst (v := 3) hx hb dX0_numberTold_44 (by decide) ?_
          refine lv_imul hx hb dX0_numberTold_45 ?_
          refine lv_iadd hx hb dX0_numberTold_46 ?_
          refine lv_iload_n hx hb dX0_numberTold_47 rfl (lv_at hl 1 rfl) ?_
          refine lv_iadd hx hb dX0_numberTold_48 ?_
          refine lv_iconst (v := 1) hx hb dX0_numberTold_49 (by decide) ?_
          refine lv_isub hx hb dX0_numberTold_50 ?_
          obtain ⟨z_20, h⟩ := gb_ck_s h
          refine va_iald hx hb hK hP (k0 + 1) 0 (gb_at b (gb_cB z_1).2) rfl z_20 dX0_numberTold_51 ?_
          refine lv_topi (fun x_21 ex_21 => ?_)
          replace h := gb_lt_s ex_21 h
          refine lv_goto (tgt := 57) hx hb dX0_numberTold_52 (by decide) ?_
          obtain ⟨e1, e2⟩ := gb_eq2 h
          exact W.iret (v := x_21) hx hb hr (fun t ht hW => gb_ri ht ⟨e2, by rw [← e1]; exact hP⟩ hS) hS.2.2 dX0_numberTold_57
    · rw [if_neg c_3] at h
      refine lv_bipush (v := (-2)) hx hb dX0_numberTold_12 (by decide) ?_
      obtain ⟨e1, e2⟩ := gb_eq2 h
      exact W.iret (v := (-2)) hx hb hr (fun t ht hW => gb_ri ht ⟨e2, by rw [← e1]; exact hP⟩ hS) hS.2.2 dX0_numberTold_14
theorem dX0_miles_0 : decode cX0_miles 0 = .ok (.aload_n 0, 1) := by decide +kernel
theorem dX0_miles_1 : decode cX0_miles 1 = .ok (.getfield 11, 3) := by decide +kernel
theorem dX0_miles_4 : decode cX0_miles 4 = .ok (.iconst 3, 1) := by decide +kernel
theorem dX0_miles_5 : decode cX0_miles 5 = .ok (.iload_n 1, 1) := by decide +kernel
theorem dX0_miles_6 : decode cX0_miles 6 = .ok (.iconst 3, 1) := by decide +kernel
theorem dX0_miles_7 : decode cX0_miles 7 = .ok (.imul, 1) := by decide +kernel
theorem dX0_miles_8 : decode cX0_miles 8 = .ok (.iadd, 1) := by decide +kernel
theorem dX0_miles_9 : decode cX0_miles 9 = .ok (.iaload, 1) := by decide +kernel
theorem dX0_miles_10 : decode cX0_miles 10 = .ok (.ireturn, 1) := by decide +kernel
def cs_Border_miles_B (n : Nat) (σ : gb_S) (k0 : Nat) (p1 : Int32) : gb_CR Int32 := gb_kk (gb_kB k0) (gb_ck ((3 : Int32) + (p1 * 3)) 58 (gb_lt ((σ.1 (k0 + 1)) (Int32.toNatClampNeg ((3 : Int32) + (p1 * 3)))) (fun x_3 => some (σ, x_3))))
set_option maxHeartbeats 8000000 in
set_option maxRecDepth 100000 in
theorem cc_Border_miles_B (l : Launch) (D : va_G) (cT : Nat → ClassId) (tt : Nat → Nat) (b1 b : Nat) (hb1 : b1 ≤ b) (n : Nat) (σ : gb_S) (k0 : Nat) (p1 : Int32) (σE : gb_S) (rE : Int32) (h : cs_Border_miles_B n σ k0 p1 = some (σE, rE)) : Met l yX0_miles (.code yX0_miles cX0_miles 2 (some FieldType.int) :: gb_wA) ({ frames := 0, cells := 0, slots := 0, locals := 0 }) (gb_Pc D cT tt b1 [.ref (b + k0), .int p1] (fun h => va_P D vwCl (gb_wl b (gb_CW cT b σ)) h)) (gb_Qi (fun r h => r = rE ∧ va_P D vwCl (gb_wl b (gb_CW cT b σE)) h) (gb_fr b 135)) 0 0 (gb_fr b 135) := by
  refine Met.ofW (cc := cX0_miles) (maxL := 2) (ret := (some FieldType.int)) (by decide) rfl ?_
  intro p e s m args below meth c s₁ B hml hv
  obtain ⟨rfl, hSt, hP⟩ := hv
  have hx := B.exec
  have hb := B.bytes
  have hr := B.returns
  have hts := atoms_spec (ws := .code yX0_miles cX0_miles 2 (some FieldType.int) :: gb_wA) B.pre
  have hq : ∀ w ∈ gb_wA, w.before _ s = true := fun w h => hts w (List.mem_cons_of_mem _ h)
  have hown : s.vm.findClass RX0 = some m.cls := findClass_of_methodNamed B.named
  have hlocks := B.notSynchronized
  clear B hts
  have hK := hSt.1
  have hS : va_S (gb_fr b 135) s.heap s.heap [] := va_S.rf
  have hl := lv_entry ([.ref (b + k0), .int p1]) (n := 2) (Nat.le_of_ble_eq_true rfl)
  rw [lg_entry_eq]
  generalize (lg_sl ([.ref (b + k0), .int p1]) ++ List.replicate (2 - (lg_sl ([.ref (b + k0), .int p1])).length) Slot.unset).toArray = ls at hl ⊢
  replace hl : lv_has ls 2 [(0, .ref (b + k0)), (1, .int p1)] := hl
  unfold cs_Border_miles_B at h
  obtain ⟨z_1, h⟩ := gb_kk_s h
  refine lv_aload_n hx hb dX0_miles_0 rfl (lv_at hl 0 rfl) ?_
  refine va_get (ci := 0) (v := (.ref (b + (k0 + 1)))) (C := RX0) (T := TX0) (N := 1) hx hb hq i_X0 hown hK hP k0 (gb_at b (gb_cB z_1).1) rfl 0 (by decide) (hq _ w_49) (fun x9 h9 => u_same (hq _ w_50) x9 h9) rfl dX0_miles_1 ?_
  refine lv_iconst (v := 3) hx hb dX0_miles_4 (by decide) ?_
  refine lv_iload_n hx hb dX0_miles_5 rfl (lv_at hl 1 rfl) ?_
  refine lv_iconst (v := 3) hx hb dX0_miles_6 (by decide) ?_
  refine lv_imul hx hb dX0_miles_7 ?_
  refine lv_iadd hx hb dX0_miles_8 ?_
  obtain ⟨z_2, h⟩ := gb_ck_s h
  refine va_iald hx hb hK hP (k0 + 1) 0 (gb_at b (gb_cB z_1).2) rfl z_2 dX0_miles_9 ?_
  refine lv_topi (fun x_3 ex_3 => ?_)
  replace h := gb_lt_s ex_3 h
  obtain ⟨e1, e2⟩ := gb_eq2 h
  exact W.iret (v := x_3) hx hb hr (fun t ht hW => gb_ri ht ⟨e2, by rw [← e1]; exact hP⟩ hS) hS.2.2 dX0_miles_10
theorem dX0_rate_0 : decode cX0_rate 0 = .ok (.aload_n 0, 1) := by decide +kernel
theorem dX0_rate_1 : decode cX0_rate 1 = .ok (.getfield 11, 3) := by decide +kernel
theorem dX0_rate_4 : decode cX0_rate 4 = .ok (.iconst 3, 1) := by decide +kernel
theorem dX0_rate_5 : decode cX0_rate 5 = .ok (.iload_n 1, 1) := by decide +kernel
theorem dX0_rate_6 : decode cX0_rate 6 = .ok (.iconst 3, 1) := by decide +kernel
theorem dX0_rate_7 : decode cX0_rate 7 = .ok (.imul, 1) := by decide +kernel
theorem dX0_rate_8 : decode cX0_rate 8 = .ok (.iadd, 1) := by decide +kernel
theorem dX0_rate_9 : decode cX0_rate 9 = .ok (.iconst 1, 1) := by decide +kernel
theorem dX0_rate_10 : decode cX0_rate 10 = .ok (.iadd, 1) := by decide +kernel
theorem dX0_rate_11 : decode cX0_rate 11 = .ok (.iaload, 1) := by decide +kernel
theorem dX0_rate_12 : decode cX0_rate 12 = .ok (.ireturn, 1) := by decide +kernel
def cs_Border_rate_B (n : Nat) (σ : gb_S) (k0 : Nat) (p1 : Int32) : gb_CR Int32 := gb_kk (gb_kB k0) (gb_ck (((3 : Int32) + (p1 * 3)) + 1) 58 (gb_lt ((σ.1 (k0 + 1)) (Int32.toNatClampNeg (((3 : Int32) + (p1 * 3)) + 1))) (fun x_3 => some (σ, x_3))))
set_option maxHeartbeats 8000000 in
set_option maxRecDepth 100000 in
theorem cc_Border_rate_B (l : Launch) (D : va_G) (cT : Nat → ClassId) (tt : Nat → Nat) (b1 b : Nat) (hb1 : b1 ≤ b) (n : Nat) (σ : gb_S) (k0 : Nat) (p1 : Int32) (σE : gb_S) (rE : Int32) (h : cs_Border_rate_B n σ k0 p1 = some (σE, rE)) : Met l yX0_rate (.code yX0_rate cX0_rate 2 (some FieldType.int) :: gb_wA) ({ frames := 0, cells := 0, slots := 0, locals := 0 }) (gb_Pc D cT tt b1 [.ref (b + k0), .int p1] (fun h => va_P D vwCl (gb_wl b (gb_CW cT b σ)) h)) (gb_Qi (fun r h => r = rE ∧ va_P D vwCl (gb_wl b (gb_CW cT b σE)) h) (gb_fr b 135)) 0 0 (gb_fr b 135) := by
  refine Met.ofW (cc := cX0_rate) (maxL := 2) (ret := (some FieldType.int)) (by decide) rfl ?_
  intro p e s m args below meth c s₁ B hml hv
  obtain ⟨rfl, hSt, hP⟩ := hv
  have hx := B.exec
  have hb := B.bytes
  have hr := B.returns
  have hts := atoms_spec (ws := .code yX0_rate cX0_rate 2 (some FieldType.int) :: gb_wA) B.pre
  have hq : ∀ w ∈ gb_wA, w.before _ s = true := fun w h => hts w (List.mem_cons_of_mem _ h)
  have hown : s.vm.findClass RX0 = some m.cls := findClass_of_methodNamed B.named
  have hlocks := B.notSynchronized
  clear B hts
  have hK := hSt.1
  have hS : va_S (gb_fr b 135) s.heap s.heap [] := va_S.rf
  have hl := lv_entry ([.ref (b + k0), .int p1]) (n := 2) (Nat.le_of_ble_eq_true rfl)
  rw [lg_entry_eq]
  generalize (lg_sl ([.ref (b + k0), .int p1]) ++ List.replicate (2 - (lg_sl ([.ref (b + k0), .int p1])).length) Slot.unset).toArray = ls at hl ⊢
  replace hl : lv_has ls 2 [(0, .ref (b + k0)), (1, .int p1)] := hl
  unfold cs_Border_rate_B at h
  obtain ⟨z_1, h⟩ := gb_kk_s h
  refine lv_aload_n hx hb dX0_rate_0 rfl (lv_at hl 0 rfl) ?_
  refine va_get (ci := 0) (v := (.ref (b + (k0 + 1)))) (C := RX0) (T := TX0) (N := 1) hx hb hq i_X0 hown hK hP k0 (gb_at b (gb_cB z_1).1) rfl 0 (by decide) (hq _ w_49) (fun x9 h9 => u_same (hq _ w_50) x9 h9) rfl dX0_rate_1 ?_
  refine lv_iconst (v := 3) hx hb dX0_rate_4 (by decide) ?_
  refine lv_iload_n hx hb dX0_rate_5 rfl (lv_at hl 1 rfl) ?_
  refine lv_iconst (v := 3) hx hb dX0_rate_6 (by decide) ?_
  refine lv_imul hx hb dX0_rate_7 ?_
  refine lv_iadd hx hb dX0_rate_8 ?_
  refine lv_iconst (v := 1) hx hb dX0_rate_9 (by decide) ?_
  refine lv_iadd hx hb dX0_rate_10 ?_
  obtain ⟨z_2, h⟩ := gb_ck_s h
  refine va_iald hx hb hK hP (k0 + 1) 0 (gb_at b (gb_cB z_1).2) rfl z_2 dX0_rate_11 ?_
  refine lv_topi (fun x_3 ex_3 => ?_)
  replace h := gb_lt_s ex_3 h
  obtain ⟨e1, e2⟩ := gb_eq2 h
  exact W.iret (v := x_3) hx hb hr (fun t ht hW => gb_ri ht ⟨e2, by rw [← e1]; exact hP⟩ hS) hS.2.2 dX0_rate_12
theorem dX0_pad_0 : decode cX0_pad 0 = .ok (.aload_n 0, 1) := by decide +kernel
theorem dX0_pad_1 : decode cX0_pad 1 = .ok (.getfield 11, 3) := by decide +kernel
theorem dX0_pad_4 : decode cX0_pad 4 = .ok (.iconst 3, 1) := by decide +kernel
theorem dX0_pad_5 : decode cX0_pad 5 = .ok (.iload_n 1, 1) := by decide +kernel
theorem dX0_pad_6 : decode cX0_pad 6 = .ok (.iconst 3, 1) := by decide +kernel
theorem dX0_pad_7 : decode cX0_pad 7 = .ok (.imul, 1) := by decide +kernel
theorem dX0_pad_8 : decode cX0_pad 8 = .ok (.iadd, 1) := by decide +kernel
theorem dX0_pad_9 : decode cX0_pad 9 = .ok (.iconst 2, 1) := by decide +kernel
theorem dX0_pad_10 : decode cX0_pad 10 = .ok (.iadd, 1) := by decide +kernel
theorem dX0_pad_11 : decode cX0_pad 11 = .ok (.iaload, 1) := by decide +kernel
theorem dX0_pad_12 : decode cX0_pad 12 = .ok (.ireturn, 1) := by decide +kernel
def cs_Border_pad_B (n : Nat) (σ : gb_S) (k0 : Nat) (p1 : Int32) : gb_CR Int32 := gb_kk (gb_kB k0) (gb_ck (((3 : Int32) + (p1 * 3)) + 2) 58 (gb_lt ((σ.1 (k0 + 1)) (Int32.toNatClampNeg (((3 : Int32) + (p1 * 3)) + 2))) (fun x_3 => some (σ, x_3))))
set_option maxHeartbeats 8000000 in
set_option maxRecDepth 100000 in
theorem cc_Border_pad_B (l : Launch) (D : va_G) (cT : Nat → ClassId) (tt : Nat → Nat) (b1 b : Nat) (hb1 : b1 ≤ b) (n : Nat) (σ : gb_S) (k0 : Nat) (p1 : Int32) (σE : gb_S) (rE : Int32) (h : cs_Border_pad_B n σ k0 p1 = some (σE, rE)) : Met l yX0_pad (.code yX0_pad cX0_pad 2 (some FieldType.int) :: gb_wA) ({ frames := 0, cells := 0, slots := 0, locals := 0 }) (gb_Pc D cT tt b1 [.ref (b + k0), .int p1] (fun h => va_P D vwCl (gb_wl b (gb_CW cT b σ)) h)) (gb_Qi (fun r h => r = rE ∧ va_P D vwCl (gb_wl b (gb_CW cT b σE)) h) (gb_fr b 135)) 0 0 (gb_fr b 135) := by
  refine Met.ofW (cc := cX0_pad) (maxL := 2) (ret := (some FieldType.int)) (by decide) rfl ?_
  intro p e s m args below meth c s₁ B hml hv
  obtain ⟨rfl, hSt, hP⟩ := hv
  have hx := B.exec
  have hb := B.bytes
  have hr := B.returns
  have hts := atoms_spec (ws := .code yX0_pad cX0_pad 2 (some FieldType.int) :: gb_wA) B.pre
  have hq : ∀ w ∈ gb_wA, w.before _ s = true := fun w h => hts w (List.mem_cons_of_mem _ h)
  have hown : s.vm.findClass RX0 = some m.cls := findClass_of_methodNamed B.named
  have hlocks := B.notSynchronized
  clear B hts
  have hK := hSt.1
  have hS : va_S (gb_fr b 135) s.heap s.heap [] := va_S.rf
  have hl := lv_entry ([.ref (b + k0), .int p1]) (n := 2) (Nat.le_of_ble_eq_true rfl)
  rw [lg_entry_eq]
  generalize (lg_sl ([.ref (b + k0), .int p1]) ++ List.replicate (2 - (lg_sl ([.ref (b + k0), .int p1])).length) Slot.unset).toArray = ls at hl ⊢
  replace hl : lv_has ls 2 [(0, .ref (b + k0)), (1, .int p1)] := hl
  unfold cs_Border_pad_B at h
  obtain ⟨z_1, h⟩ := gb_kk_s h
  refine lv_aload_n hx hb dX0_pad_0 rfl (lv_at hl 0 rfl) ?_
  refine va_get (ci := 0) (v := (.ref (b + (k0 + 1)))) (C := RX0) (T := TX0) (N := 1) hx hb hq i_X0 hown hK hP k0 (gb_at b (gb_cB z_1).1) rfl 0 (by decide) (hq _ w_49) (fun x9 h9 => u_same (hq _ w_50) x9 h9) rfl dX0_pad_1 ?_
  refine lv_iconst (v := 3) hx hb dX0_pad_4 (by decide) ?_
  refine lv_iload_n hx hb dX0_pad_5 rfl (lv_at hl 1 rfl) ?_
  refine lv_iconst (v := 3) hx hb dX0_pad_6 (by decide) ?_
  refine lv_imul hx hb dX0_pad_7 ?_
  refine lv_iadd hx hb dX0_pad_8 ?_
  refine lv_iconst (v := 2) hx hb dX0_pad_9 (by decide) ?_
  refine lv_iadd hx hb dX0_pad_10 ?_
  obtain ⟨z_2, h⟩ := gb_ck_s h
  refine va_iald hx hb hK hP (k0 + 1) 0 (gb_at b (gb_cB z_1).2) rfl z_2 dX0_pad_11 ?_
  refine lv_topi (fun x_3 ex_3 => ?_)
  replace h := gb_lt_s ex_3 h
  obtain ⟨e1, e2⟩ := gb_eq2 h
  exact W.iret (v := x_3) hx hb hr (fun t ht hW => gb_ri ht ⟨e2, by rw [← e1]; exact hP⟩ hS) hS.2.2 dX0_pad_12
theorem dX0_toes_0 : decode cX0_toes 0 = .ok (.bipush 18, 2) := by decide +kernel
theorem dX0_toes_2 : decode cX0_toes 2 = .ok (.iload_n 1, 1) := by decide +kernel
theorem dX0_toes_3 : decode cX0_toes 3 = .ok (.iconst 5, 1) := by decide +kernel
theorem dX0_toes_4 : decode cX0_toes 4 = .ok (.imul, 1) := by decide +kernel
theorem dX0_toes_5 : decode cX0_toes 5 = .ok (.iadd, 1) := by decide +kernel
theorem dX0_toes_6 : decode cX0_toes 6 = .ok (.istore_n 2, 1) := by decide +kernel
theorem dX0_toes_7 : decode cX0_toes 7 = .ok (.aload_n 0, 1) := by decide +kernel
theorem dX0_toes_8 : decode cX0_toes 8 = .ok (.getfield 11, 3) := by decide +kernel
theorem dX0_toes_11 : decode cX0_toes 11 = .ok (.iload_n 2, 1) := by decide +kernel
theorem dX0_toes_12 : decode cX0_toes 12 = .ok (.iaload, 1) := by decide +kernel
theorem dX0_toes_13 : decode cX0_toes 13 = .ok (.aload_n 0, 1) := by decide +kernel
theorem dX0_toes_14 : decode cX0_toes 14 = .ok (.getfield 11, 3) := by decide +kernel
theorem dX0_toes_17 : decode cX0_toes 17 = .ok (.iload_n 2, 1) := by decide +kernel
theorem dX0_toes_18 : decode cX0_toes 18 = .ok (.iconst 1, 1) := by decide +kernel
theorem dX0_toes_19 : decode cX0_toes 19 = .ok (.iadd, 1) := by decide +kernel
theorem dX0_toes_20 : decode cX0_toes 20 = .ok (.iaload, 1) := by decide +kernel
theorem dX0_toes_21 : decode cX0_toes 21 = .ok (.iadd, 1) := by decide +kernel
theorem dX0_toes_22 : decode cX0_toes 22 = .ok (.ireturn, 1) := by decide +kernel
def cs_Border_toes_B (n : Nat) (σ : gb_S) (k0 : Nat) (p1 : Int32) : gb_CR Int32 := gb_kk (gb_kB k0) (gb_lt ((18 : Int32) + (p1 * 5)) (fun x_2 => gb_ck x_2 58 (gb_lt ((σ.1 (k0 + 1)) (Int32.toNatClampNeg x_2)) (fun x_4 => gb_ck (x_2 + 1) 58 (gb_lt ((σ.1 (k0 + 1)) (Int32.toNatClampNeg (x_2 + 1))) (fun x_6 => some (σ, (x_4 + x_6))))))))
set_option maxHeartbeats 8000000 in
set_option maxRecDepth 100000 in
theorem cc_Border_toes_B (l : Launch) (D : va_G) (cT : Nat → ClassId) (tt : Nat → Nat) (b1 b : Nat) (hb1 : b1 ≤ b) (n : Nat) (σ : gb_S) (k0 : Nat) (p1 : Int32) (σE : gb_S) (rE : Int32) (h : cs_Border_toes_B n σ k0 p1 = some (σE, rE)) : Met l yX0_toes (.code yX0_toes cX0_toes 3 (some FieldType.int) :: gb_wA) ({ frames := 0, cells := 0, slots := 0, locals := 0 }) (gb_Pc D cT tt b1 [.ref (b + k0), .int p1] (fun h => va_P D vwCl (gb_wl b (gb_CW cT b σ)) h)) (gb_Qi (fun r h => r = rE ∧ va_P D vwCl (gb_wl b (gb_CW cT b σE)) h) (gb_fr b 135)) 0 0 (gb_fr b 135) := by
  refine Met.ofW (cc := cX0_toes) (maxL := 3) (ret := (some FieldType.int)) (by decide) rfl ?_
  intro p e s m args below meth c s₁ B hml hv
  obtain ⟨rfl, hSt, hP⟩ := hv
  have hx := B.exec
  have hb := B.bytes
  have hr := B.returns
  have hts := atoms_spec (ws := .code yX0_toes cX0_toes 3 (some FieldType.int) :: gb_wA) B.pre
  have hq : ∀ w ∈ gb_wA, w.before _ s = true := fun w h => hts w (List.mem_cons_of_mem _ h)
  have hown : s.vm.findClass RX0 = some m.cls := findClass_of_methodNamed B.named
  have hlocks := B.notSynchronized
  clear B hts
  have hK := hSt.1
  have hS : va_S (gb_fr b 135) s.heap s.heap [] := va_S.rf
  have hl := lv_entry ([.ref (b + k0), .int p1]) (n := 3) (Nat.le_of_ble_eq_true rfl)
  rw [lg_entry_eq]
  generalize (lg_sl ([.ref (b + k0), .int p1]) ++ List.replicate (3 - (lg_sl ([.ref (b + k0), .int p1])).length) Slot.unset).toArray = ls at hl ⊢
  replace hl : lv_has ls 3 [(0, .ref (b + k0)), (1, .int p1)] := hl
  unfold cs_Border_toes_B at h
  obtain ⟨z_1, h⟩ := gb_kk_s h
  refine lv_bipush (v := 18) hx hb dX0_toes_0 (by decide) ?_
  refine lv_iload_n hx hb dX0_toes_2 rfl (lv_at hl 1 rfl) ?_
  refine lv_iconst (v := 5) hx hb dX0_toes_3 (by decide) ?_
  refine lv_imul hx hb dX0_toes_4 ?_
  refine lv_iadd hx hb dX0_toes_5 ?_
  refine lv_topi (fun x_2 ex_2 => ?_)
  replace h := gb_lt_s ex_2 h
  refine lv_istore_n (lv' := [(2, .int x_2), (0, .ref (b + k0)), (1, .int p1)]) hx hb dX0_toes_6 rfl hl (by decide) rfl (fun ls hl => ?_)
  refine lv_aload_n hx hb dX0_toes_7 rfl (lv_at hl 1 rfl) ?_
  refine va_get (ci := 0) (v := (.ref (b + (k0 + 1)))) (C := RX0) (T := TX0) (N := 1) hx hb hq i_X0 hown hK hP k0 (gb_at b (gb_cB z_1).1) rfl 0 (by decide) (hq _ w_49) (fun x9 h9 => u_same (hq _ w_50) x9 h9) rfl dX0_toes_8 ?_
  refine lv_iload_n hx hb dX0_toes_11 rfl (lv_at hl 0 rfl) ?_
  obtain ⟨z_3, h⟩ := gb_ck_s h
  refine va_iald hx hb hK hP (k0 + 1) 0 (gb_at b (gb_cB z_1).2) rfl z_3 dX0_toes_12 ?_
  refine lv_topi (fun x_4 ex_4 => ?_)
  replace h := gb_lt_s ex_4 h
  refine lv_aload_n hx hb dX0_toes_13 rfl (lv_at hl 1 rfl) ?_
  refine va_get (ci := 0) (v := (.ref (b + (k0 + 1)))) (C := RX0) (T := TX0) (N := 1) hx hb hq i_X0 hown hK hP k0 (gb_at b (gb_cB z_1).1) rfl 0 (by decide) (hq _ w_49) (fun x9 h9 => u_same (hq _ w_50) x9 h9) rfl dX0_toes_14 ?_
  refine lv_iload_n hx hb dX0_toes_17 rfl (lv_at hl 0 rfl) ?_
  refine lv_iconst (v := 1) hx hb dX0_toes_18 (by decide) ?_
  refine lv_iadd hx hb dX0_toes_19 ?_
  obtain ⟨z_5, h⟩ := gb_ck_s h
  refine va_iald hx hb hK hP (k0 + 1) 0 (gb_at b (gb_cB z_1).2) rfl z_5 dX0_toes_20 ?_
  refine lv_topi (fun x_6 ex_6 => ?_)
  replace h := gb_lt_s ex_6 h
  refine lv_iadd hx hb dX0_toes_21 ?_
  obtain ⟨e1, e2⟩ := gb_eq2 h
  exact W.iret (v := (x_4 + x_6)) hx hb hr (fun t ht hW => gb_ri ht ⟨e2, by rw [← e1]; exact hP⟩ hS) hS.2.2 dX0_toes_22
theorem dX0_boots_0 : decode cX0_boots 0 = .ok (.aload_n 0, 1) := by decide +kernel
theorem dX0_boots_1 : decode cX0_boots 1 = .ok (.getfield 11, 3) := by decide +kernel
theorem dX0_boots_4 : decode cX0_boots 4 = .ok (.bipush 18, 2) := by decide +kernel
theorem dX0_boots_6 : decode cX0_boots 6 = .ok (.iload_n 1, 1) := by decide +kernel
theorem dX0_boots_7 : decode cX0_boots 7 = .ok (.iconst 5, 1) := by decide +kernel
theorem dX0_boots_8 : decode cX0_boots 8 = .ok (.imul, 1) := by decide +kernel
theorem dX0_boots_9 : decode cX0_boots 9 = .ok (.iadd, 1) := by decide +kernel
theorem dX0_boots_10 : decode cX0_boots 10 = .ok (.iconst 2, 1) := by decide +kernel
theorem dX0_boots_11 : decode cX0_boots 11 = .ok (.iadd, 1) := by decide +kernel
theorem dX0_boots_12 : decode cX0_boots 12 = .ok (.iaload, 1) := by decide +kernel
theorem dX0_boots_13 : decode cX0_boots 13 = .ok (.ireturn, 1) := by decide +kernel
def cs_Border_boots_B (n : Nat) (σ : gb_S) (k0 : Nat) (p1 : Int32) : gb_CR Int32 := gb_kk (gb_kB k0) (gb_ck (((18 : Int32) + (p1 * 5)) + 2) 58 (gb_lt ((σ.1 (k0 + 1)) (Int32.toNatClampNeg (((18 : Int32) + (p1 * 5)) + 2))) (fun x_3 => some (σ, x_3))))
set_option maxHeartbeats 8000000 in
set_option maxRecDepth 100000 in
theorem cc_Border_boots_B (l : Launch) (D : va_G) (cT : Nat → ClassId) (tt : Nat → Nat) (b1 b : Nat) (hb1 : b1 ≤ b) (n : Nat) (σ : gb_S) (k0 : Nat) (p1 : Int32) (σE : gb_S) (rE : Int32) (h : cs_Border_boots_B n σ k0 p1 = some (σE, rE)) : Met l yX0_boots (.code yX0_boots cX0_boots 2 (some FieldType.int) :: gb_wA) ({ frames := 0, cells := 0, slots := 0, locals := 0 }) (gb_Pc D cT tt b1 [.ref (b + k0), .int p1] (fun h => va_P D vwCl (gb_wl b (gb_CW cT b σ)) h)) (gb_Qi (fun r h => r = rE ∧ va_P D vwCl (gb_wl b (gb_CW cT b σE)) h) (gb_fr b 135)) 0 0 (gb_fr b 135) := by
  refine Met.ofW (cc := cX0_boots) (maxL := 2) (ret := (some FieldType.int)) (by decide) rfl ?_
  intro p e s m args below meth c s₁ B hml hv
  obtain ⟨rfl, hSt, hP⟩ := hv
  have hx := B.exec
  have hb := B.bytes
  have hr := B.returns
  have hts := atoms_spec (ws := .code yX0_boots cX0_boots 2 (some FieldType.int) :: gb_wA) B.pre
  have hq : ∀ w ∈ gb_wA, w.before _ s = true := fun w h => hts w (List.mem_cons_of_mem _ h)
  have hown : s.vm.findClass RX0 = some m.cls := findClass_of_methodNamed B.named
  have hlocks := B.notSynchronized
  clear B hts
  have hK := hSt.1
  have hS : va_S (gb_fr b 135) s.heap s.heap [] := va_S.rf
  have hl := lv_entry ([.ref (b + k0), .int p1]) (n := 2) (Nat.le_of_ble_eq_true rfl)
  rw [lg_entry_eq]
  generalize (lg_sl ([.ref (b + k0), .int p1]) ++ List.replicate (2 - (lg_sl ([.ref (b + k0), .int p1])).length) Slot.unset).toArray = ls at hl ⊢
  replace hl : lv_has ls 2 [(0, .ref (b + k0)), (1, .int p1)] := hl
  unfold cs_Border_boots_B at h
  obtain ⟨z_1, h⟩ := gb_kk_s h
  refine lv_aload_n hx hb dX0_boots_0 rfl (lv_at hl 0 rfl) ?_
  refine va_get (ci := 0) (v := (.ref (b + (k0 + 1)))) (C := RX0) (T := TX0) (N := 1) hx hb hq i_X0 hown hK hP k0 (gb_at b (gb_cB z_1).1) rfl 0 (by decide) (hq _ w_49) (fun x9 h9 => u_same (hq _ w_50) x9 h9) rfl dX0_boots_1 ?_
  refine lv_bipush (v := 18) hx hb dX0_boots_4 (by decide) ?_
  refine lv_iload_n hx hb dX0_boots_6 rfl (lv_at hl 1 rfl) ?_
  refine lv_iconst (v := 5) hx hb dX0_boots_7 (by decide) ?_
  refine lv_imul hx hb dX0_boots_8 ?_
  refine lv_iadd hx hb dX0_boots_9 ?_
  refine lv_iconst (v := 2) hx hb dX0_boots_10 (by decide) ?_
  refine lv_iadd hx hb dX0_boots_11 ?_
  obtain ⟨z_2, h⟩ := gb_ck_s h
  refine va_iald hx hb hK hP (k0 + 1) 0 (gb_at b (gb_cB z_1).2) rfl z_2 dX0_boots_12 ?_
  refine lv_topi (fun x_3 ex_3 => ?_)
  replace h := gb_lt_s ex_3 h
  obtain ⟨e1, e2⟩ := gb_eq2 h
  exact W.iret (v := x_3) hx hb hr (fun t ht hW => gb_ri ht ⟨e2, by rw [← e1]; exact hP⟩ hS) hS.2.2 dX0_boots_13
theorem dX0_limps_0 : decode cX0_limps 0 = .ok (.aload_n 0, 1) := by decide +kernel
theorem dX0_limps_1 : decode cX0_limps 1 = .ok (.getfield 11, 3) := by decide +kernel
theorem dX0_limps_4 : decode cX0_limps 4 = .ok (.bipush 18, 2) := by decide +kernel
theorem dX0_limps_6 : decode cX0_limps 6 = .ok (.iload_n 1, 1) := by decide +kernel
theorem dX0_limps_7 : decode cX0_limps 7 = .ok (.iconst 5, 1) := by decide +kernel
theorem dX0_limps_8 : decode cX0_limps 8 = .ok (.imul, 1) := by decide +kernel
theorem dX0_limps_9 : decode cX0_limps 9 = .ok (.iadd, 1) := by decide +kernel
theorem dX0_limps_10 : decode cX0_limps 10 = .ok (.iconst 3, 1) := by decide +kernel
theorem dX0_limps_11 : decode cX0_limps 11 = .ok (.iadd, 1) := by decide +kernel
theorem dX0_limps_12 : decode cX0_limps 12 = .ok (.iaload, 1) := by decide +kernel
theorem dX0_limps_13 : decode cX0_limps 13 = .ok (.iconst 1, 1) := by decide +kernel
theorem dX0_limps_14 : decode cX0_limps 14 = .ok (.if_icmp .ne 7, 3) := by decide +kernel
theorem dX0_limps_21 : decode cX0_limps 21 = .ok (.iconst 0, 1) := by decide +kernel
theorem dX0_limps_22 : decode cX0_limps 22 = .ok (.ireturn, 1) := by decide +kernel
theorem dX0_limps_17 : decode cX0_limps 17 = .ok (.iconst 1, 1) := by decide +kernel
theorem dX0_limps_18 : decode cX0_limps 18 = .ok (.goto 4, 3) := by decide +kernel
def cs_Border_limps_B (n : Nat) (σ : gb_S) (k0 : Nat) (p1 : Int32) : gb_CR Int32 := gb_kk (gb_kB k0) (gb_ck (((18 : Int32) + (p1 * 5)) + 3) 58 (gb_lt ((σ.1 (k0 + 1)) (Int32.toNatClampNeg (((18 : Int32) + (p1 * 5)) + 3))) (fun x_3 => (if x_3 = 1 then some (σ, 1) else some (σ, 0)))))
set_option maxHeartbeats 8000000 in
set_option maxRecDepth 100000 in
theorem cc_Border_limps_B (l : Launch) (D : va_G) (cT : Nat → ClassId) (tt : Nat → Nat) (b1 b : Nat) (hb1 : b1 ≤ b) (n : Nat) (σ : gb_S) (k0 : Nat) (p1 : Int32) (σE : gb_S) (rE : Int32) (h : cs_Border_limps_B n σ k0 p1 = some (σE, rE)) : Met l yX0_limps (.code yX0_limps cX0_limps 2 (some FieldType.boolean) :: gb_wA) ({ frames := 0, cells := 0, slots := 0, locals := 0 }) (gb_Pc D cT tt b1 [.ref (b + k0), .int p1] (fun h => va_P D vwCl (gb_wl b (gb_CW cT b σ)) h)) (gb_Qi (fun r h => r = rE ∧ va_P D vwCl (gb_wl b (gb_CW cT b σE)) h) (gb_fr b 135)) 0 0 (gb_fr b 135) := by
  refine Met.ofW (cc := cX0_limps) (maxL := 2) (ret := (some FieldType.boolean)) (by decide) rfl ?_
  intro p e s m args below meth c s₁ B hml hv
  obtain ⟨rfl, hSt, hP⟩ := hv
  have hx := B.exec
  have hb := B.bytes
  have hr := B.returns
  have hts := atoms_spec (ws := .code yX0_limps cX0_limps 2 (some FieldType.boolean) :: gb_wA) B.pre
  have hq : ∀ w ∈ gb_wA, w.before _ s = true := fun w h => hts w (List.mem_cons_of_mem _ h)
  have hown : s.vm.findClass RX0 = some m.cls := findClass_of_methodNamed B.named
  have hlocks := B.notSynchronized
  clear B hts
  have hK := hSt.1
  have hS : va_S (gb_fr b 135) s.heap s.heap [] := va_S.rf
  have hl := lv_entry ([.ref (b + k0), .int p1]) (n := 2) (Nat.le_of_ble_eq_true rfl)
  rw [lg_entry_eq]
  generalize (lg_sl ([.ref (b + k0), .int p1]) ++ List.replicate (2 - (lg_sl ([.ref (b + k0), .int p1])).length) Slot.unset).toArray = ls at hl ⊢
  replace hl : lv_has ls 2 [(0, .ref (b + k0)), (1, .int p1)] := hl
  unfold cs_Border_limps_B at h
  obtain ⟨z_1, h⟩ := gb_kk_s h
  refine lv_aload_n hx hb dX0_limps_0 rfl (lv_at hl 0 rfl) ?_
  refine va_get (ci := 0) (v := (.ref (b + (k0 + 1)))) (C := RX0) (T := TX0) (N := 1) hx hb hq i_X0 hown hK hP k0 (gb_at b (gb_cB z_1).1) rfl 0 (by decide) (hq _ w_49) (fun x9 h9 => u_same (hq _ w_50) x9 h9) rfl dX0_limps_1 ?_
  refine lv_bipush (v := 18) hx hb dX0_limps_4 (by decide) ?_
  refine lv_iload_n hx hb dX0_limps_6 rfl (lv_at hl 1 rfl) ?_
  refine lv_iconst (v := 5) hx hb dX0_limps_7 (by decide) ?_
  refine lv_imul hx hb dX0_limps_8 ?_
  refine lv_iadd hx hb dX0_limps_9 ?_
  refine lv_iconst (v := 3) hx hb dX0_limps_10 (by decide) ?_
  refine lv_iadd hx hb dX0_limps_11 ?_
  obtain ⟨z_2, h⟩ := gb_ck_s h
  refine va_iald hx hb hK hP (k0 + 1) 0 (gb_at b (gb_cB z_1).2) rfl z_2 dX0_limps_12 ?_
  refine lv_topi (fun x_3 ex_3 => ?_)
  replace h := gb_lt_s ex_3 h
  refine lv_iconst (v := 1) hx hb dX0_limps_13 (by decide) ?_
  refine lv_icmp_ne (tgt := 21) hx hb dX0_limps_14 (by decide) (fun c_4 => ?_) (fun c_4 => ?_)
  · rw [if_neg c_4] at h
    refine lv_iconst (v := 0) hx hb dX0_limps_21 (by decide) ?_
    obtain ⟨e1, e2⟩ := gb_eq2 h
    exact W.zret (v := 0) hx hb hr (by decide) (fun t ht hW => gb_ri ht ⟨e2, by rw [← e1]; exact hP⟩ hS) hS.2.2 dX0_limps_22
  · rw [if_pos c_4] at h
    refine lv_iconst (v := 1) hx hb dX0_limps_17 (by decide) ?_
    refine lv_goto (tgt := 22) hx hb dX0_limps_18 (by decide) ?_
    obtain ⟨e1, e2⟩ := gb_eq2 h
    exact W.zret (v := 1) hx hb hr (by decide) (fun t ht hW => gb_ri ht ⟨e2, by rw [← e1]; exact hP⟩ hS) hS.2.2 dX0_limps_22
theorem dX0_worth_0 : decode cX0_worth 0 = .ok (.aload_n 0, 1) := by decide +kernel
theorem dX0_worth_1 : decode cX0_worth 1 = .ok (.getfield 11, 3) := by decide +kernel
theorem dX0_worth_4 : decode cX0_worth 4 = .ok (.bipush 18, 2) := by decide +kernel
theorem dX0_worth_6 : decode cX0_worth 6 = .ok (.iload_n 1, 1) := by decide +kernel
theorem dX0_worth_7 : decode cX0_worth 7 = .ok (.iconst 5, 1) := by decide +kernel
theorem dX0_worth_8 : decode cX0_worth 8 = .ok (.imul, 1) := by decide +kernel
theorem dX0_worth_9 : decode cX0_worth 9 = .ok (.iadd, 1) := by decide +kernel
theorem dX0_worth_10 : decode cX0_worth 10 = .ok (.iconst 4, 1) := by decide +kernel
theorem dX0_worth_11 : decode cX0_worth 11 = .ok (.iadd, 1) := by decide +kernel
theorem dX0_worth_12 : decode cX0_worth 12 = .ok (.iaload, 1) := by decide +kernel
theorem dX0_worth_13 : decode cX0_worth 13 = .ok (.ireturn, 1) := by decide +kernel
def cs_Border_worth_B (n : Nat) (σ : gb_S) (k0 : Nat) (p1 : Int32) : gb_CR Int32 := gb_kk (gb_kB k0) (gb_ck (((18 : Int32) + (p1 * 5)) + 4) 58 (gb_lt ((σ.1 (k0 + 1)) (Int32.toNatClampNeg (((18 : Int32) + (p1 * 5)) + 4))) (fun x_3 => some (σ, x_3))))
set_option maxHeartbeats 8000000 in
set_option maxRecDepth 100000 in
theorem cc_Border_worth_B (l : Launch) (D : va_G) (cT : Nat → ClassId) (tt : Nat → Nat) (b1 b : Nat) (hb1 : b1 ≤ b) (n : Nat) (σ : gb_S) (k0 : Nat) (p1 : Int32) (σE : gb_S) (rE : Int32) (h : cs_Border_worth_B n σ k0 p1 = some (σE, rE)) : Met l yX0_worth (.code yX0_worth cX0_worth 2 (some FieldType.int) :: gb_wA) ({ frames := 0, cells := 0, slots := 0, locals := 0 }) (gb_Pc D cT tt b1 [.ref (b + k0), .int p1] (fun h => va_P D vwCl (gb_wl b (gb_CW cT b σ)) h)) (gb_Qi (fun r h => r = rE ∧ va_P D vwCl (gb_wl b (gb_CW cT b σE)) h) (gb_fr b 135)) 0 0 (gb_fr b 135) := by
  refine Met.ofW (cc := cX0_worth) (maxL := 2) (ret := (some FieldType.int)) (by decide) rfl ?_
  intro p e s m args below meth c s₁ B hml hv
  obtain ⟨rfl, hSt, hP⟩ := hv
  have hx := B.exec
  have hb := B.bytes
  have hr := B.returns
  have hts := atoms_spec (ws := .code yX0_worth cX0_worth 2 (some FieldType.int) :: gb_wA) B.pre
  have hq : ∀ w ∈ gb_wA, w.before _ s = true := fun w h => hts w (List.mem_cons_of_mem _ h)
  have hown : s.vm.findClass RX0 = some m.cls := findClass_of_methodNamed B.named
  have hlocks := B.notSynchronized
  clear B hts
  have hK := hSt.1
  have hS : va_S (gb_fr b 135) s.heap s.heap [] := va_S.rf
  have hl := lv_entry ([.ref (b + k0), .int p1]) (n := 2) (Nat.le_of_ble_eq_true rfl)
  rw [lg_entry_eq]
  generalize (lg_sl ([.ref (b + k0), .int p1]) ++ List.replicate (2 - (lg_sl ([.ref (b + k0), .int p1])).length) Slot.unset).toArray = ls at hl ⊢
  replace hl : lv_has ls 2 [(0, .ref (b + k0)), (1, .int p1)] := hl
  unfold cs_Border_worth_B at h
  obtain ⟨z_1, h⟩ := gb_kk_s h
  refine lv_aload_n hx hb dX0_worth_0 rfl (lv_at hl 0 rfl) ?_
  refine va_get (ci := 0) (v := (.ref (b + (k0 + 1)))) (C := RX0) (T := TX0) (N := 1) hx hb hq i_X0 hown hK hP k0 (gb_at b (gb_cB z_1).1) rfl 0 (by decide) (hq _ w_49) (fun x9 h9 => u_same (hq _ w_50) x9 h9) rfl dX0_worth_1 ?_
  refine lv_bipush (v := 18) hx hb dX0_worth_4 (by decide) ?_
  refine lv_iload_n hx hb dX0_worth_6 rfl (lv_at hl 1 rfl) ?_
  refine lv_iconst (v := 5) hx hb dX0_worth_7 (by decide) ?_
  refine lv_imul hx hb dX0_worth_8 ?_
  refine lv_iadd hx hb dX0_worth_9 ?_
  refine lv_iconst (v := 4) hx hb dX0_worth_10 (by decide) ?_
  refine lv_iadd hx hb dX0_worth_11 ?_
  obtain ⟨z_2, h⟩ := gb_ck_s h
  refine va_iald hx hb hK hP (k0 + 1) 0 (gb_at b (gb_cB z_1).2) rfl z_2 dX0_worth_12 ?_
  refine lv_topi (fun x_3 ex_3 => ?_)
  replace h := gb_lt_s ex_3 h
  obtain ⟨e1, e2⟩ := gb_eq2 h
  exact W.iret (v := x_3) hx hb hr (fun t ht hW => gb_ri ht ⟨e2, by rw [← e1]; exact hP⟩ hS) hS.2.2 dX0_worth_13
theorem dX0_worthOf_0 : decode cX0_worthOf 0 = .ok (.iconst 0, 1) := by decide +kernel
theorem dX0_worthOf_1 : decode cX0_worthOf 1 = .ok (.istore_n 2, 1) := by decide +kernel
theorem dX0_worthOf_2 : decode cX0_worthOf 2 = .ok (.iconst 0, 1) := by decide +kernel
theorem dX0_worthOf_3 : decode cX0_worthOf 3 = .ok (.istore_n 3, 1) := by decide +kernel
theorem dX0_worthOf_4 : decode cX0_worthOf 4 = .ok (.iload_n 3, 1) := by decide +kernel
theorem dX0_worthOf_5 : decode cX0_worthOf 5 = .ok (.aload_n 0, 1) := by decide +kernel
theorem dX0_worthOf_6 : decode cX0_worthOf 6 = .ok (.invokevirtual 19, 3) := by decide +kernel
theorem dX0_worthOf_9 : decode cX0_worthOf 9 = .ok (.if_icmp .ge 26, 3) := by decide +kernel
theorem dX0_worthOf_35 : decode cX0_worthOf 35 = .ok (.iload_n 2, 1) := by decide +kernel
theorem dX0_worthOf_36 : decode cX0_worthOf 36 = .ok (.ireturn, 1) := by decide +kernel
theorem dX0_worthOf_12 : decode cX0_worthOf 12 = .ok (.iload_n 1, 1) := by decide +kernel
theorem dX0_worthOf_13 : decode cX0_worthOf 13 = .ok (.iload_n 3, 1) := by decide +kernel
theorem dX0_worthOf_14 : decode cX0_worthOf 14 = .ok (.ishr, 1) := by decide +kernel
theorem dX0_worthOf_15 : decode cX0_worthOf 15 = .ok (.iconst 1, 1) := by decide +kernel
theorem dX0_worthOf_16 : decode cX0_worthOf 16 = .ok (.iand, 1) := by decide +kernel
theorem dX0_worthOf_17 : decode cX0_worthOf 17 = .ok (.iconst 1, 1) := by decide +kernel
theorem dX0_worthOf_18 : decode cX0_worthOf 18 = .ok (.if_icmp .ne 11, 3) := by decide +kernel
theorem dX0_worthOf_29 : decode cX0_worthOf 29 = .ok (.iinc 3 1, 3) := by decide +kernel
theorem dX0_worthOf_32 : decode cX0_worthOf 32 = .ok (.goto (-28), 3) := by decide +kernel
theorem dX0_worthOf_21 : decode cX0_worthOf 21 = .ok (.iload_n 2, 1) := by decide +kernel
theorem dX0_worthOf_22 : decode cX0_worthOf 22 = .ok (.aload_n 0, 1) := by decide +kernel
theorem dX0_worthOf_23 : decode cX0_worthOf 23 = .ok (.iload_n 3, 1) := by decide +kernel
theorem dX0_worthOf_24 : decode cX0_worthOf 24 = .ok (.invokevirtual 38, 3) := by decide +kernel
theorem w_807 : (Cond.code ({ cls := "GooseBorder$Border", name := "worth", desc := "(I)I" } : MethodName) prog_2_method_18_code (2 : Nat) (Option.some FieldType.int)) ∈ gb_wA := gb_t4 87 rfl rfl
theorem w_804 : (Cond.methodLink "GooseBorder$Border" (38 : Nat) ({ cls := "GooseBorder$Border", name := "worth", desc := "(I)I" } : MethodName)) ∈ gb_wA := gb_t4 84 rfl rfl
theorem w_805 : (Cond.instanceMethod ({ cls := "GooseBorder$Border", name := "worth", desc := "(I)I" } : MethodName)) ∈ gb_wA := gb_t4 85 rfl rfl
theorem w_806 : (Cond.selects "GooseBorder$Border" ({ cls := "GooseBorder$Border", name := "worth", desc := "(I)I" } : MethodName) ({ cls := "GooseBorder$Border", name := "worth", desc := "(I)I" } : MethodName)) ∈ gb_wA := gb_t4 86 rfl rfl
theorem dX0_worthOf_27 : decode cX0_worthOf 27 = .ok (.iadd, 1) := by decide +kernel
theorem dX0_worthOf_28 : decode cX0_worthOf 28 = .ok (.istore_n 2, 1) := by decide +kernel
def cs_Border_worthOf_B_4 (n : Nat) : Nat → gb_S → Nat → Int32 → Int32 → Int32 → gb_CR Int32
  | 0, _, _, _, _, _ => none
  | mm + 1, σ, v0, v1, v2, v3 => gb_kk (gb_kB v0) (gb_cd (cs_Border_geese_B n σ v0) (fun s_3 r_4 => (if r_4 ≤ v3 then some (s_3, v2) else (if ((v1 >>> (v3 &&& 31)) &&& 1) = 1 then gb_cd (cs_Border_worth_B n s_3 v0 v3) (fun s_10 r_11 => gb_lt (v2 + r_11) (fun x_14 => gb_lt (v3 + 1) (fun x_15 => cs_Border_worthOf_B_4 n mm s_10 v0 v1 x_14 x_15))) else gb_lt (v3 + 1) (fun x_9 => cs_Border_worthOf_B_4 n mm s_3 v0 v1 v2 x_9)))))
def cs_Border_worthOf_B (n : Nat) (σ : gb_S) (k0 : Nat) (p1 : Int32) : gb_CR Int32 := gb_kk (gb_kB k0) (cs_Border_worthOf_B_4 n n σ k0 p1 0 0)
set_option maxHeartbeats 8000000 in
set_option maxRecDepth 100000 in
theorem cc_Border_worthOf_B (l : Launch) (D : va_G) (cT : Nat → ClassId) (tt : Nat → Nat) (b1 b : Nat) (hb1 : b1 ≤ b) (n : Nat) (σ : gb_S) (k0 : Nat) (p1 : Int32) (σE : gb_S) (rE : Int32) (h : cs_Border_worthOf_B n σ k0 p1 = some (σE, rE)) : Met l yX0_worthOf (.code yX0_worthOf cX0_worthOf 4 (some FieldType.int) :: gb_wA) ({ frames := 1, cells := 0, slots := 0, locals := 21 }) (gb_Pc D cT tt b1 [.ref (b + k0), .int p1] (fun h => va_P D vwCl (gb_wl b (gb_CW cT b σ)) h)) (gb_Qi (fun r h => r = rE ∧ va_P D vwCl (gb_wl b (gb_CW cT b σE)) h) (gb_fr b 135)) 0 0 (gb_fr b 135) := by
  refine Met.ofW (cc := cX0_worthOf) (maxL := 4) (ret := (some FieldType.int)) (by decide) rfl ?_
  intro p e s m args below meth c s₁ B hml hv
  obtain ⟨rfl, hSt, hP⟩ := hv
  have hx := B.exec
  have hb := B.bytes
  have hr := B.returns
  have hts := atoms_spec (ws := .code yX0_worthOf cX0_worthOf 4 (some FieldType.int) :: gb_wA) B.pre
  have hq : ∀ w ∈ gb_wA, w.before _ s = true := fun w h => hts w (List.mem_cons_of_mem _ h)
  have hown : s.vm.findClass RX0 = some m.cls := findClass_of_methodNamed B.named
  have hlocks := B.notSynchronized
  clear B hts
  have hK := hSt.1
  have hS : va_S (gb_fr b 135) s.heap s.heap [] := va_S.rf
  have hl := lv_entry ([.ref (b + k0), .int p1]) (n := 4) (Nat.le_of_ble_eq_true rfl)
  rw [lg_entry_eq]
  generalize (lg_sl ([.ref (b + k0), .int p1]) ++ List.replicate (4 - (lg_sl ([.ref (b + k0), .int p1])).length) Slot.unset).toArray = ls at hl ⊢
  replace hl : lv_has ls 4 [(0, .ref (b + k0)), (1, .int p1)] := hl
  have L4_1 : ∀ (mm : Nat) (σ : gb_S) (v0 : Nat) (v1 : Int32) (v2 : Int32) (v3 : Int32) (H : Heap) (locs : List Loc) (ls : Array Slot), cs_Border_worthOf_B_4 n mm σ v0 v1 v2 v3 = some (σE, rE) → va_P D vwCl (gb_wl b (gb_CW cT b σ)) H → va_S (gb_fr b 135) s.heap H locs → lv_has ls 4 [(0, .ref (b + v0)), (1, .int v1), (2, .int v2), (3, .int v3)] → W p l e (headSpec (.code yX0_worthOf cX0_worthOf 4 (some FieldType.int) :: gb_wA) ({ frames := 1, cells := 0, slots := 0, locals := 21 })).room s m ([.ref (b + k0), .int p1]).toArray below meth c H locs 0 0 (MQ below (gb_Qi (fun r h => r = rE ∧ va_P D vwCl (gb_wl b (gb_CW cT b σE)) h) (gb_fr b 135)) ([.ref (b + k0), .int p1]).toArray s 0 0 (gb_fr b 135)) (F0 m 4 ls []) := by
    clear h hP hS hl ls
    intro mm
    induction mm with
    | zero =>
      intro σ v0 v1 v2 v3 H locs ls h
      cases h
    | succ mm ih =>
      intro σ v0 v1 v2 v3 H locs ls h hP hS hl
      rw [cs_Border_worthOf_B_4] at h
      obtain ⟨z_2, h⟩ := gb_kk_s h
      refine lv_iload_n hx hb dX0_worthOf_4 rfl (lv_at hl 3 rfl) ?_
      refine lv_aload_n hx hb dX0_worthOf_5 rfl (lv_at hl 0 rfl) ?_
      obtain ⟨s_3, r_4, z_5, h⟩ := gb_cd_s h
      refine gb_calli (va_runV (C := RX0) (As := []) (rest := [.int v3]) ⟨hx, hb, hml, hown, hq⟩ (cc_Border_geese_B l D cT tt b1 b hb1 n σ v0 s_3 r_4 z_5) (cwV 0 hq (gb_gV w_476 w_477 w_478 w_4 w_479) rfl rfl rfl (by decide +kernel) ⟨Nat.le_of_ble_eq_true rfl, Nat.le_of_ble_eq_true rfl⟩) (gb_preV (r := (RX0, TX0, 1)) (ci := 0) (q0 := v0) hSt hP rfl (gb_at b (gb_cB z_2).1) hS (fun q h => Nat.le_trans hb1 h.1) hP) rfl rfl hl.1 rfl (lv_room (Nat.le_of_ble_eq_true rfl)) dX0_worthOf_6 ⟨Nat.le_of_ble_eq_true rfl, Nat.le_of_ble_eq_true rfl⟩) hS (fun _ h => h) (fun _ h => h) (fun q_6 H locs hY hk hS => ?_)
      obtain ⟨hq_6, hP⟩ := hY
      replace hq_6 := hq_6.symm
      subst hq_6
      refine lv_icmp_ge (tgt := 35) hx hb dX0_worthOf_9 (by decide) (fun c_7 => ?_) (fun c_7 => ?_)
      · rw [if_pos c_7] at h
        refine lv_iload_n hx hb dX0_worthOf_35 rfl (lv_at hl 2 rfl) ?_
        obtain ⟨e1, e2⟩ := gb_eq2 h
        exact W.iret (v := v2) hx hb hr (fun t ht hW => gb_ri ht ⟨e2, by rw [← e1]; exact hP⟩ hS) hS.2.2 dX0_worthOf_36
      · rw [if_neg c_7] at h
        refine lv_iload_n hx hb dX0_worthOf_12 rfl (lv_at hl 1 rfl) ?_
        refine lv_iload_n hx hb dX0_worthOf_13 rfl (lv_at hl 3 rfl) ?_
        refine lv_ishr hx hb dX0_worthOf_14 ?_
        refine lv_iconst (v := 1) hx hb dX0_worthOf_15 (by decide) ?_
        refine lv_iand hx hb dX0_worthOf_16 ?_
        refine lv_iconst (v := 1) hx hb dX0_worthOf_17 (by decide) ?_
        refine lv_icmp_ne (tgt := 29) hx hb dX0_worthOf_18 (by decide) (fun c_8 => ?_) (fun c_8 => ?_)
        · rw [if_neg c_8] at h
          obtain ⟨x_9, ex_9⟩ : ∃ q, q = (v3 + 1) := ⟨_, rfl⟩
          replace h := gb_lt_s ex_9 h
          refine lv_iinc (v := x_9) (lv' := [(3, .int x_9), (0, .ref (b + v0)), (1, .int v1), (2, .int v2)]) hx hb dX0_worthOf_29 hl (k := 3) rfl (by rw [ex_9]; rfl) (by decide) rfl (fun ls hl => ?_)
          refine lv_goto (tgt := 4) hx hb dX0_worthOf_32 (by decide) ?_
          exact ih _ _ _ _ _ _ _ _ h hP hS (lv_sub hl [1, 2, 3, 0] rfl)
        · rw [if_pos c_8] at h
          refine lv_iload_n hx hb dX0_worthOf_21 rfl (lv_at hl 2 rfl) ?_
          refine lv_aload_n hx hb dX0_worthOf_22 rfl (lv_at hl 0 rfl) ?_
          refine lv_iload_n hx hb dX0_worthOf_23 rfl (lv_at hl 3 rfl) ?_
          obtain ⟨s_10, r_11, z_12, h⟩ := gb_cd_s h
          refine gb_calli (va_runV (C := RX0) (As := [.int v3]) (rest := [.int v2]) ⟨hx, hb, hml, hown, hq⟩ (cc_Border_worth_B l D cT tt b1 b hb1 n s_3 v0 v3 s_10 r_11 z_12) (cwV 1 hq (gb_gV w_804 w_805 w_806 w_4 w_807) rfl rfl rfl (by decide +kernel) ⟨Nat.le_of_ble_eq_true rfl, Nat.le_of_ble_eq_true rfl⟩) (gb_preV (r := (RX0, TX0, 1)) (ci := 0) (q0 := v0) hSt hP rfl (gb_at b (gb_cB z_2).1) hS (fun q h => Nat.le_trans hb1 h.1) hP) rfl rfl hl.1 rfl (lv_room (Nat.le_of_ble_eq_true rfl)) dX0_worthOf_24 ⟨Nat.le_of_ble_eq_true rfl, Nat.le_of_ble_eq_true rfl⟩) hS (fun _ h => h) (fun _ h => h) (fun q_13 H locs hY hk hS => ?_)
          obtain ⟨hq_13, hP⟩ := hY
          replace hq_13 := hq_13.symm
          subst hq_13
          refine lv_iadd hx hb dX0_worthOf_27 ?_
          refine lv_topi (fun x_14 ex_14 => ?_)
          replace h := gb_lt_s ex_14 h
          refine lv_istore_n (lv' := [(2, .int x_14), (0, .ref (b + v0)), (1, .int v1), (3, .int v3)]) hx hb dX0_worthOf_28 rfl hl (by decide) rfl (fun ls hl => ?_)
          obtain ⟨x_15, ex_15⟩ : ∃ q, q = (v3 + 1) := ⟨_, rfl⟩
          replace h := gb_lt_s ex_15 h
          refine lv_iinc (v := x_15) (lv' := [(3, .int x_15), (2, .int x_14), (0, .ref (b + v0)), (1, .int v1)]) hx hb dX0_worthOf_29 hl (k := 3) rfl (by rw [ex_15]; rfl) (by decide) rfl (fun ls hl => ?_)
          refine lv_goto (tgt := 4) hx hb dX0_worthOf_32 (by decide) ?_
          exact ih _ _ _ _ _ _ _ _ h hP hS (lv_sub hl [2, 3, 1, 0] rfl)
  unfold cs_Border_worthOf_B at h
  obtain ⟨z_1, h⟩ := gb_kk_s h
  refine lv_iconst (v := 0) hx hb dX0_worthOf_0 (by decide) ?_
  refine lv_istore_n (lv' := [(2, .int 0), (0, .ref (b + k0)), (1, .int p1)]) hx hb dX0_worthOf_1 rfl hl (by decide) rfl (fun ls hl => ?_)
  refine lv_iconst (v := 0) hx hb dX0_worthOf_2 (by decide) ?_
  refine lv_istore_n (lv' := [(3, .int 0), (2, .int 0), (0, .ref (b + k0)), (1, .int p1)]) hx hb dX0_worthOf_3 rfl hl (by decide) rfl (fun ls hl => ?_)
  exact L4_1 n _ _ _ _ _ _ _ _ h hP hS (lv_sub hl [2, 3, 1, 0] rfl)
theorem dX0_marksFirst_0 : decode cX0_marksFirst 0 = .ok (.aload_n 0, 1) := by decide +kernel
theorem dX0_marksFirst_1 : decode cX0_marksFirst 1 = .ok (.iload_n 1, 1) := by decide +kernel
theorem dX0_marksFirst_2 : decode cX0_marksFirst 2 = .ok (.aload_n 0, 1) := by decide +kernel
theorem dX0_marksFirst_3 : decode cX0_marksFirst 3 = .ok (.iload_n 2, 1) := by decide +kernel
theorem dX0_marksFirst_4 : decode cX0_marksFirst 4 = .ok (.invokevirtual 42, 3) := by decide +kernel
theorem w_624 : (Cond.code ({ cls := "GooseBorder$Border", name := "miles", desc := "(I)I" } : MethodName) prog_2_method_12_code (2 : Nat) (Option.some FieldType.int)) ∈ gb_wA := gb_t3 144 rfl rfl
theorem w_902 : (Cond.methodLink "GooseBorder$Border" (42 : Nat) ({ cls := "GooseBorder$Border", name := "miles", desc := "(I)I" } : MethodName)) ∈ gb_wA := gb_t4 182 rfl rfl
theorem w_622 : (Cond.instanceMethod ({ cls := "GooseBorder$Border", name := "miles", desc := "(I)I" } : MethodName)) ∈ gb_wA := gb_t3 142 rfl rfl
theorem w_623 : (Cond.selects "GooseBorder$Border" ({ cls := "GooseBorder$Border", name := "miles", desc := "(I)I" } : MethodName) ({ cls := "GooseBorder$Border", name := "miles", desc := "(I)I" } : MethodName)) ∈ gb_wA := gb_t3 143 rfl rfl
theorem dX0_marksFirst_7 : decode cX0_marksFirst 7 = .ok (.aload_n 0, 1) := by decide +kernel
theorem dX0_marksFirst_8 : decode cX0_marksFirst 8 = .ok (.iload_n 1, 1) := by decide +kernel
theorem dX0_marksFirst_9 : decode cX0_marksFirst 9 = .ok (.invokevirtual 45, 3) := by decide +kernel
theorem w_628 : (Cond.code ({ cls := "GooseBorder$Border", name := "boots", desc := "(I)I" } : MethodName) prog_2_method_16_code (2 : Nat) (Option.some FieldType.int)) ∈ gb_wA := gb_t3 148 rfl rfl
theorem w_903 : (Cond.methodLink "GooseBorder$Border" (45 : Nat) ({ cls := "GooseBorder$Border", name := "boots", desc := "(I)I" } : MethodName)) ∈ gb_wA := gb_t4 183 rfl rfl
theorem w_626 : (Cond.instanceMethod ({ cls := "GooseBorder$Border", name := "boots", desc := "(I)I" } : MethodName)) ∈ gb_wA := gb_t3 146 rfl rfl
theorem w_627 : (Cond.selects "GooseBorder$Border" ({ cls := "GooseBorder$Border", name := "boots", desc := "(I)I" } : MethodName) ({ cls := "GooseBorder$Border", name := "boots", desc := "(I)I" } : MethodName)) ∈ gb_wA := gb_t3 147 rfl rfl
theorem dX0_marksFirst_12 : decode cX0_marksFirst 12 = .ok (.iconst 0, 1) := by decide +kernel
theorem dX0_marksFirst_13 : decode cX0_marksFirst 13 = .ok (.invokevirtual 48, 3) := by decide +kernel
theorem dX0_marksOver_0 : decode cX0_marksOver 0 = .ok (.iload_n 2, 1) := by decide +kernel
theorem dX0_marksOver_1 : decode cX0_marksOver 1 = .ok (.iload_n 3, 1) := by decide +kernel
theorem dX0_marksOver_2 : decode cX0_marksOver 2 = .ok (.invokestatic 52, 3) := by decide +kernel
theorem w_633 : (Cond.methodLink "GooseBorder$Border" (52 : Nat) ({ cls := "java/lang/Math", name := "min", desc := "(II)I" } : MethodName)) ∈ gb_wA := gb_t3 153 rfl rfl
theorem w_367 : (Cond.static ({ cls := "java/lang/Math", name := "min", desc := "(II)I" } : MethodName)) ∈ gb_wA := gb_t2 127 rfl rfl
theorem w_368 : (Cond.code ({ cls := "java/lang/Math", name := "min", desc := "(II)I" } : MethodName) prog_16_method_69_code (2 : Nat) (Option.some FieldType.int)) ∈ gb_wA := gb_t2 128 rfl rfl
theorem dX0_marksOver_5 : decode cX0_marksOver 5 = .ok (.istore 5, 2) := by decide +kernel
theorem dX0_marksOver_7 : decode cX0_marksOver 7 = .ok (.iload 4, 2) := by decide +kernel
theorem dX0_marksOver_9 : decode cX0_marksOver 9 = .ok (.ifCond .eq 7, 3) := by decide +kernel
theorem dX0_marksOver_16 : decode cX0_marksOver 16 = .ok (.iconst 2, 1) := by decide +kernel
theorem dX0_marksOver_17 : decode cX0_marksOver 17 = .ok (.iload 5, 2) := by decide +kernel
theorem dX0_marksOver_19 : decode cX0_marksOver 19 = .ok (.imul, 1) := by decide +kernel
theorem dX0_marksOver_20 : decode cX0_marksOver 20 = .ok (.aload_n 0, 1) := by decide +kernel
theorem dX0_marksOver_21 : decode cX0_marksOver 21 = .ok (.iload_n 1, 1) := by decide +kernel
theorem dX0_marksOver_22 : decode cX0_marksOver 22 = .ok (.invokevirtual 58, 3) := by decide +kernel
theorem w_637 : (Cond.code ({ cls := "GooseBorder$Border", name := "toes", desc := "(I)I" } : MethodName) prog_2_method_15_code (3 : Nat) (Option.some FieldType.int)) ∈ gb_wA := gb_t3 157 rfl rfl
theorem w_634 : (Cond.methodLink "GooseBorder$Border" (58 : Nat) ({ cls := "GooseBorder$Border", name := "toes", desc := "(I)I" } : MethodName)) ∈ gb_wA := gb_t3 154 rfl rfl
theorem w_635 : (Cond.instanceMethod ({ cls := "GooseBorder$Border", name := "toes", desc := "(I)I" } : MethodName)) ∈ gb_wA := gb_t3 155 rfl rfl
theorem w_636 : (Cond.selects "GooseBorder$Border" ({ cls := "GooseBorder$Border", name := "toes", desc := "(I)I" } : MethodName) ({ cls := "GooseBorder$Border", name := "toes", desc := "(I)I" } : MethodName)) ∈ gb_wA := gb_t3 156 rfl rfl
theorem dX0_marksOver_25 : decode cX0_marksOver 25 = .ok (.iload_n 2, 1) := by decide +kernel
theorem dX0_marksOver_26 : decode cX0_marksOver 26 = .ok (.iload 5, 2) := by decide +kernel
theorem dX0_marksOver_28 : decode cX0_marksOver 28 = .ok (.isub, 1) := by decide +kernel
theorem dX0_marksOver_29 : decode cX0_marksOver 29 = .ok (.imul, 1) := by decide +kernel
theorem dX0_marksOver_30 : decode cX0_marksOver 30 = .ok (.iadd, 1) := by decide +kernel
theorem dX0_marksOver_31 : decode cX0_marksOver 31 = .ok (.istore 6, 2) := by decide +kernel
theorem dX0_marksOver_33 : decode cX0_marksOver 33 = .ok (.aload_n 0, 1) := by decide +kernel
theorem dX0_marksOver_34 : decode cX0_marksOver 34 = .ok (.iload_n 1, 1) := by decide +kernel
theorem dX0_marksOver_35 : decode cX0_marksOver 35 = .ok (.invokevirtual 61, 3) := by decide +kernel
theorem w_641 : (Cond.code ({ cls := "GooseBorder$Border", name := "limps", desc := "(I)Z" } : MethodName) prog_2_method_17_code (2 : Nat) (Option.some FieldType.boolean)) ∈ gb_wA := gb_t3 161 rfl rfl
theorem w_638 : (Cond.methodLink "GooseBorder$Border" (61 : Nat) ({ cls := "GooseBorder$Border", name := "limps", desc := "(I)Z" } : MethodName)) ∈ gb_wA := gb_t3 158 rfl rfl
theorem w_639 : (Cond.instanceMethod ({ cls := "GooseBorder$Border", name := "limps", desc := "(I)Z" } : MethodName)) ∈ gb_wA := gb_t3 159 rfl rfl
theorem w_640 : (Cond.selects "GooseBorder$Border" ({ cls := "GooseBorder$Border", name := "limps", desc := "(I)Z" } : MethodName) ({ cls := "GooseBorder$Border", name := "limps", desc := "(I)Z" } : MethodName)) ∈ gb_wA := gb_t3 160 rfl rfl
theorem dX0_marksOver_38 : decode cX0_marksOver 38 = .ok (.ifCond .eq 10, 3) := by decide +kernel
theorem dX0_marksOver_48 : decode cX0_marksOver 48 = .ok (.iload 6, 2) := by decide +kernel
theorem dX0_marksOver_50 : decode cX0_marksOver 50 = .ok (.ireturn, 1) := by decide +kernel
theorem dX0_marksOver_41 : decode cX0_marksOver 41 = .ok (.iconst 2, 1) := by decide +kernel
theorem dX0_marksOver_42 : decode cX0_marksOver 42 = .ok (.iload 6, 2) := by decide +kernel
theorem dX0_marksOver_44 : decode cX0_marksOver 44 = .ok (.imul, 1) := by decide +kernel
theorem dX0_marksOver_45 : decode cX0_marksOver 45 = .ok (.goto 5, 3) := by decide +kernel
theorem dX0_marksOver_12 : decode cX0_marksOver 12 = .ok (.iconst 0, 1) := by decide +kernel
theorem dX0_marksOver_13 : decode cX0_marksOver 13 = .ok (.goto 7, 3) := by decide +kernel
def cs_Border_marksOver_B_20 (n : Nat) (σ : gb_S) (v0 : Nat) (v1 : Int32) (v2 : Int32) (v5 : Int32) (t0 : Int32) : gb_CR Int32 := gb_kk (gb_kB v0) (gb_cd (cs_Border_toes_B n σ v0 v1) (fun s_5 r_6 => gb_lt (t0 + (r_6 * (v2 - v5))) (fun x_9 => gb_cd (cs_Border_limps_B n s_5 v0 v1) (fun s_10 r_11 => (if r_11 = 0 then some (s_10, x_9) else some (s_10, ((2 : Int32) * x_9)))))))
def cs_Border_marksOver_B (n : Nat) (σ : gb_S) (k0 : Nat) (p1 : Int32) (p2 : Int32) (p3 : Int32) (p4 : Int32) : gb_CR Int32 := gb_kk (gb_kB k0) (gb_lt (if p3 < p2 then p3 else p2) (fun x_2 => (if p4 = 0 then cs_Border_marksOver_B_20 n σ k0 p1 p2 x_2 ((2 : Int32) * x_2) else cs_Border_marksOver_B_20 n σ k0 p1 p2 x_2 0)))
set_option maxHeartbeats 8000000 in
set_option maxRecDepth 100000 in
theorem cc_Border_marksOver_B (l : Launch) (D : va_G) (cT : Nat → ClassId) (tt : Nat → Nat) (b1 b : Nat) (hb1 : b1 ≤ b) (n : Nat) (σ : gb_S) (k0 : Nat) (p1 : Int32) (p2 : Int32) (p3 : Int32) (p4 : Int32) (σE : gb_S) (rE : Int32) (h : cs_Border_marksOver_B n σ k0 p1 p2 p3 p4 = some (σE, rE)) : Met l yX0_marksOver (.code yX0_marksOver cX0_marksOver 7 (some FieldType.int) :: gb_wA) ({ frames := 1, cells := 0, slots := 0, locals := 22 }) (gb_Pc D cT tt b1 [.ref (b + k0), .int p1, .int p2, .int p3, .int p4] (fun h => va_P D vwCl (gb_wl b (gb_CW cT b σ)) h)) (gb_Qi (fun r h => r = rE ∧ va_P D vwCl (gb_wl b (gb_CW cT b σE)) h) (gb_fr b 135)) 0 0 (gb_fr b 135) := by
  refine Met.ofW (cc := cX0_marksOver) (maxL := 7) (ret := (some FieldType.int)) (by decide) rfl ?_
  intro p e s m args below meth c s₁ B hml hv
  obtain ⟨rfl, hSt, hP⟩ := hv
  have hx := B.exec
  have hb := B.bytes
  have hr := B.returns
  have hts := atoms_spec (ws := .code yX0_marksOver cX0_marksOver 7 (some FieldType.int) :: gb_wA) B.pre
  have hq : ∀ w ∈ gb_wA, w.before _ s = true := fun w h => hts w (List.mem_cons_of_mem _ h)
  have hown : s.vm.findClass RX0 = some m.cls := findClass_of_methodNamed B.named
  have hlocks := B.notSynchronized
  clear B hts
  have hK := hSt.1
  have hS : va_S (gb_fr b 135) s.heap s.heap [] := va_S.rf
  have hl := lv_entry ([.ref (b + k0), .int p1, .int p2, .int p3, .int p4]) (n := 7) (Nat.le_of_ble_eq_true rfl)
  rw [lg_entry_eq]
  generalize (lg_sl ([.ref (b + k0), .int p1, .int p2, .int p3, .int p4]) ++ List.replicate (7 - (lg_sl ([.ref (b + k0), .int p1, .int p2, .int p3, .int p4])).length) Slot.unset).toArray = ls at hl ⊢
  replace hl : lv_has ls 7 [(0, .ref (b + k0)), (1, .int p1), (2, .int p2), (3, .int p3), (4, .int p4)] := hl
  have L20_1 : ∀ (σ : gb_S) (v0 : Nat) (v1 : Int32) (v2 : Int32) (v5 : Int32) (t0 : Int32) (H : Heap) (locs : List Loc) (ls : Array Slot), cs_Border_marksOver_B_20 n σ v0 v1 v2 v5 t0 = some (σE, rE) → va_P D vwCl (gb_wl b (gb_CW cT b σ)) H → va_S (gb_fr b 135) s.heap H locs → lv_has ls 7 [(0, .ref (b + v0)), (1, .int v1), (2, .int v2), (5, .int v5)] → W p l e (headSpec (.code yX0_marksOver cX0_marksOver 7 (some FieldType.int) :: gb_wA) ({ frames := 1, cells := 0, slots := 0, locals := 22 })).room s m ([.ref (b + k0), .int p1, .int p2, .int p3, .int p4]).toArray below meth c H locs 0 0 (MQ below (gb_Qi (fun r h => r = rE ∧ va_P D vwCl (gb_wl b (gb_CW cT b σE)) h) (gb_fr b 135)) ([.ref (b + k0), .int p1, .int p2, .int p3, .int p4]).toArray s 0 0 (gb_fr b 135)) (F0 m 20 ls [.int t0]) := by
    clear h hP hS hl ls
    intro σ v0 v1 v2 v5 t0 H locs ls h hP hS hl
    unfold cs_Border_marksOver_B_20 at h
    obtain ⟨z_4, h⟩ := gb_kk_s h
    refine lv_aload_n hx hb dX0_marksOver_20 rfl (lv_at hl 0 rfl) ?_
    refine lv_iload_n hx hb dX0_marksOver_21 rfl (lv_at hl 1 rfl) ?_
    obtain ⟨s_5, r_6, z_7, h⟩ := gb_cd_s h
    refine gb_calli (va_runV (C := RX0) (As := [.int v1]) (rest := [.int t0]) ⟨hx, hb, hml, hown, hq⟩ (cc_Border_toes_B l D cT tt b1 b hb1 n σ v0 v1 s_5 r_6 z_7) (cwV 1 hq (gb_gV w_634 w_635 w_636 w_4 w_637) rfl rfl rfl (by decide +kernel) ⟨Nat.le_of_ble_eq_true rfl, Nat.le_of_ble_eq_true rfl⟩) (gb_preV (r := (RX0, TX0, 1)) (ci := 0) (q0 := v0) hSt hP rfl (gb_at b (gb_cB z_4).1) hS (fun q h => Nat.le_trans hb1 h.1) hP) rfl rfl hl.1 rfl (lv_room (Nat.le_of_ble_eq_true rfl)) dX0_marksOver_22 ⟨Nat.le_of_ble_eq_true rfl, Nat.le_of_ble_eq_true rfl⟩) hS (fun _ h => h) (fun _ h => h) (fun q_8 H locs hY hk hS => ?_)
    obtain ⟨hq_8, hP⟩ := hY
    replace hq_8 := hq_8.symm
    subst hq_8
    refine lv_iload_n hx hb dX0_marksOver_25 rfl (lv_at hl 2 rfl) ?_
    refine lv_iload hx hb dX0_marksOver_26 (lv_at hl 3 rfl) ?_
    refine lv_isub hx hb dX0_marksOver_28 ?_
    refine lv_imul hx hb dX0_marksOver_29 ?_
    refine lv_iadd hx hb dX0_marksOver_30 ?_
    refine lv_topi (fun x_9 ex_9 => ?_)
    replace h := gb_lt_s ex_9 h
    refine lv_istore (lv' := [(6, .int x_9), (0, .ref (b + v0)), (1, .int v1), (2, .int v2), (5, .int v5)]) hx hb dX0_marksOver_31 hl (by decide) rfl (fun ls hl => ?_)
    refine lv_aload_n hx hb dX0_marksOver_33 rfl (lv_at hl 1 rfl) ?_
    refine lv_iload_n hx hb dX0_marksOver_34 rfl (lv_at hl 2 rfl) ?_
    obtain ⟨s_10, r_11, z_12, h⟩ := gb_cd_s h
    refine gb_calli (va_runV (C := RX0) (As := [.int v1]) (rest := []) ⟨hx, hb, hml, hown, hq⟩ (cc_Border_limps_B l D cT tt b1 b hb1 n s_5 v0 v1 s_10 r_11 z_12) (cwV 1 hq (gb_gV w_638 w_639 w_640 w_4 w_641) rfl rfl rfl (by decide +kernel) ⟨Nat.le_of_ble_eq_true rfl, Nat.le_of_ble_eq_true rfl⟩) (gb_preV (r := (RX0, TX0, 1)) (ci := 0) (q0 := v0) hSt hP rfl (gb_at b (gb_cB z_4).1) hS (fun q h => Nat.le_trans hb1 h.1) hP) rfl rfl hl.1 rfl (lv_room (Nat.le_of_ble_eq_true rfl)) dX0_marksOver_35 ⟨Nat.le_of_ble_eq_true rfl, Nat.le_of_ble_eq_true rfl⟩) hS (fun _ h => h) (fun _ h => h) (fun q_13 H locs hY hk hS => ?_)
    obtain ⟨hq_13, hP⟩ := hY
    replace hq_13 := hq_13.symm
    subst hq_13
    refine lv_if_eq (tgt := 48) hx hb dX0_marksOver_38 (by decide) (fun c_14 => ?_) (fun c_14 => ?_)
    · rw [if_pos c_14] at h
      refine lv_iload hx hb dX0_marksOver_48 (lv_at hl 0 rfl) ?_
      obtain ⟨e1, e2⟩ := gb_eq2 h
      exact W.iret (v := x_9) hx hb hr (fun t ht hW => gb_ri ht ⟨e2, by rw [← e1]; exact hP⟩ hS) hS.2.2 dX0_marksOver_50
    · rw [if_neg c_14] at h
      refine lv_iconst (v := 2) hx hb dX0_marksOver_41 (by decide) ?_
      refine lv_iload hx hb dX0_marksOver_42 (lv_at hl 0 rfl) ?_
      refine lv_imul hx hb dX0_marksOver_44 ?_
      refine lv_goto (tgt := 50) hx hb dX0_marksOver_45 (by decide) ?_
      obtain ⟨e1, e2⟩ := gb_eq2 h
      exact W.iret (v := ((2 : Int32) * x_9)) hx hb hr (fun t ht hW => gb_ri ht ⟨e2, by rw [← e1]; exact hP⟩ hS) hS.2.2 dX0_marksOver_50
  unfold cs_Border_marksOver_B at h
  obtain ⟨z_1, h⟩ := gb_kk_s h
  refine lv_iload_n hx hb dX0_marksOver_0 rfl (lv_at hl 2 rfl) ?_
  refine lv_iload_n hx hb dX0_marksOver_1 rfl (lv_at hl 3 rfl) ?_
  refine va_mmin hx hb (hml.trans hl.1.symm) hown (hq _ w_633) (hq _ w_367) (hq _ w_5) (hq _ w_368) (Nat.le_of_ble_eq_true rfl) (Nat.le_of_ble_eq_true rfl) (Nat.le_of_ble_eq_true rfl) (Nat.le_of_ble_eq_true rfl) dX0_marksOver_2 ?_
  refine lv_topi (fun x_2 ex_2 => ?_)
  replace h := gb_lt_s ex_2 h
  refine lv_istore (lv' := [(5, .int x_2), (0, .ref (b + k0)), (1, .int p1), (2, .int p2), (3, .int p3), (4, .int p4)]) hx hb dX0_marksOver_5 hl (by decide) rfl (fun ls hl => ?_)
  refine lv_iload hx hb dX0_marksOver_7 (lv_at hl 5 rfl) ?_
  refine lv_if_eq (tgt := 16) hx hb dX0_marksOver_9 (by decide) (fun c_3 => ?_) (fun c_3 => ?_)
  · rw [if_pos c_3] at h
    refine lv_iconst (v := 2) hx hb dX0_marksOver_16 (by decide) ?_
    refine lv_iload hx hb dX0_marksOver_17 (lv_at hl 0 rfl) ?_
    refine lv_imul hx hb dX0_marksOver_19 ?_
    exact L20_1 _ _ _ _ _ _ _ _ _ h hP hS (lv_sub hl [1, 2, 3, 0] rfl)
  · rw [if_neg c_3] at h
    refine lv_iconst (v := 0) hx hb dX0_marksOver_12 (by decide) ?_
    refine lv_goto (tgt := 20) hx hb dX0_marksOver_13 (by decide) ?_
    exact L20_1 _ _ _ _ _ _ _ _ _ h hP hS (lv_sub hl [1, 2, 3, 0] rfl)
theorem w_632 : (Cond.code ({ cls := "GooseBorder$Border", name := "marksOver", desc := "(IIIZ)I" } : MethodName) prog_2_method_21_code (7 : Nat) (Option.some FieldType.int)) ∈ gb_wA := gb_t3 152 rfl rfl
theorem w_904 : (Cond.methodLink "GooseBorder$Border" (48 : Nat) ({ cls := "GooseBorder$Border", name := "marksOver", desc := "(IIIZ)I" } : MethodName)) ∈ gb_wA := gb_t4 184 rfl rfl
theorem w_630 : (Cond.instanceMethod ({ cls := "GooseBorder$Border", name := "marksOver", desc := "(IIIZ)I" } : MethodName)) ∈ gb_wA := gb_t3 150 rfl rfl
theorem w_631 : (Cond.selects "GooseBorder$Border" ({ cls := "GooseBorder$Border", name := "marksOver", desc := "(IIIZ)I" } : MethodName) ({ cls := "GooseBorder$Border", name := "marksOver", desc := "(IIIZ)I" } : MethodName)) ∈ gb_wA := gb_t3 151 rfl rfl
theorem dX0_marksFirst_16 : decode cX0_marksFirst 16 = .ok (.ireturn, 1) := by decide +kernel
def cs_Border_marksFirst_B (n : Nat) (σ : gb_S) (k0 : Nat) (p1 : Int32) (p2 : Int32) : gb_CR Int32 := gb_kk (gb_kB k0) (gb_cd (cs_Border_miles_B n σ k0 p2) (fun s_2 r_3 => gb_cd (cs_Border_boots_B n s_2 k0 p1) (fun s_6 r_7 => gb_cd (cs_Border_marksOver_B n s_6 k0 p1 r_3 r_7 0) (fun s_10 r_11 => some (s_10, r_11)))))
set_option maxHeartbeats 8000000 in
set_option maxRecDepth 100000 in
theorem cc_Border_marksFirst_B (l : Launch) (D : va_G) (cT : Nat → ClassId) (tt : Nat → Nat) (b1 b : Nat) (hb1 : b1 ≤ b) (n : Nat) (σ : gb_S) (k0 : Nat) (p1 : Int32) (p2 : Int32) (σE : gb_S) (rE : Int32) (h : cs_Border_marksFirst_B n σ k0 p1 p2 = some (σE, rE)) : Met l yX0_marksFirst (.code yX0_marksFirst cX0_marksFirst 3 (some FieldType.int) :: gb_wA) ({ frames := 2, cells := 0, slots := 0, locals := 48 }) (gb_Pc D cT tt b1 [.ref (b + k0), .int p1, .int p2] (fun h => va_P D vwCl (gb_wl b (gb_CW cT b σ)) h)) (gb_Qi (fun r h => r = rE ∧ va_P D vwCl (gb_wl b (gb_CW cT b σE)) h) (gb_fr b 135)) 0 0 (gb_fr b 135) := by
  refine Met.ofW (cc := cX0_marksFirst) (maxL := 3) (ret := (some FieldType.int)) (by decide) rfl ?_
  intro p e s m args below meth c s₁ B hml hv
  obtain ⟨rfl, hSt, hP⟩ := hv
  have hx := B.exec
  have hb := B.bytes
  have hr := B.returns
  have hts := atoms_spec (ws := .code yX0_marksFirst cX0_marksFirst 3 (some FieldType.int) :: gb_wA) B.pre
  have hq : ∀ w ∈ gb_wA, w.before _ s = true := fun w h => hts w (List.mem_cons_of_mem _ h)
  have hown : s.vm.findClass RX0 = some m.cls := findClass_of_methodNamed B.named
  have hlocks := B.notSynchronized
  clear B hts
  have hK := hSt.1
  have hS : va_S (gb_fr b 135) s.heap s.heap [] := va_S.rf
  have hl := lv_entry ([.ref (b + k0), .int p1, .int p2]) (n := 3) (Nat.le_of_ble_eq_true rfl)
  rw [lg_entry_eq]
  generalize (lg_sl ([.ref (b + k0), .int p1, .int p2]) ++ List.replicate (3 - (lg_sl ([.ref (b + k0), .int p1, .int p2])).length) Slot.unset).toArray = ls at hl ⊢
  replace hl : lv_has ls 3 [(0, .ref (b + k0)), (1, .int p1), (2, .int p2)] := hl
  unfold cs_Border_marksFirst_B at h
  obtain ⟨z_1, h⟩ := gb_kk_s h
  refine lv_aload_n hx hb dX0_marksFirst_0 rfl (lv_at hl 0 rfl) ?_
  refine lv_iload_n hx hb dX0_marksFirst_1 rfl (lv_at hl 1 rfl) ?_
  refine lv_aload_n hx hb dX0_marksFirst_2 rfl (lv_at hl 0 rfl) ?_
  refine lv_iload_n hx hb dX0_marksFirst_3 rfl (lv_at hl 2 rfl) ?_
  obtain ⟨s_2, r_3, z_4, h⟩ := gb_cd_s h
  refine gb_calli (va_runV (C := RX0) (As := [.int p2]) (rest := [.int p1, .ref (b + k0)]) ⟨hx, hb, hml, hown, hq⟩ (cc_Border_miles_B l D cT tt b1 b hb1 n σ k0 p2 s_2 r_3 z_4) (cwV 1 hq (gb_gV w_902 w_622 w_623 w_4 w_624) rfl rfl rfl (by decide +kernel) ⟨Nat.le_of_ble_eq_true rfl, Nat.le_of_ble_eq_true rfl⟩) (gb_preV (r := (RX0, TX0, 1)) (ci := 0) (q0 := k0) hSt hP rfl (gb_at b (gb_cB z_1).1) hS (fun q h => Nat.le_trans hb1 h.1) hP) rfl rfl hl.1 rfl (lv_room (Nat.le_of_ble_eq_true rfl)) dX0_marksFirst_4 ⟨Nat.le_of_ble_eq_true rfl, Nat.le_of_ble_eq_true rfl⟩) hS (fun _ h => h) (fun _ h => h) (fun q_5 H locs hY hk hS => ?_)
  obtain ⟨hq_5, hP⟩ := hY
  replace hq_5 := hq_5.symm
  subst hq_5
  refine lv_aload_n hx hb dX0_marksFirst_7 rfl (lv_at hl 0 rfl) ?_
  refine lv_iload_n hx hb dX0_marksFirst_8 rfl (lv_at hl 1 rfl) ?_
  obtain ⟨s_6, r_7, z_8, h⟩ := gb_cd_s h
  refine gb_calli (va_runV (C := RX0) (As := [.int p1]) (rest := [.int r_3, .int p1, .ref (b + k0)]) ⟨hx, hb, hml, hown, hq⟩ (cc_Border_boots_B l D cT tt b1 b hb1 n s_2 k0 p1 s_6 r_7 z_8) (cwV 1 hq (gb_gV w_903 w_626 w_627 w_4 w_628) rfl rfl rfl (by decide +kernel) ⟨Nat.le_of_ble_eq_true rfl, Nat.le_of_ble_eq_true rfl⟩) (gb_preV (r := (RX0, TX0, 1)) (ci := 0) (q0 := k0) hSt hP rfl (gb_at b (gb_cB z_1).1) hS (fun q h => Nat.le_trans hb1 h.1) hP) rfl rfl hl.1 rfl (lv_room (Nat.le_of_ble_eq_true rfl)) dX0_marksFirst_9 ⟨Nat.le_of_ble_eq_true rfl, Nat.le_of_ble_eq_true rfl⟩) hS (fun _ h => h) (fun _ h => h) (fun q_9 H locs hY hk hS => ?_)
  obtain ⟨hq_9, hP⟩ := hY
  replace hq_9 := hq_9.symm
  subst hq_9
  refine lv_iconst (v := 0) hx hb dX0_marksFirst_12 (by decide) ?_
  obtain ⟨s_10, r_11, z_12, h⟩ := gb_cd_s h
  refine gb_calli (va_runV (C := RX0) (As := [.int p1, .int r_3, .int r_7, .int 0]) (rest := []) ⟨hx, hb, hml, hown, hq⟩ (cc_Border_marksOver_B l D cT tt b1 b hb1 n s_6 k0 p1 r_3 r_7 0 s_10 r_11 z_12) (cwV 4 hq (gb_gV w_904 w_630 w_631 w_4 w_632) rfl rfl rfl (by decide +kernel) ⟨Nat.le_of_ble_eq_true rfl, Nat.le_of_ble_eq_true rfl⟩) (gb_preV (r := (RX0, TX0, 1)) (ci := 0) (q0 := k0) hSt hP rfl (gb_at b (gb_cB z_1).1) hS (fun q h => Nat.le_trans hb1 h.1) hP) rfl rfl hl.1 rfl (lv_room (Nat.le_of_ble_eq_true rfl)) dX0_marksFirst_13 ⟨Nat.le_of_ble_eq_true rfl, Nat.le_of_ble_eq_true rfl⟩) hS (fun _ h => h) (fun _ h => h) (fun q_13 H locs hY hk hS => ?_)
  obtain ⟨hq_13, hP⟩ := hY
  replace hq_13 := hq_13.symm
  subst hq_13
  obtain ⟨e1, e2⟩ := gb_eq2 h
  exact W.iret (v := r_11) hx hb hr (fun t ht hW => gb_ri ht ⟨e2, by rw [← e1]; exact hP⟩ hS) hS.2.2 dX0_marksFirst_16
theorem dX0_padded_0 : decode cX0_padded 0 = .ok (.iload_n 2, 1) := by decide +kernel
theorem dX0_padded_1 : decode cX0_padded 1 = .ok (.iload_n 2, 1) := by decide +kernel
theorem dX0_padded_2 : decode cX0_padded 2 = .ok (.aload_n 0, 1) := by decide +kernel
theorem dX0_padded_3 : decode cX0_padded 3 = .ok (.iload_n 1, 1) := by decide +kernel
theorem dX0_padded_4 : decode cX0_padded 4 = .ok (.invokevirtual 64, 3) := by decide +kernel
theorem w_782 : (Cond.code ({ cls := "GooseBorder$Border", name := "pad", desc := "(I)I" } : MethodName) prog_2_method_14_code (2 : Nat) (Option.some FieldType.int)) ∈ gb_wA := gb_t4 62 rfl rfl
theorem w_779 : (Cond.methodLink "GooseBorder$Border" (64 : Nat) ({ cls := "GooseBorder$Border", name := "pad", desc := "(I)I" } : MethodName)) ∈ gb_wA := gb_t4 59 rfl rfl
theorem w_780 : (Cond.instanceMethod ({ cls := "GooseBorder$Border", name := "pad", desc := "(I)I" } : MethodName)) ∈ gb_wA := gb_t4 60 rfl rfl
theorem w_781 : (Cond.selects "GooseBorder$Border" ({ cls := "GooseBorder$Border", name := "pad", desc := "(I)I" } : MethodName) ({ cls := "GooseBorder$Border", name := "pad", desc := "(I)I" } : MethodName)) ∈ gb_wA := gb_t4 61 rfl rfl
theorem dX0_padded_7 : decode cX0_padded 7 = .ok (.imul, 1) := by decide +kernel
theorem dX0_padded_8 : decode cX0_padded 8 = .ok (.bipush 10, 2) := by decide +kernel
theorem dX0_padded_10 : decode cX0_padded 10 = .ok (.idiv, 1) := by decide +kernel
theorem dX0_padded_11 : decode cX0_padded 11 = .ok (.iadd, 1) := by decide +kernel
theorem dX0_padded_12 : decode cX0_padded 12 = .ok (.ireturn, 1) := by decide +kernel
def cs_Border_padded_B (n : Nat) (σ : gb_S) (k0 : Nat) (p1 : Int32) (p2 : Int32) : gb_CR Int32 := gb_kk (gb_kB k0) (gb_cd (cs_Border_pad_B n σ k0 p1) (fun s_2 r_3 => gb_lt ((p2 * r_3) / 10) (fun x_6 => some (s_2, (p2 + x_6)))))
set_option maxHeartbeats 8000000 in
set_option maxRecDepth 100000 in
theorem cc_Border_padded_B (l : Launch) (D : va_G) (cT : Nat → ClassId) (tt : Nat → Nat) (b1 b : Nat) (hb1 : b1 ≤ b) (n : Nat) (σ : gb_S) (k0 : Nat) (p1 : Int32) (p2 : Int32) (σE : gb_S) (rE : Int32) (h : cs_Border_padded_B n σ k0 p1 p2 = some (σE, rE)) : Met l yX0_padded (.code yX0_padded cX0_padded 3 (some FieldType.int) :: gb_wA) ({ frames := 1, cells := 0, slots := 0, locals := 21 }) (gb_Pc D cT tt b1 [.ref (b + k0), .int p1, .int p2] (fun h => va_P D vwCl (gb_wl b (gb_CW cT b σ)) h)) (gb_Qi (fun r h => r = rE ∧ va_P D vwCl (gb_wl b (gb_CW cT b σE)) h) (gb_fr b 135)) 0 0 (gb_fr b 135) := by
  refine Met.ofW (cc := cX0_padded) (maxL := 3) (ret := (some FieldType.int)) (by decide) rfl ?_
  intro p e s m args below meth c s₁ B hml hv
  obtain ⟨rfl, hSt, hP⟩ := hv
  have hx := B.exec
  have hb := B.bytes
  have hr := B.returns
  have hts := atoms_spec (ws := .code yX0_padded cX0_padded 3 (some FieldType.int) :: gb_wA) B.pre
  have hq : ∀ w ∈ gb_wA, w.before _ s = true := fun w h => hts w (List.mem_cons_of_mem _ h)
  have hown : s.vm.findClass RX0 = some m.cls := findClass_of_methodNamed B.named
  have hlocks := B.notSynchronized
  clear B hts
  have hK := hSt.1
  have hS : va_S (gb_fr b 135) s.heap s.heap [] := va_S.rf
  have hl := lv_entry ([.ref (b + k0), .int p1, .int p2]) (n := 3) (Nat.le_of_ble_eq_true rfl)
  rw [lg_entry_eq]
  generalize (lg_sl ([.ref (b + k0), .int p1, .int p2]) ++ List.replicate (3 - (lg_sl ([.ref (b + k0), .int p1, .int p2])).length) Slot.unset).toArray = ls at hl ⊢
  replace hl : lv_has ls 3 [(0, .ref (b + k0)), (1, .int p1), (2, .int p2)] := hl
  unfold cs_Border_padded_B at h
  obtain ⟨z_1, h⟩ := gb_kk_s h
  refine lv_iload_n hx hb dX0_padded_0 rfl (lv_at hl 2 rfl) ?_
  refine lv_iload_n hx hb dX0_padded_1 rfl (lv_at hl 2 rfl) ?_
  refine lv_aload_n hx hb dX0_padded_2 rfl (lv_at hl 0 rfl) ?_
  refine lv_iload_n hx hb dX0_padded_3 rfl (lv_at hl 1 rfl) ?_
  obtain ⟨s_2, r_3, z_4, h⟩ := gb_cd_s h
  refine gb_calli (va_runV (C := RX0) (As := [.int p1]) (rest := [.int p2, .int p2]) ⟨hx, hb, hml, hown, hq⟩ (cc_Border_pad_B l D cT tt b1 b hb1 n σ k0 p1 s_2 r_3 z_4) (cwV 1 hq (gb_gV w_779 w_780 w_781 w_4 w_782) rfl rfl rfl (by decide +kernel) ⟨Nat.le_of_ble_eq_true rfl, Nat.le_of_ble_eq_true rfl⟩) (gb_preV (r := (RX0, TX0, 1)) (ci := 0) (q0 := k0) hSt hP rfl (gb_at b (gb_cB z_1).1) hS (fun q h => Nat.le_trans hb1 h.1) hP) rfl rfl hl.1 rfl (lv_room (Nat.le_of_ble_eq_true rfl)) dX0_padded_4 ⟨Nat.le_of_ble_eq_true rfl, Nat.le_of_ble_eq_true rfl⟩) hS (fun _ h => h) (fun _ h => h) (fun q_5 H locs hY hk hS => ?_)
  obtain ⟨hq_5, hP⟩ := hY
  replace hq_5 := hq_5.symm
  subst hq_5
  refine lv_imul hx hb dX0_padded_7 ?_
  refine lv_bipush (v := 10) hx hb dX0_padded_8 (by decide) ?_
  refine lv_idiv hx hb dX0_padded_10 (by decide) ?_
  refine lv_topi (fun x_6 ex_6 => ?_)
  replace h := gb_lt_s ex_6 h
  refine lv_iadd hx hb dX0_padded_11 ?_
  obtain ⟨e1, e2⟩ := gb_eq2 h
  exact W.iret (v := (p2 + x_6)) hx hb hr (fun t ht hW => gb_ri ht ⟨e2, by rw [← e1]; exact hP⟩ hS) hS.2.2 dX0_padded_12
theorem dX0_payOf_0 : decode cX0_payOf 0 = .ok (.aload_n 0, 1) := by decide +kernel
theorem dX0_payOf_1 : decode cX0_payOf 1 = .ok (.iload_n 1, 1) := by decide +kernel
theorem dX0_payOf_2 : decode cX0_payOf 2 = .ok (.invokevirtual 67, 3) := by decide +kernel
theorem w_790 : (Cond.code ({ cls := "GooseBorder$Border", name := "rate", desc := "(I)I" } : MethodName) prog_2_method_13_code (2 : Nat) (Option.some FieldType.int)) ∈ gb_wA := gb_t4 70 rfl rfl
theorem w_787 : (Cond.methodLink "GooseBorder$Border" (67 : Nat) ({ cls := "GooseBorder$Border", name := "rate", desc := "(I)I" } : MethodName)) ∈ gb_wA := gb_t4 67 rfl rfl
theorem w_788 : (Cond.instanceMethod ({ cls := "GooseBorder$Border", name := "rate", desc := "(I)I" } : MethodName)) ∈ gb_wA := gb_t4 68 rfl rfl
theorem w_789 : (Cond.selects "GooseBorder$Border" ({ cls := "GooseBorder$Border", name := "rate", desc := "(I)I" } : MethodName) ({ cls := "GooseBorder$Border", name := "rate", desc := "(I)I" } : MethodName)) ∈ gb_wA := gb_t4 69 rfl rfl
theorem dX0_payOf_5 : decode cX0_payOf 5 = .ok (.aload_n 0, 1) := by decide +kernel
theorem dX0_payOf_6 : decode cX0_payOf 6 = .ok (.iload_n 1, 1) := by decide +kernel
theorem dX0_payOf_7 : decode cX0_payOf 7 = .ok (.iload_n 2, 1) := by decide +kernel
theorem dX0_payOf_8 : decode cX0_payOf 8 = .ok (.invokevirtual 70, 3) := by decide +kernel
theorem w_778 : (Cond.code ({ cls := "GooseBorder$Border", name := "padded", desc := "(II)I" } : MethodName) prog_2_method_22_code (3 : Nat) (Option.some FieldType.int)) ∈ gb_wA := gb_t4 58 rfl rfl
theorem w_791 : (Cond.methodLink "GooseBorder$Border" (70 : Nat) ({ cls := "GooseBorder$Border", name := "padded", desc := "(II)I" } : MethodName)) ∈ gb_wA := gb_t4 71 rfl rfl
theorem w_776 : (Cond.instanceMethod ({ cls := "GooseBorder$Border", name := "padded", desc := "(II)I" } : MethodName)) ∈ gb_wA := gb_t4 56 rfl rfl
theorem w_777 : (Cond.selects "GooseBorder$Border" ({ cls := "GooseBorder$Border", name := "padded", desc := "(II)I" } : MethodName) ({ cls := "GooseBorder$Border", name := "padded", desc := "(II)I" } : MethodName)) ∈ gb_wA := gb_t4 57 rfl rfl
theorem dX0_payOf_11 : decode cX0_payOf 11 = .ok (.imul, 1) := by decide +kernel
theorem dX0_payOf_12 : decode cX0_payOf 12 = .ok (.ireturn, 1) := by decide +kernel
def cs_Border_payOf_B (n : Nat) (σ : gb_S) (k0 : Nat) (p1 : Int32) (p2 : Int32) : gb_CR Int32 := gb_kk (gb_kB k0) (gb_cd (cs_Border_rate_B n σ k0 p1) (fun s_2 r_3 => gb_cd (cs_Border_padded_B n s_2 k0 p1 p2) (fun s_6 r_7 => some (s_6, (r_3 * r_7)))))
set_option maxHeartbeats 8000000 in
set_option maxRecDepth 100000 in
theorem cc_Border_payOf_B (l : Launch) (D : va_G) (cT : Nat → ClassId) (tt : Nat → Nat) (b1 b : Nat) (hb1 : b1 ≤ b) (n : Nat) (σ : gb_S) (k0 : Nat) (p1 : Int32) (p2 : Int32) (σE : gb_S) (rE : Int32) (h : cs_Border_payOf_B n σ k0 p1 p2 = some (σE, rE)) : Met l yX0_payOf (.code yX0_payOf cX0_payOf 3 (some FieldType.int) :: gb_wA) ({ frames := 2, cells := 0, slots := 0, locals := 43 }) (gb_Pc D cT tt b1 [.ref (b + k0), .int p1, .int p2] (fun h => va_P D vwCl (gb_wl b (gb_CW cT b σ)) h)) (gb_Qi (fun r h => r = rE ∧ va_P D vwCl (gb_wl b (gb_CW cT b σE)) h) (gb_fr b 135)) 0 0 (gb_fr b 135) := by
  refine Met.ofW (cc := cX0_payOf) (maxL := 3) (ret := (some FieldType.int)) (by decide) rfl ?_
  intro p e s m args below meth c s₁ B hml hv
  obtain ⟨rfl, hSt, hP⟩ := hv
  have hx := B.exec
  have hb := B.bytes
  have hr := B.returns
  have hts := atoms_spec (ws := .code yX0_payOf cX0_payOf 3 (some FieldType.int) :: gb_wA) B.pre
  have hq : ∀ w ∈ gb_wA, w.before _ s = true := fun w h => hts w (List.mem_cons_of_mem _ h)
  have hown : s.vm.findClass RX0 = some m.cls := findClass_of_methodNamed B.named
  have hlocks := B.notSynchronized
  clear B hts
  have hK := hSt.1
  have hS : va_S (gb_fr b 135) s.heap s.heap [] := va_S.rf
  have hl := lv_entry ([.ref (b + k0), .int p1, .int p2]) (n := 3) (Nat.le_of_ble_eq_true rfl)
  rw [lg_entry_eq]
  generalize (lg_sl ([.ref (b + k0), .int p1, .int p2]) ++ List.replicate (3 - (lg_sl ([.ref (b + k0), .int p1, .int p2])).length) Slot.unset).toArray = ls at hl ⊢
  replace hl : lv_has ls 3 [(0, .ref (b + k0)), (1, .int p1), (2, .int p2)] := hl
  unfold cs_Border_payOf_B at h
  obtain ⟨z_1, h⟩ := gb_kk_s h
  refine lv_aload_n hx hb dX0_payOf_0 rfl (lv_at hl 0 rfl) ?_
  refine lv_iload_n hx hb dX0_payOf_1 rfl (lv_at hl 1 rfl) ?_
  obtain ⟨s_2, r_3, z_4, h⟩ := gb_cd_s h
  refine gb_calli (va_runV (C := RX0) (As := [.int p1]) (rest := []) ⟨hx, hb, hml, hown, hq⟩ (cc_Border_rate_B l D cT tt b1 b hb1 n σ k0 p1 s_2 r_3 z_4) (cwV 1 hq (gb_gV w_787 w_788 w_789 w_4 w_790) rfl rfl rfl (by decide +kernel) ⟨Nat.le_of_ble_eq_true rfl, Nat.le_of_ble_eq_true rfl⟩) (gb_preV (r := (RX0, TX0, 1)) (ci := 0) (q0 := k0) hSt hP rfl (gb_at b (gb_cB z_1).1) hS (fun q h => Nat.le_trans hb1 h.1) hP) rfl rfl hl.1 rfl (lv_room (Nat.le_of_ble_eq_true rfl)) dX0_payOf_2 ⟨Nat.le_of_ble_eq_true rfl, Nat.le_of_ble_eq_true rfl⟩) hS (fun _ h => h) (fun _ h => h) (fun q_5 H locs hY hk hS => ?_)
  obtain ⟨hq_5, hP⟩ := hY
  replace hq_5 := hq_5.symm
  subst hq_5
  refine lv_aload_n hx hb dX0_payOf_5 rfl (lv_at hl 0 rfl) ?_
  refine lv_iload_n hx hb dX0_payOf_6 rfl (lv_at hl 1 rfl) ?_
  refine lv_iload_n hx hb dX0_payOf_7 rfl (lv_at hl 2 rfl) ?_
  obtain ⟨s_6, r_7, z_8, h⟩ := gb_cd_s h
  refine gb_calli (va_runV (C := RX0) (As := [.int p1, .int p2]) (rest := [.int r_3]) ⟨hx, hb, hml, hown, hq⟩ (cc_Border_padded_B l D cT tt b1 b hb1 n s_2 k0 p1 p2 s_6 r_7 z_8) (cwV 2 hq (gb_gV w_791 w_776 w_777 w_4 w_778) rfl rfl rfl (by decide +kernel) ⟨Nat.le_of_ble_eq_true rfl, Nat.le_of_ble_eq_true rfl⟩) (gb_preV (r := (RX0, TX0, 1)) (ci := 0) (q0 := k0) hSt hP rfl (gb_at b (gb_cB z_1).1) hS (fun q h => Nat.le_trans hb1 h.1) hP) rfl rfl hl.1 rfl (lv_room (Nat.le_of_ble_eq_true rfl)) dX0_payOf_8 ⟨Nat.le_of_ble_eq_true rfl, Nat.le_of_ble_eq_true rfl⟩) hS (fun _ h => h) (fun _ h => h) (fun q_9 H locs hY hk hS => ?_)
  obtain ⟨hq_9, hP⟩ := hY
  replace hq_9 := hq_9.symm
  subst hq_9
  refine lv_imul hx hb dX0_payOf_11 ?_
  obtain ⟨e1, e2⟩ := gb_eq2 h
  exact W.iret (v := (r_3 * r_7)) hx hb hr (fun t ht hW => gb_ri ht ⟨e2, by rw [← e1]; exact hP⟩ hS) hS.2.2 dX0_payOf_12
theorem dX0_barefoot_0 : decode cX0_barefoot 0 = .ok (.iconst 0, 1) := by decide +kernel
theorem dX0_barefoot_1 : decode cX0_barefoot 1 = .ok (.istore_n 2, 1) := by decide +kernel
theorem dX0_barefoot_2 : decode cX0_barefoot 2 = .ok (.iconst 0, 1) := by decide +kernel
theorem dX0_barefoot_3 : decode cX0_barefoot 3 = .ok (.istore_n 3, 1) := by decide +kernel
theorem dX0_barefoot_4 : decode cX0_barefoot 4 = .ok (.iload_n 3, 1) := by decide +kernel
theorem dX0_barefoot_5 : decode cX0_barefoot 5 = .ok (.aload_n 0, 1) := by decide +kernel
theorem dX0_barefoot_6 : decode cX0_barefoot 6 = .ok (.invokevirtual 19, 3) := by decide +kernel
theorem dX0_barefoot_9 : decode cX0_barefoot 9 = .ok (.if_icmp .ge 24, 3) := by decide +kernel
theorem dX0_barefoot_33 : decode cX0_barefoot 33 = .ok (.iload_n 2, 1) := by decide +kernel
theorem dX0_barefoot_34 : decode cX0_barefoot 34 = .ok (.ireturn, 1) := by decide +kernel
theorem dX0_barefoot_12 : decode cX0_barefoot 12 = .ok (.iload_n 2, 1) := by decide +kernel
theorem dX0_barefoot_13 : decode cX0_barefoot 13 = .ok (.aload_n 0, 1) := by decide +kernel
theorem dX0_barefoot_14 : decode cX0_barefoot 14 = .ok (.iload_n 3, 1) := by decide +kernel
theorem dX0_barefoot_15 : decode cX0_barefoot 15 = .ok (.aload_n 0, 1) := by decide +kernel
theorem dX0_barefoot_16 : decode cX0_barefoot 16 = .ok (.iload_n 1, 1) := by decide +kernel
theorem dX0_barefoot_17 : decode cX0_barefoot 17 = .ok (.invokevirtual 42, 3) := by decide +kernel
theorem dX0_barefoot_20 : decode cX0_barefoot 20 = .ok (.iconst 0, 1) := by decide +kernel
theorem dX0_barefoot_21 : decode cX0_barefoot 21 = .ok (.iconst 0, 1) := by decide +kernel
theorem dX0_barefoot_22 : decode cX0_barefoot 22 = .ok (.invokevirtual 48, 3) := by decide +kernel
theorem dX0_barefoot_25 : decode cX0_barefoot 25 = .ok (.iadd, 1) := by decide +kernel
theorem dX0_barefoot_26 : decode cX0_barefoot 26 = .ok (.istore_n 2, 1) := by decide +kernel
theorem dX0_barefoot_27 : decode cX0_barefoot 27 = .ok (.iinc 3 1, 3) := by decide +kernel
theorem dX0_barefoot_30 : decode cX0_barefoot 30 = .ok (.goto (-26), 3) := by decide +kernel
def cs_Border_barefoot_B_4 (n : Nat) : Nat → gb_S → Nat → Int32 → Int32 → Int32 → gb_CR Int32
  | 0, _, _, _, _, _ => none
  | mm + 1, σ, v0, v1, v2, v3 => gb_kk (gb_kB v0) (gb_cd (cs_Border_geese_B n σ v0) (fun s_3 r_4 => (if r_4 ≤ v3 then some (s_3, v2) else gb_cd (cs_Border_miles_B n s_3 v0 v1) (fun s_8 r_9 => gb_cd (cs_Border_marksOver_B n s_8 v0 v3 r_9 0 0) (fun s_12 r_13 => gb_lt (v2 + r_13) (fun x_16 => gb_lt (v3 + 1) (fun x_17 => cs_Border_barefoot_B_4 n mm s_12 v0 v1 x_16 x_17)))))))
def cs_Border_barefoot_B (n : Nat) (σ : gb_S) (k0 : Nat) (p1 : Int32) : gb_CR Int32 := gb_kk (gb_kB k0) (cs_Border_barefoot_B_4 n n σ k0 p1 0 0)
set_option maxHeartbeats 8000000 in
set_option maxRecDepth 100000 in
theorem cc_Border_barefoot_B (l : Launch) (D : va_G) (cT : Nat → ClassId) (tt : Nat → Nat) (b1 b : Nat) (hb1 : b1 ≤ b) (n : Nat) (σ : gb_S) (k0 : Nat) (p1 : Int32) (σE : gb_S) (rE : Int32) (h : cs_Border_barefoot_B n σ k0 p1 = some (σE, rE)) : Met l yX0_barefoot (.code yX0_barefoot cX0_barefoot 4 (some FieldType.int) :: gb_wA) ({ frames := 2, cells := 0, slots := 0, locals := 48 }) (gb_Pc D cT tt b1 [.ref (b + k0), .int p1] (fun h => va_P D vwCl (gb_wl b (gb_CW cT b σ)) h)) (gb_Qi (fun r h => r = rE ∧ va_P D vwCl (gb_wl b (gb_CW cT b σE)) h) (gb_fr b 135)) 0 0 (gb_fr b 135) := by
  refine Met.ofW (cc := cX0_barefoot) (maxL := 4) (ret := (some FieldType.int)) (by decide) rfl ?_
  intro p e s m args below meth c s₁ B hml hv
  obtain ⟨rfl, hSt, hP⟩ := hv
  have hx := B.exec
  have hb := B.bytes
  have hr := B.returns
  have hts := atoms_spec (ws := .code yX0_barefoot cX0_barefoot 4 (some FieldType.int) :: gb_wA) B.pre
  have hq : ∀ w ∈ gb_wA, w.before _ s = true := fun w h => hts w (List.mem_cons_of_mem _ h)
  have hown : s.vm.findClass RX0 = some m.cls := findClass_of_methodNamed B.named
  have hlocks := B.notSynchronized
  clear B hts
  have hK := hSt.1
  have hS : va_S (gb_fr b 135) s.heap s.heap [] := va_S.rf
  have hl := lv_entry ([.ref (b + k0), .int p1]) (n := 4) (Nat.le_of_ble_eq_true rfl)
  rw [lg_entry_eq]
  generalize (lg_sl ([.ref (b + k0), .int p1]) ++ List.replicate (4 - (lg_sl ([.ref (b + k0), .int p1])).length) Slot.unset).toArray = ls at hl ⊢
  replace hl : lv_has ls 4 [(0, .ref (b + k0)), (1, .int p1)] := hl
  have L4_1 : ∀ (mm : Nat) (σ : gb_S) (v0 : Nat) (v1 : Int32) (v2 : Int32) (v3 : Int32) (H : Heap) (locs : List Loc) (ls : Array Slot), cs_Border_barefoot_B_4 n mm σ v0 v1 v2 v3 = some (σE, rE) → va_P D vwCl (gb_wl b (gb_CW cT b σ)) H → va_S (gb_fr b 135) s.heap H locs → lv_has ls 4 [(0, .ref (b + v0)), (1, .int v1), (2, .int v2), (3, .int v3)] → W p l e (headSpec (.code yX0_barefoot cX0_barefoot 4 (some FieldType.int) :: gb_wA) ({ frames := 2, cells := 0, slots := 0, locals := 48 })).room s m ([.ref (b + k0), .int p1]).toArray below meth c H locs 0 0 (MQ below (gb_Qi (fun r h => r = rE ∧ va_P D vwCl (gb_wl b (gb_CW cT b σE)) h) (gb_fr b 135)) ([.ref (b + k0), .int p1]).toArray s 0 0 (gb_fr b 135)) (F0 m 4 ls []) := by
    clear h hP hS hl ls
    intro mm
    induction mm with
    | zero =>
      intro σ v0 v1 v2 v3 H locs ls h
      cases h
    | succ mm ih =>
      intro σ v0 v1 v2 v3 H locs ls h hP hS hl
      rw [cs_Border_barefoot_B_4] at h
      obtain ⟨z_2, h⟩ := gb_kk_s h
      refine lv_iload_n hx hb dX0_barefoot_4 rfl (lv_at hl 3 rfl) ?_
      refine lv_aload_n hx hb dX0_barefoot_5 rfl (lv_at hl 0 rfl) ?_
      obtain ⟨s_3, r_4, z_5, h⟩ := gb_cd_s h
      refine gb_calli (va_runV (C := RX0) (As := []) (rest := [.int v3]) ⟨hx, hb, hml, hown, hq⟩ (cc_Border_geese_B l D cT tt b1 b hb1 n σ v0 s_3 r_4 z_5) (cwV 0 hq (gb_gV w_476 w_477 w_478 w_4 w_479) rfl rfl rfl (by decide +kernel) ⟨Nat.le_of_ble_eq_true rfl, Nat.le_of_ble_eq_true rfl⟩) (gb_preV (r := (RX0, TX0, 1)) (ci := 0) (q0 := v0) hSt hP rfl (gb_at b (gb_cB z_2).1) hS (fun q h => Nat.le_trans hb1 h.1) hP) rfl rfl hl.1 rfl (lv_room (Nat.le_of_ble_eq_true rfl)) dX0_barefoot_6 ⟨Nat.le_of_ble_eq_true rfl, Nat.le_of_ble_eq_true rfl⟩) hS (fun _ h => h) (fun _ h => h) (fun q_6 H locs hY hk hS => ?_)
      obtain ⟨hq_6, hP⟩ := hY
      replace hq_6 := hq_6.symm
      subst hq_6
      refine lv_icmp_ge (tgt := 33) hx hb dX0_barefoot_9 (by decide) (fun c_7 => ?_) (fun c_7 => ?_)
      · rw [if_pos c_7] at h
        refine lv_iload_n hx hb dX0_barefoot_33 rfl (lv_at hl 2 rfl) ?_
        obtain ⟨e1, e2⟩ := gb_eq2 h
        exact W.iret (v := v2) hx hb hr (fun t ht hW => gb_ri ht ⟨e2, by rw [← e1]; exact hP⟩ hS) hS.2.2 dX0_barefoot_34
      · rw [if_neg c_7] at h
        refine lv_iload_n hx hb dX0_barefoot_12 rfl (lv_at hl 2 rfl) ?_
        refine lv_aload_n hx hb dX0_barefoot_13 rfl (lv_at hl 0 rfl) ?_
        refine lv_iload_n hx hb dX0_barefoot_14 rfl (lv_at hl 3 rfl) ?_
        refine lv_aload_n hx hb dX0_barefoot_15 rfl (lv_at hl 0 rfl) ?_
        refine lv_iload_n hx hb dX0_barefoot_16 rfl (lv_at hl 1 rfl) ?_
        obtain ⟨s_8, r_9, z_10, h⟩ := gb_cd_s h
        refine gb_calli (va_runV (C := RX0) (As := [.int v1]) (rest := [.int v3, .ref (b + v0), .int v2]) ⟨hx, hb, hml, hown, hq⟩ (cc_Border_miles_B l D cT tt b1 b hb1 n s_3 v0 v1 s_8 r_9 z_10) (cwV 1 hq (gb_gV w_902 w_622 w_623 w_4 w_624) rfl rfl rfl (by decide +kernel) ⟨Nat.le_of_ble_eq_true rfl, Nat.le_of_ble_eq_true rfl⟩) (gb_preV (r := (RX0, TX0, 1)) (ci := 0) (q0 := v0) hSt hP rfl (gb_at b (gb_cB z_2).1) hS (fun q h => Nat.le_trans hb1 h.1) hP) rfl rfl hl.1 rfl (lv_room (Nat.le_of_ble_eq_true rfl)) dX0_barefoot_17 ⟨Nat.le_of_ble_eq_true rfl, Nat.le_of_ble_eq_true rfl⟩) hS (fun _ h => h) (fun _ h => h) (fun q_11 H locs hY hk hS => ?_)
        obtain ⟨hq_11, hP⟩ := hY
        replace hq_11 := hq_11.symm
        subst hq_11
        refine lv_iconst (v := 0) hx hb dX0_barefoot_20 (by decide) ?_
        refine lv_iconst (v := 0) hx hb dX0_barefoot_21 (by decide) ?_
        obtain ⟨s_12, r_13, z_14, h⟩ := gb_cd_s h
        refine gb_calli (va_runV (C := RX0) (As := [.int v3, .int r_9, .int 0, .int 0]) (rest := [.int v2]) ⟨hx, hb, hml, hown, hq⟩ (cc_Border_marksOver_B l D cT tt b1 b hb1 n s_8 v0 v3 r_9 0 0 s_12 r_13 z_14) (cwV 4 hq (gb_gV w_904 w_630 w_631 w_4 w_632) rfl rfl rfl (by decide +kernel) ⟨Nat.le_of_ble_eq_true rfl, Nat.le_of_ble_eq_true rfl⟩) (gb_preV (r := (RX0, TX0, 1)) (ci := 0) (q0 := v0) hSt hP rfl (gb_at b (gb_cB z_2).1) hS (fun q h => Nat.le_trans hb1 h.1) hP) rfl rfl hl.1 rfl (lv_room (Nat.le_of_ble_eq_true rfl)) dX0_barefoot_22 ⟨Nat.le_of_ble_eq_true rfl, Nat.le_of_ble_eq_true rfl⟩) hS (fun _ h => h) (fun _ h => h) (fun q_15 H locs hY hk hS => ?_)
        obtain ⟨hq_15, hP⟩ := hY
        replace hq_15 := hq_15.symm
        subst hq_15
        refine lv_iadd hx hb dX0_barefoot_25 ?_
        refine lv_topi (fun x_16 ex_16 => ?_)
        replace h := gb_lt_s ex_16 h
        refine lv_istore_n (lv' := [(2, .int x_16), (0, .ref (b + v0)), (1, .int v1), (3, .int v3)]) hx hb dX0_barefoot_26 rfl hl (by decide) rfl (fun ls hl => ?_)
        obtain ⟨x_17, ex_17⟩ : ∃ q, q = (v3 + 1) := ⟨_, rfl⟩
        replace h := gb_lt_s ex_17 h
        refine lv_iinc (v := x_17) (lv' := [(3, .int x_17), (2, .int x_16), (0, .ref (b + v0)), (1, .int v1)]) hx hb dX0_barefoot_27 hl (k := 3) rfl (by rw [ex_17]; rfl) (by decide) rfl (fun ls hl => ?_)
        refine lv_goto (tgt := 4) hx hb dX0_barefoot_30 (by decide) ?_
        exact ih _ _ _ _ _ _ _ _ h hP hS (lv_sub hl [2, 3, 1, 0] rfl)
  unfold cs_Border_barefoot_B at h
  obtain ⟨z_1, h⟩ := gb_kk_s h
  refine lv_iconst (v := 0) hx hb dX0_barefoot_0 (by decide) ?_
  refine lv_istore_n (lv' := [(2, .int 0), (0, .ref (b + k0)), (1, .int p1)]) hx hb dX0_barefoot_1 rfl hl (by decide) rfl (fun ls hl => ?_)
  refine lv_iconst (v := 0) hx hb dX0_barefoot_2 (by decide) ?_
  refine lv_istore_n (lv' := [(3, .int 0), (2, .int 0), (0, .ref (b + k0)), (1, .int p1)]) hx hb dX0_barefoot_3 rfl hl (by decide) rfl (fun ls hl => ?_)
  exact L4_1 n _ _ _ _ _ _ _ _ h hP hS (lv_sub hl [2, 3, 1, 0] rfl)
theorem dX0_milesThatSpare_0 : decode cX0_milesThatSpare 0 = .ok (.iconst 0, 1) := by decide +kernel
theorem dX0_milesThatSpare_1 : decode cX0_milesThatSpare 1 = .ok (.istore_n 3, 1) := by decide +kernel
theorem dX0_milesThatSpare_2 : decode cX0_milesThatSpare 2 = .ok (.iconst 0, 1) := by decide +kernel
theorem dX0_milesThatSpare_3 : decode cX0_milesThatSpare 3 = .ok (.istore 4, 2) := by decide +kernel
theorem dX0_milesThatSpare_5 : decode cX0_milesThatSpare 5 = .ok (.iload 4, 2) := by decide +kernel
theorem dX0_milesThatSpare_7 : decode cX0_milesThatSpare 7 = .ok (.aload_n 0, 1) := by decide +kernel
theorem dX0_milesThatSpare_8 : decode cX0_milesThatSpare 8 = .ok (.invokevirtual 19, 3) := by decide +kernel
theorem dX0_milesThatSpare_11 : decode cX0_milesThatSpare 11 = .ok (.if_icmp .ge 48, 3) := by decide +kernel
theorem dX0_milesThatSpare_59 : decode cX0_milesThatSpare 59 = .ok (.iload_n 3, 1) := by decide +kernel
theorem dX0_milesThatSpare_60 : decode cX0_milesThatSpare 60 = .ok (.ireturn, 1) := by decide +kernel
theorem dX0_milesThatSpare_14 : decode cX0_milesThatSpare 14 = .ok (.aload_n 0, 1) := by decide +kernel
theorem dX0_milesThatSpare_15 : decode cX0_milesThatSpare 15 = .ok (.iload 4, 2) := by decide +kernel
theorem dX0_milesThatSpare_17 : decode cX0_milesThatSpare 17 = .ok (.invokevirtual 58, 3) := by decide +kernel
theorem dX0_milesThatSpare_20 : decode cX0_milesThatSpare 20 = .ok (.iconst 2, 1) := by decide +kernel
theorem dX0_milesThatSpare_21 : decode cX0_milesThatSpare 21 = .ok (.isub, 1) := by decide +kernel
theorem dX0_milesThatSpare_22 : decode cX0_milesThatSpare 22 = .ok (.aload_n 0, 1) := by decide +kernel
theorem dX0_milesThatSpare_23 : decode cX0_milesThatSpare 23 = .ok (.iload 4, 2) := by decide +kernel
theorem dX0_milesThatSpare_25 : decode cX0_milesThatSpare 25 = .ok (.invokevirtual 61, 3) := by decide +kernel
theorem dX0_milesThatSpare_28 : decode cX0_milesThatSpare 28 = .ok (.ifCond .eq 7, 3) := by decide +kernel
theorem dX0_milesThatSpare_35 : decode cX0_milesThatSpare 35 = .ok (.iconst 1, 1) := by decide +kernel
theorem dX0_milesThatSpare_36 : decode cX0_milesThatSpare 36 = .ok (.imul, 1) := by decide +kernel
theorem dX0_milesThatSpare_37 : decode cX0_milesThatSpare 37 = .ok (.istore 5, 2) := by decide +kernel
theorem dX0_milesThatSpare_39 : decode cX0_milesThatSpare 39 = .ok (.iload 5, 2) := by decide +kernel
theorem dX0_milesThatSpare_41 : decode cX0_milesThatSpare 41 = .ok (.iload_n 2, 1) := by decide +kernel
theorem dX0_milesThatSpare_42 : decode cX0_milesThatSpare 42 = .ok (.if_icmp .ne 11, 3) := by decide +kernel
theorem dX0_milesThatSpare_53 : decode cX0_milesThatSpare 53 = .ok (.iinc 4 1, 3) := by decide +kernel
theorem dX0_milesThatSpare_56 : decode cX0_milesThatSpare 56 = .ok (.goto (-51), 3) := by decide +kernel
theorem dX0_milesThatSpare_45 : decode cX0_milesThatSpare 45 = .ok (.iload_n 3, 1) := by decide +kernel
theorem dX0_milesThatSpare_46 : decode cX0_milesThatSpare 46 = .ok (.aload_n 0, 1) := by decide +kernel
theorem dX0_milesThatSpare_47 : decode cX0_milesThatSpare 47 = .ok (.iload_n 1, 1) := by decide +kernel
theorem dX0_milesThatSpare_48 : decode cX0_milesThatSpare 48 = .ok (.invokevirtual 42, 3) := by decide +kernel
theorem dX0_milesThatSpare_51 : decode cX0_milesThatSpare 51 = .ok (.iadd, 1) := by decide +kernel
theorem dX0_milesThatSpare_52 : decode cX0_milesThatSpare 52 = .ok (.istore_n 3, 1) := by decide +kernel
theorem dX0_milesThatSpare_31 : decode cX0_milesThatSpare 31 = .ok (.iconst 2, 1) := by decide +kernel
theorem dX0_milesThatSpare_32 : decode cX0_milesThatSpare 32 = .ok (.goto 4, 3) := by decide +kernel
def cs_Border_milesThatSpare_B_5 (n : Nat) : Nat → gb_S → Nat → Int32 → Int32 → Int32 → Int32 → gb_CR Int32
  | 0, _, _, _, _, _, _ => none
  | mm + 1, σ, v0, v1, v2, v3, v4 => gb_kk (gb_kB v0) (gb_cd (cs_Border_geese_B n σ v0) (fun s_3 r_4 => (if r_4 ≤ v4 then some (s_3, v3) else gb_cd (cs_Border_toes_B n s_3 v0 v4) (fun s_8 r_9 => gb_cd (cs_Border_limps_B n s_8 v0 v4) (fun s_12 r_13 => (if r_13 = 0 then gb_lt ((r_9 - 2) * 1) (fun x_17 => (if x_17 = v2 then gb_cd (cs_Border_miles_B n s_12 v0 v1) (fun s_20 r_21 => gb_lt (v3 + r_21) (fun x_24 => gb_lt (v4 + 1) (fun x_25 => cs_Border_milesThatSpare_B_5 n mm s_20 v0 v1 v2 x_24 x_25))) else gb_lt (v4 + 1) (fun x_19 => cs_Border_milesThatSpare_B_5 n mm s_12 v0 v1 v2 v3 x_19))) else gb_lt ((r_9 - 2) * 2) (fun x_26 => (if x_26 = v2 then gb_cd (cs_Border_miles_B n s_12 v0 v1) (fun s_29 r_30 => gb_lt (v3 + r_30) (fun x_33 => gb_lt (v4 + 1) (fun x_34 => cs_Border_milesThatSpare_B_5 n mm s_29 v0 v1 v2 x_33 x_34))) else gb_lt (v4 + 1) (fun x_28 => cs_Border_milesThatSpare_B_5 n mm s_12 v0 v1 v2 v3 x_28)))))))))
def cs_Border_milesThatSpare_B (n : Nat) (σ : gb_S) (k0 : Nat) (p1 : Int32) (p2 : Int32) : gb_CR Int32 := gb_kk (gb_kB k0) (cs_Border_milesThatSpare_B_5 n n σ k0 p1 p2 0 0)
set_option maxHeartbeats 8000000 in
set_option maxRecDepth 100000 in
theorem cc_Border_milesThatSpare_B (l : Launch) (D : va_G) (cT : Nat → ClassId) (tt : Nat → Nat) (b1 b : Nat) (hb1 : b1 ≤ b) (n : Nat) (σ : gb_S) (k0 : Nat) (p1 : Int32) (p2 : Int32) (σE : gb_S) (rE : Int32) (h : cs_Border_milesThatSpare_B n σ k0 p1 p2 = some (σE, rE)) : Met l yX0_milesThatSpare (.code yX0_milesThatSpare cX0_milesThatSpare 6 (some FieldType.int) :: gb_wA) ({ frames := 1, cells := 0, slots := 0, locals := 22 }) (gb_Pc D cT tt b1 [.ref (b + k0), .int p1, .int p2] (fun h => va_P D vwCl (gb_wl b (gb_CW cT b σ)) h)) (gb_Qi (fun r h => r = rE ∧ va_P D vwCl (gb_wl b (gb_CW cT b σE)) h) (gb_fr b 135)) 0 0 (gb_fr b 135) := by
  refine Met.ofW (cc := cX0_milesThatSpare) (maxL := 6) (ret := (some FieldType.int)) (by decide) rfl ?_
  intro p e s m args below meth c s₁ B hml hv
  obtain ⟨rfl, hSt, hP⟩ := hv
  have hx := B.exec
  have hb := B.bytes
  have hr := B.returns
  have hts := atoms_spec (ws := .code yX0_milesThatSpare cX0_milesThatSpare 6 (some FieldType.int) :: gb_wA) B.pre
  have hq : ∀ w ∈ gb_wA, w.before _ s = true := fun w h => hts w (List.mem_cons_of_mem _ h)
  have hown : s.vm.findClass RX0 = some m.cls := findClass_of_methodNamed B.named
  have hlocks := B.notSynchronized
  clear B hts
  have hK := hSt.1
  have hS : va_S (gb_fr b 135) s.heap s.heap [] := va_S.rf
  have hl := lv_entry ([.ref (b + k0), .int p1, .int p2]) (n := 6) (Nat.le_of_ble_eq_true rfl)
  rw [lg_entry_eq]
  generalize (lg_sl ([.ref (b + k0), .int p1, .int p2]) ++ List.replicate (6 - (lg_sl ([.ref (b + k0), .int p1, .int p2])).length) Slot.unset).toArray = ls at hl ⊢
  replace hl : lv_has ls 6 [(0, .ref (b + k0)), (1, .int p1), (2, .int p2)] := hl
  have L5_1 : ∀ (mm : Nat) (σ : gb_S) (v0 : Nat) (v1 : Int32) (v2 : Int32) (v3 : Int32) (v4 : Int32) (H : Heap) (locs : List Loc) (ls : Array Slot), cs_Border_milesThatSpare_B_5 n mm σ v0 v1 v2 v3 v4 = some (σE, rE) → va_P D vwCl (gb_wl b (gb_CW cT b σ)) H → va_S (gb_fr b 135) s.heap H locs → lv_has ls 6 [(0, .ref (b + v0)), (1, .int v1), (2, .int v2), (3, .int v3), (4, .int v4)] → W p l e (headSpec (.code yX0_milesThatSpare cX0_milesThatSpare 6 (some FieldType.int) :: gb_wA) ({ frames := 1, cells := 0, slots := 0, locals := 22 })).room s m ([.ref (b + k0), .int p1, .int p2]).toArray below meth c H locs 0 0 (MQ below (gb_Qi (fun r h => r = rE ∧ va_P D vwCl (gb_wl b (gb_CW cT b σE)) h) (gb_fr b 135)) ([.ref (b + k0), .int p1, .int p2]).toArray s 0 0 (gb_fr b 135)) (F0 m 5 ls []) := by
    clear h hP hS hl ls
    intro mm
    induction mm with
    | zero =>
      intro σ v0 v1 v2 v3 v4 H locs ls h
      cases h
    | succ mm ih =>
      intro σ v0 v1 v2 v3 v4 H locs ls h hP hS hl
      rw [cs_Border_milesThatSpare_B_5] at h
      obtain ⟨z_2, h⟩ := gb_kk_s h
      refine lv_iload hx hb dX0_milesThatSpare_5 (lv_at hl 4 rfl) ?_
      refine lv_aload_n hx hb dX0_milesThatSpare_7 rfl (lv_at hl 0 rfl) ?_
      obtain ⟨s_3, r_4, z_5, h⟩ := gb_cd_s h
      refine gb_calli (va_runV (C := RX0) (As := []) (rest := [.int v4]) ⟨hx, hb, hml, hown, hq⟩ (cc_Border_geese_B l D cT tt b1 b hb1 n σ v0 s_3 r_4 z_5) (cwV 0 hq (gb_gV w_476 w_477 w_478 w_4 w_479) rfl rfl rfl (by decide +kernel) ⟨Nat.le_of_ble_eq_true rfl, Nat.le_of_ble_eq_true rfl⟩) (gb_preV (r := (RX0, TX0, 1)) (ci := 0) (q0 := v0) hSt hP rfl (gb_at b (gb_cB z_2).1) hS (fun q h => Nat.le_trans hb1 h.1) hP) rfl rfl hl.1 rfl (lv_room (Nat.le_of_ble_eq_true rfl)) dX0_milesThatSpare_8 ⟨Nat.le_of_ble_eq_true rfl, Nat.le_of_ble_eq_true rfl⟩) hS (fun _ h => h) (fun _ h => h) (fun q_6 H locs hY hk hS => ?_)
      obtain ⟨hq_6, hP⟩ := hY
      replace hq_6 := hq_6.symm
      subst hq_6
      refine lv_icmp_ge (tgt := 59) hx hb dX0_milesThatSpare_11 (by decide) (fun c_7 => ?_) (fun c_7 => ?_)
      · rw [if_pos c_7] at h
        refine lv_iload_n hx hb dX0_milesThatSpare_59 rfl (lv_at hl 3 rfl) ?_
        obtain ⟨e1, e2⟩ := gb_eq2 h
        exact W.iret (v := v3) hx hb hr (fun t ht hW => gb_ri ht ⟨e2, by rw [← e1]; exact hP⟩ hS) hS.2.2 dX0_milesThatSpare_60
      · rw [if_neg c_7] at h
        refine lv_aload_n hx hb dX0_milesThatSpare_14 rfl (lv_at hl 0 rfl) ?_
        refine lv_iload hx hb dX0_milesThatSpare_15 (lv_at hl 4 rfl) ?_
        obtain ⟨s_8, r_9, z_10, h⟩ := gb_cd_s h
        refine gb_calli (va_runV (C := RX0) (As := [.int v4]) (rest := []) ⟨hx, hb, hml, hown, hq⟩ (cc_Border_toes_B l D cT tt b1 b hb1 n s_3 v0 v4 s_8 r_9 z_10) (cwV 1 hq (gb_gV w_634 w_635 w_636 w_4 w_637) rfl rfl rfl (by decide +kernel) ⟨Nat.le_of_ble_eq_true rfl, Nat.le_of_ble_eq_true rfl⟩) (gb_preV (r := (RX0, TX0, 1)) (ci := 0) (q0 := v0) hSt hP rfl (gb_at b (gb_cB z_2).1) hS (fun q h => Nat.le_trans hb1 h.1) hP) rfl rfl hl.1 rfl (lv_room (Nat.le_of_ble_eq_true rfl)) dX0_milesThatSpare_17 ⟨Nat.le_of_ble_eq_true rfl, Nat.le_of_ble_eq_true rfl⟩) hS (fun _ h => h) (fun _ h => h) (fun q_11 H locs hY hk hS => ?_)
        obtain ⟨hq_11, hP⟩ := hY
        replace hq_11 := hq_11.symm
        subst hq_11
        refine lv_iconst (v := 2) hx hb dX0_milesThatSpare_20 (by decide) ?_
        refine lv_isub hx hb dX0_milesThatSpare_21 ?_
        refine lv_aload_n hx hb dX0_milesThatSpare_22 rfl (lv_at hl 0 rfl) ?_
        refine lv_iload hx hb dX0_milesThatSpare_23 (lv_at hl 4 rfl) ?_
        obtain ⟨s_12, r_13, z_14, h⟩ := gb_cd_s h
        refine gb_calli (va_runV (C := RX0) (As := [.int v4]) (rest := [.int (r_9 - 2)]) ⟨hx, hb, hml, hown, hq⟩ (cc_Border_limps_B l D cT tt b1 b hb1 n s_8 v0 v4 s_12 r_13 z_14) (cwV 1 hq (gb_gV w_638 w_639 w_640 w_4 w_641) rfl rfl rfl (by decide +kernel) ⟨Nat.le_of_ble_eq_true rfl, Nat.le_of_ble_eq_true rfl⟩) (gb_preV (r := (RX0, TX0, 1)) (ci := 0) (q0 := v0) hSt hP rfl (gb_at b (gb_cB z_2).1) hS (fun q h => Nat.le_trans hb1 h.1) hP) rfl rfl hl.1 rfl (lv_room (Nat.le_of_ble_eq_true rfl)) dX0_milesThatSpare_25 ⟨Nat.le_of_ble_eq_true rfl, Nat.le_of_ble_eq_true rfl⟩) hS (fun _ h => h) (fun _ h => h) (fun q_15 H locs hY hk hS => ?_)
        obtain ⟨hq_15, hP⟩ := hY
        replace hq_15 := hq_15.symm
        subst hq_15
        refine lv_if_eq (tgt := 35) hx hb dX0_milesThatSpare_28 (by decide) (fun c_16 => ?_) (fun c_16 => ?_)
        · rw [if_pos c_16] at h
          refine lv_iconst (v := 1) hx hb dX0_milesThatSpare_35 (by decide) ?_
          refine lv_imul hx hb dX0_milesThatSpare_36 ?_
          refine lv_topi (fun x_17 ex_17 => ?_)
          replace h := gb_lt_s ex_17 h
          refine lv_istore (lv' := [(5, .int x_17), (0, .ref (b + v0)), (1, .int v1), (2, .int v2), (3, .int v3), (4, .int v4)]) hx hb dX0_milesThatSpare_37 hl (by decide) rfl (fun ls hl => ?_)
          refine lv_iload hx hb dX0_milesThatSpare_39 (lv_at hl 0 rfl) ?_
          refine lv_iload_n hx hb dX0_milesThatSpare_41 rfl (lv_at hl 3 rfl) ?_
          refine lv_icmp_ne (tgt := 53) hx hb dX0_milesThatSpare_42 (by decide) (fun c_18 => ?_) (fun c_18 => ?_)
          · rw [if_neg c_18] at h
            obtain ⟨x_19, ex_19⟩ : ∃ q, q = (v4 + 1) := ⟨_, rfl⟩
            replace h := gb_lt_s ex_19 h
            refine lv_iinc (v := x_19) (lv' := [(4, .int x_19), (5, .int x_17), (0, .ref (b + v0)), (1, .int v1), (2, .int v2), (3, .int v3)]) hx hb dX0_milesThatSpare_53 hl (k := 5) rfl (by rw [ex_19]; rfl) (by decide) rfl (fun ls hl => ?_)
            refine lv_goto (tgt := 5) hx hb dX0_milesThatSpare_56 (by decide) ?_
            exact ih _ _ _ _ _ _ _ _ _ h hP hS (lv_sub hl [2, 3, 4, 5, 0] rfl)
          · rw [if_pos c_18] at h
            refine lv_iload_n hx hb dX0_milesThatSpare_45 rfl (lv_at hl 4 rfl) ?_
            refine lv_aload_n hx hb dX0_milesThatSpare_46 rfl (lv_at hl 1 rfl) ?_
            refine lv_iload_n hx hb dX0_milesThatSpare_47 rfl (lv_at hl 2 rfl) ?_
            obtain ⟨s_20, r_21, z_22, h⟩ := gb_cd_s h
            refine gb_calli (va_runV (C := RX0) (As := [.int v1]) (rest := [.int v3]) ⟨hx, hb, hml, hown, hq⟩ (cc_Border_miles_B l D cT tt b1 b hb1 n s_12 v0 v1 s_20 r_21 z_22) (cwV 1 hq (gb_gV w_902 w_622 w_623 w_4 w_624) rfl rfl rfl (by decide +kernel) ⟨Nat.le_of_ble_eq_true rfl, Nat.le_of_ble_eq_true rfl⟩) (gb_preV (r := (RX0, TX0, 1)) (ci := 0) (q0 := v0) hSt hP rfl (gb_at b (gb_cB z_2).1) hS (fun q h => Nat.le_trans hb1 h.1) hP) rfl rfl hl.1 rfl (lv_room (Nat.le_of_ble_eq_true rfl)) dX0_milesThatSpare_48 ⟨Nat.le_of_ble_eq_true rfl, Nat.le_of_ble_eq_true rfl⟩) hS (fun _ h => h) (fun _ h => h) (fun q_23 H locs hY hk hS => ?_)
            obtain ⟨hq_23, hP⟩ := hY
            replace hq_23 := hq_23.symm
            subst hq_23
            refine lv_iadd hx hb dX0_milesThatSpare_51 ?_
            refine lv_topi (fun x_24 ex_24 => ?_)
            replace h := gb_lt_s ex_24 h
            refine lv_istore_n (lv' := [(3, .int x_24), (5, .int x_17), (0, .ref (b + v0)), (1, .int v1), (2, .int v2), (4, .int v4)]) hx hb dX0_milesThatSpare_52 rfl hl (by decide) rfl (fun ls hl => ?_)
            obtain ⟨x_25, ex_25⟩ : ∃ q, q = (v4 + 1) := ⟨_, rfl⟩
            replace h := gb_lt_s ex_25 h
            refine lv_iinc (v := x_25) (lv' := [(4, .int x_25), (3, .int x_24), (5, .int x_17), (0, .ref (b + v0)), (1, .int v1), (2, .int v2)]) hx hb dX0_milesThatSpare_53 hl (k := 5) rfl (by rw [ex_25]; rfl) (by decide) rfl (fun ls hl => ?_)
            refine lv_goto (tgt := 5) hx hb dX0_milesThatSpare_56 (by decide) ?_
            exact ih _ _ _ _ _ _ _ _ _ h hP hS (lv_sub hl [3, 4, 5, 1, 0] rfl)
        · rw [if_neg c_16] at h
          refine lv_iconst (v := 2) hx hb dX0_milesThatSpare_31 (by decide) ?_
          refine lv_goto (tgt := 36) hx hb dX0_milesThatSpare_32 (by decide) ?_
          refine lv_imul hx hb dX0_milesThatSpare_36 ?_
          refine lv_topi (fun x_26 ex_26 => ?_)
          replace h := gb_lt_s ex_26 h
          refine lv_istore (lv' := [(5, .int x_26), (0, .ref (b + v0)), (1, .int v1), (2, .int v2), (3, .int v3), (4, .int v4)]) hx hb dX0_milesThatSpare_37 hl (by decide) rfl (fun ls hl => ?_)
          refine lv_iload hx hb dX0_milesThatSpare_39 (lv_at hl 0 rfl) ?_
          refine lv_iload_n hx hb dX0_milesThatSpare_41 rfl (lv_at hl 3 rfl) ?_
          refine lv_icmp_ne (tgt := 53) hx hb dX0_milesThatSpare_42 (by decide) (fun c_27 => ?_) (fun c_27 => ?_)
          · rw [if_neg c_27] at h
            obtain ⟨x_28, ex_28⟩ : ∃ q, q = (v4 + 1) := ⟨_, rfl⟩
            replace h := gb_lt_s ex_28 h
            refine lv_iinc (v := x_28) (lv' := [(4, .int x_28), (5, .int x_26), (0, .ref (b + v0)), (1, .int v1), (2, .int v2), (3, .int v3)]) hx hb dX0_milesThatSpare_53 hl (k := 5) rfl (by rw [ex_28]; rfl) (by decide) rfl (fun ls hl => ?_)
            refine lv_goto (tgt := 5) hx hb dX0_milesThatSpare_56 (by decide) ?_
            exact ih _ _ _ _ _ _ _ _ _ h hP hS (lv_sub hl [2, 3, 4, 5, 0] rfl)
          · rw [if_pos c_27] at h
            refine lv_iload_n hx hb dX0_milesThatSpare_45 rfl (lv_at hl 4 rfl) ?_
            refine lv_aload_n hx hb dX0_milesThatSpare_46 rfl (lv_at hl 1 rfl) ?_
            refine lv_iload_n hx hb dX0_milesThatSpare_47 rfl (lv_at hl 2 rfl) ?_
            obtain ⟨s_29, r_30, z_31, h⟩ := gb_cd_s h
            refine gb_calli (va_runV (C := RX0) (As := [.int v1]) (rest := [.int v3]) ⟨hx, hb, hml, hown, hq⟩ (cc_Border_miles_B l D cT tt b1 b hb1 n s_12 v0 v1 s_29 r_30 z_31) (cwV 1 hq (gb_gV w_902 w_622 w_623 w_4 w_624) rfl rfl rfl (by decide +kernel) ⟨Nat.le_of_ble_eq_true rfl, Nat.le_of_ble_eq_true rfl⟩) (gb_preV (r := (RX0, TX0, 1)) (ci := 0) (q0 := v0) hSt hP rfl (gb_at b (gb_cB z_2).1) hS (fun q h => Nat.le_trans hb1 h.1) hP) rfl rfl hl.1 rfl (lv_room (Nat.le_of_ble_eq_true rfl)) dX0_milesThatSpare_48 ⟨Nat.le_of_ble_eq_true rfl, Nat.le_of_ble_eq_true rfl⟩) hS (fun _ h => h) (fun _ h => h) (fun q_32 H locs hY hk hS => ?_)
            obtain ⟨hq_32, hP⟩ := hY
            replace hq_32 := hq_32.symm
            subst hq_32
            refine lv_iadd hx hb dX0_milesThatSpare_51 ?_
            refine lv_topi (fun x_33 ex_33 => ?_)
            replace h := gb_lt_s ex_33 h
            refine lv_istore_n (lv' := [(3, .int x_33), (5, .int x_26), (0, .ref (b + v0)), (1, .int v1), (2, .int v2), (4, .int v4)]) hx hb dX0_milesThatSpare_52 rfl hl (by decide) rfl (fun ls hl => ?_)
            obtain ⟨x_34, ex_34⟩ : ∃ q, q = (v4 + 1) := ⟨_, rfl⟩
            replace h := gb_lt_s ex_34 h
            refine lv_iinc (v := x_34) (lv' := [(4, .int x_34), (3, .int x_33), (5, .int x_26), (0, .ref (b + v0)), (1, .int v1), (2, .int v2)]) hx hb dX0_milesThatSpare_53 hl (k := 5) rfl (by rw [ex_34]; rfl) (by decide) rfl (fun ls hl => ?_)
            refine lv_goto (tgt := 5) hx hb dX0_milesThatSpare_56 (by decide) ?_
            exact ih _ _ _ _ _ _ _ _ _ h hP hS (lv_sub hl [3, 4, 5, 1, 0] rfl)
  unfold cs_Border_milesThatSpare_B at h
  obtain ⟨z_1, h⟩ := gb_kk_s h
  refine lv_iconst (v := 0) hx hb dX0_milesThatSpare_0 (by decide) ?_
  refine lv_istore_n (lv' := [(3, .int 0), (0, .ref (b + k0)), (1, .int p1), (2, .int p2)]) hx hb dX0_milesThatSpare_1 rfl hl (by decide) rfl (fun ls hl => ?_)
  refine lv_iconst (v := 0) hx hb dX0_milesThatSpare_2 (by decide) ?_
  refine lv_istore (lv' := [(4, .int 0), (3, .int 0), (0, .ref (b + k0)), (1, .int p1), (2, .int p2)]) hx hb dX0_milesThatSpare_3 hl (by decide) rfl (fun ls hl => ?_)
  exact L5_1 n _ _ _ _ _ _ _ _ _ h hP hS (lv_sub hl [2, 3, 4, 1, 0] rfl)
theorem dX11_borderAt_0 : decode cX11_borderAt 0 = .ok (.iload_n 1, 1) := by decide +kernel
theorem dX11_borderAt_1 : decode cX11_borderAt 1 = .ok (.ifCond .lt 28, 3) := by decide +kernel
theorem dX11_borderAt_29 : decode cX11_borderAt 29 = .ok (.aconst_null, 1) := by decide +kernel
theorem dX11_borderAt_30 : decode cX11_borderAt 30 = .ok (.areturn, 1) := by decide +kernel
theorem dX11_borderAt_4 : decode cX11_borderAt 4 = .ok (.iload_n 1, 1) := by decide +kernel
theorem dX11_borderAt_5 : decode cX11_borderAt 5 = .ok (.aload_n 0, 1) := by decide +kernel
theorem dX11_borderAt_6 : decode cX11_borderAt 6 = .ok (.getfield 12, 3) := by decide +kernel
theorem dX11_borderAt_9 : decode cX11_borderAt 9 = .ok (.getfield 88, 3) := by decide +kernel
theorem w_121 : (Cond.fieldLink "GooseBorder" (88 : Nat) "GooseBorder$Told" "held" "[I") ∈ gb_wA := gb_t1 121 rfl rfl
theorem dX11_borderAt_12 : decode cX11_borderAt 12 = .ok (.iconst 0, 1) := by decide +kernel
theorem dX11_borderAt_13 : decode cX11_borderAt 13 = .ok (.iaload, 1) := by decide +kernel
theorem dX11_borderAt_14 : decode cX11_borderAt 14 = .ok (.if_icmp .ge 15, 3) := by decide +kernel
theorem dX11_borderAt_17 : decode cX11_borderAt 17 = .ok (.aload_n 0, 1) := by decide +kernel
theorem dX11_borderAt_18 : decode cX11_borderAt 18 = .ok (.getfield 12, 3) := by decide +kernel
theorem dX11_borderAt_21 : decode cX11_borderAt 21 = .ok (.getfield 179, 3) := by decide +kernel
theorem w_113 : (Cond.fieldLink "GooseBorder" (179 : Nat) "GooseBorder$Told" "borders" "[LGooseBorder$Border;") ∈ gb_wA := gb_t1 113 rfl rfl
theorem dX11_borderAt_24 : decode cX11_borderAt 24 = .ok (.iload_n 1, 1) := by decide +kernel
theorem dX11_borderAt_25 : decode cX11_borderAt 25 = .ok (.aaload, 1) := by decide +kernel
theorem dX11_borderAt_26 : decode cX11_borderAt 26 = .ok (.goto 4, 3) := by decide +kernel
def cs_Face_borderAt (n : Nat) (σ : gb_S) (p1 : Int32) : gb_CR Nat := (if p1 < 0 then some (σ, 0) else gb_lt ((σ.1 22) (Int32.toNatClampNeg 0)) (fun x_2 => (if x_2 ≤ p1 then some (σ, 0) else gb_ck p1 2 (gb_lt (([3, 5] : List Nat).getD (Int32.toNatClampNeg p1) 0) (fun a_5 => gb_kk (gb_kB a_5) (some (σ, a_5)))))))
set_option maxHeartbeats 8000000 in
set_option maxRecDepth 100000 in
theorem cc_Face_borderAt (l : Launch) (D : va_G) (cT : Nat → ClassId) (tt : Nat → Nat) (b1 b : Nat) (hb1 : b1 ≤ b) (n : Nat) (σ : gb_S) (p1 : Int32) (σE : gb_S) (rE : Nat) (h : cs_Face_borderAt n σ p1 = some (σE, rE)) : Met l yX11_borderAt (.code yX11_borderAt cX11_borderAt 2 (some (FieldType.object "GooseBorder$Border")) :: gb_wA) ({ frames := 0, cells := 0, slots := 0, locals := 0 }) (gb_Pc D cT tt b1 [.ref (b + 0), .int p1] (fun h => va_P D vwCl (gb_wl b (gb_CW cT b σ)) h)) (gb_Qq (fun r h => r = gb_on b rE ∧ va_P D vwCl (gb_wl b (gb_CW cT b σE)) h) (gb_fr b 135)) 0 0 (gb_fr b 135) := by
  refine Met.ofW (cc := cX11_borderAt) (maxL := 2) (ret := (some (FieldType.object "GooseBorder$Border"))) (by decide) rfl ?_
  intro p e s m args below meth c s₁ B hml hv
  obtain ⟨rfl, hSt, hP⟩ := hv
  have hx := B.exec
  have hb := B.bytes
  have hr := B.returns
  have hts := atoms_spec (ws := .code yX11_borderAt cX11_borderAt 2 (some (FieldType.object "GooseBorder$Border")) :: gb_wA) B.pre
  have hq : ∀ w ∈ gb_wA, w.before _ s = true := fun w h => hts w (List.mem_cons_of_mem _ h)
  have hown : s.vm.findClass RX11 = some m.cls := findClass_of_methodNamed B.named
  have hlocks := B.notSynchronized
  clear B hts
  have hK := hSt.1
  have hS : va_S (gb_fr b 135) s.heap s.heap [] := va_S.rf
  have hl := lv_entry ([.ref (b + 0), .int p1]) (n := 2) (Nat.le_of_ble_eq_true rfl)
  rw [lg_entry_eq]
  generalize (lg_sl ([.ref (b + 0), .int p1]) ++ List.replicate (2 - (lg_sl ([.ref (b + 0), .int p1])).length) Slot.unset).toArray = ls at hl ⊢
  replace hl : lv_has ls 2 [(0, .ref (b + 0)), (1, .int p1)] := hl
  unfold cs_Face_borderAt at h
  refine lv_iload_n hx hb dX11_borderAt_0 rfl (lv_at hl 1 rfl) ?_
  refine lv_if_lt (tgt := 29) hx hb dX11_borderAt_1 (by decide) (fun c_1 => ?_) (fun c_1 => ?_)
  · rw [if_pos c_1] at h
    refine lv_null hx hb dX11_borderAt_29 ?_
    obtain ⟨e1, e2⟩ := gb_eq2 h
    exact W.aret (v := .null) hx hb hr (Or.inl ⟨_, rfl⟩) (Or.inl rfl) (fun t ht hW => gb_rq none ht ⟨by rw [← e2]; rfl, by rw [← e1]; exact hP⟩ hS) hS.2.2 dX11_borderAt_30
  · rw [if_neg c_1] at h
    refine lv_iload_n hx hb dX11_borderAt_4 rfl (lv_at hl 1 rfl) ?_
    refine lv_aload_n hx hb dX11_borderAt_5 rfl (lv_at hl 0 rfl) ?_
    refine va_get (ci := 9) (v := (.ref (b + 1))) (C := RX11) (T := TX11) (N := 10) hx hb hq i_X11 hown hK hP 0 (gb_at b rfl) rfl 0 (by decide) (hq _ w_315) (fun _ h9 => h9) rfl dX11_borderAt_6 ?_
    refine va_get (ci := 8) (v := (.ref (b + 22))) (C := RX10) (T := TX10) (N := 9) hx hb hq i_X10 hown hK hP 1 (gb_at b rfl) rfl 4 (by decide) (hq _ w_121) (fun _ h9 => h9) rfl dX11_borderAt_9 ?_
    refine lv_iconst (v := 0) hx hb dX11_borderAt_12 (by decide) ?_
    refine va_iald hx hb hK hP 22 0 (gb_at b rfl) rfl (gb_in rfl) dX11_borderAt_13 ?_
    refine lv_topi (fun x_2 ex_2 => ?_)
    replace h := gb_lt_s ex_2 h
    refine lv_icmp_ge (tgt := 29) hx hb dX11_borderAt_14 (by decide) (fun c_3 => ?_) (fun c_3 => ?_)
    · rw [if_pos c_3] at h
      refine lv_null hx hb dX11_borderAt_29 ?_
      obtain ⟨e1, e2⟩ := gb_eq2 h
      exact W.aret (v := .null) hx hb hr (Or.inl ⟨_, rfl⟩) (Or.inl rfl) (fun t ht hW => gb_rq none ht ⟨by rw [← e2]; rfl, by rw [← e1]; exact hP⟩ hS) hS.2.2 dX11_borderAt_30
    · rw [if_neg c_3] at h
      refine lv_aload_n hx hb dX11_borderAt_17 rfl (lv_at hl 0 rfl) ?_
      refine va_get (ci := 9) (v := (.ref (b + 1))) (C := RX11) (T := TX11) (N := 10) hx hb hq i_X11 hown hK hP 0 (gb_at b rfl) rfl 0 (by decide) (hq _ w_315) (fun _ h9 => h9) rfl dX11_borderAt_18 ?_
      refine va_get (ci := 8) (v := (.ref (b + 2))) (C := RX10) (T := TX10) (N := 9) hx hb hq i_X10 hown hK hP 1 (gb_at b rfl) rfl 0 (by decide) (hq _ w_113) (fun _ h9 => h9) rfl dX11_borderAt_21 ?_
      refine lv_iload_n hx hb dX11_borderAt_24 rfl (lv_at hl 1 rfl) ?_
      obtain ⟨z_4, h⟩ := gb_ck_s h
      refine gb_aald (v := .ref (b + (([3, 5] : List Nat).getD (Int32.toNatClampNeg p1) 0))) hx hb hK hP 2 4 (gb_at b rfl) rfl z_4 (gb_ra_at (L := ([3, 5] : List Nat)) z_4) dX11_borderAt_25 ?_
      obtain ⟨a_5, ea_5⟩ : ∃ q, q = (([3, 5] : List Nat).getD (Int32.toNatClampNeg p1) 0) := ⟨_, rfl⟩
      rw [← ea_5]
      replace h := gb_lt_s ea_5 h
      obtain ⟨z_6, h⟩ := gb_kk_s h
      refine lv_goto (tgt := 30) hx hb dX11_borderAt_26 (by decide) ?_
      obtain ⟨e1, e2⟩ := gb_eq2 h
      exact W.aret (v := (.ref (b + a_5))) hx hb hr (Or.inl ⟨_, rfl⟩) (Or.inr ⟨_, rfl⟩) (fun t ht hW => gb_rq (some (b + a_5)) ht ⟨by rw [← e2]; exact (gb_on1 (gb_nzB z_6)), by rw [← e1]; exact hP⟩ hS) hS.2.2 dX11_borderAt_30
theorem dX11_nightAt_0 : decode cX11_nightAt 0 = .ok (.iload_n 1, 1) := by decide +kernel
theorem dX11_nightAt_1 : decode cX11_nightAt 1 = .ok (.ifCond .lt 28, 3) := by decide +kernel
theorem dX11_nightAt_29 : decode cX11_nightAt 29 = .ok (.aconst_null, 1) := by decide +kernel
theorem dX11_nightAt_30 : decode cX11_nightAt 30 = .ok (.areturn, 1) := by decide +kernel
theorem dX11_nightAt_4 : decode cX11_nightAt 4 = .ok (.iload_n 1, 1) := by decide +kernel
theorem dX11_nightAt_5 : decode cX11_nightAt 5 = .ok (.aload_n 0, 1) := by decide +kernel
theorem dX11_nightAt_6 : decode cX11_nightAt 6 = .ok (.getfield 12, 3) := by decide +kernel
theorem dX11_nightAt_9 : decode cX11_nightAt 9 = .ok (.getfield 88, 3) := by decide +kernel
theorem dX11_nightAt_12 : decode cX11_nightAt 12 = .ok (.iconst 1, 1) := by decide +kernel
theorem dX11_nightAt_13 : decode cX11_nightAt 13 = .ok (.iaload, 1) := by decide +kernel
theorem dX11_nightAt_14 : decode cX11_nightAt 14 = .ok (.if_icmp .ge 15, 3) := by decide +kernel
theorem dX11_nightAt_17 : decode cX11_nightAt 17 = .ok (.aload_n 0, 1) := by decide +kernel
theorem dX11_nightAt_18 : decode cX11_nightAt 18 = .ok (.getfield 12, 3) := by decide +kernel
theorem dX11_nightAt_21 : decode cX11_nightAt 21 = .ok (.getfield 183, 3) := by decide +kernel
theorem w_115 : (Cond.fieldLink "GooseBorder" (183 : Nat) "GooseBorder$Told" "nights" "[LGooseBorder$Night;") ∈ gb_wA := gb_t1 115 rfl rfl
theorem dX11_nightAt_24 : decode cX11_nightAt 24 = .ok (.iload_n 1, 1) := by decide +kernel
theorem dX11_nightAt_25 : decode cX11_nightAt 25 = .ok (.aaload, 1) := by decide +kernel
theorem dX11_nightAt_26 : decode cX11_nightAt 26 = .ok (.goto 4, 3) := by decide +kernel
def cs_Face_nightAt (n : Nat) (σ : gb_S) (p1 : Int32) : gb_CR Nat := (if p1 < 0 then some (σ, 0) else gb_lt ((σ.1 22) (Int32.toNatClampNeg 1)) (fun x_2 => (if x_2 ≤ p1 then some (σ, 0) else gb_ck p1 2 (gb_lt (([8, 10] : List Nat).getD (Int32.toNatClampNeg p1) 0) (fun a_5 => gb_kk (gb_kN a_5) (some (σ, a_5)))))))
set_option maxHeartbeats 8000000 in
set_option maxRecDepth 100000 in
theorem cc_Face_nightAt (l : Launch) (D : va_G) (cT : Nat → ClassId) (tt : Nat → Nat) (b1 b : Nat) (hb1 : b1 ≤ b) (n : Nat) (σ : gb_S) (p1 : Int32) (σE : gb_S) (rE : Nat) (h : cs_Face_nightAt n σ p1 = some (σE, rE)) : Met l yX11_nightAt (.code yX11_nightAt cX11_nightAt 2 (some (FieldType.object "GooseBorder$Night")) :: gb_wA) ({ frames := 0, cells := 0, slots := 0, locals := 0 }) (gb_Pc D cT tt b1 [.ref (b + 0), .int p1] (fun h => va_P D vwCl (gb_wl b (gb_CW cT b σ)) h)) (gb_Qq (fun r h => r = gb_on b rE ∧ va_P D vwCl (gb_wl b (gb_CW cT b σE)) h) (gb_fr b 135)) 0 0 (gb_fr b 135) := by
  refine Met.ofW (cc := cX11_nightAt) (maxL := 2) (ret := (some (FieldType.object "GooseBorder$Night"))) (by decide) rfl ?_
  intro p e s m args below meth c s₁ B hml hv
  obtain ⟨rfl, hSt, hP⟩ := hv
  have hx := B.exec
  have hb := B.bytes
  have hr := B.returns
  have hts := atoms_spec (ws := .code yX11_nightAt cX11_nightAt 2 (some (FieldType.object "GooseBorder$Night")) :: gb_wA) B.pre
  have hq : ∀ w ∈ gb_wA, w.before _ s = true := fun w h => hts w (List.mem_cons_of_mem _ h)
  have hown : s.vm.findClass RX11 = some m.cls := findClass_of_methodNamed B.named
  have hlocks := B.notSynchronized
  clear B hts
  have hK := hSt.1
  have hS : va_S (gb_fr b 135) s.heap s.heap [] := va_S.rf
  have hl := lv_entry ([.ref (b + 0), .int p1]) (n := 2) (Nat.le_of_ble_eq_true rfl)
  rw [lg_entry_eq]
  generalize (lg_sl ([.ref (b + 0), .int p1]) ++ List.replicate (2 - (lg_sl ([.ref (b + 0), .int p1])).length) Slot.unset).toArray = ls at hl ⊢
  replace hl : lv_has ls 2 [(0, .ref (b + 0)), (1, .int p1)] := hl
  unfold cs_Face_nightAt at h
  refine lv_iload_n hx hb dX11_nightAt_0 rfl (lv_at hl 1 rfl) ?_
  refine lv_if_lt (tgt := 29) hx hb dX11_nightAt_1 (by decide) (fun c_1 => ?_) (fun c_1 => ?_)
  · rw [if_pos c_1] at h
    refine lv_null hx hb dX11_nightAt_29 ?_
    obtain ⟨e1, e2⟩ := gb_eq2 h
    exact W.aret (v := .null) hx hb hr (Or.inl ⟨_, rfl⟩) (Or.inl rfl) (fun t ht hW => gb_rq none ht ⟨by rw [← e2]; rfl, by rw [← e1]; exact hP⟩ hS) hS.2.2 dX11_nightAt_30
  · rw [if_neg c_1] at h
    refine lv_iload_n hx hb dX11_nightAt_4 rfl (lv_at hl 1 rfl) ?_
    refine lv_aload_n hx hb dX11_nightAt_5 rfl (lv_at hl 0 rfl) ?_
    refine va_get (ci := 9) (v := (.ref (b + 1))) (C := RX11) (T := TX11) (N := 10) hx hb hq i_X11 hown hK hP 0 (gb_at b rfl) rfl 0 (by decide) (hq _ w_315) (fun _ h9 => h9) rfl dX11_nightAt_6 ?_
    refine va_get (ci := 8) (v := (.ref (b + 22))) (C := RX10) (T := TX10) (N := 9) hx hb hq i_X10 hown hK hP 1 (gb_at b rfl) rfl 4 (by decide) (hq _ w_121) (fun _ h9 => h9) rfl dX11_nightAt_9 ?_
    refine lv_iconst (v := 1) hx hb dX11_nightAt_12 (by decide) ?_
    refine va_iald hx hb hK hP 22 0 (gb_at b rfl) rfl (gb_in rfl) dX11_nightAt_13 ?_
    refine lv_topi (fun x_2 ex_2 => ?_)
    replace h := gb_lt_s ex_2 h
    refine lv_icmp_ge (tgt := 29) hx hb dX11_nightAt_14 (by decide) (fun c_3 => ?_) (fun c_3 => ?_)
    · rw [if_pos c_3] at h
      refine lv_null hx hb dX11_nightAt_29 ?_
      obtain ⟨e1, e2⟩ := gb_eq2 h
      exact W.aret (v := .null) hx hb hr (Or.inl ⟨_, rfl⟩) (Or.inl rfl) (fun t ht hW => gb_rq none ht ⟨by rw [← e2]; rfl, by rw [← e1]; exact hP⟩ hS) hS.2.2 dX11_nightAt_30
    · rw [if_neg c_3] at h
      refine lv_aload_n hx hb dX11_nightAt_17 rfl (lv_at hl 0 rfl) ?_
      refine va_get (ci := 9) (v := (.ref (b + 1))) (C := RX11) (T := TX11) (N := 10) hx hb hq i_X11 hown hK hP 0 (gb_at b rfl) rfl 0 (by decide) (hq _ w_315) (fun _ h9 => h9) rfl dX11_nightAt_18 ?_
      refine va_get (ci := 8) (v := (.ref (b + 7))) (C := RX10) (T := TX10) (N := 9) hx hb hq i_X10 hown hK hP 1 (gb_at b rfl) rfl 1 (by decide) (hq _ w_115) (fun _ h9 => h9) rfl dX11_nightAt_21 ?_
      refine lv_iload_n hx hb dX11_nightAt_24 rfl (lv_at hl 1 rfl) ?_
      obtain ⟨z_4, h⟩ := gb_ck_s h
      refine gb_aald (v := .ref (b + (([8, 10] : List Nat).getD (Int32.toNatClampNeg p1) 0))) hx hb hK hP 7 5 (gb_at b rfl) rfl z_4 (gb_ra_at (L := ([8, 10] : List Nat)) z_4) dX11_nightAt_25 ?_
      obtain ⟨a_5, ea_5⟩ : ∃ q, q = (([8, 10] : List Nat).getD (Int32.toNatClampNeg p1) 0) := ⟨_, rfl⟩
      rw [← ea_5]
      replace h := gb_lt_s ea_5 h
      obtain ⟨z_6, h⟩ := gb_kk_s h
      refine lv_goto (tgt := 30) hx hb dX11_nightAt_26 (by decide) ?_
      obtain ⟨e1, e2⟩ := gb_eq2 h
      exact W.aret (v := (.ref (b + a_5))) hx hb hr (Or.inl ⟨_, rfl⟩) (Or.inr ⟨_, rfl⟩) (fun t ht hW => gb_rq (some (b + a_5)) ht ⟨by rw [← e2]; exact (gb_on1 (gb_nzN z_6)), by rw [← e1]; exact hP⟩ hS) hS.2.2 dX11_nightAt_30
theorem dX11_lawAt_0 : decode cX11_lawAt 0 = .ok (.iload_n 1, 1) := by decide +kernel
theorem dX11_lawAt_1 : decode cX11_lawAt 1 = .ok (.ifCond .lt 28, 3) := by decide +kernel
theorem dX11_lawAt_29 : decode cX11_lawAt 29 = .ok (.aconst_null, 1) := by decide +kernel
theorem dX11_lawAt_30 : decode cX11_lawAt 30 = .ok (.areturn, 1) := by decide +kernel
theorem dX11_lawAt_4 : decode cX11_lawAt 4 = .ok (.iload_n 1, 1) := by decide +kernel
theorem dX11_lawAt_5 : decode cX11_lawAt 5 = .ok (.aload_n 0, 1) := by decide +kernel
theorem dX11_lawAt_6 : decode cX11_lawAt 6 = .ok (.getfield 12, 3) := by decide +kernel
theorem dX11_lawAt_9 : decode cX11_lawAt 9 = .ok (.getfield 88, 3) := by decide +kernel
theorem dX11_lawAt_12 : decode cX11_lawAt 12 = .ok (.iconst 2, 1) := by decide +kernel
theorem dX11_lawAt_13 : decode cX11_lawAt 13 = .ok (.iaload, 1) := by decide +kernel
theorem dX11_lawAt_14 : decode cX11_lawAt 14 = .ok (.if_icmp .ge 15, 3) := by decide +kernel
theorem dX11_lawAt_17 : decode cX11_lawAt 17 = .ok (.aload_n 0, 1) := by decide +kernel
theorem dX11_lawAt_18 : decode cX11_lawAt 18 = .ok (.getfield 12, 3) := by decide +kernel
theorem dX11_lawAt_21 : decode cX11_lawAt 21 = .ok (.getfield 187, 3) := by decide +kernel
theorem w_117 : (Cond.fieldLink "GooseBorder" (187 : Nat) "GooseBorder$Told" "laws" "[LGooseBorder$Law;") ∈ gb_wA := gb_t1 117 rfl rfl
theorem dX11_lawAt_24 : decode cX11_lawAt 24 = .ok (.iload_n 1, 1) := by decide +kernel
theorem dX11_lawAt_25 : decode cX11_lawAt 25 = .ok (.aaload, 1) := by decide +kernel
theorem dX11_lawAt_26 : decode cX11_lawAt 26 = .ok (.goto 4, 3) := by decide +kernel
def cs_Face_lawAt (n : Nat) (σ : gb_S) (p1 : Int32) : gb_CR Nat := (if p1 < 0 then some (σ, 0) else gb_lt ((σ.1 22) (Int32.toNatClampNeg 2)) (fun x_2 => (if x_2 ≤ p1 then some (σ, 0) else gb_ck p1 2 (gb_lt (([13, 15] : List Nat).getD (Int32.toNatClampNeg p1) 0) (fun a_5 => gb_kk (gb_kL a_5) (some (σ, a_5)))))))
set_option maxHeartbeats 8000000 in
set_option maxRecDepth 100000 in
theorem cc_Face_lawAt (l : Launch) (D : va_G) (cT : Nat → ClassId) (tt : Nat → Nat) (b1 b : Nat) (hb1 : b1 ≤ b) (n : Nat) (σ : gb_S) (p1 : Int32) (σE : gb_S) (rE : Nat) (h : cs_Face_lawAt n σ p1 = some (σE, rE)) : Met l yX11_lawAt (.code yX11_lawAt cX11_lawAt 2 (some (FieldType.object "GooseBorder$Law")) :: gb_wA) ({ frames := 0, cells := 0, slots := 0, locals := 0 }) (gb_Pc D cT tt b1 [.ref (b + 0), .int p1] (fun h => va_P D vwCl (gb_wl b (gb_CW cT b σ)) h)) (gb_Qq (fun r h => r = gb_on b rE ∧ va_P D vwCl (gb_wl b (gb_CW cT b σE)) h) (gb_fr b 135)) 0 0 (gb_fr b 135) := by
  refine Met.ofW (cc := cX11_lawAt) (maxL := 2) (ret := (some (FieldType.object "GooseBorder$Law"))) (by decide) rfl ?_
  intro p e s m args below meth c s₁ B hml hv
  obtain ⟨rfl, hSt, hP⟩ := hv
  have hx := B.exec
  have hb := B.bytes
  have hr := B.returns
  have hts := atoms_spec (ws := .code yX11_lawAt cX11_lawAt 2 (some (FieldType.object "GooseBorder$Law")) :: gb_wA) B.pre
  have hq : ∀ w ∈ gb_wA, w.before _ s = true := fun w h => hts w (List.mem_cons_of_mem _ h)
  have hown : s.vm.findClass RX11 = some m.cls := findClass_of_methodNamed B.named
  have hlocks := B.notSynchronized
  clear B hts
  have hK := hSt.1
  have hS : va_S (gb_fr b 135) s.heap s.heap [] := va_S.rf
  have hl := lv_entry ([.ref (b + 0), .int p1]) (n := 2) (Nat.le_of_ble_eq_true rfl)
  rw [lg_entry_eq]
  generalize (lg_sl ([.ref (b + 0), .int p1]) ++ List.replicate (2 - (lg_sl ([.ref (b + 0), .int p1])).length) Slot.unset).toArray = ls at hl ⊢
  replace hl : lv_has ls 2 [(0, .ref (b + 0)), (1, .int p1)] := hl
  unfold cs_Face_lawAt at h
  refine lv_iload_n hx hb dX11_lawAt_0 rfl (lv_at hl 1 rfl) ?_
  refine lv_if_lt (tgt := 29) hx hb dX11_lawAt_1 (by decide) (fun c_1 => ?_) (fun c_1 => ?_)
  · rw [if_pos c_1] at h
    refine lv_null hx hb dX11_lawAt_29 ?_
    obtain ⟨e1, e2⟩ := gb_eq2 h
    exact W.aret (v := .null) hx hb hr (Or.inl ⟨_, rfl⟩) (Or.inl rfl) (fun t ht hW => gb_rq none ht ⟨by rw [← e2]; rfl, by rw [← e1]; exact hP⟩ hS) hS.2.2 dX11_lawAt_30
  · rw [if_neg c_1] at h
    refine lv_iload_n hx hb dX11_lawAt_4 rfl (lv_at hl 1 rfl) ?_
    refine lv_aload_n hx hb dX11_lawAt_5 rfl (lv_at hl 0 rfl) ?_
    refine va_get (ci := 9) (v := (.ref (b + 1))) (C := RX11) (T := TX11) (N := 10) hx hb hq i_X11 hown hK hP 0 (gb_at b rfl) rfl 0 (by decide) (hq _ w_315) (fun _ h9 => h9) rfl dX11_lawAt_6 ?_
    refine va_get (ci := 8) (v := (.ref (b + 22))) (C := RX10) (T := TX10) (N := 9) hx hb hq i_X10 hown hK hP 1 (gb_at b rfl) rfl 4 (by decide) (hq _ w_121) (fun _ h9 => h9) rfl dX11_lawAt_9 ?_
    refine lv_iconst (v := 2) hx hb dX11_lawAt_12 (by decide) ?_
    refine va_iald hx hb hK hP 22 0 (gb_at b rfl) rfl (gb_in rfl) dX11_lawAt_13 ?_
    refine lv_topi (fun x_2 ex_2 => ?_)
    replace h := gb_lt_s ex_2 h
    refine lv_icmp_ge (tgt := 29) hx hb dX11_lawAt_14 (by decide) (fun c_3 => ?_) (fun c_3 => ?_)
    · rw [if_pos c_3] at h
      refine lv_null hx hb dX11_lawAt_29 ?_
      obtain ⟨e1, e2⟩ := gb_eq2 h
      exact W.aret (v := .null) hx hb hr (Or.inl ⟨_, rfl⟩) (Or.inl rfl) (fun t ht hW => gb_rq none ht ⟨by rw [← e2]; rfl, by rw [← e1]; exact hP⟩ hS) hS.2.2 dX11_lawAt_30
    · rw [if_neg c_3] at h
      refine lv_aload_n hx hb dX11_lawAt_17 rfl (lv_at hl 0 rfl) ?_
      refine va_get (ci := 9) (v := (.ref (b + 1))) (C := RX11) (T := TX11) (N := 10) hx hb hq i_X11 hown hK hP 0 (gb_at b rfl) rfl 0 (by decide) (hq _ w_315) (fun _ h9 => h9) rfl dX11_lawAt_18 ?_
      refine va_get (ci := 8) (v := (.ref (b + 12))) (C := RX10) (T := TX10) (N := 9) hx hb hq i_X10 hown hK hP 1 (gb_at b rfl) rfl 2 (by decide) (hq _ w_117) (fun _ h9 => h9) rfl dX11_lawAt_21 ?_
      refine lv_iload_n hx hb dX11_lawAt_24 rfl (lv_at hl 1 rfl) ?_
      obtain ⟨z_4, h⟩ := gb_ck_s h
      refine gb_aald (v := .ref (b + (([13, 15] : List Nat).getD (Int32.toNatClampNeg p1) 0))) hx hb hK hP 12 6 (gb_at b rfl) rfl z_4 (gb_ra_at (L := ([13, 15] : List Nat)) z_4) dX11_lawAt_25 ?_
      obtain ⟨a_5, ea_5⟩ : ∃ q, q = (([13, 15] : List Nat).getD (Int32.toNatClampNeg p1) 0) := ⟨_, rfl⟩
      rw [← ea_5]
      replace h := gb_lt_s ea_5 h
      obtain ⟨z_6, h⟩ := gb_kk_s h
      refine lv_goto (tgt := 30) hx hb dX11_lawAt_26 (by decide) ?_
      obtain ⟨e1, e2⟩ := gb_eq2 h
      exact W.aret (v := (.ref (b + a_5))) hx hb hr (Or.inl ⟨_, rfl⟩) (Or.inr ⟨_, rfl⟩) (fun t ht hW => gb_rq (some (b + a_5)) ht ⟨by rw [← e2]; exact (gb_on1 (gb_nzL z_6)), by rw [← e1]; exact hP⟩ hS) hS.2.2 dX11_lawAt_30
theorem dX11_dawnAt_0 : decode cX11_dawnAt 0 = .ok (.iload_n 1, 1) := by decide +kernel
theorem dX11_dawnAt_1 : decode cX11_dawnAt 1 = .ok (.ifCond .lt 28, 3) := by decide +kernel
theorem dX11_dawnAt_29 : decode cX11_dawnAt 29 = .ok (.aconst_null, 1) := by decide +kernel
theorem dX11_dawnAt_30 : decode cX11_dawnAt 30 = .ok (.areturn, 1) := by decide +kernel
theorem dX11_dawnAt_4 : decode cX11_dawnAt 4 = .ok (.iload_n 1, 1) := by decide +kernel
theorem dX11_dawnAt_5 : decode cX11_dawnAt 5 = .ok (.aload_n 0, 1) := by decide +kernel
theorem dX11_dawnAt_6 : decode cX11_dawnAt 6 = .ok (.getfield 12, 3) := by decide +kernel
theorem dX11_dawnAt_9 : decode cX11_dawnAt 9 = .ok (.getfield 88, 3) := by decide +kernel
theorem dX11_dawnAt_12 : decode cX11_dawnAt 12 = .ok (.iconst 3, 1) := by decide +kernel
theorem dX11_dawnAt_13 : decode cX11_dawnAt 13 = .ok (.iaload, 1) := by decide +kernel
theorem dX11_dawnAt_14 : decode cX11_dawnAt 14 = .ok (.if_icmp .ge 15, 3) := by decide +kernel
theorem dX11_dawnAt_17 : decode cX11_dawnAt 17 = .ok (.aload_n 0, 1) := by decide +kernel
theorem dX11_dawnAt_18 : decode cX11_dawnAt 18 = .ok (.getfield 12, 3) := by decide +kernel
theorem dX11_dawnAt_21 : decode cX11_dawnAt 21 = .ok (.getfield 191, 3) := by decide +kernel
theorem w_119 : (Cond.fieldLink "GooseBorder" (191 : Nat) "GooseBorder$Told" "dawns" "[LGooseBorder$Dawn;") ∈ gb_wA := gb_t1 119 rfl rfl
theorem dX11_dawnAt_24 : decode cX11_dawnAt 24 = .ok (.iload_n 1, 1) := by decide +kernel
theorem dX11_dawnAt_25 : decode cX11_dawnAt 25 = .ok (.aaload, 1) := by decide +kernel
theorem dX11_dawnAt_26 : decode cX11_dawnAt 26 = .ok (.goto 4, 3) := by decide +kernel
def cs_Face_dawnAt (n : Nat) (σ : gb_S) (p1 : Int32) : gb_CR Nat := (if p1 < 0 then some (σ, 0) else gb_lt ((σ.1 22) (Int32.toNatClampNeg 3)) (fun x_2 => (if x_2 ≤ p1 then some (σ, 0) else gb_ck p1 2 (gb_lt (([18, 20] : List Nat).getD (Int32.toNatClampNeg p1) 0) (fun a_5 => gb_kk (gb_kD a_5) (some (σ, a_5)))))))
set_option maxHeartbeats 8000000 in
set_option maxRecDepth 100000 in
theorem cc_Face_dawnAt (l : Launch) (D : va_G) (cT : Nat → ClassId) (tt : Nat → Nat) (b1 b : Nat) (hb1 : b1 ≤ b) (n : Nat) (σ : gb_S) (p1 : Int32) (σE : gb_S) (rE : Nat) (h : cs_Face_dawnAt n σ p1 = some (σE, rE)) : Met l yX11_dawnAt (.code yX11_dawnAt cX11_dawnAt 2 (some (FieldType.object "GooseBorder$Dawn")) :: gb_wA) ({ frames := 0, cells := 0, slots := 0, locals := 0 }) (gb_Pc D cT tt b1 [.ref (b + 0), .int p1] (fun h => va_P D vwCl (gb_wl b (gb_CW cT b σ)) h)) (gb_Qq (fun r h => r = gb_on b rE ∧ va_P D vwCl (gb_wl b (gb_CW cT b σE)) h) (gb_fr b 135)) 0 0 (gb_fr b 135) := by
  refine Met.ofW (cc := cX11_dawnAt) (maxL := 2) (ret := (some (FieldType.object "GooseBorder$Dawn"))) (by decide) rfl ?_
  intro p e s m args below meth c s₁ B hml hv
  obtain ⟨rfl, hSt, hP⟩ := hv
  have hx := B.exec
  have hb := B.bytes
  have hr := B.returns
  have hts := atoms_spec (ws := .code yX11_dawnAt cX11_dawnAt 2 (some (FieldType.object "GooseBorder$Dawn")) :: gb_wA) B.pre
  have hq : ∀ w ∈ gb_wA, w.before _ s = true := fun w h => hts w (List.mem_cons_of_mem _ h)
  have hown : s.vm.findClass RX11 = some m.cls := findClass_of_methodNamed B.named
  have hlocks := B.notSynchronized
  clear B hts
  have hK := hSt.1
  have hS : va_S (gb_fr b 135) s.heap s.heap [] := va_S.rf
  have hl := lv_entry ([.ref (b + 0), .int p1]) (n := 2) (Nat.le_of_ble_eq_true rfl)
  rw [lg_entry_eq]
  generalize (lg_sl ([.ref (b + 0), .int p1]) ++ List.replicate (2 - (lg_sl ([.ref (b + 0), .int p1])).length) Slot.unset).toArray = ls at hl ⊢
  replace hl : lv_has ls 2 [(0, .ref (b + 0)), (1, .int p1)] := hl
  unfold cs_Face_dawnAt at h
  refine lv_iload_n hx hb dX11_dawnAt_0 rfl (lv_at hl 1 rfl) ?_
  refine lv_if_lt (tgt := 29) hx hb dX11_dawnAt_1 (by decide) (fun c_1 => ?_) (fun c_1 => ?_)
  · rw [if_pos c_1] at h
    refine lv_null hx hb dX11_dawnAt_29 ?_
    obtain ⟨e1, e2⟩ := gb_eq2 h
    exact W.aret (v := .null) hx hb hr (Or.inl ⟨_, rfl⟩) (Or.inl rfl) (fun t ht hW => gb_rq none ht ⟨by rw [← e2]; rfl, by rw [← e1]; exact hP⟩ hS) hS.2.2 dX11_dawnAt_30
  · rw [if_neg c_1] at h
    refine lv_iload_n hx hb dX11_dawnAt_4 rfl (lv_at hl 1 rfl) ?_
    refine lv_aload_n hx hb dX11_dawnAt_5 rfl (lv_at hl 0 rfl) ?_
    refine va_get (ci := 9) (v := (.ref (b + 1))) (C := RX11) (T := TX11) (N := 10) hx hb hq i_X11 hown hK hP 0 (gb_at b rfl) rfl 0 (by decide) (hq _ w_315) (fun _ h9 => h9) rfl dX11_dawnAt_6 ?_
    refine va_get (ci := 8) (v := (.ref (b + 22))) (C := RX10) (T := TX10) (N := 9) hx hb hq i_X10 hown hK hP 1 (gb_at b rfl) rfl 4 (by decide) (hq _ w_121) (fun _ h9 => h9) rfl dX11_dawnAt_9 ?_
    refine lv_iconst (v := 3) hx hb dX11_dawnAt_12 (by decide) ?_
    refine va_iald hx hb hK hP 22 0 (gb_at b rfl) rfl (gb_in rfl) dX11_dawnAt_13 ?_
    refine lv_topi (fun x_2 ex_2 => ?_)
    replace h := gb_lt_s ex_2 h
    refine lv_icmp_ge (tgt := 29) hx hb dX11_dawnAt_14 (by decide) (fun c_3 => ?_) (fun c_3 => ?_)
    · rw [if_pos c_3] at h
      refine lv_null hx hb dX11_dawnAt_29 ?_
      obtain ⟨e1, e2⟩ := gb_eq2 h
      exact W.aret (v := .null) hx hb hr (Or.inl ⟨_, rfl⟩) (Or.inl rfl) (fun t ht hW => gb_rq none ht ⟨by rw [← e2]; rfl, by rw [← e1]; exact hP⟩ hS) hS.2.2 dX11_dawnAt_30
    · rw [if_neg c_3] at h
      refine lv_aload_n hx hb dX11_dawnAt_17 rfl (lv_at hl 0 rfl) ?_
      refine va_get (ci := 9) (v := (.ref (b + 1))) (C := RX11) (T := TX11) (N := 10) hx hb hq i_X11 hown hK hP 0 (gb_at b rfl) rfl 0 (by decide) (hq _ w_315) (fun _ h9 => h9) rfl dX11_dawnAt_18 ?_
      refine va_get (ci := 8) (v := (.ref (b + 17))) (C := RX10) (T := TX10) (N := 9) hx hb hq i_X10 hown hK hP 1 (gb_at b rfl) rfl 3 (by decide) (hq _ w_119) (fun _ h9 => h9) rfl dX11_dawnAt_21 ?_
      refine lv_iload_n hx hb dX11_dawnAt_24 rfl (lv_at hl 1 rfl) ?_
      obtain ⟨z_4, h⟩ := gb_ck_s h
      refine gb_aald (v := .ref (b + (([18, 20] : List Nat).getD (Int32.toNatClampNeg p1) 0))) hx hb hK hP 17 7 (gb_at b rfl) rfl z_4 (gb_ra_at (L := ([18, 20] : List Nat)) z_4) dX11_dawnAt_25 ?_
      obtain ⟨a_5, ea_5⟩ : ∃ q, q = (([18, 20] : List Nat).getD (Int32.toNatClampNeg p1) 0) := ⟨_, rfl⟩
      rw [← ea_5]
      replace h := gb_lt_s ea_5 h
      obtain ⟨z_6, h⟩ := gb_kk_s h
      refine lv_goto (tgt := 30) hx hb dX11_dawnAt_26 (by decide) ?_
      obtain ⟨e1, e2⟩ := gb_eq2 h
      exact W.aret (v := (.ref (b + a_5))) hx hb hr (Or.inl ⟨_, rfl⟩) (Or.inr ⟨_, rfl⟩) (fun t ht hW => gb_rq (some (b + a_5)) ht ⟨by rw [← e2]; exact (gb_on1 (gb_nzD z_6)), by rw [← e1]; exact hP⟩ hS) hS.2.2 dX11_dawnAt_30
theorem dX11_marks_0 : decode cX11_marks 0 = .ok (.aload_n 0, 1) := by decide +kernel
theorem dX11_marks_1 : decode cX11_marks 1 = .ok (.iload_n 1, 1) := by decide +kernel
theorem dX11_marks_2 : decode cX11_marks 2 = .ok (.invokevirtual 113, 3) := by decide +kernel
theorem w_596 : (Cond.code ({ cls := "GooseBorder", name := "borderAt", desc := "(I)LGooseBorder$Border;" } : MethodName) prog_1_method_16_code (2 : Nat) (Option.some (FieldType.object "GooseBorder$Border"))) ∈ gb_wA := gb_t3 116 rfl rfl
theorem w_593 : (Cond.methodLink "GooseBorder" (113 : Nat) ({ cls := "GooseBorder", name := "borderAt", desc := "(I)LGooseBorder$Border;" } : MethodName)) ∈ gb_wA := gb_t3 113 rfl rfl
theorem w_595 : (Cond.instanceMethod ({ cls := "GooseBorder", name := "borderAt", desc := "(I)LGooseBorder$Border;" } : MethodName)) ∈ gb_wA := gb_t3 115 rfl rfl
theorem s_1_7 : Cond.selects "GooseBorder" (⟨"GooseBorder", "borderAt", "(I)LGooseBorder$Border;"⟩ : MethodName) (⟨"GooseBorder", "borderAt", "(I)LGooseBorder$Border;"⟩ : MethodName) ∈ gb_wA := gb_s1 7 rfl rfl
theorem w_1 : (Cond.initialized "GooseBorder") ∈ gb_wA := gb_t1 1 rfl rfl
theorem dX11_marks_5 : decode cX11_marks 5 = .ok (.astore 5, 2) := by decide +kernel
theorem dX11_marks_7 : decode cX11_marks 7 = .ok (.aload 5, 2) := by decide +kernel
theorem dX11_marks_9 : decode cX11_marks 9 = .ok (.ifnull 21, 3) := by decide +kernel
theorem dX11_marks_30 : decode cX11_marks 30 = .ok (.iconst (-1), 1) := by decide +kernel
theorem dX11_marks_31 : decode cX11_marks 31 = .ok (.ireturn, 1) := by decide +kernel
theorem dX11_marks_12 : decode cX11_marks 12 = .ok (.aload 5, 2) := by decide +kernel
theorem dX11_marks_14 : decode cX11_marks 14 = .ok (.iload_n 2, 1) := by decide +kernel
theorem dX11_marks_15 : decode cX11_marks 15 = .ok (.invokevirtual 131, 3) := by decide +kernel
theorem w_619 : (Cond.methodLink "GooseBorder" (131 : Nat) ({ cls := "GooseBorder$Border", name := "hasGoose", desc := "(I)Z" } : MethodName)) ∈ gb_wA := gb_t3 139 rfl rfl
theorem dX11_marks_18 : decode cX11_marks 18 = .ok (.ifCond .eq 12, 3) := by decide +kernel
theorem dX11_marks_21 : decode cX11_marks 21 = .ok (.aload 5, 2) := by decide +kernel
theorem dX11_marks_23 : decode cX11_marks 23 = .ok (.iload_n 3, 1) := by decide +kernel
theorem dX11_marks_24 : decode cX11_marks 24 = .ok (.invokevirtual 135, 3) := by decide +kernel
theorem w_620 : (Cond.methodLink "GooseBorder" (135 : Nat) ({ cls := "GooseBorder$Border", name := "hasPath", desc := "(I)Z" } : MethodName)) ∈ gb_wA := gb_t3 140 rfl rfl
theorem dX11_marks_27 : decode cX11_marks 27 = .ok (.ifCond .ne 5, 3) := by decide +kernel
theorem dX11_marks_32 : decode cX11_marks 32 = .ok (.aload 5, 2) := by decide +kernel
theorem dX11_marks_34 : decode cX11_marks 34 = .ok (.iload_n 2, 1) := by decide +kernel
theorem dX11_marks_35 : decode cX11_marks 35 = .ok (.aload 5, 2) := by decide +kernel
theorem dX11_marks_37 : decode cX11_marks 37 = .ok (.iload_n 3, 1) := by decide +kernel
theorem dX11_marks_38 : decode cX11_marks 38 = .ok (.invokevirtual 138, 3) := by decide +kernel
theorem w_621 : (Cond.methodLink "GooseBorder" (138 : Nat) ({ cls := "GooseBorder$Border", name := "miles", desc := "(I)I" } : MethodName)) ∈ gb_wA := gb_t3 141 rfl rfl
theorem dX11_marks_41 : decode cX11_marks 41 = .ok (.aload 5, 2) := by decide +kernel
theorem dX11_marks_43 : decode cX11_marks 43 = .ok (.iload_n 2, 1) := by decide +kernel
theorem dX11_marks_44 : decode cX11_marks 44 = .ok (.invokevirtual 141, 3) := by decide +kernel
theorem w_625 : (Cond.methodLink "GooseBorder" (141 : Nat) ({ cls := "GooseBorder$Border", name := "boots", desc := "(I)I" } : MethodName)) ∈ gb_wA := gb_t3 145 rfl rfl
theorem dX11_marks_47 : decode cX11_marks 47 = .ok (.iload 4, 2) := by decide +kernel
theorem dX11_marks_49 : decode cX11_marks 49 = .ok (.invokevirtual 144, 3) := by decide +kernel
theorem w_629 : (Cond.methodLink "GooseBorder" (144 : Nat) ({ cls := "GooseBorder$Border", name := "marksOver", desc := "(IIIZ)I" } : MethodName)) ∈ gb_wA := gb_t3 149 rfl rfl
theorem dX11_marks_52 : decode cX11_marks 52 = .ok (.ireturn, 1) := by decide +kernel
def cs_Face_marks (n : Nat) (σ : gb_S) (p1 : Int32) (p2 : Int32) (p3 : Int32) (p4 : Int32) : gb_CR Int32 := gb_cd (cs_Face_borderAt n σ p1) (fun s_1 r_2 => (if r_2 = 0 then some (s_1, (-1)) else gb_kk (gb_kB r_2) (gb_cd (cs_Border_hasGoose_B n s_1 r_2 p2) (fun s_7 r_8 => (if r_8 = 0 then some (s_7, (-1)) else gb_cd (cs_Border_hasPath_B n s_7 r_2 p3) (fun s_12 r_13 => (if r_13 = 0 then some (s_12, (-1)) else gb_cd (cs_Border_miles_B n s_12 r_2 p3) (fun s_17 r_18 => gb_cd (cs_Border_boots_B n s_17 r_2 p2) (fun s_21 r_22 => gb_cd (cs_Border_marksOver_B n s_21 r_2 p2 r_18 r_22 p4) (fun s_25 r_26 => some (s_25, r_26)))))))))))
set_option maxHeartbeats 8000000 in
set_option maxRecDepth 100000 in
theorem cc_Face_marks (l : Launch) (D : va_G) (cT : Nat → ClassId) (tt : Nat → Nat) (b1 b : Nat) (hb1 : b1 ≤ b) (n : Nat) (σ : gb_S) (p1 : Int32) (p2 : Int32) (p3 : Int32) (p4 : Int32) (σE : gb_S) (rE : Int32) (h : cs_Face_marks n σ p1 p2 p3 p4 = some (σE, rE)) : Met l yX11_marks (.code yX11_marks cX11_marks 6 (some FieldType.int) :: gb_wA) ({ frames := 2, cells := 0, slots := 0, locals := 48 }) (gb_Pc D cT tt b1 [.ref (b + 0), .int p1, .int p2, .int p3, .int p4] (fun h => va_P D vwCl (gb_wl b (gb_CW cT b σ)) h)) (gb_Qi (fun r h => r = rE ∧ va_P D vwCl (gb_wl b (gb_CW cT b σE)) h) (gb_fr b 135)) 0 0 (gb_fr b 135) := by
  refine Met.ofW (cc := cX11_marks) (maxL := 6) (ret := (some FieldType.int)) (by decide) rfl ?_
  intro p e s m args below meth c s₁ B hml hv
  obtain ⟨rfl, hSt, hP⟩ := hv
  have hx := B.exec
  have hb := B.bytes
  have hr := B.returns
  have hts := atoms_spec (ws := .code yX11_marks cX11_marks 6 (some FieldType.int) :: gb_wA) B.pre
  have hq : ∀ w ∈ gb_wA, w.before _ s = true := fun w h => hts w (List.mem_cons_of_mem _ h)
  have hown : s.vm.findClass RX11 = some m.cls := findClass_of_methodNamed B.named
  have hlocks := B.notSynchronized
  clear B hts
  have hK := hSt.1
  have hS : va_S (gb_fr b 135) s.heap s.heap [] := va_S.rf
  have hl := lv_entry ([.ref (b + 0), .int p1, .int p2, .int p3, .int p4]) (n := 6) (Nat.le_of_ble_eq_true rfl)
  rw [lg_entry_eq]
  generalize (lg_sl ([.ref (b + 0), .int p1, .int p2, .int p3, .int p4]) ++ List.replicate (6 - (lg_sl ([.ref (b + 0), .int p1, .int p2, .int p3, .int p4])).length) Slot.unset).toArray = ls at hl ⊢
  replace hl : lv_has ls 6 [(0, .ref (b + 0)), (1, .int p1), (2, .int p2), (3, .int p3), (4, .int p4)] := hl
  unfold cs_Face_marks at h
  refine lv_aload_n hx hb dX11_marks_0 rfl (lv_at hl 0 rfl) ?_
  refine lv_iload_n hx hb dX11_marks_1 rfl (lv_at hl 1 rfl) ?_
  obtain ⟨s_1, r_2, z_3, h⟩ := gb_cd_s h
  refine gb_callq (va_runV (C := RX11) (As := [.int p1]) (rest := []) ⟨hx, hb, hml, hown, hq⟩ (cc_Face_borderAt l D cT tt b1 b hb1 n σ p1 s_1 r_2 z_3) (cwV 1 hq (gb_gV w_593 w_595 s_1_7 w_1 w_596) rfl rfl rfl (by decide +kernel) ⟨Nat.le_of_ble_eq_true rfl, Nat.le_of_ble_eq_true rfl⟩) (gb_preV (r := (RX11, TX11, 10)) (ci := 9) (q0 := 0) hSt hP rfl (gb_at b rfl) hS (fun q h => Nat.le_trans hb1 h.1) hP) rfl rfl hl.1 rfl (lv_room (Nat.le_of_ble_eq_true rfl)) dX11_marks_2 ⟨Nat.le_of_ble_eq_true rfl, Nat.le_of_ble_eq_true rfl⟩) hS (fun _ h => h) (fun _ h => h) (fun q_4 H locs hY hk hS => ?_)
  obtain ⟨hq_4, hP⟩ := hY
  subst hq_4
  rw [gb_onv]
  by_cases c_5 : r_2 = 0
  · rw [if_pos c_5] at h
    rw [gb_nv0 c_5]
    refine lv_astoreN (lv' := [(5, .null), (0, .ref (b + 0)), (1, .int p1), (2, .int p2), (3, .int p3), (4, .int p4)]) hx hb dX11_marks_5 hl (by decide) rfl (fun ls hl => ?_)
    refine lv_aloadN hx hb dX11_marks_7 (lv_at hl 0 rfl) ?_
    refine lv_ifnullN (tgt := 30) hx hb dX11_marks_9 (by decide) ?_
    refine lv_iconst (v := (-1)) hx hb dX11_marks_30 (by decide) ?_
    obtain ⟨e1, e2⟩ := gb_eq2 h
    exact W.iret (v := (-1)) hx hb hr (fun t ht hW => gb_ri ht ⟨e2, by rw [← e1]; exact hP⟩ hS) hS.2.2 dX11_marks_31
  rw [if_neg c_5] at h
  rw [gb_nv1 c_5]
  obtain ⟨z_6, h⟩ := gb_kk_s h
  refine lv_astore (lv' := [(5, .ref (b + r_2)), (0, .ref (b + 0)), (1, .int p1), (2, .int p2), (3, .int p3), (4, .int p4)]) hx hb dX11_marks_5 hl (by decide) rfl (fun ls hl => ?_)
  refine lv_aload hx hb dX11_marks_7 (lv_at hl 0 rfl) ?_
  refine lv_ifnull hx hb dX11_marks_9 ?_
  refine lv_aload hx hb dX11_marks_12 (lv_at hl 0 rfl) ?_
  refine lv_iload_n hx hb dX11_marks_14 rfl (lv_at hl 3 rfl) ?_
  obtain ⟨s_7, r_8, z_9, h⟩ := gb_cd_s h
  refine gb_calli (va_runV (C := RX0) (As := [.int p2]) (rest := []) ⟨hx, hb, hml, hown, hq⟩ (cc_Border_hasGoose_B l D cT tt b1 b hb1 n s_1 r_2 p2 s_7 r_8 z_9) (cwV 1 hq (gb_gV w_619 w_612 w_613 w_4 w_614) rfl rfl rfl (by decide +kernel) ⟨Nat.le_of_ble_eq_true rfl, Nat.le_of_ble_eq_true rfl⟩) (gb_preV (r := (RX0, TX0, 1)) (ci := 0) (q0 := r_2) hSt hP rfl (gb_at b (gb_cB z_6).1) hS (fun q h => Nat.le_trans hb1 h.1) hP) rfl rfl hl.1 rfl (lv_room (Nat.le_of_ble_eq_true rfl)) dX11_marks_15 ⟨Nat.le_of_ble_eq_true rfl, Nat.le_of_ble_eq_true rfl⟩) hS (fun _ h => h) (fun _ h => h) (fun q_10 H locs hY hk hS => ?_)
  obtain ⟨hq_10, hP⟩ := hY
  replace hq_10 := hq_10.symm
  subst hq_10
  refine lv_if_eq (tgt := 30) hx hb dX11_marks_18 (by decide) (fun c_11 => ?_) (fun c_11 => ?_)
  · rw [if_pos c_11] at h
    refine lv_iconst (v := (-1)) hx hb dX11_marks_30 (by decide) ?_
    obtain ⟨e1, e2⟩ := gb_eq2 h
    exact W.iret (v := (-1)) hx hb hr (fun t ht hW => gb_ri ht ⟨e2, by rw [← e1]; exact hP⟩ hS) hS.2.2 dX11_marks_31
  · rw [if_neg c_11] at h
    refine lv_aload hx hb dX11_marks_21 (lv_at hl 0 rfl) ?_
    refine lv_iload_n hx hb dX11_marks_23 rfl (lv_at hl 4 rfl) ?_
    obtain ⟨s_12, r_13, z_14, h⟩ := gb_cd_s h
    refine gb_calli (va_runV (C := RX0) (As := [.int p3]) (rest := []) ⟨hx, hb, hml, hown, hq⟩ (cc_Border_hasPath_B l D cT tt b1 b hb1 n s_7 r_2 p3 s_12 r_13 z_14) (cwV 1 hq (gb_gV w_620 w_608 w_609 w_4 w_610) rfl rfl rfl (by decide +kernel) ⟨Nat.le_of_ble_eq_true rfl, Nat.le_of_ble_eq_true rfl⟩) (gb_preV (r := (RX0, TX0, 1)) (ci := 0) (q0 := r_2) hSt hP rfl (gb_at b (gb_cB z_6).1) hS (fun q h => Nat.le_trans hb1 h.1) hP) rfl rfl hl.1 rfl (lv_room (Nat.le_of_ble_eq_true rfl)) dX11_marks_24 ⟨Nat.le_of_ble_eq_true rfl, Nat.le_of_ble_eq_true rfl⟩) hS (fun _ h => h) (fun _ h => h) (fun q_15 H locs hY hk hS => ?_)
    obtain ⟨hq_15, hP⟩ := hY
    replace hq_15 := hq_15.symm
    subst hq_15
    refine lv_if_ne (tgt := 32) hx hb dX11_marks_27 (by decide) (fun c_16 => ?_) (fun c_16 => ?_)
    · rw [if_neg c_16] at h
      refine lv_aload hx hb dX11_marks_32 (lv_at hl 0 rfl) ?_
      refine lv_iload_n hx hb dX11_marks_34 rfl (lv_at hl 3 rfl) ?_
      refine lv_aload hx hb dX11_marks_35 (lv_at hl 0 rfl) ?_
      refine lv_iload_n hx hb dX11_marks_37 rfl (lv_at hl 4 rfl) ?_
      obtain ⟨s_17, r_18, z_19, h⟩ := gb_cd_s h
      refine gb_calli (va_runV (C := RX0) (As := [.int p3]) (rest := [.int p2, .ref (b + r_2)]) ⟨hx, hb, hml, hown, hq⟩ (cc_Border_miles_B l D cT tt b1 b hb1 n s_12 r_2 p3 s_17 r_18 z_19) (cwV 1 hq (gb_gV w_621 w_622 w_623 w_4 w_624) rfl rfl rfl (by decide +kernel) ⟨Nat.le_of_ble_eq_true rfl, Nat.le_of_ble_eq_true rfl⟩) (gb_preV (r := (RX0, TX0, 1)) (ci := 0) (q0 := r_2) hSt hP rfl (gb_at b (gb_cB z_6).1) hS (fun q h => Nat.le_trans hb1 h.1) hP) rfl rfl hl.1 rfl (lv_room (Nat.le_of_ble_eq_true rfl)) dX11_marks_38 ⟨Nat.le_of_ble_eq_true rfl, Nat.le_of_ble_eq_true rfl⟩) hS (fun _ h => h) (fun _ h => h) (fun q_20 H locs hY hk hS => ?_)
      obtain ⟨hq_20, hP⟩ := hY
      replace hq_20 := hq_20.symm
      subst hq_20
      refine lv_aload hx hb dX11_marks_41 (lv_at hl 0 rfl) ?_
      refine lv_iload_n hx hb dX11_marks_43 rfl (lv_at hl 3 rfl) ?_
      obtain ⟨s_21, r_22, z_23, h⟩ := gb_cd_s h
      refine gb_calli (va_runV (C := RX0) (As := [.int p2]) (rest := [.int r_18, .int p2, .ref (b + r_2)]) ⟨hx, hb, hml, hown, hq⟩ (cc_Border_boots_B l D cT tt b1 b hb1 n s_17 r_2 p2 s_21 r_22 z_23) (cwV 1 hq (gb_gV w_625 w_626 w_627 w_4 w_628) rfl rfl rfl (by decide +kernel) ⟨Nat.le_of_ble_eq_true rfl, Nat.le_of_ble_eq_true rfl⟩) (gb_preV (r := (RX0, TX0, 1)) (ci := 0) (q0 := r_2) hSt hP rfl (gb_at b (gb_cB z_6).1) hS (fun q h => Nat.le_trans hb1 h.1) hP) rfl rfl hl.1 rfl (lv_room (Nat.le_of_ble_eq_true rfl)) dX11_marks_44 ⟨Nat.le_of_ble_eq_true rfl, Nat.le_of_ble_eq_true rfl⟩) hS (fun _ h => h) (fun _ h => h) (fun q_24 H locs hY hk hS => ?_)
      obtain ⟨hq_24, hP⟩ := hY
      replace hq_24 := hq_24.symm
      subst hq_24
      refine lv_iload hx hb dX11_marks_47 (lv_at hl 5 rfl) ?_
      obtain ⟨s_25, r_26, z_27, h⟩ := gb_cd_s h
      refine gb_calli (va_runV (C := RX0) (As := [.int p2, .int r_18, .int r_22, .int p4]) (rest := []) ⟨hx, hb, hml, hown, hq⟩ (cc_Border_marksOver_B l D cT tt b1 b hb1 n s_21 r_2 p2 r_18 r_22 p4 s_25 r_26 z_27) (cwV 4 hq (gb_gV w_629 w_630 w_631 w_4 w_632) rfl rfl rfl (by decide +kernel) ⟨Nat.le_of_ble_eq_true rfl, Nat.le_of_ble_eq_true rfl⟩) (gb_preV (r := (RX0, TX0, 1)) (ci := 0) (q0 := r_2) hSt hP rfl (gb_at b (gb_cB z_6).1) hS (fun q h => Nat.le_trans hb1 h.1) hP) rfl rfl hl.1 rfl (lv_room (Nat.le_of_ble_eq_true rfl)) dX11_marks_49 ⟨Nat.le_of_ble_eq_true rfl, Nat.le_of_ble_eq_true rfl⟩) hS (fun _ h => h) (fun _ h => h) (fun q_28 H locs hY hk hS => ?_)
      obtain ⟨hq_28, hP⟩ := hY
      replace hq_28 := hq_28.symm
      subst hq_28
      obtain ⟨e1, e2⟩ := gb_eq2 h
      exact W.iret (v := r_26) hx hb hr (fun t ht hW => gb_ri ht ⟨e2, by rw [← e1]; exact hP⟩ hS) hS.2.2 dX11_marks_52
    · rw [if_pos c_16] at h
      refine lv_iconst (v := (-1)) hx hb dX11_marks_30 (by decide) ?_
      obtain ⟨e1, e2⟩ := gb_eq2 h
      exact W.iret (v := (-1)) hx hb hr (fun t ht hW => gb_ri ht ⟨e2, by rw [← e1]; exact hP⟩ hS) hS.2.2 dX11_marks_31
theorem dX11_alike_0 : decode cX11_alike 0 = .ok (.aload_n 0, 1) := by decide +kernel
theorem dX11_alike_1 : decode cX11_alike 1 = .ok (.iload_n 1, 1) := by decide +kernel
theorem dX11_alike_2 : decode cX11_alike 2 = .ok (.invokevirtual 113, 3) := by decide +kernel
theorem dX11_alike_5 : decode cX11_alike 5 = .ok (.astore 4, 2) := by decide +kernel
theorem dX11_alike_7 : decode cX11_alike 7 = .ok (.aload 4, 2) := by decide +kernel
theorem dX11_alike_9 : decode cX11_alike 9 = .ok (.ifnull 26, 3) := by decide +kernel
theorem dX11_alike_35 : decode cX11_alike 35 = .ok (.iconst (-1), 1) := by decide +kernel
theorem dX11_alike_36 : decode cX11_alike 36 = .ok (.ireturn, 1) := by decide +kernel
theorem dX11_alike_12 : decode cX11_alike 12 = .ok (.iload_n 2, 1) := by decide +kernel
theorem dX11_alike_13 : decode cX11_alike 13 = .ok (.iload_n 3, 1) := by decide +kernel
theorem dX11_alike_14 : decode cX11_alike 14 = .ok (.if_icmp .eq 21, 3) := by decide +kernel
theorem dX11_alike_17 : decode cX11_alike 17 = .ok (.aload 4, 2) := by decide +kernel
theorem dX11_alike_19 : decode cX11_alike 19 = .ok (.iload_n 2, 1) := by decide +kernel
theorem dX11_alike_20 : decode cX11_alike 20 = .ok (.invokevirtual 131, 3) := by decide +kernel
theorem dX11_alike_23 : decode cX11_alike 23 = .ok (.ifCond .eq 12, 3) := by decide +kernel
theorem dX11_alike_26 : decode cX11_alike 26 = .ok (.aload 4, 2) := by decide +kernel
theorem dX11_alike_28 : decode cX11_alike 28 = .ok (.iload_n 3, 1) := by decide +kernel
theorem dX11_alike_29 : decode cX11_alike 29 = .ok (.invokevirtual 131, 3) := by decide +kernel
theorem dX11_alike_32 : decode cX11_alike 32 = .ok (.ifCond .ne 5, 3) := by decide +kernel
theorem dX11_alike_37 : decode cX11_alike 37 = .ok (.iconst 0, 1) := by decide +kernel
theorem dX11_alike_38 : decode cX11_alike 38 = .ok (.istore 5, 2) := by decide +kernel
theorem dX11_alike_40 : decode cX11_alike 40 = .ok (.iconst 0, 1) := by decide +kernel
theorem dX11_alike_41 : decode cX11_alike 41 = .ok (.istore 6, 2) := by decide +kernel
theorem dX11_alike_43 : decode cX11_alike 43 = .ok (.iload 6, 2) := by decide +kernel
theorem dX11_alike_45 : decode cX11_alike 45 = .ok (.aload 4, 2) := by decide +kernel
theorem dX11_alike_47 : decode cX11_alike 47 = .ok (.invokevirtual 117, 3) := by decide +kernel
theorem w_597 : (Cond.methodLink "GooseBorder" (117 : Nat) ({ cls := "GooseBorder$Border", name := "paths", desc := "()I" } : MethodName)) ∈ gb_wA := gb_t3 117 rfl rfl
theorem dX11_alike_50 : decode cX11_alike 50 = .ok (.if_icmp .ge 37, 3) := by decide +kernel
theorem dX11_alike_87 : decode cX11_alike 87 = .ok (.iload 5, 2) := by decide +kernel
theorem dX11_alike_89 : decode cX11_alike 89 = .ok (.ireturn, 1) := by decide +kernel
theorem dX11_alike_53 : decode cX11_alike 53 = .ok (.aload 4, 2) := by decide +kernel
theorem dX11_alike_55 : decode cX11_alike 55 = .ok (.iload_n 2, 1) := by decide +kernel
theorem dX11_alike_56 : decode cX11_alike 56 = .ok (.iload 6, 2) := by decide +kernel
theorem dX11_alike_58 : decode cX11_alike 58 = .ok (.invokevirtual 311, 3) := by decide +kernel
theorem w_901 : (Cond.code ({ cls := "GooseBorder$Border", name := "marksFirst", desc := "(II)I" } : MethodName) prog_2_method_20_code (3 : Nat) (Option.some FieldType.int)) ∈ gb_wA := gb_t4 181 rfl rfl
theorem w_963 : (Cond.methodLink "GooseBorder" (311 : Nat) ({ cls := "GooseBorder$Border", name := "marksFirst", desc := "(II)I" } : MethodName)) ∈ gb_wA := gb_t5 3 rfl rfl
theorem w_899 : (Cond.instanceMethod ({ cls := "GooseBorder$Border", name := "marksFirst", desc := "(II)I" } : MethodName)) ∈ gb_wA := gb_t4 179 rfl rfl
theorem w_900 : (Cond.selects "GooseBorder$Border" ({ cls := "GooseBorder$Border", name := "marksFirst", desc := "(II)I" } : MethodName) ({ cls := "GooseBorder$Border", name := "marksFirst", desc := "(II)I" } : MethodName)) ∈ gb_wA := gb_t4 180 rfl rfl
theorem dX11_alike_61 : decode cX11_alike 61 = .ok (.aload 4, 2) := by decide +kernel
theorem dX11_alike_63 : decode cX11_alike 63 = .ok (.iload_n 3, 1) := by decide +kernel
theorem dX11_alike_64 : decode cX11_alike 64 = .ok (.iload 6, 2) := by decide +kernel
theorem dX11_alike_66 : decode cX11_alike 66 = .ok (.invokevirtual 311, 3) := by decide +kernel
theorem dX11_alike_69 : decode cX11_alike 69 = .ok (.if_icmp .ne 12, 3) := by decide +kernel
theorem dX11_alike_81 : decode cX11_alike 81 = .ok (.iinc 6 1, 3) := by decide +kernel
theorem dX11_alike_84 : decode cX11_alike 84 = .ok (.goto (-41), 3) := by decide +kernel
theorem dX11_alike_72 : decode cX11_alike 72 = .ok (.iload 5, 2) := by decide +kernel
theorem dX11_alike_74 : decode cX11_alike 74 = .ok (.iconst 1, 1) := by decide +kernel
theorem dX11_alike_75 : decode cX11_alike 75 = .ok (.iload 6, 2) := by decide +kernel
theorem dX11_alike_77 : decode cX11_alike 77 = .ok (.ishl, 1) := by decide +kernel
theorem dX11_alike_78 : decode cX11_alike 78 = .ok (.ior, 1) := by decide +kernel
theorem dX11_alike_79 : decode cX11_alike 79 = .ok (.istore 5, 2) := by decide +kernel
def cs_Face_alike_43 (n : Nat) : Nat → gb_S → Int32 → Int32 → Nat → Int32 → Int32 → gb_CR Int32
  | 0, _, _, _, _, _, _ => none
  | mm + 1, σ, v2, v3, v4, v5, v6 => gb_kk (gb_kB v4) (gb_cd (cs_Border_paths_B n σ v4) (fun s_19 r_20 => (if r_20 ≤ v6 then some (s_19, v5) else gb_cd (cs_Border_marksFirst_B n s_19 v4 v2 v6) (fun s_24 r_25 => gb_cd (cs_Border_marksFirst_B n s_24 v4 v3 v6) (fun s_28 r_29 => (if r_25 = r_29 then gb_lt (v5 ||| ((1 : Int32) <<< (v6 &&& 31))) (fun x_34 => gb_lt (v6 + 1) (fun x_35 => cs_Face_alike_43 n mm s_28 v2 v3 v4 x_34 x_35)) else gb_lt (v6 + 1) (fun x_33 => cs_Face_alike_43 n mm s_28 v2 v3 v4 v5 x_33)))))))
def cs_Face_alike (n : Nat) (σ : gb_S) (p1 : Int32) (p2 : Int32) (p3 : Int32) : gb_CR Int32 := gb_cd (cs_Face_borderAt n σ p1) (fun s_1 r_2 => (if r_2 = 0 then some (s_1, (-1)) else gb_kk (gb_kB r_2) ((if p2 = p3 then some (s_1, (-1)) else gb_cd (cs_Border_hasGoose_B n s_1 r_2 p2) (fun s_8 r_9 => (if r_9 = 0 then some (s_8, (-1)) else gb_cd (cs_Border_hasGoose_B n s_8 r_2 p3) (fun s_13 r_14 => (if r_14 = 0 then some (s_13, (-1)) else cs_Face_alike_43 n n s_13 p2 p3 r_2 0 0))))))))
set_option maxHeartbeats 8000000 in
set_option maxRecDepth 100000 in
theorem cc_Face_alike (l : Launch) (D : va_G) (cT : Nat → ClassId) (tt : Nat → Nat) (b1 b : Nat) (hb1 : b1 ≤ b) (n : Nat) (σ : gb_S) (p1 : Int32) (p2 : Int32) (p3 : Int32) (σE : gb_S) (rE : Int32) (h : cs_Face_alike n σ p1 p2 p3 = some (σE, rE)) : Met l yX11_alike (.code yX11_alike cX11_alike 7 (some FieldType.int) :: gb_wA) ({ frames := 3, cells := 0, slots := 0, locals := 70 }) (gb_Pc D cT tt b1 [.ref (b + 0), .int p1, .int p2, .int p3] (fun h => va_P D vwCl (gb_wl b (gb_CW cT b σ)) h)) (gb_Qi (fun r h => r = rE ∧ va_P D vwCl (gb_wl b (gb_CW cT b σE)) h) (gb_fr b 135)) 0 0 (gb_fr b 135) := by
  refine Met.ofW (cc := cX11_alike) (maxL := 7) (ret := (some FieldType.int)) (by decide) rfl ?_
  intro p e s m args below meth c s₁ B hml hv
  obtain ⟨rfl, hSt, hP⟩ := hv
  have hx := B.exec
  have hb := B.bytes
  have hr := B.returns
  have hts := atoms_spec (ws := .code yX11_alike cX11_alike 7 (some FieldType.int) :: gb_wA) B.pre
  have hq : ∀ w ∈ gb_wA, w.before _ s = true := fun w h => hts w (List.mem_cons_of_mem _ h)
  have hown : s.vm.findClass RX11 = some m.cls := findClass_of_methodNamed B.named
  have hlocks := B.notSynchronized
  clear B hts
  have hK := hSt.1
  have hS : va_S (gb_fr b 135) s.heap s.heap [] := va_S.rf
  have hl := lv_entry ([.ref (b + 0), .int p1, .int p2, .int p3]) (n := 7) (Nat.le_of_ble_eq_true rfl)
  rw [lg_entry_eq]
  generalize (lg_sl ([.ref (b + 0), .int p1, .int p2, .int p3]) ++ List.replicate (7 - (lg_sl ([.ref (b + 0), .int p1, .int p2, .int p3])).length) Slot.unset).toArray = ls at hl ⊢
  replace hl : lv_has ls 7 [(0, .ref (b + 0)), (1, .int p1), (2, .int p2), (3, .int p3)] := hl
  have L43_1 : ∀ (mm : Nat) (σ : gb_S) (v2 : Int32) (v3 : Int32) (v4 : Nat) (v5 : Int32) (v6 : Int32) (H : Heap) (locs : List Loc) (ls : Array Slot), cs_Face_alike_43 n mm σ v2 v3 v4 v5 v6 = some (σE, rE) → va_P D vwCl (gb_wl b (gb_CW cT b σ)) H → va_S (gb_fr b 135) s.heap H locs → lv_has ls 7 [(2, .int v2), (3, .int v3), (4, .ref (b + v4)), (5, .int v5), (6, .int v6)] → W p l e (headSpec (.code yX11_alike cX11_alike 7 (some FieldType.int) :: gb_wA) ({ frames := 3, cells := 0, slots := 0, locals := 70 })).room s m ([.ref (b + 0), .int p1, .int p2, .int p3]).toArray below meth c H locs 0 0 (MQ below (gb_Qi (fun r h => r = rE ∧ va_P D vwCl (gb_wl b (gb_CW cT b σE)) h) (gb_fr b 135)) ([.ref (b + 0), .int p1, .int p2, .int p3]).toArray s 0 0 (gb_fr b 135)) (F0 m 43 ls []) := by
    clear h hP hS hl ls
    intro mm
    induction mm with
    | zero =>
      intro σ v2 v3 v4 v5 v6 H locs ls h
      cases h
    | succ mm ih =>
      intro σ v2 v3 v4 v5 v6 H locs ls h hP hS hl
      rw [cs_Face_alike_43] at h
      obtain ⟨z_18, h⟩ := gb_kk_s h
      refine lv_iload hx hb dX11_alike_43 (lv_at hl 4 rfl) ?_
      refine lv_aload hx hb dX11_alike_45 (lv_at hl 2 rfl) ?_
      obtain ⟨s_19, r_20, z_21, h⟩ := gb_cd_s h
      refine gb_calli (va_runV (C := RX0) (As := []) (rest := [.int v6]) ⟨hx, hb, hml, hown, hq⟩ (cc_Border_paths_B l D cT tt b1 b hb1 n σ v4 s_19 r_20 z_21) (cwV 0 hq (gb_gV w_597 w_473 w_474 w_4 w_475) rfl rfl rfl (by decide +kernel) ⟨Nat.le_of_ble_eq_true rfl, Nat.le_of_ble_eq_true rfl⟩) (gb_preV (r := (RX0, TX0, 1)) (ci := 0) (q0 := v4) hSt hP rfl (gb_at b (gb_cB z_18).1) hS (fun q h => Nat.le_trans hb1 h.1) hP) rfl rfl hl.1 rfl (lv_room (Nat.le_of_ble_eq_true rfl)) dX11_alike_47 ⟨Nat.le_of_ble_eq_true rfl, Nat.le_of_ble_eq_true rfl⟩) hS (fun _ h => h) (fun _ h => h) (fun q_22 H locs hY hk hS => ?_)
      obtain ⟨hq_22, hP⟩ := hY
      replace hq_22 := hq_22.symm
      subst hq_22
      refine lv_icmp_ge (tgt := 87) hx hb dX11_alike_50 (by decide) (fun c_23 => ?_) (fun c_23 => ?_)
      · rw [if_pos c_23] at h
        refine lv_iload hx hb dX11_alike_87 (lv_at hl 3 rfl) ?_
        obtain ⟨e1, e2⟩ := gb_eq2 h
        exact W.iret (v := v5) hx hb hr (fun t ht hW => gb_ri ht ⟨e2, by rw [← e1]; exact hP⟩ hS) hS.2.2 dX11_alike_89
      · rw [if_neg c_23] at h
        refine lv_aload hx hb dX11_alike_53 (lv_at hl 2 rfl) ?_
        refine lv_iload_n hx hb dX11_alike_55 rfl (lv_at hl 0 rfl) ?_
        refine lv_iload hx hb dX11_alike_56 (lv_at hl 4 rfl) ?_
        obtain ⟨s_24, r_25, z_26, h⟩ := gb_cd_s h
        refine gb_calli (va_runV (C := RX0) (As := [.int v2, .int v6]) (rest := []) ⟨hx, hb, hml, hown, hq⟩ (cc_Border_marksFirst_B l D cT tt b1 b hb1 n s_19 v4 v2 v6 s_24 r_25 z_26) (cwV 2 hq (gb_gV w_963 w_899 w_900 w_4 w_901) rfl rfl rfl (by decide +kernel) ⟨Nat.le_of_ble_eq_true rfl, Nat.le_of_ble_eq_true rfl⟩) (gb_preV (r := (RX0, TX0, 1)) (ci := 0) (q0 := v4) hSt hP rfl (gb_at b (gb_cB z_18).1) hS (fun q h => Nat.le_trans hb1 h.1) hP) rfl rfl hl.1 rfl (lv_room (Nat.le_of_ble_eq_true rfl)) dX11_alike_58 ⟨Nat.le_of_ble_eq_true rfl, Nat.le_of_ble_eq_true rfl⟩) hS (fun _ h => h) (fun _ h => h) (fun q_27 H locs hY hk hS => ?_)
        obtain ⟨hq_27, hP⟩ := hY
        replace hq_27 := hq_27.symm
        subst hq_27
        refine lv_aload hx hb dX11_alike_61 (lv_at hl 2 rfl) ?_
        refine lv_iload_n hx hb dX11_alike_63 rfl (lv_at hl 1 rfl) ?_
        refine lv_iload hx hb dX11_alike_64 (lv_at hl 4 rfl) ?_
        obtain ⟨s_28, r_29, z_30, h⟩ := gb_cd_s h
        refine gb_calli (va_runV (C := RX0) (As := [.int v3, .int v6]) (rest := [.int r_25]) ⟨hx, hb, hml, hown, hq⟩ (cc_Border_marksFirst_B l D cT tt b1 b hb1 n s_24 v4 v3 v6 s_28 r_29 z_30) (cwV 2 hq (gb_gV w_963 w_899 w_900 w_4 w_901) rfl rfl rfl (by decide +kernel) ⟨Nat.le_of_ble_eq_true rfl, Nat.le_of_ble_eq_true rfl⟩) (gb_preV (r := (RX0, TX0, 1)) (ci := 0) (q0 := v4) hSt hP rfl (gb_at b (gb_cB z_18).1) hS (fun q h => Nat.le_trans hb1 h.1) hP) rfl rfl hl.1 rfl (lv_room (Nat.le_of_ble_eq_true rfl)) dX11_alike_66 ⟨Nat.le_of_ble_eq_true rfl, Nat.le_of_ble_eq_true rfl⟩) hS (fun _ h => h) (fun _ h => h) (fun q_31 H locs hY hk hS => ?_)
        obtain ⟨hq_31, hP⟩ := hY
        replace hq_31 := hq_31.symm
        subst hq_31
        refine lv_icmp_ne (tgt := 81) hx hb dX11_alike_69 (by decide) (fun c_32 => ?_) (fun c_32 => ?_)
        · rw [if_neg c_32] at h
          obtain ⟨x_33, ex_33⟩ : ∃ q, q = (v6 + 1) := ⟨_, rfl⟩
          replace h := gb_lt_s ex_33 h
          refine lv_iinc (v := x_33) (lv' := [(6, .int x_33), (2, .int v2), (3, .int v3), (4, .ref (b + v4)), (5, .int v5)]) hx hb dX11_alike_81 hl (k := 4) rfl (by rw [ex_33]; rfl) (by decide) rfl (fun ls hl => ?_)
          refine lv_goto (tgt := 43) hx hb dX11_alike_84 (by decide) ?_
          exact ih _ _ _ _ _ _ _ _ _ h hP hS (lv_sub hl [1, 2, 3, 4, 0] rfl)
        · rw [if_pos c_32] at h
          refine lv_iload hx hb dX11_alike_72 (lv_at hl 3 rfl) ?_
          refine lv_iconst (v := 1) hx hb dX11_alike_74 (by decide) ?_
          refine lv_iload hx hb dX11_alike_75 (lv_at hl 4 rfl) ?_
          refine lv_ishl hx hb dX11_alike_77 ?_
          refine lv_ior hx hb dX11_alike_78 ?_
          refine lv_topi (fun x_34 ex_34 => ?_)
          replace h := gb_lt_s ex_34 h
          refine lv_istore (lv' := [(5, .int x_34), (2, .int v2), (3, .int v3), (4, .ref (b + v4)), (6, .int v6)]) hx hb dX11_alike_79 hl (by decide) rfl (fun ls hl => ?_)
          obtain ⟨x_35, ex_35⟩ : ∃ q, q = (v6 + 1) := ⟨_, rfl⟩
          replace h := gb_lt_s ex_35 h
          refine lv_iinc (v := x_35) (lv' := [(6, .int x_35), (5, .int x_34), (2, .int v2), (3, .int v3), (4, .ref (b + v4))]) hx hb dX11_alike_81 hl (k := 4) rfl (by rw [ex_35]; rfl) (by decide) rfl (fun ls hl => ?_)
          refine lv_goto (tgt := 43) hx hb dX11_alike_84 (by decide) ?_
          exact ih _ _ _ _ _ _ _ _ _ h hP hS (lv_sub hl [2, 3, 4, 1, 0] rfl)
  unfold cs_Face_alike at h
  refine lv_aload_n hx hb dX11_alike_0 rfl (lv_at hl 0 rfl) ?_
  refine lv_iload_n hx hb dX11_alike_1 rfl (lv_at hl 1 rfl) ?_
  obtain ⟨s_1, r_2, z_3, h⟩ := gb_cd_s h
  refine gb_callq (va_runV (C := RX11) (As := [.int p1]) (rest := []) ⟨hx, hb, hml, hown, hq⟩ (cc_Face_borderAt l D cT tt b1 b hb1 n σ p1 s_1 r_2 z_3) (cwV 1 hq (gb_gV w_593 w_595 s_1_7 w_1 w_596) rfl rfl rfl (by decide +kernel) ⟨Nat.le_of_ble_eq_true rfl, Nat.le_of_ble_eq_true rfl⟩) (gb_preV (r := (RX11, TX11, 10)) (ci := 9) (q0 := 0) hSt hP rfl (gb_at b rfl) hS (fun q h => Nat.le_trans hb1 h.1) hP) rfl rfl hl.1 rfl (lv_room (Nat.le_of_ble_eq_true rfl)) dX11_alike_2 ⟨Nat.le_of_ble_eq_true rfl, Nat.le_of_ble_eq_true rfl⟩) hS (fun _ h => h) (fun _ h => h) (fun q_4 H locs hY hk hS => ?_)
  obtain ⟨hq_4, hP⟩ := hY
  subst hq_4
  rw [gb_onv]
  by_cases c_5 : r_2 = 0
  · rw [if_pos c_5] at h
    rw [gb_nv0 c_5]
    refine lv_astoreN (lv' := [(4, .null), (0, .ref (b + 0)), (1, .int p1), (2, .int p2), (3, .int p3)]) hx hb dX11_alike_5 hl (by decide) rfl (fun ls hl => ?_)
    refine lv_aloadN hx hb dX11_alike_7 (lv_at hl 0 rfl) ?_
    refine lv_ifnullN (tgt := 35) hx hb dX11_alike_9 (by decide) ?_
    refine lv_iconst (v := (-1)) hx hb dX11_alike_35 (by decide) ?_
    obtain ⟨e1, e2⟩ := gb_eq2 h
    exact W.iret (v := (-1)) hx hb hr (fun t ht hW => gb_ri ht ⟨e2, by rw [← e1]; exact hP⟩ hS) hS.2.2 dX11_alike_36
  rw [if_neg c_5] at h
  rw [gb_nv1 c_5]
  obtain ⟨z_6, h⟩ := gb_kk_s h
  refine lv_astore (lv' := [(4, .ref (b + r_2)), (0, .ref (b + 0)), (1, .int p1), (2, .int p2), (3, .int p3)]) hx hb dX11_alike_5 hl (by decide) rfl (fun ls hl => ?_)
  refine lv_aload hx hb dX11_alike_7 (lv_at hl 0 rfl) ?_
  refine lv_ifnull hx hb dX11_alike_9 ?_
  refine lv_iload_n hx hb dX11_alike_12 rfl (lv_at hl 3 rfl) ?_
  refine lv_iload_n hx hb dX11_alike_13 rfl (lv_at hl 4 rfl) ?_
  refine lv_icmp_eq (tgt := 35) hx hb dX11_alike_14 (by decide) (fun c_7 => ?_) (fun c_7 => ?_)
  · rw [if_pos c_7] at h
    refine lv_iconst (v := (-1)) hx hb dX11_alike_35 (by decide) ?_
    obtain ⟨e1, e2⟩ := gb_eq2 h
    exact W.iret (v := (-1)) hx hb hr (fun t ht hW => gb_ri ht ⟨e2, by rw [← e1]; exact hP⟩ hS) hS.2.2 dX11_alike_36
  · rw [if_neg c_7] at h
    refine lv_aload hx hb dX11_alike_17 (lv_at hl 0 rfl) ?_
    refine lv_iload_n hx hb dX11_alike_19 rfl (lv_at hl 3 rfl) ?_
    obtain ⟨s_8, r_9, z_10, h⟩ := gb_cd_s h
    refine gb_calli (va_runV (C := RX0) (As := [.int p2]) (rest := []) ⟨hx, hb, hml, hown, hq⟩ (cc_Border_hasGoose_B l D cT tt b1 b hb1 n s_1 r_2 p2 s_8 r_9 z_10) (cwV 1 hq (gb_gV w_619 w_612 w_613 w_4 w_614) rfl rfl rfl (by decide +kernel) ⟨Nat.le_of_ble_eq_true rfl, Nat.le_of_ble_eq_true rfl⟩) (gb_preV (r := (RX0, TX0, 1)) (ci := 0) (q0 := r_2) hSt hP rfl (gb_at b (gb_cB z_6).1) hS (fun q h => Nat.le_trans hb1 h.1) hP) rfl rfl hl.1 rfl (lv_room (Nat.le_of_ble_eq_true rfl)) dX11_alike_20 ⟨Nat.le_of_ble_eq_true rfl, Nat.le_of_ble_eq_true rfl⟩) hS (fun _ h => h) (fun _ h => h) (fun q_11 H locs hY hk hS => ?_)
    obtain ⟨hq_11, hP⟩ := hY
    replace hq_11 := hq_11.symm
    subst hq_11
    refine lv_if_eq (tgt := 35) hx hb dX11_alike_23 (by decide) (fun c_12 => ?_) (fun c_12 => ?_)
    · rw [if_pos c_12] at h
      refine lv_iconst (v := (-1)) hx hb dX11_alike_35 (by decide) ?_
      obtain ⟨e1, e2⟩ := gb_eq2 h
      exact W.iret (v := (-1)) hx hb hr (fun t ht hW => gb_ri ht ⟨e2, by rw [← e1]; exact hP⟩ hS) hS.2.2 dX11_alike_36
    · rw [if_neg c_12] at h
      refine lv_aload hx hb dX11_alike_26 (lv_at hl 0 rfl) ?_
      refine lv_iload_n hx hb dX11_alike_28 rfl (lv_at hl 4 rfl) ?_
      obtain ⟨s_13, r_14, z_15, h⟩ := gb_cd_s h
      refine gb_calli (va_runV (C := RX0) (As := [.int p3]) (rest := []) ⟨hx, hb, hml, hown, hq⟩ (cc_Border_hasGoose_B l D cT tt b1 b hb1 n s_8 r_2 p3 s_13 r_14 z_15) (cwV 1 hq (gb_gV w_619 w_612 w_613 w_4 w_614) rfl rfl rfl (by decide +kernel) ⟨Nat.le_of_ble_eq_true rfl, Nat.le_of_ble_eq_true rfl⟩) (gb_preV (r := (RX0, TX0, 1)) (ci := 0) (q0 := r_2) hSt hP rfl (gb_at b (gb_cB z_6).1) hS (fun q h => Nat.le_trans hb1 h.1) hP) rfl rfl hl.1 rfl (lv_room (Nat.le_of_ble_eq_true rfl)) dX11_alike_29 ⟨Nat.le_of_ble_eq_true rfl, Nat.le_of_ble_eq_true rfl⟩) hS (fun _ h => h) (fun _ h => h) (fun q_16 H locs hY hk hS => ?_)
      obtain ⟨hq_16, hP⟩ := hY
      replace hq_16 := hq_16.symm
      subst hq_16
      refine lv_if_ne (tgt := 37) hx hb dX11_alike_32 (by decide) (fun c_17 => ?_) (fun c_17 => ?_)
      · rw [if_neg c_17] at h
        refine lv_iconst (v := 0) hx hb dX11_alike_37 (by decide) ?_
        refine lv_istore (lv' := [(5, .int 0), (4, .ref (b + r_2)), (0, .ref (b + 0)), (1, .int p1), (2, .int p2), (3, .int p3)]) hx hb dX11_alike_38 hl (by decide) rfl (fun ls hl => ?_)
        refine lv_iconst (v := 0) hx hb dX11_alike_40 (by decide) ?_
        refine lv_istore (lv' := [(6, .int 0), (5, .int 0), (4, .ref (b + r_2)), (0, .ref (b + 0)), (1, .int p1), (2, .int p2), (3, .int p3)]) hx hb dX11_alike_41 hl (by decide) rfl (fun ls hl => ?_)
        exact L43_1 n _ _ _ _ _ _ _ _ _ h hP hS (lv_sub hl [5, 6, 2, 1, 0] rfl)
      · rw [if_pos c_17] at h
        refine lv_iconst (v := (-1)) hx hb dX11_alike_35 (by decide) ?_
        obtain ⟨e1, e2⟩ := gb_eq2 h
        exact W.iret (v := (-1)) hx hb hr (fun t ht hW => gb_ri ht ⟨e2, by rw [← e1]; exact hP⟩ hS) hS.2.2 dX11_alike_36
theorem dX11_lame_0 : decode cX11_lame 0 = .ok (.aload_n 0, 1) := by decide +kernel
theorem dX11_lame_1 : decode cX11_lame 1 = .ok (.iload_n 1, 1) := by decide +kernel
theorem dX11_lame_2 : decode cX11_lame 2 = .ok (.invokevirtual 113, 3) := by decide +kernel
theorem dX11_lame_5 : decode cX11_lame 5 = .ok (.astore 4, 2) := by decide +kernel
theorem dX11_lame_7 : decode cX11_lame 7 = .ok (.aload 4, 2) := by decide +kernel
theorem dX11_lame_9 : decode cX11_lame 9 = .ok (.ifnonnull 5, 3) := by decide +kernel
theorem dX11_lame_12 : decode cX11_lame 12 = .ok (.iconst (-1), 1) := by decide +kernel
theorem dX11_lame_13 : decode cX11_lame 13 = .ok (.ireturn, 1) := by decide +kernel
theorem dX11_lame_14 : decode cX11_lame 14 = .ok (.iload_n 3, 1) := by decide +kernel
theorem dX11_lame_15 : decode cX11_lame 15 = .ok (.ifCond .lt 29, 3) := by decide +kernel
theorem dX11_lame_44 : decode cX11_lame 44 = .ok (.aload 4, 2) := by decide +kernel
theorem dX11_lame_46 : decode cX11_lame 46 = .ok (.iload_n 2, 1) := by decide +kernel
theorem dX11_lame_47 : decode cX11_lame 47 = .ok (.invokevirtual 135, 3) := by decide +kernel
theorem dX11_lame_50 : decode cX11_lame 50 = .ok (.ifCond .ne 5, 3) := by decide +kernel
theorem dX11_lame_55 : decode cX11_lame 55 = .ok (.iconst 0, 1) := by decide +kernel
theorem dX11_lame_56 : decode cX11_lame 56 = .ok (.istore 5, 2) := by decide +kernel
theorem dX11_lame_58 : decode cX11_lame 58 = .ok (.iconst 0, 1) := by decide +kernel
theorem dX11_lame_59 : decode cX11_lame 59 = .ok (.istore 6, 2) := by decide +kernel
theorem dX11_lame_61 : decode cX11_lame 61 = .ok (.iconst 0, 1) := by decide +kernel
theorem dX11_lame_62 : decode cX11_lame 62 = .ok (.istore 7, 2) := by decide +kernel
theorem dX11_lame_64 : decode cX11_lame 64 = .ok (.iload 7, 2) := by decide +kernel
theorem dX11_lame_66 : decode cX11_lame 66 = .ok (.aload 4, 2) := by decide +kernel
theorem dX11_lame_68 : decode cX11_lame 68 = .ok (.invokevirtual 121, 3) := by decide +kernel
theorem w_598 : (Cond.methodLink "GooseBorder" (121 : Nat) ({ cls := "GooseBorder$Border", name := "geese", desc := "()I" } : MethodName)) ∈ gb_wA := gb_t3 118 rfl rfl
theorem dX11_lame_71 : decode cX11_lame 71 = .ok (.if_icmp .ge 50, 3) := by decide +kernel
theorem dX11_lame_121 : decode cX11_lame 121 = .ok (.aload 4, 2) := by decide +kernel
theorem dX11_lame_123 : decode cX11_lame 123 = .ok (.iload_n 2, 1) := by decide +kernel
theorem dX11_lame_124 : decode cX11_lame 124 = .ok (.iload 5, 2) := by decide +kernel
theorem dX11_lame_126 : decode cX11_lame 126 = .ok (.invokevirtual 229, 3) := by decide +kernel
theorem w_786 : (Cond.code ({ cls := "GooseBorder$Border", name := "payOf", desc := "(II)I" } : MethodName) prog_2_method_23_code (3 : Nat) (Option.some FieldType.int)) ∈ gb_wA := gb_t4 66 rfl rfl
theorem w_783 : (Cond.methodLink "GooseBorder" (229 : Nat) ({ cls := "GooseBorder$Border", name := "payOf", desc := "(II)I" } : MethodName)) ∈ gb_wA := gb_t4 63 rfl rfl
theorem w_784 : (Cond.instanceMethod ({ cls := "GooseBorder$Border", name := "payOf", desc := "(II)I" } : MethodName)) ∈ gb_wA := gb_t4 64 rfl rfl
theorem w_785 : (Cond.selects "GooseBorder$Border" ({ cls := "GooseBorder$Border", name := "payOf", desc := "(II)I" } : MethodName) ({ cls := "GooseBorder$Border", name := "payOf", desc := "(II)I" } : MethodName)) ∈ gb_wA := gb_t4 65 rfl rfl
theorem dX11_lame_129 : decode cX11_lame 129 = .ok (.aload 4, 2) := by decide +kernel
theorem dX11_lame_131 : decode cX11_lame 131 = .ok (.iload_n 2, 1) := by decide +kernel
theorem dX11_lame_132 : decode cX11_lame 132 = .ok (.iload 6, 2) := by decide +kernel
theorem dX11_lame_134 : decode cX11_lame 134 = .ok (.invokevirtual 229, 3) := by decide +kernel
theorem dX11_lame_137 : decode cX11_lame 137 = .ok (.isub, 1) := by decide +kernel
theorem dX11_lame_138 : decode cX11_lame 138 = .ok (.ireturn, 1) := by decide +kernel
theorem dX11_lame_74 : decode cX11_lame 74 = .ok (.aload 4, 2) := by decide +kernel
theorem dX11_lame_76 : decode cX11_lame 76 = .ok (.iload 7, 2) := by decide +kernel
theorem dX11_lame_78 : decode cX11_lame 78 = .ok (.iload_n 2, 1) := by decide +kernel
theorem dX11_lame_79 : decode cX11_lame 79 = .ok (.invokevirtual 311, 3) := by decide +kernel
theorem dX11_lame_82 : decode cX11_lame 82 = .ok (.istore 8, 2) := by decide +kernel
theorem dX11_lame_84 : decode cX11_lame 84 = .ok (.iload 5, 2) := by decide +kernel
theorem dX11_lame_86 : decode cX11_lame 86 = .ok (.iload 8, 2) := by decide +kernel
theorem dX11_lame_88 : decode cX11_lame 88 = .ok (.iadd, 1) := by decide +kernel
theorem dX11_lame_89 : decode cX11_lame 89 = .ok (.istore 5, 2) := by decide +kernel
theorem dX11_lame_91 : decode cX11_lame 91 = .ok (.iload 6, 2) := by decide +kernel
theorem dX11_lame_93 : decode cX11_lame 93 = .ok (.aload 4, 2) := by decide +kernel
theorem dX11_lame_95 : decode cX11_lame 95 = .ok (.iload 7, 2) := by decide +kernel
theorem dX11_lame_97 : decode cX11_lame 97 = .ok (.invokevirtual 314, 3) := by decide +kernel
theorem w_964 : (Cond.methodLink "GooseBorder" (314 : Nat) ({ cls := "GooseBorder$Border", name := "limps", desc := "(I)Z" } : MethodName)) ∈ gb_wA := gb_t5 4 rfl rfl
theorem dX11_lame_100 : decode cX11_lame 100 = .ok (.ifCond .eq 10, 3) := by decide +kernel
theorem dX11_lame_110 : decode cX11_lame 110 = .ok (.iload 8, 2) := by decide +kernel
theorem dX11_lame_112 : decode cX11_lame 112 = .ok (.iadd, 1) := by decide +kernel
theorem dX11_lame_113 : decode cX11_lame 113 = .ok (.istore 6, 2) := by decide +kernel
theorem dX11_lame_115 : decode cX11_lame 115 = .ok (.iinc 7 1, 3) := by decide +kernel
theorem dX11_lame_118 : decode cX11_lame 118 = .ok (.goto (-54), 3) := by decide +kernel
theorem dX11_lame_103 : decode cX11_lame 103 = .ok (.iload 8, 2) := by decide +kernel
theorem dX11_lame_105 : decode cX11_lame 105 = .ok (.iconst 2, 1) := by decide +kernel
theorem dX11_lame_106 : decode cX11_lame 106 = .ok (.idiv, 1) := by decide +kernel
theorem dX11_lame_107 : decode cX11_lame 107 = .ok (.goto 5, 3) := by decide +kernel
theorem dX11_lame_53 : decode cX11_lame 53 = .ok (.iconst (-1), 1) := by decide +kernel
theorem dX11_lame_54 : decode cX11_lame 54 = .ok (.ireturn, 1) := by decide +kernel
theorem dX11_lame_18 : decode cX11_lame 18 = .ok (.iload_n 3, 1) := by decide +kernel
theorem dX11_lame_19 : decode cX11_lame 19 = .ok (.bipush 8, 2) := by decide +kernel
theorem dX11_lame_21 : decode cX11_lame 21 = .ok (.if_icmp .ge 23, 3) := by decide +kernel
theorem dX11_lame_24 : decode cX11_lame 24 = .ok (.aload 4, 2) := by decide +kernel
theorem dX11_lame_26 : decode cX11_lame 26 = .ok (.iload_n 3, 1) := by decide +kernel
theorem dX11_lame_27 : decode cX11_lame 27 = .ok (.invokevirtual 131, 3) := by decide +kernel
theorem dX11_lame_30 : decode cX11_lame 30 = .ok (.ifCond .eq 12, 3) := by decide +kernel
theorem dX11_lame_42 : decode cX11_lame 42 = .ok (.iconst (-1), 1) := by decide +kernel
theorem dX11_lame_43 : decode cX11_lame 43 = .ok (.ireturn, 1) := by decide +kernel
theorem dX11_lame_33 : decode cX11_lame 33 = .ok (.aload 4, 2) := by decide +kernel
theorem dX11_lame_35 : decode cX11_lame 35 = .ok (.iload_n 3, 1) := by decide +kernel
theorem dX11_lame_36 : decode cX11_lame 36 = .ok (.invokestatic 307, 3) := by decide +kernel
theorem dX11_bestPath_0 : decode cX11_bestPath 0 = .ok (.iconst (-1), 1) := by decide +kernel
theorem dX11_bestPath_1 : decode cX11_bestPath 1 = .ok (.istore_n 2, 1) := by decide +kernel
theorem dX11_bestPath_2 : decode cX11_bestPath 2 = .ok (.iconst (-1), 1) := by decide +kernel
theorem dX11_bestPath_3 : decode cX11_bestPath 3 = .ok (.istore_n 3, 1) := by decide +kernel
theorem dX11_bestPath_4 : decode cX11_bestPath 4 = .ok (.iconst 0, 1) := by decide +kernel
theorem dX11_bestPath_5 : decode cX11_bestPath 5 = .ok (.istore 4, 2) := by decide +kernel
theorem dX11_bestPath_7 : decode cX11_bestPath 7 = .ok (.iload 4, 2) := by decide +kernel
theorem dX11_bestPath_9 : decode cX11_bestPath 9 = .ok (.aload_n 0, 1) := by decide +kernel
theorem dX11_bestPath_10 : decode cX11_bestPath 10 = .ok (.invokevirtual 117, 3) := by decide +kernel
theorem dX11_bestPath_13 : decode cX11_bestPath 13 = .ok (.if_icmp .ge 36, 3) := by decide +kernel
theorem dX11_bestPath_49 : decode cX11_bestPath 49 = .ok (.iload_n 3, 1) := by decide +kernel
theorem dX11_bestPath_50 : decode cX11_bestPath 50 = .ok (.ireturn, 1) := by decide +kernel
theorem dX11_bestPath_16 : decode cX11_bestPath 16 = .ok (.aload_n 0, 1) := by decide +kernel
theorem dX11_bestPath_17 : decode cX11_bestPath 17 = .ok (.iload 4, 2) := by decide +kernel
theorem dX11_bestPath_19 : decode cX11_bestPath 19 = .ok (.aload_n 0, 1) := by decide +kernel
theorem dX11_bestPath_20 : decode cX11_bestPath 20 = .ok (.iload_n 1, 1) := by decide +kernel
theorem dX11_bestPath_21 : decode cX11_bestPath 21 = .ok (.iload 4, 2) := by decide +kernel
theorem dX11_bestPath_23 : decode cX11_bestPath 23 = .ok (.invokevirtual 311, 3) := by decide +kernel
theorem dX11_bestPath_26 : decode cX11_bestPath 26 = .ok (.invokevirtual 229, 3) := by decide +kernel
theorem dX11_bestPath_29 : decode cX11_bestPath 29 = .ok (.istore 5, 2) := by decide +kernel
theorem dX11_bestPath_31 : decode cX11_bestPath 31 = .ok (.iload 5, 2) := by decide +kernel
theorem dX11_bestPath_33 : decode cX11_bestPath 33 = .ok (.iload_n 2, 1) := by decide +kernel
theorem dX11_bestPath_34 : decode cX11_bestPath 34 = .ok (.if_icmp .le 9, 3) := by decide +kernel
theorem dX11_bestPath_43 : decode cX11_bestPath 43 = .ok (.iinc 4 1, 3) := by decide +kernel
theorem dX11_bestPath_46 : decode cX11_bestPath 46 = .ok (.goto (-39), 3) := by decide +kernel
theorem dX11_bestPath_37 : decode cX11_bestPath 37 = .ok (.iload 5, 2) := by decide +kernel
theorem dX11_bestPath_39 : decode cX11_bestPath 39 = .ok (.istore_n 2, 1) := by decide +kernel
theorem dX11_bestPath_40 : decode cX11_bestPath 40 = .ok (.iload 4, 2) := by decide +kernel
theorem dX11_bestPath_42 : decode cX11_bestPath 42 = .ok (.istore_n 3, 1) := by decide +kernel
def cs_Face_bestPath_B_7 (n : Nat) : Nat → gb_S → Nat → Int32 → Int32 → Int32 → Int32 → gb_CR Int32
  | 0, _, _, _, _, _, _ => none
  | mm + 1, σ, v0, v1, v2, v3, v4 => gb_kk (gb_kB v0) (gb_cd (cs_Border_paths_B n σ v0) (fun s_3 r_4 => (if r_4 ≤ v4 then some (s_3, v3) else gb_cd (cs_Border_marksFirst_B n s_3 v0 v1 v4) (fun s_8 r_9 => gb_cd (cs_Border_payOf_B n s_8 v0 v4 r_9) (fun s_12 r_13 => (if r_13 ≤ v2 then gb_lt (v4 + 1) (fun x_17 => cs_Face_bestPath_B_7 n mm s_12 v0 v1 v2 v3 x_17) else gb_lt (v4 + 1) (fun x_18 => cs_Face_bestPath_B_7 n mm s_12 v0 v1 r_13 v4 x_18)))))))
def cs_Face_bestPath_B (n : Nat) (σ : gb_S) (p1 : Nat) (p2 : Int32) : gb_CR Int32 := gb_kk (gb_kB p1) (cs_Face_bestPath_B_7 n n σ p1 p2 (-1) (-1) 0)
set_option maxHeartbeats 8000000 in
set_option maxRecDepth 100000 in
theorem cc_Face_bestPath_B (l : Launch) (D : va_G) (cT : Nat → ClassId) (tt : Nat → Nat) (b1 b : Nat) (hb1 : b1 ≤ b) (n : Nat) (σ : gb_S) (p1 : Nat) (p2 : Int32) (σE : gb_S) (rE : Int32) (h : cs_Face_bestPath_B n σ p1 p2 = some (σE, rE)) : Met l yX11_bestPath (.code yX11_bestPath cX11_bestPath 6 (some FieldType.int) :: gb_wA) ({ frames := 3, cells := 0, slots := 0, locals := 70 }) (gb_Pc D cT tt b1 [.ref (b + p1), .int p2] (fun h => va_P D vwCl (gb_wl b (gb_CW cT b σ)) h)) (gb_Qi (fun r h => r = rE ∧ va_P D vwCl (gb_wl b (gb_CW cT b σE)) h) (gb_fr b 135)) 0 0 (gb_fr b 135) := by
  refine Met.ofW (cc := cX11_bestPath) (maxL := 6) (ret := (some FieldType.int)) (by decide) rfl ?_
  intro p e s m args below meth c s₁ B hml hv
  obtain ⟨rfl, hSt, hP⟩ := hv
  have hx := B.exec
  have hb := B.bytes
  have hr := B.returns
  have hts := atoms_spec (ws := .code yX11_bestPath cX11_bestPath 6 (some FieldType.int) :: gb_wA) B.pre
  have hq : ∀ w ∈ gb_wA, w.before _ s = true := fun w h => hts w (List.mem_cons_of_mem _ h)
  have hown : s.vm.findClass RX11 = some m.cls := findClass_of_methodNamed B.named
  have hlocks := B.notSynchronized
  clear B hts
  have hK := hSt.1
  have hS : va_S (gb_fr b 135) s.heap s.heap [] := va_S.rf
  have hl := lv_entry ([.ref (b + p1), .int p2]) (n := 6) (Nat.le_of_ble_eq_true rfl)
  rw [lg_entry_eq]
  generalize (lg_sl ([.ref (b + p1), .int p2]) ++ List.replicate (6 - (lg_sl ([.ref (b + p1), .int p2])).length) Slot.unset).toArray = ls at hl ⊢
  replace hl : lv_has ls 6 [(0, .ref (b + p1)), (1, .int p2)] := hl
  have L7_1 : ∀ (mm : Nat) (σ : gb_S) (v0 : Nat) (v1 : Int32) (v2 : Int32) (v3 : Int32) (v4 : Int32) (H : Heap) (locs : List Loc) (ls : Array Slot), cs_Face_bestPath_B_7 n mm σ v0 v1 v2 v3 v4 = some (σE, rE) → va_P D vwCl (gb_wl b (gb_CW cT b σ)) H → va_S (gb_fr b 135) s.heap H locs → lv_has ls 6 [(0, .ref (b + v0)), (1, .int v1), (2, .int v2), (3, .int v3), (4, .int v4)] → W p l e (headSpec (.code yX11_bestPath cX11_bestPath 6 (some FieldType.int) :: gb_wA) ({ frames := 3, cells := 0, slots := 0, locals := 70 })).room s m ([.ref (b + p1), .int p2]).toArray below meth c H locs 0 0 (MQ below (gb_Qi (fun r h => r = rE ∧ va_P D vwCl (gb_wl b (gb_CW cT b σE)) h) (gb_fr b 135)) ([.ref (b + p1), .int p2]).toArray s 0 0 (gb_fr b 135)) (F0 m 7 ls []) := by
    clear h hP hS hl ls
    intro mm
    induction mm with
    | zero =>
      intro σ v0 v1 v2 v3 v4 H locs ls h
      cases h
    | succ mm ih =>
      intro σ v0 v1 v2 v3 v4 H locs ls h hP hS hl
      rw [cs_Face_bestPath_B_7] at h
      obtain ⟨z_2, h⟩ := gb_kk_s h
      refine lv_iload hx hb dX11_bestPath_7 (lv_at hl 4 rfl) ?_
      refine lv_aload_n hx hb dX11_bestPath_9 rfl (lv_at hl 0 rfl) ?_
      obtain ⟨s_3, r_4, z_5, h⟩ := gb_cd_s h
      refine gb_calli (va_runV (C := RX0) (As := []) (rest := [.int v4]) ⟨hx, hb, hml, hown, hq⟩ (cc_Border_paths_B l D cT tt b1 b hb1 n σ v0 s_3 r_4 z_5) (cwV 0 hq (gb_gV w_597 w_473 w_474 w_4 w_475) rfl rfl rfl (by decide +kernel) ⟨Nat.le_of_ble_eq_true rfl, Nat.le_of_ble_eq_true rfl⟩) (gb_preV (r := (RX0, TX0, 1)) (ci := 0) (q0 := v0) hSt hP rfl (gb_at b (gb_cB z_2).1) hS (fun q h => Nat.le_trans hb1 h.1) hP) rfl rfl hl.1 rfl (lv_room (Nat.le_of_ble_eq_true rfl)) dX11_bestPath_10 ⟨Nat.le_of_ble_eq_true rfl, Nat.le_of_ble_eq_true rfl⟩) hS (fun _ h => h) (fun _ h => h) (fun q_6 H locs hY hk hS => ?_)
      obtain ⟨hq_6, hP⟩ := hY
      replace hq_6 := hq_6.symm
      subst hq_6
      refine lv_icmp_ge (tgt := 49) hx hb dX11_bestPath_13 (by decide) (fun c_7 => ?_) (fun c_7 => ?_)
      · rw [if_pos c_7] at h
        refine lv_iload_n hx hb dX11_bestPath_49 rfl (lv_at hl 3 rfl) ?_
        obtain ⟨e1, e2⟩ := gb_eq2 h
        exact W.iret (v := v3) hx hb hr (fun t ht hW => gb_ri ht ⟨e2, by rw [← e1]; exact hP⟩ hS) hS.2.2 dX11_bestPath_50
      · rw [if_neg c_7] at h
        refine lv_aload_n hx hb dX11_bestPath_16 rfl (lv_at hl 0 rfl) ?_
        refine lv_iload hx hb dX11_bestPath_17 (lv_at hl 4 rfl) ?_
        refine lv_aload_n hx hb dX11_bestPath_19 rfl (lv_at hl 0 rfl) ?_
        refine lv_iload_n hx hb dX11_bestPath_20 rfl (lv_at hl 1 rfl) ?_
        refine lv_iload hx hb dX11_bestPath_21 (lv_at hl 4 rfl) ?_
        obtain ⟨s_8, r_9, z_10, h⟩ := gb_cd_s h
        refine gb_calli (va_runV (C := RX0) (As := [.int v1, .int v4]) (rest := [.int v4, .ref (b + v0)]) ⟨hx, hb, hml, hown, hq⟩ (cc_Border_marksFirst_B l D cT tt b1 b hb1 n s_3 v0 v1 v4 s_8 r_9 z_10) (cwV 2 hq (gb_gV w_963 w_899 w_900 w_4 w_901) rfl rfl rfl (by decide +kernel) ⟨Nat.le_of_ble_eq_true rfl, Nat.le_of_ble_eq_true rfl⟩) (gb_preV (r := (RX0, TX0, 1)) (ci := 0) (q0 := v0) hSt hP rfl (gb_at b (gb_cB z_2).1) hS (fun q h => Nat.le_trans hb1 h.1) hP) rfl rfl hl.1 rfl (lv_room (Nat.le_of_ble_eq_true rfl)) dX11_bestPath_23 ⟨Nat.le_of_ble_eq_true rfl, Nat.le_of_ble_eq_true rfl⟩) hS (fun _ h => h) (fun _ h => h) (fun q_11 H locs hY hk hS => ?_)
        obtain ⟨hq_11, hP⟩ := hY
        replace hq_11 := hq_11.symm
        subst hq_11
        obtain ⟨s_12, r_13, z_14, h⟩ := gb_cd_s h
        refine gb_calli (va_runV (C := RX0) (As := [.int v4, .int r_9]) (rest := []) ⟨hx, hb, hml, hown, hq⟩ (cc_Border_payOf_B l D cT tt b1 b hb1 n s_8 v0 v4 r_9 s_12 r_13 z_14) (cwV 2 hq (gb_gV w_783 w_784 w_785 w_4 w_786) rfl rfl rfl (by decide +kernel) ⟨Nat.le_of_ble_eq_true rfl, Nat.le_of_ble_eq_true rfl⟩) (gb_preV (r := (RX0, TX0, 1)) (ci := 0) (q0 := v0) hSt hP rfl (gb_at b (gb_cB z_2).1) hS (fun q h => Nat.le_trans hb1 h.1) hP) rfl rfl hl.1 rfl (lv_room (Nat.le_of_ble_eq_true rfl)) dX11_bestPath_26 ⟨Nat.le_of_ble_eq_true rfl, Nat.le_of_ble_eq_true rfl⟩) hS (fun _ h => h) (fun _ h => h) (fun q_15 H locs hY hk hS => ?_)
        obtain ⟨hq_15, hP⟩ := hY
        replace hq_15 := hq_15.symm
        subst hq_15
        refine lv_istore (lv' := [(5, .int r_13), (0, .ref (b + v0)), (1, .int v1), (2, .int v2), (3, .int v3), (4, .int v4)]) hx hb dX11_bestPath_29 hl (by decide) rfl (fun ls hl => ?_)
        refine lv_iload hx hb dX11_bestPath_31 (lv_at hl 0 rfl) ?_
        refine lv_iload_n hx hb dX11_bestPath_33 rfl (lv_at hl 3 rfl) ?_
        refine lv_icmp_le (tgt := 43) hx hb dX11_bestPath_34 (by decide) (fun c_16 => ?_) (fun c_16 => ?_)
        · rw [if_pos c_16] at h
          obtain ⟨x_17, ex_17⟩ : ∃ q, q = (v4 + 1) := ⟨_, rfl⟩
          replace h := gb_lt_s ex_17 h
          refine lv_iinc (v := x_17) (lv' := [(4, .int x_17), (5, .int r_13), (0, .ref (b + v0)), (1, .int v1), (2, .int v2), (3, .int v3)]) hx hb dX11_bestPath_43 hl (k := 5) rfl (by rw [ex_17]; rfl) (by decide) rfl (fun ls hl => ?_)
          refine lv_goto (tgt := 7) hx hb dX11_bestPath_46 (by decide) ?_
          exact ih _ _ _ _ _ _ _ _ _ h hP hS (lv_sub hl [2, 3, 4, 5, 0] rfl)
        · rw [if_neg c_16] at h
          refine lv_iload hx hb dX11_bestPath_37 (lv_at hl 0 rfl) ?_
          refine lv_istore_n (lv' := [(2, .int r_13), (5, .int r_13), (0, .ref (b + v0)), (1, .int v1), (3, .int v3), (4, .int v4)]) hx hb dX11_bestPath_39 rfl hl (by decide) rfl (fun ls hl => ?_)
          refine lv_iload hx hb dX11_bestPath_40 (lv_at hl 5 rfl) ?_
          refine lv_istore_n (lv' := [(3, .int v4), (2, .int r_13), (5, .int r_13), (0, .ref (b + v0)), (1, .int v1), (4, .int v4)]) hx hb dX11_bestPath_42 rfl hl (by decide) rfl (fun ls hl => ?_)
          obtain ⟨x_18, ex_18⟩ : ∃ q, q = (v4 + 1) := ⟨_, rfl⟩
          replace h := gb_lt_s ex_18 h
          refine lv_iinc (v := x_18) (lv' := [(4, .int x_18), (3, .int v4), (2, .int r_13), (5, .int r_13), (0, .ref (b + v0)), (1, .int v1)]) hx hb dX11_bestPath_43 hl (k := 5) rfl (by rw [ex_18]; rfl) (by decide) rfl (fun ls hl => ?_)
          refine lv_goto (tgt := 7) hx hb dX11_bestPath_46 (by decide) ?_
          exact ih _ _ _ _ _ _ _ _ _ h hP hS (lv_sub hl [4, 5, 2, 1, 0] rfl)
  unfold cs_Face_bestPath_B at h
  obtain ⟨z_1, h⟩ := gb_kk_s h
  refine lv_iconst (v := (-1)) hx hb dX11_bestPath_0 (by decide) ?_
  refine lv_istore_n (lv' := [(2, .int (-1)), (0, .ref (b + p1)), (1, .int p2)]) hx hb dX11_bestPath_1 rfl hl (by decide) rfl (fun ls hl => ?_)
  refine lv_iconst (v := (-1)) hx hb dX11_bestPath_2 (by decide) ?_
  refine lv_istore_n (lv' := [(3, .int (-1)), (2, .int (-1)), (0, .ref (b + p1)), (1, .int p2)]) hx hb dX11_bestPath_3 rfl hl (by decide) rfl (fun ls hl => ?_)
  refine lv_iconst (v := 0) hx hb dX11_bestPath_4 (by decide) ?_
  refine lv_istore (lv' := [(4, .int 0), (3, .int (-1)), (2, .int (-1)), (0, .ref (b + p1)), (1, .int p2)]) hx hb dX11_bestPath_5 hl (by decide) rfl (fun ls hl => ?_)
  exact L7_1 n _ _ _ _ _ _ _ _ _ h hP hS (lv_sub hl [3, 4, 2, 1, 0] rfl)
theorem w_962 : (Cond.code ({ cls := "GooseBorder", name := "bestPath", desc := "(LGooseBorder$Border;I)I" } : MethodName) prog_1_method_37_code (6 : Nat) (Option.some FieldType.int)) ∈ gb_wA := gb_t5 2 rfl rfl
theorem w_960 : (Cond.methodLink "GooseBorder" (307 : Nat) ({ cls := "GooseBorder", name := "bestPath", desc := "(LGooseBorder$Border;I)I" } : MethodName)) ∈ gb_wA := gb_t5 0 rfl rfl
theorem w_961 : (Cond.static ({ cls := "GooseBorder", name := "bestPath", desc := "(LGooseBorder$Border;I)I" } : MethodName)) ∈ gb_wA := gb_t5 1 rfl rfl
theorem dX11_lame_39 : decode cX11_lame 39 = .ok (.goto 4, 3) := by decide +kernel
def cs_Face_lame_64 (n : Nat) : Nat → gb_S → Int32 → Nat → Int32 → Int32 → Int32 → gb_CR Int32
  | 0, _, _, _, _, _, _ => none
  | mm + 1, σ, v2, v4, v5, v6, v7 => gb_kk (gb_kB v4) (gb_cd (cs_Border_geese_B n σ v4) (fun s_14 r_15 => (if r_15 ≤ v7 then gb_cd (cs_Border_payOf_B n s_14 v4 v2 v5) (fun s_19 r_20 => gb_cd (cs_Border_payOf_B n s_19 v4 v2 v6) (fun s_23 r_24 => some (s_23, (r_20 - r_24)))) else gb_cd (cs_Border_marksFirst_B n s_14 v4 v7 v2) (fun s_27 r_28 => gb_lt (v5 + r_28) (fun x_31 => gb_cd (cs_Border_limps_B n s_27 v4 v7) (fun s_32 r_33 => (if r_33 = 0 then gb_lt (v6 + r_28) (fun x_37 => gb_lt (v7 + 1) (fun x_38 => cs_Face_lame_64 n mm s_32 v2 v4 x_31 x_37 x_38)) else gb_lt (r_28 / 2) (fun x_39 => gb_lt (v6 + x_39) (fun x_40 => gb_lt (v7 + 1) (fun x_41 => cs_Face_lame_64 n mm s_32 v2 v4 x_31 x_40 x_41))))))))))
def cs_Face_lame (n : Nat) (σ : gb_S) (p1 : Int32) (p2 : Int32) (p3 : Int32) : gb_CR Int32 := gb_cd (cs_Face_borderAt n σ p1) (fun s_1 r_2 => (if r_2 = 0 then some (s_1, (-1)) else gb_kk (gb_kB r_2) ((if p3 < 0 then gb_cd (cs_Border_hasPath_B n s_1 r_2 p2) (fun s_8 r_9 => (if r_9 = 0 then some (s_8, (-1)) else cs_Face_lame_64 n n s_8 p2 r_2 0 0 0)) else (if (8 : Int32) ≤ p3 then gb_cd (cs_Border_hasPath_B n s_1 r_2 p2) (fun s_43 r_44 => (if r_44 = 0 then some (s_43, (-1)) else cs_Face_lame_64 n n s_43 p2 r_2 0 0 0)) else gb_cd (cs_Border_hasGoose_B n s_1 r_2 p3) (fun s_48 r_49 => (if r_49 = 0 then some (s_48, (-1)) else gb_cd (cs_Face_bestPath_B n s_48 r_2 p3) (fun s_53 r_54 => some (s_53, r_54)))))))))
set_option maxHeartbeats 8000000 in
set_option maxRecDepth 100000 in
theorem cc_Face_lame (l : Launch) (D : va_G) (cT : Nat → ClassId) (tt : Nat → Nat) (b1 b : Nat) (hb1 : b1 ≤ b) (n : Nat) (σ : gb_S) (p1 : Int32) (p2 : Int32) (p3 : Int32) (σE : gb_S) (rE : Int32) (h : cs_Face_lame n σ p1 p2 p3 = some (σE, rE)) : Met l yX11_lame (.code yX11_lame cX11_lame 9 (some FieldType.int) :: gb_wA) ({ frames := 4, cells := 0, slots := 0, locals := 95 }) (gb_Pc D cT tt b1 [.ref (b + 0), .int p1, .int p2, .int p3] (fun h => va_P D vwCl (gb_wl b (gb_CW cT b σ)) h)) (gb_Qi (fun r h => r = rE ∧ va_P D vwCl (gb_wl b (gb_CW cT b σE)) h) (gb_fr b 135)) 0 0 (gb_fr b 135) := by
  refine Met.ofW (cc := cX11_lame) (maxL := 9) (ret := (some FieldType.int)) (by decide) rfl ?_
  intro p e s m args below meth c s₁ B hml hv
  obtain ⟨rfl, hSt, hP⟩ := hv
  have hx := B.exec
  have hb := B.bytes
  have hr := B.returns
  have hts := atoms_spec (ws := .code yX11_lame cX11_lame 9 (some FieldType.int) :: gb_wA) B.pre
  have hq : ∀ w ∈ gb_wA, w.before _ s = true := fun w h => hts w (List.mem_cons_of_mem _ h)
  have hown : s.vm.findClass RX11 = some m.cls := findClass_of_methodNamed B.named
  have hlocks := B.notSynchronized
  clear B hts
  have hK := hSt.1
  have hS : va_S (gb_fr b 135) s.heap s.heap [] := va_S.rf
  have hl := lv_entry ([.ref (b + 0), .int p1, .int p2, .int p3]) (n := 9) (Nat.le_of_ble_eq_true rfl)
  rw [lg_entry_eq]
  generalize (lg_sl ([.ref (b + 0), .int p1, .int p2, .int p3]) ++ List.replicate (9 - (lg_sl ([.ref (b + 0), .int p1, .int p2, .int p3])).length) Slot.unset).toArray = ls at hl ⊢
  replace hl : lv_has ls 9 [(0, .ref (b + 0)), (1, .int p1), (2, .int p2), (3, .int p3)] := hl
  have L64_1 : ∀ (mm : Nat) (σ : gb_S) (v2 : Int32) (v4 : Nat) (v5 : Int32) (v6 : Int32) (v7 : Int32) (H : Heap) (locs : List Loc) (ls : Array Slot), cs_Face_lame_64 n mm σ v2 v4 v5 v6 v7 = some (σE, rE) → va_P D vwCl (gb_wl b (gb_CW cT b σ)) H → va_S (gb_fr b 135) s.heap H locs → lv_has ls 9 [(2, .int v2), (4, .ref (b + v4)), (5, .int v5), (6, .int v6), (7, .int v7)] → W p l e (headSpec (.code yX11_lame cX11_lame 9 (some FieldType.int) :: gb_wA) ({ frames := 4, cells := 0, slots := 0, locals := 95 })).room s m ([.ref (b + 0), .int p1, .int p2, .int p3]).toArray below meth c H locs 0 0 (MQ below (gb_Qi (fun r h => r = rE ∧ va_P D vwCl (gb_wl b (gb_CW cT b σE)) h) (gb_fr b 135)) ([.ref (b + 0), .int p1, .int p2, .int p3]).toArray s 0 0 (gb_fr b 135)) (F0 m 64 ls []) := by
    clear h hP hS hl ls
    intro mm
    induction mm with
    | zero =>
      intro σ v2 v4 v5 v6 v7 H locs ls h
      cases h
    | succ mm ih =>
      intro σ v2 v4 v5 v6 v7 H locs ls h hP hS hl
      rw [cs_Face_lame_64] at h
      obtain ⟨z_13, h⟩ := gb_kk_s h
      refine lv_iload hx hb dX11_lame_64 (lv_at hl 4 rfl) ?_
      refine lv_aload hx hb dX11_lame_66 (lv_at hl 1 rfl) ?_
      obtain ⟨s_14, r_15, z_16, h⟩ := gb_cd_s h
      refine gb_calli (va_runV (C := RX0) (As := []) (rest := [.int v7]) ⟨hx, hb, hml, hown, hq⟩ (cc_Border_geese_B l D cT tt b1 b hb1 n σ v4 s_14 r_15 z_16) (cwV 0 hq (gb_gV w_598 w_477 w_478 w_4 w_479) rfl rfl rfl (by decide +kernel) ⟨Nat.le_of_ble_eq_true rfl, Nat.le_of_ble_eq_true rfl⟩) (gb_preV (r := (RX0, TX0, 1)) (ci := 0) (q0 := v4) hSt hP rfl (gb_at b (gb_cB z_13).1) hS (fun q h => Nat.le_trans hb1 h.1) hP) rfl rfl hl.1 rfl (lv_room (Nat.le_of_ble_eq_true rfl)) dX11_lame_68 ⟨Nat.le_of_ble_eq_true rfl, Nat.le_of_ble_eq_true rfl⟩) hS (fun _ h => h) (fun _ h => h) (fun q_17 H locs hY hk hS => ?_)
      obtain ⟨hq_17, hP⟩ := hY
      replace hq_17 := hq_17.symm
      subst hq_17
      refine lv_icmp_ge (tgt := 121) hx hb dX11_lame_71 (by decide) (fun c_18 => ?_) (fun c_18 => ?_)
      · rw [if_pos c_18] at h
        refine lv_aload hx hb dX11_lame_121 (lv_at hl 1 rfl) ?_
        refine lv_iload_n hx hb dX11_lame_123 rfl (lv_at hl 0 rfl) ?_
        refine lv_iload hx hb dX11_lame_124 (lv_at hl 2 rfl) ?_
        obtain ⟨s_19, r_20, z_21, h⟩ := gb_cd_s h
        refine gb_calli (va_runV (C := RX0) (As := [.int v2, .int v5]) (rest := []) ⟨hx, hb, hml, hown, hq⟩ (cc_Border_payOf_B l D cT tt b1 b hb1 n s_14 v4 v2 v5 s_19 r_20 z_21) (cwV 2 hq (gb_gV w_783 w_784 w_785 w_4 w_786) rfl rfl rfl (by decide +kernel) ⟨Nat.le_of_ble_eq_true rfl, Nat.le_of_ble_eq_true rfl⟩) (gb_preV (r := (RX0, TX0, 1)) (ci := 0) (q0 := v4) hSt hP rfl (gb_at b (gb_cB z_13).1) hS (fun q h => Nat.le_trans hb1 h.1) hP) rfl rfl hl.1 rfl (lv_room (Nat.le_of_ble_eq_true rfl)) dX11_lame_126 ⟨Nat.le_of_ble_eq_true rfl, Nat.le_of_ble_eq_true rfl⟩) hS (fun _ h => h) (fun _ h => h) (fun q_22 H locs hY hk hS => ?_)
        obtain ⟨hq_22, hP⟩ := hY
        replace hq_22 := hq_22.symm
        subst hq_22
        refine lv_aload hx hb dX11_lame_129 (lv_at hl 1 rfl) ?_
        refine lv_iload_n hx hb dX11_lame_131 rfl (lv_at hl 0 rfl) ?_
        refine lv_iload hx hb dX11_lame_132 (lv_at hl 3 rfl) ?_
        obtain ⟨s_23, r_24, z_25, h⟩ := gb_cd_s h
        refine gb_calli (va_runV (C := RX0) (As := [.int v2, .int v6]) (rest := [.int r_20]) ⟨hx, hb, hml, hown, hq⟩ (cc_Border_payOf_B l D cT tt b1 b hb1 n s_19 v4 v2 v6 s_23 r_24 z_25) (cwV 2 hq (gb_gV w_783 w_784 w_785 w_4 w_786) rfl rfl rfl (by decide +kernel) ⟨Nat.le_of_ble_eq_true rfl, Nat.le_of_ble_eq_true rfl⟩) (gb_preV (r := (RX0, TX0, 1)) (ci := 0) (q0 := v4) hSt hP rfl (gb_at b (gb_cB z_13).1) hS (fun q h => Nat.le_trans hb1 h.1) hP) rfl rfl hl.1 rfl (lv_room (Nat.le_of_ble_eq_true rfl)) dX11_lame_134 ⟨Nat.le_of_ble_eq_true rfl, Nat.le_of_ble_eq_true rfl⟩) hS (fun _ h => h) (fun _ h => h) (fun q_26 H locs hY hk hS => ?_)
        obtain ⟨hq_26, hP⟩ := hY
        replace hq_26 := hq_26.symm
        subst hq_26
        refine lv_isub hx hb dX11_lame_137 ?_
        obtain ⟨e1, e2⟩ := gb_eq2 h
        exact W.iret (v := (r_20 - r_24)) hx hb hr (fun t ht hW => gb_ri ht ⟨e2, by rw [← e1]; exact hP⟩ hS) hS.2.2 dX11_lame_138
      · rw [if_neg c_18] at h
        refine lv_aload hx hb dX11_lame_74 (lv_at hl 1 rfl) ?_
        refine lv_iload hx hb dX11_lame_76 (lv_at hl 4 rfl) ?_
        refine lv_iload_n hx hb dX11_lame_78 rfl (lv_at hl 0 rfl) ?_
        obtain ⟨s_27, r_28, z_29, h⟩ := gb_cd_s h
        refine gb_calli (va_runV (C := RX0) (As := [.int v7, .int v2]) (rest := []) ⟨hx, hb, hml, hown, hq⟩ (cc_Border_marksFirst_B l D cT tt b1 b hb1 n s_14 v4 v7 v2 s_27 r_28 z_29) (cwV 2 hq (gb_gV w_963 w_899 w_900 w_4 w_901) rfl rfl rfl (by decide +kernel) ⟨Nat.le_of_ble_eq_true rfl, Nat.le_of_ble_eq_true rfl⟩) (gb_preV (r := (RX0, TX0, 1)) (ci := 0) (q0 := v4) hSt hP rfl (gb_at b (gb_cB z_13).1) hS (fun q h => Nat.le_trans hb1 h.1) hP) rfl rfl hl.1 rfl (lv_room (Nat.le_of_ble_eq_true rfl)) dX11_lame_79 ⟨Nat.le_of_ble_eq_true rfl, Nat.le_of_ble_eq_true rfl⟩) hS (fun _ h => h) (fun _ h => h) (fun q_30 H locs hY hk hS => ?_)
        obtain ⟨hq_30, hP⟩ := hY
        replace hq_30 := hq_30.symm
        subst hq_30
        refine lv_istore (lv' := [(8, .int r_28), (2, .int v2), (4, .ref (b + v4)), (5, .int v5), (6, .int v6), (7, .int v7)]) hx hb dX11_lame_82 hl (by decide) rfl (fun ls hl => ?_)
        refine lv_iload hx hb dX11_lame_84 (lv_at hl 3 rfl) ?_
        refine lv_iload hx hb dX11_lame_86 (lv_at hl 0 rfl) ?_
        refine lv_iadd hx hb dX11_lame_88 ?_
        refine lv_topi (fun x_31 ex_31 => ?_)
        replace h := gb_lt_s ex_31 h
        refine lv_istore (lv' := [(5, .int x_31), (8, .int r_28), (2, .int v2), (4, .ref (b + v4)), (6, .int v6), (7, .int v7)]) hx hb dX11_lame_89 hl (by decide) rfl (fun ls hl => ?_)
        refine lv_iload hx hb dX11_lame_91 (lv_at hl 4 rfl) ?_
        refine lv_aload hx hb dX11_lame_93 (lv_at hl 3 rfl) ?_
        refine lv_iload hx hb dX11_lame_95 (lv_at hl 5 rfl) ?_
        obtain ⟨s_32, r_33, z_34, h⟩ := gb_cd_s h
        refine gb_calli (va_runV (C := RX0) (As := [.int v7]) (rest := [.int v6]) ⟨hx, hb, hml, hown, hq⟩ (cc_Border_limps_B l D cT tt b1 b hb1 n s_27 v4 v7 s_32 r_33 z_34) (cwV 1 hq (gb_gV w_964 w_639 w_640 w_4 w_641) rfl rfl rfl (by decide +kernel) ⟨Nat.le_of_ble_eq_true rfl, Nat.le_of_ble_eq_true rfl⟩) (gb_preV (r := (RX0, TX0, 1)) (ci := 0) (q0 := v4) hSt hP rfl (gb_at b (gb_cB z_13).1) hS (fun q h => Nat.le_trans hb1 h.1) hP) rfl rfl hl.1 rfl (lv_room (Nat.le_of_ble_eq_true rfl)) dX11_lame_97 ⟨Nat.le_of_ble_eq_true rfl, Nat.le_of_ble_eq_true rfl⟩) hS (fun _ h => h) (fun _ h => h) (fun q_35 H locs hY hk hS => ?_)
        obtain ⟨hq_35, hP⟩ := hY
        replace hq_35 := hq_35.symm
        subst hq_35
        refine lv_if_eq (tgt := 110) hx hb dX11_lame_100 (by decide) (fun c_36 => ?_) (fun c_36 => ?_)
        · rw [if_pos c_36] at h
          refine lv_iload hx hb dX11_lame_110 (lv_at hl 1 rfl) ?_
          refine lv_iadd hx hb dX11_lame_112 ?_
          refine lv_topi (fun x_37 ex_37 => ?_)
          replace h := gb_lt_s ex_37 h
          refine lv_istore (lv' := [(6, .int x_37), (5, .int x_31), (8, .int r_28), (2, .int v2), (4, .ref (b + v4)), (7, .int v7)]) hx hb dX11_lame_113 hl (by decide) rfl (fun ls hl => ?_)
          obtain ⟨x_38, ex_38⟩ : ∃ q, q = (v7 + 1) := ⟨_, rfl⟩
          replace h := gb_lt_s ex_38 h
          refine lv_iinc (v := x_38) (lv' := [(7, .int x_38), (6, .int x_37), (5, .int x_31), (8, .int r_28), (2, .int v2), (4, .ref (b + v4))]) hx hb dX11_lame_115 hl (k := 5) rfl (by rw [ex_38]; rfl) (by decide) rfl (fun ls hl => ?_)
          refine lv_goto (tgt := 64) hx hb dX11_lame_118 (by decide) ?_
          exact ih _ _ _ _ _ _ _ _ _ h hP hS (lv_sub hl [4, 5, 2, 1, 0] rfl)
        · rw [if_neg c_36] at h
          refine lv_iload hx hb dX11_lame_103 (lv_at hl 1 rfl) ?_
          refine lv_iconst (v := 2) hx hb dX11_lame_105 (by decide) ?_
          refine lv_idiv hx hb dX11_lame_106 (by decide) ?_
          refine lv_topi (fun x_39 ex_39 => ?_)
          replace h := gb_lt_s ex_39 h
          refine lv_goto (tgt := 112) hx hb dX11_lame_107 (by decide) ?_
          refine lv_iadd hx hb dX11_lame_112 ?_
          refine lv_topi (fun x_40 ex_40 => ?_)
          replace h := gb_lt_s ex_40 h
          refine lv_istore (lv' := [(6, .int x_40), (5, .int x_31), (8, .int r_28), (2, .int v2), (4, .ref (b + v4)), (7, .int v7)]) hx hb dX11_lame_113 hl (by decide) rfl (fun ls hl => ?_)
          obtain ⟨x_41, ex_41⟩ : ∃ q, q = (v7 + 1) := ⟨_, rfl⟩
          replace h := gb_lt_s ex_41 h
          refine lv_iinc (v := x_41) (lv' := [(7, .int x_41), (6, .int x_40), (5, .int x_31), (8, .int r_28), (2, .int v2), (4, .ref (b + v4))]) hx hb dX11_lame_115 hl (k := 5) rfl (by rw [ex_41]; rfl) (by decide) rfl (fun ls hl => ?_)
          refine lv_goto (tgt := 64) hx hb dX11_lame_118 (by decide) ?_
          exact ih _ _ _ _ _ _ _ _ _ h hP hS (lv_sub hl [4, 5, 2, 1, 0] rfl)
  unfold cs_Face_lame at h
  refine lv_aload_n hx hb dX11_lame_0 rfl (lv_at hl 0 rfl) ?_
  refine lv_iload_n hx hb dX11_lame_1 rfl (lv_at hl 1 rfl) ?_
  obtain ⟨s_1, r_2, z_3, h⟩ := gb_cd_s h
  refine gb_callq (va_runV (C := RX11) (As := [.int p1]) (rest := []) ⟨hx, hb, hml, hown, hq⟩ (cc_Face_borderAt l D cT tt b1 b hb1 n σ p1 s_1 r_2 z_3) (cwV 1 hq (gb_gV w_593 w_595 s_1_7 w_1 w_596) rfl rfl rfl (by decide +kernel) ⟨Nat.le_of_ble_eq_true rfl, Nat.le_of_ble_eq_true rfl⟩) (gb_preV (r := (RX11, TX11, 10)) (ci := 9) (q0 := 0) hSt hP rfl (gb_at b rfl) hS (fun q h => Nat.le_trans hb1 h.1) hP) rfl rfl hl.1 rfl (lv_room (Nat.le_of_ble_eq_true rfl)) dX11_lame_2 ⟨Nat.le_of_ble_eq_true rfl, Nat.le_of_ble_eq_true rfl⟩) hS (fun _ h => h) (fun _ h => h) (fun q_4 H locs hY hk hS => ?_)
  obtain ⟨hq_4, hP⟩ := hY
  subst hq_4
  rw [gb_onv]
  by_cases c_5 : r_2 = 0
  · rw [if_pos c_5] at h
    rw [gb_nv0 c_5]
    refine lv_astoreN (lv' := [(4, .null), (0, .ref (b + 0)), (1, .int p1), (2, .int p2), (3, .int p3)]) hx hb dX11_lame_5 hl (by decide) rfl (fun ls hl => ?_)
    refine lv_aloadN hx hb dX11_lame_7 (lv_at hl 0 rfl) ?_
    refine lv_ifnonnullN hx hb dX11_lame_9 ?_
    refine lv_iconst (v := (-1)) hx hb dX11_lame_12 (by decide) ?_
    obtain ⟨e1, e2⟩ := gb_eq2 h
    exact W.iret (v := (-1)) hx hb hr (fun t ht hW => gb_ri ht ⟨e2, by rw [← e1]; exact hP⟩ hS) hS.2.2 dX11_lame_13
  rw [if_neg c_5] at h
  rw [gb_nv1 c_5]
  obtain ⟨z_6, h⟩ := gb_kk_s h
  refine lv_astore (lv' := [(4, .ref (b + r_2)), (0, .ref (b + 0)), (1, .int p1), (2, .int p2), (3, .int p3)]) hx hb dX11_lame_5 hl (by decide) rfl (fun ls hl => ?_)
  refine lv_aload hx hb dX11_lame_7 (lv_at hl 0 rfl) ?_
  refine lv_ifnonnull (tgt := 14) hx hb dX11_lame_9 (by decide) ?_
  refine lv_iload_n hx hb dX11_lame_14 rfl (lv_at hl 4 rfl) ?_
  refine lv_if_lt (tgt := 44) hx hb dX11_lame_15 (by decide) (fun c_7 => ?_) (fun c_7 => ?_)
  · rw [if_pos c_7] at h
    refine lv_aload hx hb dX11_lame_44 (lv_at hl 0 rfl) ?_
    refine lv_iload_n hx hb dX11_lame_46 rfl (lv_at hl 3 rfl) ?_
    obtain ⟨s_8, r_9, z_10, h⟩ := gb_cd_s h
    refine gb_calli (va_runV (C := RX0) (As := [.int p2]) (rest := []) ⟨hx, hb, hml, hown, hq⟩ (cc_Border_hasPath_B l D cT tt b1 b hb1 n s_1 r_2 p2 s_8 r_9 z_10) (cwV 1 hq (gb_gV w_620 w_608 w_609 w_4 w_610) rfl rfl rfl (by decide +kernel) ⟨Nat.le_of_ble_eq_true rfl, Nat.le_of_ble_eq_true rfl⟩) (gb_preV (r := (RX0, TX0, 1)) (ci := 0) (q0 := r_2) hSt hP rfl (gb_at b (gb_cB z_6).1) hS (fun q h => Nat.le_trans hb1 h.1) hP) rfl rfl hl.1 rfl (lv_room (Nat.le_of_ble_eq_true rfl)) dX11_lame_47 ⟨Nat.le_of_ble_eq_true rfl, Nat.le_of_ble_eq_true rfl⟩) hS (fun _ h => h) (fun _ h => h) (fun q_11 H locs hY hk hS => ?_)
    obtain ⟨hq_11, hP⟩ := hY
    replace hq_11 := hq_11.symm
    subst hq_11
    refine lv_if_ne (tgt := 55) hx hb dX11_lame_50 (by decide) (fun c_12 => ?_) (fun c_12 => ?_)
    · rw [if_neg c_12] at h
      refine lv_iconst (v := 0) hx hb dX11_lame_55 (by decide) ?_
      refine lv_istore (lv' := [(5, .int 0), (4, .ref (b + r_2)), (0, .ref (b + 0)), (1, .int p1), (2, .int p2), (3, .int p3)]) hx hb dX11_lame_56 hl (by decide) rfl (fun ls hl => ?_)
      refine lv_iconst (v := 0) hx hb dX11_lame_58 (by decide) ?_
      refine lv_istore (lv' := [(6, .int 0), (5, .int 0), (4, .ref (b + r_2)), (0, .ref (b + 0)), (1, .int p1), (2, .int p2), (3, .int p3)]) hx hb dX11_lame_59 hl (by decide) rfl (fun ls hl => ?_)
      refine lv_iconst (v := 0) hx hb dX11_lame_61 (by decide) ?_
      refine lv_istore (lv' := [(7, .int 0), (6, .int 0), (5, .int 0), (4, .ref (b + r_2)), (0, .ref (b + 0)), (1, .int p1), (2, .int p2), (3, .int p3)]) hx hb dX11_lame_62 hl (by decide) rfl (fun ls hl => ?_)
      exact L64_1 n _ _ _ _ _ _ _ _ _ h hP hS (lv_sub hl [6, 3, 2, 1, 0] rfl)
    · rw [if_pos c_12] at h
      refine lv_iconst (v := (-1)) hx hb dX11_lame_53 (by decide) ?_
      obtain ⟨e1, e2⟩ := gb_eq2 h
      exact W.iret (v := (-1)) hx hb hr (fun t ht hW => gb_ri ht ⟨e2, by rw [← e1]; exact hP⟩ hS) hS.2.2 dX11_lame_54
  · rw [if_neg c_7] at h
    refine lv_iload_n hx hb dX11_lame_18 rfl (lv_at hl 4 rfl) ?_
    refine lv_bipush (v := 8) hx hb dX11_lame_19 (by decide) ?_
    refine lv_icmp_ge (tgt := 44) hx hb dX11_lame_21 (by decide) (fun c_42 => ?_) (fun c_42 => ?_)
    · rw [if_pos c_42] at h
      refine lv_aload hx hb dX11_lame_44 (lv_at hl 0 rfl) ?_
      refine lv_iload_n hx hb dX11_lame_46 rfl (lv_at hl 3 rfl) ?_
      obtain ⟨s_43, r_44, z_45, h⟩ := gb_cd_s h
      refine gb_calli (va_runV (C := RX0) (As := [.int p2]) (rest := []) ⟨hx, hb, hml, hown, hq⟩ (cc_Border_hasPath_B l D cT tt b1 b hb1 n s_1 r_2 p2 s_43 r_44 z_45) (cwV 1 hq (gb_gV w_620 w_608 w_609 w_4 w_610) rfl rfl rfl (by decide +kernel) ⟨Nat.le_of_ble_eq_true rfl, Nat.le_of_ble_eq_true rfl⟩) (gb_preV (r := (RX0, TX0, 1)) (ci := 0) (q0 := r_2) hSt hP rfl (gb_at b (gb_cB z_6).1) hS (fun q h => Nat.le_trans hb1 h.1) hP) rfl rfl hl.1 rfl (lv_room (Nat.le_of_ble_eq_true rfl)) dX11_lame_47 ⟨Nat.le_of_ble_eq_true rfl, Nat.le_of_ble_eq_true rfl⟩) hS (fun _ h => h) (fun _ h => h) (fun q_46 H locs hY hk hS => ?_)
      obtain ⟨hq_46, hP⟩ := hY
      replace hq_46 := hq_46.symm
      subst hq_46
      refine lv_if_ne (tgt := 55) hx hb dX11_lame_50 (by decide) (fun c_47 => ?_) (fun c_47 => ?_)
      · rw [if_neg c_47] at h
        refine lv_iconst (v := 0) hx hb dX11_lame_55 (by decide) ?_
        refine lv_istore (lv' := [(5, .int 0), (4, .ref (b + r_2)), (0, .ref (b + 0)), (1, .int p1), (2, .int p2), (3, .int p3)]) hx hb dX11_lame_56 hl (by decide) rfl (fun ls hl => ?_)
        refine lv_iconst (v := 0) hx hb dX11_lame_58 (by decide) ?_
        refine lv_istore (lv' := [(6, .int 0), (5, .int 0), (4, .ref (b + r_2)), (0, .ref (b + 0)), (1, .int p1), (2, .int p2), (3, .int p3)]) hx hb dX11_lame_59 hl (by decide) rfl (fun ls hl => ?_)
        refine lv_iconst (v := 0) hx hb dX11_lame_61 (by decide) ?_
        refine lv_istore (lv' := [(7, .int 0), (6, .int 0), (5, .int 0), (4, .ref (b + r_2)), (0, .ref (b + 0)), (1, .int p1), (2, .int p2), (3, .int p3)]) hx hb dX11_lame_62 hl (by decide) rfl (fun ls hl => ?_)
        exact L64_1 n _ _ _ _ _ _ _ _ _ h hP hS (lv_sub hl [6, 3, 2, 1, 0] rfl)
      · rw [if_pos c_47] at h
        refine lv_iconst (v := (-1)) hx hb dX11_lame_53 (by decide) ?_
        obtain ⟨e1, e2⟩ := gb_eq2 h
        exact W.iret (v := (-1)) hx hb hr (fun t ht hW => gb_ri ht ⟨e2, by rw [← e1]; exact hP⟩ hS) hS.2.2 dX11_lame_54
    · rw [if_neg c_42] at h
      refine lv_aload hx hb dX11_lame_24 (lv_at hl 0 rfl) ?_
      refine lv_iload_n hx hb dX11_lame_26 rfl (lv_at hl 4 rfl) ?_
      obtain ⟨s_48, r_49, z_50, h⟩ := gb_cd_s h
      refine gb_calli (va_runV (C := RX0) (As := [.int p3]) (rest := []) ⟨hx, hb, hml, hown, hq⟩ (cc_Border_hasGoose_B l D cT tt b1 b hb1 n s_1 r_2 p3 s_48 r_49 z_50) (cwV 1 hq (gb_gV w_619 w_612 w_613 w_4 w_614) rfl rfl rfl (by decide +kernel) ⟨Nat.le_of_ble_eq_true rfl, Nat.le_of_ble_eq_true rfl⟩) (gb_preV (r := (RX0, TX0, 1)) (ci := 0) (q0 := r_2) hSt hP rfl (gb_at b (gb_cB z_6).1) hS (fun q h => Nat.le_trans hb1 h.1) hP) rfl rfl hl.1 rfl (lv_room (Nat.le_of_ble_eq_true rfl)) dX11_lame_27 ⟨Nat.le_of_ble_eq_true rfl, Nat.le_of_ble_eq_true rfl⟩) hS (fun _ h => h) (fun _ h => h) (fun q_51 H locs hY hk hS => ?_)
      obtain ⟨hq_51, hP⟩ := hY
      replace hq_51 := hq_51.symm
      subst hq_51
      refine lv_if_eq (tgt := 42) hx hb dX11_lame_30 (by decide) (fun c_52 => ?_) (fun c_52 => ?_)
      · rw [if_pos c_52] at h
        refine lv_iconst (v := (-1)) hx hb dX11_lame_42 (by decide) ?_
        obtain ⟨e1, e2⟩ := gb_eq2 h
        exact W.iret (v := (-1)) hx hb hr (fun t ht hW => gb_ri ht ⟨e2, by rw [← e1]; exact hP⟩ hS) hS.2.2 dX11_lame_43
      · rw [if_neg c_52] at h
        refine lv_aload hx hb dX11_lame_33 (lv_at hl 0 rfl) ?_
        refine lv_iload_n hx hb dX11_lame_35 rfl (lv_at hl 4 rfl) ?_
        obtain ⟨s_53, r_54, z_55, h⟩ := gb_cd_s h
        refine gb_calli (va_runS (As := [.ref (b + r_2), .int p3]) (rest := []) ⟨hx, hb, hml, hown, hq⟩ (cc_Face_bestPath_B l D cT tt b1 b hb1 n s_48 r_2 p3 s_53 r_54 z_55) (va_cwS 2 hq (gb_gS w_960 w_961 w_1 w_962) rfl rfl rfl (by decide +kernel) ⟨Nat.le_of_ble_eq_true rfl, Nat.le_of_ble_eq_true rfl⟩) (gb_preS hSt hS (fun q h => Nat.le_trans hb1 h.1) hP) rfl rfl hl.1 rfl (lv_room (Nat.le_of_ble_eq_true rfl)) dX11_lame_36 ⟨Nat.le_of_ble_eq_true rfl, Nat.le_of_ble_eq_true rfl⟩) hS (fun _ h => h) (fun _ h => h) (fun q_56 H locs hY hk hS => ?_)
        obtain ⟨hq_56, hP⟩ := hY
        replace hq_56 := hq_56.symm
        subst hq_56
        refine lv_goto (tgt := 43) hx hb dX11_lame_39 (by decide) ?_
        obtain ⟨e1, e2⟩ := gb_eq2 h
        exact W.iret (v := r_54) hx hb hr (fun t ht hW => gb_ri ht ⟨e2, by rw [← e1]; exact hP⟩ hS) hS.2.2 dX11_lame_43
theorem dX11_tar_0 : decode cX11_tar 0 = .ok (.aload_n 0, 1) := by decide +kernel
theorem dX11_tar_1 : decode cX11_tar 1 = .ok (.iload_n 1, 1) := by decide +kernel
theorem dX11_tar_2 : decode cX11_tar 2 = .ok (.invokevirtual 113, 3) := by decide +kernel
theorem dX11_tar_5 : decode cX11_tar 5 = .ok (.astore 4, 2) := by decide +kernel
theorem dX11_tar_7 : decode cX11_tar 7 = .ok (.aload 4, 2) := by decide +kernel
theorem dX11_tar_9 : decode cX11_tar 9 = .ok (.ifnull 23, 3) := by decide +kernel
theorem dX11_tar_32 : decode cX11_tar 32 = .ok (.iconst (-1), 1) := by decide +kernel
theorem dX11_tar_33 : decode cX11_tar 33 = .ok (.ireturn, 1) := by decide +kernel
theorem dX11_tar_12 : decode cX11_tar 12 = .ok (.aload 4, 2) := by decide +kernel
theorem dX11_tar_14 : decode cX11_tar 14 = .ok (.iload_n 2, 1) := by decide +kernel
theorem dX11_tar_15 : decode cX11_tar 15 = .ok (.invokevirtual 135, 3) := by decide +kernel
theorem dX11_tar_18 : decode cX11_tar 18 = .ok (.ifCond .eq 14, 3) := by decide +kernel
theorem dX11_tar_21 : decode cX11_tar 21 = .ok (.iload_n 3, 1) := by decide +kernel
theorem dX11_tar_22 : decode cX11_tar 22 = .ok (.ifCond .lt 10, 3) := by decide +kernel
theorem dX11_tar_25 : decode cX11_tar 25 = .ok (.iload_n 3, 1) := by decide +kernel
theorem dX11_tar_26 : decode cX11_tar 26 = .ok (.sipush 9999, 3) := by decide +kernel
theorem dX11_tar_29 : decode cX11_tar 29 = .ok (.if_icmp .le 5, 3) := by decide +kernel
theorem dX11_tar_34 : decode cX11_tar 34 = .ok (.aload 4, 2) := by decide +kernel
theorem dX11_tar_36 : decode cX11_tar 36 = .ok (.iload_n 2, 1) := by decide +kernel
theorem dX11_tar_37 : decode cX11_tar 37 = .ok (.invokevirtual 296, 3) := by decide +kernel
theorem w_950 : (Cond.code ({ cls := "GooseBorder$Border", name := "barefoot", desc := "(I)I" } : MethodName) prog_2_method_24_code (4 : Nat) (Option.some FieldType.int)) ∈ gb_wA := gb_t4 230 rfl rfl
theorem w_947 : (Cond.methodLink "GooseBorder" (296 : Nat) ({ cls := "GooseBorder$Border", name := "barefoot", desc := "(I)I" } : MethodName)) ∈ gb_wA := gb_t4 227 rfl rfl
theorem w_948 : (Cond.instanceMethod ({ cls := "GooseBorder$Border", name := "barefoot", desc := "(I)I" } : MethodName)) ∈ gb_wA := gb_t4 228 rfl rfl
theorem w_949 : (Cond.selects "GooseBorder$Border" ({ cls := "GooseBorder$Border", name := "barefoot", desc := "(I)I" } : MethodName) ({ cls := "GooseBorder$Border", name := "barefoot", desc := "(I)I" } : MethodName)) ∈ gb_wA := gb_t4 229 rfl rfl
theorem dX11_tar_40 : decode cX11_tar 40 = .ok (.iload_n 3, 1) := by decide +kernel
theorem dX11_tar_41 : decode cX11_tar 41 = .ok (.isub, 1) := by decide +kernel
theorem dX11_tar_42 : decode cX11_tar 42 = .ok (.istore 5, 2) := by decide +kernel
theorem dX11_tar_44 : decode cX11_tar 44 = .ok (.iconst 0, 1) := by decide +kernel
theorem dX11_tar_45 : decode cX11_tar 45 = .ok (.istore 6, 2) := by decide +kernel
theorem dX11_tar_47 : decode cX11_tar 47 = .ok (.bipush 12, 2) := by decide +kernel
theorem dX11_tar_49 : decode cX11_tar 49 = .ok (.istore 7, 2) := by decide +kernel
theorem dX11_tar_51 : decode cX11_tar 51 = .ok (.iload 7, 2) := by decide +kernel
theorem dX11_tar_53 : decode cX11_tar 53 = .ok (.ifCond .le 54, 3) := by decide +kernel
theorem dX11_tar_107 : decode cX11_tar 107 = .ok (.iload 5, 2) := by decide +kernel
theorem dX11_tar_109 : decode cX11_tar 109 = .ok (.ifCond .le 7, 3) := by decide +kernel
theorem dX11_tar_116 : decode cX11_tar 116 = .ok (.iload 6, 2) := by decide +kernel
theorem dX11_tar_118 : decode cX11_tar 118 = .ok (.ireturn, 1) := by decide +kernel
theorem dX11_tar_112 : decode cX11_tar 112 = .ok (.iconst (-1), 1) := by decide +kernel
theorem dX11_tar_113 : decode cX11_tar 113 = .ok (.goto 5, 3) := by decide +kernel
theorem dX11_tar_56 : decode cX11_tar 56 = .ok (.iload 5, 2) := by decide +kernel
theorem dX11_tar_58 : decode cX11_tar 58 = .ok (.ifCond .le 49, 3) := by decide +kernel
theorem dX11_tar_61 : decode cX11_tar 61 = .ok (.aload 4, 2) := by decide +kernel
theorem dX11_tar_63 : decode cX11_tar 63 = .ok (.iload_n 2, 1) := by decide +kernel
theorem dX11_tar_64 : decode cX11_tar 64 = .ok (.iload 7, 2) := by decide +kernel
theorem dX11_tar_66 : decode cX11_tar 66 = .ok (.invokevirtual 299, 3) := by decide +kernel
theorem w_954 : (Cond.code ({ cls := "GooseBorder$Border", name := "milesThatSpare", desc := "(II)I" } : MethodName) prog_2_method_25_code (6 : Nat) (Option.some FieldType.int)) ∈ gb_wA := gb_t4 234 rfl rfl
theorem w_951 : (Cond.methodLink "GooseBorder" (299 : Nat) ({ cls := "GooseBorder$Border", name := "milesThatSpare", desc := "(II)I" } : MethodName)) ∈ gb_wA := gb_t4 231 rfl rfl
theorem w_952 : (Cond.instanceMethod ({ cls := "GooseBorder$Border", name := "milesThatSpare", desc := "(II)I" } : MethodName)) ∈ gb_wA := gb_t4 232 rfl rfl
theorem w_953 : (Cond.selects "GooseBorder$Border" ({ cls := "GooseBorder$Border", name := "milesThatSpare", desc := "(II)I" } : MethodName) ({ cls := "GooseBorder$Border", name := "milesThatSpare", desc := "(II)I" } : MethodName)) ∈ gb_wA := gb_t4 233 rfl rfl
theorem dX11_tar_69 : decode cX11_tar 69 = .ok (.iload 5, 2) := by decide +kernel
theorem dX11_tar_71 : decode cX11_tar 71 = .ok (.iload 7, 2) := by decide +kernel
theorem dX11_tar_73 : decode cX11_tar 73 = .ok (.iadd, 1) := by decide +kernel
theorem dX11_tar_74 : decode cX11_tar 74 = .ok (.iconst 1, 1) := by decide +kernel
theorem dX11_tar_75 : decode cX11_tar 75 = .ok (.isub, 1) := by decide +kernel
theorem dX11_tar_76 : decode cX11_tar 76 = .ok (.iload 7, 2) := by decide +kernel
theorem dX11_tar_78 : decode cX11_tar 78 = .ok (.idiv, 1) := by decide +kernel
theorem dX11_tar_79 : decode cX11_tar 79 = .ok (.invokestatic 302, 3) := by decide +kernel
theorem w_955 : (Cond.methodLink "GooseBorder" (302 : Nat) ({ cls := "java/lang/Math", name := "min", desc := "(II)I" } : MethodName)) ∈ gb_wA := gb_t4 235 rfl rfl
theorem dX11_tar_82 : decode cX11_tar 82 = .ok (.istore 8, 2) := by decide +kernel
theorem dX11_tar_84 : decode cX11_tar 84 = .ok (.iload 5, 2) := by decide +kernel
theorem dX11_tar_86 : decode cX11_tar 86 = .ok (.iload 8, 2) := by decide +kernel
theorem dX11_tar_88 : decode cX11_tar 88 = .ok (.iload 7, 2) := by decide +kernel
theorem dX11_tar_90 : decode cX11_tar 90 = .ok (.imul, 1) := by decide +kernel
theorem dX11_tar_91 : decode cX11_tar 91 = .ok (.isub, 1) := by decide +kernel
theorem dX11_tar_92 : decode cX11_tar 92 = .ok (.istore 5, 2) := by decide +kernel
theorem dX11_tar_94 : decode cX11_tar 94 = .ok (.iload 6, 2) := by decide +kernel
theorem dX11_tar_96 : decode cX11_tar 96 = .ok (.iload 8, 2) := by decide +kernel
theorem dX11_tar_98 : decode cX11_tar 98 = .ok (.iadd, 1) := by decide +kernel
theorem dX11_tar_99 : decode cX11_tar 99 = .ok (.istore 6, 2) := by decide +kernel
theorem dX11_tar_101 : decode cX11_tar 101 = .ok (.iinc 7 (-1), 3) := by decide +kernel
theorem dX11_tar_104 : decode cX11_tar 104 = .ok (.goto (-53), 3) := by decide +kernel
def cs_Face_tar_51 (n : Nat) : Nat → gb_S → Int32 → Nat → Int32 → Int32 → Int32 → gb_CR Int32
  | 0, _, _, _, _, _, _ => none
  | mm + 1, σ, v2, v4, v5, v6, v7 => gb_kk (gb_kB v4) ((if v7 ≤ 0 then (if v5 ≤ 0 then some (σ, v6) else some (σ, (-1))) else (if v5 ≤ 0 then (if v5 ≤ 0 then some (σ, v6) else some (σ, (-1))) else gb_cd (cs_Border_milesThatSpare_B n σ v4 v2 v7) (fun s_24 r_25 => gb_nz v7 (gb_lt (((v5 + v7) - 1) / v7) (fun x_29 => gb_lt (if x_29 < r_25 then x_29 else r_25) (fun x_30 => gb_lt (v5 - (x_30 * v7)) (fun x_31 => gb_lt (v6 + x_30) (fun x_32 => gb_lt (v7 + (-1)) (fun x_33 => cs_Face_tar_51 n mm s_24 v2 v4 x_31 x_32 x_33))))))))))
def cs_Face_tar (n : Nat) (σ : gb_S) (p1 : Int32) (p2 : Int32) (p3 : Int32) : gb_CR Int32 := gb_cd (cs_Face_borderAt n σ p1) (fun s_1 r_2 => (if r_2 = 0 then some (s_1, (-1)) else gb_kk (gb_kB r_2) (gb_cd (cs_Border_hasPath_B n s_1 r_2 p2) (fun s_7 r_8 => (if r_8 = 0 then some (s_7, (-1)) else (if p3 < 0 then some (s_7, (-1)) else (if p3 ≤ 9999 then gb_cd (cs_Border_barefoot_B n s_7 r_2 p2) (fun s_14 r_15 => gb_lt (r_15 - p3) (fun x_18 => cs_Face_tar_51 n n s_14 p2 r_2 x_18 0 12)) else some (s_7, (-1)))))))))
set_option maxHeartbeats 8000000 in
set_option maxRecDepth 100000 in
theorem cc_Face_tar (l : Launch) (D : va_G) (cT : Nat → ClassId) (tt : Nat → Nat) (b1 b : Nat) (hb1 : b1 ≤ b) (n : Nat) (σ : gb_S) (p1 : Int32) (p2 : Int32) (p3 : Int32) (σE : gb_S) (rE : Int32) (h : cs_Face_tar n σ p1 p2 p3 = some (σE, rE)) : Met l yX11_tar (.code yX11_tar cX11_tar 9 (some FieldType.int) :: gb_wA) ({ frames := 3, cells := 0, slots := 0, locals := 71 }) (gb_Pc D cT tt b1 [.ref (b + 0), .int p1, .int p2, .int p3] (fun h => va_P D vwCl (gb_wl b (gb_CW cT b σ)) h)) (gb_Qi (fun r h => r = rE ∧ va_P D vwCl (gb_wl b (gb_CW cT b σE)) h) (gb_fr b 135)) 0 0 (gb_fr b 135) := by
  refine Met.ofW (cc := cX11_tar) (maxL := 9) (ret := (some FieldType.int)) (by decide) rfl ?_
  intro p e s m args below meth c s₁ B hml hv
  obtain ⟨rfl, hSt, hP⟩ := hv
  have hx := B.exec
  have hb := B.bytes
  have hr := B.returns
  have hts := atoms_spec (ws := .code yX11_tar cX11_tar 9 (some FieldType.int) :: gb_wA) B.pre
  have hq : ∀ w ∈ gb_wA, w.before _ s = true := fun w h => hts w (List.mem_cons_of_mem _ h)
  have hown : s.vm.findClass RX11 = some m.cls := findClass_of_methodNamed B.named
  have hlocks := B.notSynchronized
  clear B hts
  have hK := hSt.1
  have hS : va_S (gb_fr b 135) s.heap s.heap [] := va_S.rf
  have hl := lv_entry ([.ref (b + 0), .int p1, .int p2, .int p3]) (n := 9) (Nat.le_of_ble_eq_true rfl)
  rw [lg_entry_eq]
  generalize (lg_sl ([.ref (b + 0), .int p1, .int p2, .int p3]) ++ List.replicate (9 - (lg_sl ([.ref (b + 0), .int p1, .int p2, .int p3])).length) Slot.unset).toArray = ls at hl ⊢
  replace hl : lv_has ls 9 [(0, .ref (b + 0)), (1, .int p1), (2, .int p2), (3, .int p3)] := hl
  have L51_1 : ∀ (mm : Nat) (σ : gb_S) (v2 : Int32) (v4 : Nat) (v5 : Int32) (v6 : Int32) (v7 : Int32) (H : Heap) (locs : List Loc) (ls : Array Slot), cs_Face_tar_51 n mm σ v2 v4 v5 v6 v7 = some (σE, rE) → va_P D vwCl (gb_wl b (gb_CW cT b σ)) H → va_S (gb_fr b 135) s.heap H locs → lv_has ls 9 [(2, .int v2), (4, .ref (b + v4)), (5, .int v5), (6, .int v6), (7, .int v7)] → W p l e (headSpec (.code yX11_tar cX11_tar 9 (some FieldType.int) :: gb_wA) ({ frames := 3, cells := 0, slots := 0, locals := 71 })).room s m ([.ref (b + 0), .int p1, .int p2, .int p3]).toArray below meth c H locs 0 0 (MQ below (gb_Qi (fun r h => r = rE ∧ va_P D vwCl (gb_wl b (gb_CW cT b σE)) h) (gb_fr b 135)) ([.ref (b + 0), .int p1, .int p2, .int p3]).toArray s 0 0 (gb_fr b 135)) (F0 m 51 ls []) := by
    clear h hP hS hl ls
    intro mm
    induction mm with
    | zero =>
      intro σ v2 v4 v5 v6 v7 H locs ls h
      cases h
    | succ mm ih =>
      intro σ v2 v4 v5 v6 v7 H locs ls h hP hS hl
      rw [cs_Face_tar_51] at h
      obtain ⟨z_19, h⟩ := gb_kk_s h
      refine lv_iload hx hb dX11_tar_51 (lv_at hl 4 rfl) ?_
      refine lv_if_le (tgt := 107) hx hb dX11_tar_53 (by decide) (fun c_20 => ?_) (fun c_20 => ?_)
      · rw [if_pos c_20] at h
        refine lv_iload hx hb dX11_tar_107 (lv_at hl 2 rfl) ?_
        refine lv_if_le (tgt := 116) hx hb dX11_tar_109 (by decide) (fun c_21 => ?_) (fun c_21 => ?_)
        · rw [if_pos c_21] at h
          refine lv_iload hx hb dX11_tar_116 (lv_at hl 3 rfl) ?_
          obtain ⟨e1, e2⟩ := gb_eq2 h
          exact W.iret (v := v6) hx hb hr (fun t ht hW => gb_ri ht ⟨e2, by rw [← e1]; exact hP⟩ hS) hS.2.2 dX11_tar_118
        · rw [if_neg c_21] at h
          refine lv_iconst (v := (-1)) hx hb dX11_tar_112 (by decide) ?_
          refine lv_goto (tgt := 118) hx hb dX11_tar_113 (by decide) ?_
          obtain ⟨e1, e2⟩ := gb_eq2 h
          exact W.iret (v := (-1)) hx hb hr (fun t ht hW => gb_ri ht ⟨e2, by rw [← e1]; exact hP⟩ hS) hS.2.2 dX11_tar_118
      · rw [if_neg c_20] at h
        refine lv_iload hx hb dX11_tar_56 (lv_at hl 2 rfl) ?_
        refine lv_if_le (tgt := 107) hx hb dX11_tar_58 (by decide) (fun c_22 => ?_) (fun c_22 => ?_)
        · rw [if_pos c_22] at h
          refine lv_iload hx hb dX11_tar_107 (lv_at hl 2 rfl) ?_
          refine lv_if_le (tgt := 116) hx hb dX11_tar_109 (by decide) (fun c_23 => ?_) (fun c_23 => ?_)
          · rw [if_pos c_23] at h
            refine lv_iload hx hb dX11_tar_116 (lv_at hl 3 rfl) ?_
            obtain ⟨e1, e2⟩ := gb_eq2 h
            exact W.iret (v := v6) hx hb hr (fun t ht hW => gb_ri ht ⟨e2, by rw [← e1]; exact hP⟩ hS) hS.2.2 dX11_tar_118
          · rw [if_neg c_23] at h
            refine lv_iconst (v := (-1)) hx hb dX11_tar_112 (by decide) ?_
            refine lv_goto (tgt := 118) hx hb dX11_tar_113 (by decide) ?_
            obtain ⟨e1, e2⟩ := gb_eq2 h
            exact W.iret (v := (-1)) hx hb hr (fun t ht hW => gb_ri ht ⟨e2, by rw [← e1]; exact hP⟩ hS) hS.2.2 dX11_tar_118
        · rw [if_neg c_22] at h
          refine lv_aload hx hb dX11_tar_61 (lv_at hl 1 rfl) ?_
          refine lv_iload_n hx hb dX11_tar_63 rfl (lv_at hl 0 rfl) ?_
          refine lv_iload hx hb dX11_tar_64 (lv_at hl 4 rfl) ?_
          obtain ⟨s_24, r_25, z_26, h⟩ := gb_cd_s h
          refine gb_calli (va_runV (C := RX0) (As := [.int v2, .int v7]) (rest := []) ⟨hx, hb, hml, hown, hq⟩ (cc_Border_milesThatSpare_B l D cT tt b1 b hb1 n σ v4 v2 v7 s_24 r_25 z_26) (cwV 2 hq (gb_gV w_951 w_952 w_953 w_4 w_954) rfl rfl rfl (by decide +kernel) ⟨Nat.le_of_ble_eq_true rfl, Nat.le_of_ble_eq_true rfl⟩) (gb_preV (r := (RX0, TX0, 1)) (ci := 0) (q0 := v4) hSt hP rfl (gb_at b (gb_cB z_19).1) hS (fun q h => Nat.le_trans hb1 h.1) hP) rfl rfl hl.1 rfl (lv_room (Nat.le_of_ble_eq_true rfl)) dX11_tar_66 ⟨Nat.le_of_ble_eq_true rfl, Nat.le_of_ble_eq_true rfl⟩) hS (fun _ h => h) (fun _ h => h) (fun q_27 H locs hY hk hS => ?_)
          obtain ⟨hq_27, hP⟩ := hY
          replace hq_27 := hq_27.symm
          subst hq_27
          refine lv_iload hx hb dX11_tar_69 (lv_at hl 2 rfl) ?_
          refine lv_iload hx hb dX11_tar_71 (lv_at hl 4 rfl) ?_
          refine lv_iadd hx hb dX11_tar_73 ?_
          refine lv_iconst (v := 1) hx hb dX11_tar_74 (by decide) ?_
          refine lv_isub hx hb dX11_tar_75 ?_
          refine lv_iload hx hb dX11_tar_76 (lv_at hl 4 rfl) ?_
          obtain ⟨z_28, h⟩ := gb_nz_s h
          refine lv_idiv hx hb dX11_tar_78 z_28 ?_
          refine lv_topi (fun x_29 ex_29 => ?_)
          replace h := gb_lt_s ex_29 h
          refine va_mmin hx hb (hml.trans hl.1.symm) hown (hq _ w_955) (hq _ w_367) (hq _ w_5) (hq _ w_368) (Nat.le_of_ble_eq_true rfl) (Nat.le_of_ble_eq_true rfl) (Nat.le_of_ble_eq_true rfl) (Nat.le_of_ble_eq_true rfl) dX11_tar_79 ?_
          refine lv_topi (fun x_30 ex_30 => ?_)
          replace h := gb_lt_s ex_30 h
          refine lv_istore (lv' := [(8, .int x_30), (2, .int v2), (4, .ref (b + v4)), (5, .int v5), (6, .int v6), (7, .int v7)]) hx hb dX11_tar_82 hl (by decide) rfl (fun ls hl => ?_)
          refine lv_iload hx hb dX11_tar_84 (lv_at hl 3 rfl) ?_
          refine lv_iload hx hb dX11_tar_86 (lv_at hl 0 rfl) ?_
          refine lv_iload hx hb dX11_tar_88 (lv_at hl 5 rfl) ?_
          refine lv_imul hx hb dX11_tar_90 ?_
          refine lv_isub hx hb dX11_tar_91 ?_
          refine lv_topi (fun x_31 ex_31 => ?_)
          replace h := gb_lt_s ex_31 h
          refine lv_istore (lv' := [(5, .int x_31), (8, .int x_30), (2, .int v2), (4, .ref (b + v4)), (6, .int v6), (7, .int v7)]) hx hb dX11_tar_92 hl (by decide) rfl (fun ls hl => ?_)
          refine lv_iload hx hb dX11_tar_94 (lv_at hl 4 rfl) ?_
          refine lv_iload hx hb dX11_tar_96 (lv_at hl 1 rfl) ?_
          refine lv_iadd hx hb dX11_tar_98 ?_
          refine lv_topi (fun x_32 ex_32 => ?_)
          replace h := gb_lt_s ex_32 h
          refine lv_istore (lv' := [(6, .int x_32), (5, .int x_31), (8, .int x_30), (2, .int v2), (4, .ref (b + v4)), (7, .int v7)]) hx hb dX11_tar_99 hl (by decide) rfl (fun ls hl => ?_)
          obtain ⟨x_33, ex_33⟩ : ∃ q, q = (v7 + (-1)) := ⟨_, rfl⟩
          replace h := gb_lt_s ex_33 h
          refine lv_iinc (v := x_33) (lv' := [(7, .int x_33), (6, .int x_32), (5, .int x_31), (8, .int x_30), (2, .int v2), (4, .ref (b + v4))]) hx hb dX11_tar_101 hl (k := 5) rfl (by rw [ex_33]; rfl) (by decide) rfl (fun ls hl => ?_)
          refine lv_goto (tgt := 51) hx hb dX11_tar_104 (by decide) ?_
          exact ih _ _ _ _ _ _ _ _ _ h hP hS (lv_sub hl [4, 5, 2, 1, 0] rfl)
  unfold cs_Face_tar at h
  refine lv_aload_n hx hb dX11_tar_0 rfl (lv_at hl 0 rfl) ?_
  refine lv_iload_n hx hb dX11_tar_1 rfl (lv_at hl 1 rfl) ?_
  obtain ⟨s_1, r_2, z_3, h⟩ := gb_cd_s h
  refine gb_callq (va_runV (C := RX11) (As := [.int p1]) (rest := []) ⟨hx, hb, hml, hown, hq⟩ (cc_Face_borderAt l D cT tt b1 b hb1 n σ p1 s_1 r_2 z_3) (cwV 1 hq (gb_gV w_593 w_595 s_1_7 w_1 w_596) rfl rfl rfl (by decide +kernel) ⟨Nat.le_of_ble_eq_true rfl, Nat.le_of_ble_eq_true rfl⟩) (gb_preV (r := (RX11, TX11, 10)) (ci := 9) (q0 := 0) hSt hP rfl (gb_at b rfl) hS (fun q h => Nat.le_trans hb1 h.1) hP) rfl rfl hl.1 rfl (lv_room (Nat.le_of_ble_eq_true rfl)) dX11_tar_2 ⟨Nat.le_of_ble_eq_true rfl, Nat.le_of_ble_eq_true rfl⟩) hS (fun _ h => h) (fun _ h => h) (fun q_4 H locs hY hk hS => ?_)
  obtain ⟨hq_4, hP⟩ := hY
  subst hq_4
  rw [gb_onv]
  by_cases c_5 : r_2 = 0
  · rw [if_pos c_5] at h
    rw [gb_nv0 c_5]
    refine lv_astoreN (lv' := [(4, .null), (0, .ref (b + 0)), (1, .int p1), (2, .int p2), (3, .int p3)]) hx hb dX11_tar_5 hl (by decide) rfl (fun ls hl => ?_)
    refine lv_aloadN hx hb dX11_tar_7 (lv_at hl 0 rfl) ?_
    refine lv_ifnullN (tgt := 32) hx hb dX11_tar_9 (by decide) ?_
    refine lv_iconst (v := (-1)) hx hb dX11_tar_32 (by decide) ?_
    obtain ⟨e1, e2⟩ := gb_eq2 h
    exact W.iret (v := (-1)) hx hb hr (fun t ht hW => gb_ri ht ⟨e2, by rw [← e1]; exact hP⟩ hS) hS.2.2 dX11_tar_33
  rw [if_neg c_5] at h
  rw [gb_nv1 c_5]
  obtain ⟨z_6, h⟩ := gb_kk_s h
  refine lv_astore (lv' := [(4, .ref (b + r_2)), (0, .ref (b + 0)), (1, .int p1), (2, .int p2), (3, .int p3)]) hx hb dX11_tar_5 hl (by decide) rfl (fun ls hl => ?_)
  refine lv_aload hx hb dX11_tar_7 (lv_at hl 0 rfl) ?_
  refine lv_ifnull hx hb dX11_tar_9 ?_
  refine lv_aload hx hb dX11_tar_12 (lv_at hl 0 rfl) ?_
  refine lv_iload_n hx hb dX11_tar_14 rfl (lv_at hl 3 rfl) ?_
  obtain ⟨s_7, r_8, z_9, h⟩ := gb_cd_s h
  refine gb_calli (va_runV (C := RX0) (As := [.int p2]) (rest := []) ⟨hx, hb, hml, hown, hq⟩ (cc_Border_hasPath_B l D cT tt b1 b hb1 n s_1 r_2 p2 s_7 r_8 z_9) (cwV 1 hq (gb_gV w_620 w_608 w_609 w_4 w_610) rfl rfl rfl (by decide +kernel) ⟨Nat.le_of_ble_eq_true rfl, Nat.le_of_ble_eq_true rfl⟩) (gb_preV (r := (RX0, TX0, 1)) (ci := 0) (q0 := r_2) hSt hP rfl (gb_at b (gb_cB z_6).1) hS (fun q h => Nat.le_trans hb1 h.1) hP) rfl rfl hl.1 rfl (lv_room (Nat.le_of_ble_eq_true rfl)) dX11_tar_15 ⟨Nat.le_of_ble_eq_true rfl, Nat.le_of_ble_eq_true rfl⟩) hS (fun _ h => h) (fun _ h => h) (fun q_10 H locs hY hk hS => ?_)
  obtain ⟨hq_10, hP⟩ := hY
  replace hq_10 := hq_10.symm
  subst hq_10
  refine lv_if_eq (tgt := 32) hx hb dX11_tar_18 (by decide) (fun c_11 => ?_) (fun c_11 => ?_)
  · rw [if_pos c_11] at h
    refine lv_iconst (v := (-1)) hx hb dX11_tar_32 (by decide) ?_
    obtain ⟨e1, e2⟩ := gb_eq2 h
    exact W.iret (v := (-1)) hx hb hr (fun t ht hW => gb_ri ht ⟨e2, by rw [← e1]; exact hP⟩ hS) hS.2.2 dX11_tar_33
  · rw [if_neg c_11] at h
    refine lv_iload_n hx hb dX11_tar_21 rfl (lv_at hl 4 rfl) ?_
    refine lv_if_lt (tgt := 32) hx hb dX11_tar_22 (by decide) (fun c_12 => ?_) (fun c_12 => ?_)
    · rw [if_pos c_12] at h
      refine lv_iconst (v := (-1)) hx hb dX11_tar_32 (by decide) ?_
      obtain ⟨e1, e2⟩ := gb_eq2 h
      exact W.iret (v := (-1)) hx hb hr (fun t ht hW => gb_ri ht ⟨e2, by rw [← e1]; exact hP⟩ hS) hS.2.2 dX11_tar_33
    · rw [if_neg c_12] at h
      refine lv_iload_n hx hb dX11_tar_25 rfl (lv_at hl 4 rfl) ?_
      refine lv_sipush (v := 9999) hx hb dX11_tar_26 (by decide) ?_
      refine lv_icmp_le (tgt := 34) hx hb dX11_tar_29 (by decide) (fun c_13 => ?_) (fun c_13 => ?_)
      · rw [if_pos c_13] at h
        refine lv_aload hx hb dX11_tar_34 (lv_at hl 0 rfl) ?_
        refine lv_iload_n hx hb dX11_tar_36 rfl (lv_at hl 3 rfl) ?_
        obtain ⟨s_14, r_15, z_16, h⟩ := gb_cd_s h
        refine gb_calli (va_runV (C := RX0) (As := [.int p2]) (rest := []) ⟨hx, hb, hml, hown, hq⟩ (cc_Border_barefoot_B l D cT tt b1 b hb1 n s_7 r_2 p2 s_14 r_15 z_16) (cwV 1 hq (gb_gV w_947 w_948 w_949 w_4 w_950) rfl rfl rfl (by decide +kernel) ⟨Nat.le_of_ble_eq_true rfl, Nat.le_of_ble_eq_true rfl⟩) (gb_preV (r := (RX0, TX0, 1)) (ci := 0) (q0 := r_2) hSt hP rfl (gb_at b (gb_cB z_6).1) hS (fun q h => Nat.le_trans hb1 h.1) hP) rfl rfl hl.1 rfl (lv_room (Nat.le_of_ble_eq_true rfl)) dX11_tar_37 ⟨Nat.le_of_ble_eq_true rfl, Nat.le_of_ble_eq_true rfl⟩) hS (fun _ h => h) (fun _ h => h) (fun q_17 H locs hY hk hS => ?_)
        obtain ⟨hq_17, hP⟩ := hY
        replace hq_17 := hq_17.symm
        subst hq_17
        refine lv_iload_n hx hb dX11_tar_40 rfl (lv_at hl 4 rfl) ?_
        refine lv_isub hx hb dX11_tar_41 ?_
        refine lv_topi (fun x_18 ex_18 => ?_)
        replace h := gb_lt_s ex_18 h
        refine lv_istore (lv' := [(5, .int x_18), (4, .ref (b + r_2)), (0, .ref (b + 0)), (1, .int p1), (2, .int p2), (3, .int p3)]) hx hb dX11_tar_42 hl (by decide) rfl (fun ls hl => ?_)
        refine lv_iconst (v := 0) hx hb dX11_tar_44 (by decide) ?_
        refine lv_istore (lv' := [(6, .int 0), (5, .int x_18), (4, .ref (b + r_2)), (0, .ref (b + 0)), (1, .int p1), (2, .int p2), (3, .int p3)]) hx hb dX11_tar_45 hl (by decide) rfl (fun ls hl => ?_)
        refine lv_bipush (v := 12) hx hb dX11_tar_47 (by decide) ?_
        refine lv_istore (lv' := [(7, .int 12), (6, .int 0), (5, .int x_18), (4, .ref (b + r_2)), (0, .ref (b + 0)), (1, .int p1), (2, .int p2), (3, .int p3)]) hx hb dX11_tar_49 hl (by decide) rfl (fun ls hl => ?_)
        exact L51_1 n _ _ _ _ _ _ _ _ _ h hP hS (lv_sub hl [6, 3, 2, 1, 0] rfl)
      · rw [if_neg c_13] at h
        refine lv_iconst (v := (-1)) hx hb dX11_tar_32 (by decide) ?_
        obtain ⟨e1, e2⟩ := gb_eq2 h
        exact W.iret (v := (-1)) hx hb hr (fun t ht hW => gb_ri ht ⟨e2, by rw [← e1]; exact hP⟩ hS) hS.2.2 dX11_tar_33
theorem dX11_feed_0 : decode cX11_feed 0 = .ok (.aload_n 0, 1) := by decide +kernel
theorem dX11_feed_1 : decode cX11_feed 1 = .ok (.getfield 12, 3) := by decide +kernel
theorem dX11_feed_4 : decode cX11_feed 4 = .ok (.getfield 74, 3) := by decide +kernel
theorem w_125 : (Cond.fieldLink "GooseBorder" (74 : Nat) "GooseBorder$Told" "length" "I") ∈ gb_wA := gb_t1 125 rfl rfl
theorem dX11_feed_7 : decode cX11_feed 7 = .ok (.sipush 580, 3) := by decide +kernel
theorem dX11_feed_10 : decode cX11_feed 10 = .ok (.if_icmp .le 5, 3) := by decide +kernel
theorem dX11_feed_15 : decode cX11_feed 15 = .ok (.aload_n 0, 1) := by decide +kernel
theorem dX11_feed_16 : decode cX11_feed 16 = .ok (.getfield 12, 3) := by decide +kernel
theorem dX11_feed_19 : decode cX11_feed 19 = .ok (.iload_n 1, 1) := by decide +kernel
theorem dX11_feed_20 : decode cX11_feed 20 = .ok (.invokevirtual 78, 3) := by decide +kernel
theorem dX10_addBytes_0 : decode cX10_addBytes 0 = .ok (.aload_n 0, 1) := by decide +kernel
theorem dX10_addBytes_1 : decode cX10_addBytes 1 = .ok (.getfield 51, 3) := by decide +kernel
theorem w_124 : (Cond.fieldLink "GooseBorder$Told" (51 : Nat) "GooseBorder$Told" "length" "I") ∈ gb_wA := gb_t1 124 rfl rfl
theorem dX10_addBytes_4 : decode cX10_addBytes 4 = .ok (.sipush 596, 3) := by decide +kernel
theorem dX10_addBytes_7 : decode cX10_addBytes 7 = .ok (.if_icmp .le 4, 3) := by decide +kernel
theorem dX10_addBytes_11 : decode cX10_addBytes 11 = .ok (.bipush 24, 2) := by decide +kernel
theorem dX10_addBytes_13 : decode cX10_addBytes 13 = .ok (.istore_n 2, 1) := by decide +kernel
theorem dX10_addBytes_14 : decode cX10_addBytes 14 = .ok (.iload_n 2, 1) := by decide +kernel
theorem dX10_addBytes_15 : decode cX10_addBytes 15 = .ok (.ifCond .lt 32, 3) := by decide +kernel
theorem dX10_addBytes_47 : decode cX10_addBytes 47 = .ok (.return_, 1) := by decide +kernel
theorem dX10_addBytes_18 : decode cX10_addBytes 18 = .ok (.aload_n 0, 1) := by decide +kernel
theorem dX10_addBytes_19 : decode cX10_addBytes 19 = .ok (.getfield 43, 3) := by decide +kernel
theorem dX10_addBytes_22 : decode cX10_addBytes 22 = .ok (.aload_n 0, 1) := by decide +kernel
theorem dX10_addBytes_23 : decode cX10_addBytes 23 = .ok (.getfield 51, 3) := by decide +kernel
theorem dX10_addBytes_26 : decode cX10_addBytes 26 = .ok (.iload_n 1, 1) := by decide +kernel
theorem dX10_addBytes_27 : decode cX10_addBytes 27 = .ok (.iload_n 2, 1) := by decide +kernel
theorem dX10_addBytes_28 : decode cX10_addBytes 28 = .ok (.ishr, 1) := by decide +kernel
theorem dX10_addBytes_29 : decode cX10_addBytes 29 = .ok (.i2b, 1) := by decide +kernel
theorem dX10_addBytes_30 : decode cX10_addBytes 30 = .ok (.bastore, 1) := by decide +kernel
theorem dX10_addBytes_31 : decode cX10_addBytes 31 = .ok (.aload_n 0, 1) := by decide +kernel
theorem dX10_addBytes_32 : decode cX10_addBytes 32 = .ok (.dup, 1) := by decide +kernel
theorem dX10_addBytes_33 : decode cX10_addBytes 33 = .ok (.getfield 51, 3) := by decide +kernel
theorem dX10_addBytes_36 : decode cX10_addBytes 36 = .ok (.iconst 1, 1) := by decide +kernel
theorem dX10_addBytes_37 : decode cX10_addBytes 37 = .ok (.iadd, 1) := by decide +kernel
theorem dX10_addBytes_38 : decode cX10_addBytes 38 = .ok (.putfield 51, 3) := by decide +kernel
theorem dX10_addBytes_41 : decode cX10_addBytes 41 = .ok (.iinc 2 (-8), 3) := by decide +kernel
theorem dX10_addBytes_44 : decode cX10_addBytes 44 = .ok (.goto (-30), 3) := by decide +kernel
theorem dX10_addBytes_10 : decode cX10_addBytes 10 = .ok (.return_, 1) := by decide +kernel
def cs_Told_addBytes_14 (n : Nat) : Nat → gb_S → Int32 → Int32 → gb_CR Unit
  | 0, _, _, _ => none
  | mm + 1, σ, v1, v2 => (if v2 < 0 then some (σ, ()) else gb_ck (σ.1 1 6) 600 (gb_lt (gb_su σ 23 (upd (σ.1 23) (Int32.toNatClampNeg (σ.1 1 6)) (vp_nar .byte ((v1 >>> (v2 &&& 31)).toInt8.toInt32)))) (fun s_4 => gb_lt (gb_su s_4 1 (upd (s_4.1 1) 6 ((s_4.1 1 6) + 1))) (fun s_5 => gb_lt (v2 + (-8)) (fun x_6 => cs_Told_addBytes_14 n mm s_5 v1 x_6)))))
def cs_Told_addBytes (n : Nat) (σ : gb_S) (p1 : Int32) : gb_CR Unit := (if (σ.1 1 6) ≤ 596 then cs_Told_addBytes_14 n n σ p1 24 else some (σ, ()))
set_option maxHeartbeats 8000000 in
set_option maxRecDepth 100000 in
theorem cc_Told_addBytes (l : Launch) (D : va_G) (cT : Nat → ClassId) (tt : Nat → Nat) (b1 b : Nat) (hb1 : b1 ≤ b) (n : Nat) (σ : gb_S) (p1 : Int32) (σE : gb_S) (rE : Unit) (h : cs_Told_addBytes n σ p1 = some (σE, rE)) : Met l yX10_addBytes (.code yX10_addBytes cX10_addBytes 3 none :: gb_wA) ({ frames := 0, cells := 0, slots := 0, locals := 0 }) (gb_Pc D cT tt b1 [.ref (b + 1), .int p1] (fun h => va_P D vwCl (gb_wl b (gb_CW cT b σ)) h)) (gb_Qv (fun h => va_P D vwCl (gb_wl b (gb_CW cT b σE)) h) (gb_fr b 135)) 0 0 (gb_fr b 135) := by
  refine Met.ofW (cc := cX10_addBytes) (maxL := 3) (ret := none) (by decide) rfl ?_
  intro p e s m args below meth c s₁ B hml hv
  obtain ⟨rfl, hSt, hP⟩ := hv
  have hx := B.exec
  have hb := B.bytes
  have hr := B.returns
  have hts := atoms_spec (ws := .code yX10_addBytes cX10_addBytes 3 none :: gb_wA) B.pre
  have hq : ∀ w ∈ gb_wA, w.before _ s = true := fun w h => hts w (List.mem_cons_of_mem _ h)
  have hown : s.vm.findClass RX10 = some m.cls := findClass_of_methodNamed B.named
  have hlocks := B.notSynchronized
  clear B hts
  have hK := hSt.1
  have hS : va_S (gb_fr b 135) s.heap s.heap [] := va_S.rf
  have hl := lv_entry ([.ref (b + 1), .int p1]) (n := 3) (Nat.le_of_ble_eq_true rfl)
  rw [lg_entry_eq]
  generalize (lg_sl ([.ref (b + 1), .int p1]) ++ List.replicate (3 - (lg_sl ([.ref (b + 1), .int p1])).length) Slot.unset).toArray = ls at hl ⊢
  replace hl : lv_has ls 3 [(0, .ref (b + 1)), (1, .int p1)] := hl
  have L14_1 : ∀ (mm : Nat) (σ : gb_S) (v1 : Int32) (v2 : Int32) (H : Heap) (locs : List Loc) (ls : Array Slot), cs_Told_addBytes_14 n mm σ v1 v2 = some (σE, rE) → va_P D vwCl (gb_wl b (gb_CW cT b σ)) H → va_S (gb_fr b 135) s.heap H locs → lv_has ls 3 [(0, .ref (b + 1)), (1, .int v1), (2, .int v2)] → W p l e (headSpec (.code yX10_addBytes cX10_addBytes 3 none :: gb_wA) ({ frames := 0, cells := 0, slots := 0, locals := 0 })).room s m ([.ref (b + 1), .int p1]).toArray below meth c H locs 0 0 (MQ below (gb_Qv (fun h => va_P D vwCl (gb_wl b (gb_CW cT b σE)) h) (gb_fr b 135)) ([.ref (b + 1), .int p1]).toArray s 0 0 (gb_fr b 135)) (F0 m 14 ls []) := by
    clear h hP hS hl ls
    intro mm
    induction mm with
    | zero =>
      intro σ v1 v2 H locs ls h
      cases h
    | succ mm ih =>
      intro σ v1 v2 H locs ls h hP hS hl
      rw [cs_Told_addBytes_14] at h
      refine lv_iload_n hx hb dX10_addBytes_14 rfl (lv_at hl 2 rfl) ?_
      refine lv_if_lt (tgt := 47) hx hb dX10_addBytes_15 (by decide) (fun c_2 => ?_) (fun c_2 => ?_)
      · rw [if_pos c_2] at h
        obtain ⟨e1, -⟩ := gb_eq2 h
        exact W.vret hx hb hr (fun t ht hW => gb_rv ht (by rw [← e1]; exact hP) hS) hS.2.2 dX10_addBytes_47
      · rw [if_neg c_2] at h
        refine lv_aload_n hx hb dX10_addBytes_18 rfl (lv_at hl 0 rfl) ?_
        refine va_get (ci := 8) (v := (.ref (b + 23))) (C := RX10) (T := TX10) (N := 9) hx hb hq i_X10 hown hK hP 1 (gb_at b rfl) rfl 5 (by decide) (hq _ w_122) (fun _ h9 => h9) rfl dX10_addBytes_19 ?_
        refine lv_aload_n hx hb dX10_addBytes_22 rfl (lv_at hl 0 rfl) ?_
        refine va_get (ci := 8) (v := (.int (σ.1 1 6))) (C := RX10) (T := TX10) (N := 9) hx hb hq i_X10 hown hK hP 1 (gb_at b rfl) rfl 6 (by decide) (hq _ w_124) (fun _ h9 => h9) rfl dX10_addBytes_23 ?_
        refine lv_iload_n hx hb dX10_addBytes_26 rfl (lv_at hl 1 rfl) ?_
        refine lv_iload_n hx hb dX10_addBytes_27 rfl (lv_at hl 2 rfl) ?_
        refine lv_ishr hx hb dX10_addBytes_28 ?_
        refine lv_i2b hx hb dX10_addBytes_29 rfl ?_
        obtain ⟨z_3, h⟩ := gb_ck_s h
        refine va_bast (x := ((v1 >>> (v2 &&& 31)).toInt8.toInt32)) hx hb hK hP (gb_D (fun k h => ⟨Nat.le_add_right b k, Nat.add_lt_add_left h b⟩)) hS 23 1 (gb_at b rfl) rfl z_3 dX10_addBytes_30 (fun H locs hP hD hS => ?_)
        rw [gb_set] at hP
        obtain ⟨s_4, es_4⟩ : ∃ q, q = (gb_su σ 23 (upd (σ.1 23) (Int32.toNatClampNeg (σ.1 1 6)) (vp_nar .byte ((v1 >>> (v2 &&& 31)).toInt8.toInt32)))) := ⟨_, rfl⟩
        replace hP : va_P D vwCl (gb_wl b (gb_CW cT b s_4)) H := by rw [es_4]; exact hP
        replace h := gb_lt_s es_4 h
        refine lv_aload_n hx hb dX10_addBytes_31 rfl (lv_at hl 0 rfl) ?_
        refine lv_dup hx hb dX10_addBytes_32 rfl ?_
        refine va_get (ci := 8) (v := (.int (s_4.1 1 6))) (C := RX10) (T := TX10) (N := 9) hx hb hq i_X10 hown hK hP 1 (gb_at b rfl) rfl 6 (by decide) (hq _ w_124) (fun _ h9 => h9) rfl dX10_addBytes_33 ?_
        refine lv_iconst (v := 1) hx hb dX10_addBytes_36 (by decide) ?_
        refine lv_iadd hx hb dX10_addBytes_37 ?_
        refine gb_put (ci := 8) (v := (.int ((s_4.1 1 6) + 1))) (ty := .int) (C := RX10) (T := TX10) (N := 9) hx hb hq i_X10 tyX10 tyX10_ok nmX10 hown hK hP (fun k h => ⟨Nat.le_add_right b k, Nat.add_lt_add_left h b⟩) hS rfl 1 rfl rfl 6 (by decide) (hq _ w_124) (fun _ h9 => h9) rfl (by decide +kernel) rfl rfl (Nat.le_of_ble_eq_true rfl) dX10_addBytes_38 (fun H locs hP hz_ hS => ?_)
        obtain ⟨s_5, es_5⟩ : ∃ q, q = (gb_su s_4 1 (upd (s_4.1 1) 6 ((s_4.1 1 6) + 1))) := ⟨_, rfl⟩
        replace hP : va_P D vwCl (gb_wl b (gb_CW cT b s_5)) H := by rw [es_5]; exact hP
        replace h := gb_lt_s es_5 h
        obtain ⟨x_6, ex_6⟩ : ∃ q, q = (v2 + (-8)) := ⟨_, rfl⟩
        replace h := gb_lt_s ex_6 h
        refine lv_iinc (v := x_6) (lv' := [(2, .int x_6), (0, .ref (b + 1)), (1, .int v1)]) hx hb dX10_addBytes_41 hl (k := 2) rfl (by rw [ex_6]; rfl) (by decide) rfl (fun ls hl => ?_)
        refine lv_goto (tgt := 14) hx hb dX10_addBytes_44 (by decide) ?_
        exact ih _ _ _ _ _ _ h hP hS (lv_sub hl [1, 2, 0] rfl)
  unfold cs_Told_addBytes at h
  refine lv_aload_n hx hb dX10_addBytes_0 rfl (lv_at hl 0 rfl) ?_
  refine va_get (ci := 8) (v := (.int (σ.1 1 6))) (C := RX10) (T := TX10) (N := 9) hx hb hq i_X10 hown hK hP 1 (gb_at b rfl) rfl 6 (by decide) (hq _ w_124) (fun _ h9 => h9) rfl dX10_addBytes_1 ?_
  refine lv_sipush (v := 596) hx hb dX10_addBytes_4 (by decide) ?_
  refine lv_icmp_le (tgt := 11) hx hb dX10_addBytes_7 (by decide) (fun c_1 => ?_) (fun c_1 => ?_)
  · rw [if_pos c_1] at h
    refine lv_bipush (v := 24) hx hb dX10_addBytes_11 (by decide) ?_
    refine lv_istore_n (lv' := [(2, .int 24), (0, .ref (b + 1)), (1, .int p1)]) hx hb dX10_addBytes_13 rfl hl (by decide) rfl (fun ls hl => ?_)
    exact L14_1 n _ _ _ _ _ _ h hP hS (lv_sub hl [1, 2, 0] rfl)
  · rw [if_neg c_1] at h
    obtain ⟨e1, -⟩ := gb_eq2 h
    exact W.vret hx hb hr (fun t ht hW => gb_rv ht (by rw [← e1]; exact hP) hS) hS.2.2 dX10_addBytes_10
theorem w_353 : (Cond.code ({ cls := "GooseBorder$Told", name := "addBytes", desc := "(I)V" } : MethodName) prog_12_method_2_code (3 : Nat) (Option.none : Option FieldType)) ∈ gb_wA := gb_t2 113 rfl rfl
theorem w_350 : (Cond.methodLink "GooseBorder" (78 : Nat) ({ cls := "GooseBorder$Told", name := "addBytes", desc := "(I)V" } : MethodName)) ∈ gb_wA := gb_t2 110 rfl rfl
theorem w_351 : (Cond.instanceMethod ({ cls := "GooseBorder$Told", name := "addBytes", desc := "(I)V" } : MethodName)) ∈ gb_wA := gb_t2 111 rfl rfl
theorem w_352 : (Cond.selects "GooseBorder$Told" ({ cls := "GooseBorder$Told", name := "addBytes", desc := "(I)V" } : MethodName) ({ cls := "GooseBorder$Told", name := "addBytes", desc := "(I)V" } : MethodName)) ∈ gb_wA := gb_t2 112 rfl rfl
theorem dX11_feed_23 : decode cX11_feed 23 = .ok (.aload_n 0, 1) := by decide +kernel
theorem dX11_feed_24 : decode cX11_feed 24 = .ok (.getfield 12, 3) := by decide +kernel
theorem dX11_feed_27 : decode cX11_feed 27 = .ok (.iload_n 2, 1) := by decide +kernel
theorem dX11_feed_28 : decode cX11_feed 28 = .ok (.invokevirtual 78, 3) := by decide +kernel
theorem dX11_feed_31 : decode cX11_feed 31 = .ok (.aload_n 0, 1) := by decide +kernel
theorem dX11_feed_32 : decode cX11_feed 32 = .ok (.getfield 12, 3) := by decide +kernel
theorem dX11_feed_35 : decode cX11_feed 35 = .ok (.iload_n 3, 1) := by decide +kernel
theorem dX11_feed_36 : decode cX11_feed 36 = .ok (.invokevirtual 78, 3) := by decide +kernel
theorem dX11_feed_39 : decode cX11_feed 39 = .ok (.aload_n 0, 1) := by decide +kernel
theorem dX11_feed_40 : decode cX11_feed 40 = .ok (.getfield 12, 3) := by decide +kernel
theorem dX11_feed_43 : decode cX11_feed 43 = .ok (.iload 4, 2) := by decide +kernel
theorem dX11_feed_45 : decode cX11_feed 45 = .ok (.invokevirtual 78, 3) := by decide +kernel
theorem dX11_feed_48 : decode cX11_feed 48 = .ok (.aload_n 0, 1) := by decide +kernel
theorem dX11_feed_49 : decode cX11_feed 49 = .ok (.getfield 12, 3) := by decide +kernel
theorem dX11_feed_52 : decode cX11_feed 52 = .ok (.iload 5, 2) := by decide +kernel
theorem dX11_feed_54 : decode cX11_feed 54 = .ok (.invokevirtual 78, 3) := by decide +kernel
theorem dX11_feed_57 : decode cX11_feed 57 = .ok (.aload_n 0, 1) := by decide +kernel
theorem dX11_feed_58 : decode cX11_feed 58 = .ok (.getfield 12, 3) := by decide +kernel
theorem dX11_feed_61 : decode cX11_feed 61 = .ok (.getfield 74, 3) := by decide +kernel
theorem dX11_feed_64 : decode cX11_feed 64 = .ok (.ireturn, 1) := by decide +kernel
theorem dX11_feed_13 : decode cX11_feed 13 = .ok (.iconst (-1), 1) := by decide +kernel
theorem dX11_feed_14 : decode cX11_feed 14 = .ok (.ireturn, 1) := by decide +kernel
def cs_Face_feed (n : Nat) (σ : gb_S) (p1 : Int32) (p2 : Int32) (p3 : Int32) (p4 : Int32) (p5 : Int32) : gb_CR Int32 := (if (σ.1 1 6) ≤ 580 then gb_cd (cs_Told_addBytes n σ p1) (fun s_2 _ => gb_cd (cs_Told_addBytes n s_2 p2) (fun s_6 _ => gb_cd (cs_Told_addBytes n s_6 p3) (fun s_10 _ => gb_cd (cs_Told_addBytes n s_10 p4) (fun s_14 _ => gb_cd (cs_Told_addBytes n s_14 p5) (fun s_18 _ => some (s_18, (s_18.1 1 6))))))) else some (σ, (-1)))
set_option maxHeartbeats 8000000 in
set_option maxRecDepth 100000 in
theorem cc_Face_feed (l : Launch) (D : va_G) (cT : Nat → ClassId) (tt : Nat → Nat) (b1 b : Nat) (hb1 : b1 ≤ b) (n : Nat) (σ : gb_S) (p1 : Int32) (p2 : Int32) (p3 : Int32) (p4 : Int32) (p5 : Int32) (σE : gb_S) (rE : Int32) (h : cs_Face_feed n σ p1 p2 p3 p4 p5 = some (σE, rE)) : Met l yX11_feed (.code yX11_feed cX11_feed 6 (some FieldType.int) :: gb_wA) ({ frames := 1, cells := 0, slots := 0, locals := 22 }) (gb_Pc D cT tt b1 [.ref (b + 0), .int p1, .int p2, .int p3, .int p4, .int p5] (fun h => va_P D vwCl (gb_wl b (gb_CW cT b σ)) h)) (gb_Qi (fun r h => r = rE ∧ va_P D vwCl (gb_wl b (gb_CW cT b σE)) h) (gb_fr b 135)) 0 0 (gb_fr b 135) := by
  refine Met.ofW (cc := cX11_feed) (maxL := 6) (ret := (some FieldType.int)) (by decide) rfl ?_
  intro p e s m args below meth c s₁ B hml hv
  obtain ⟨rfl, hSt, hP⟩ := hv
  have hx := B.exec
  have hb := B.bytes
  have hr := B.returns
  have hts := atoms_spec (ws := .code yX11_feed cX11_feed 6 (some FieldType.int) :: gb_wA) B.pre
  have hq : ∀ w ∈ gb_wA, w.before _ s = true := fun w h => hts w (List.mem_cons_of_mem _ h)
  have hown : s.vm.findClass RX11 = some m.cls := findClass_of_methodNamed B.named
  have hlocks := B.notSynchronized
  clear B hts
  have hK := hSt.1
  have hS : va_S (gb_fr b 135) s.heap s.heap [] := va_S.rf
  have hl := lv_entry ([.ref (b + 0), .int p1, .int p2, .int p3, .int p4, .int p5]) (n := 6) (Nat.le_of_ble_eq_true rfl)
  rw [lg_entry_eq]
  generalize (lg_sl ([.ref (b + 0), .int p1, .int p2, .int p3, .int p4, .int p5]) ++ List.replicate (6 - (lg_sl ([.ref (b + 0), .int p1, .int p2, .int p3, .int p4, .int p5])).length) Slot.unset).toArray = ls at hl ⊢
  replace hl : lv_has ls 6 [(0, .ref (b + 0)), (1, .int p1), (2, .int p2), (3, .int p3), (4, .int p4), (5, .int p5)] := hl
  unfold cs_Face_feed at h
  refine lv_aload_n hx hb dX11_feed_0 rfl (lv_at hl 0 rfl) ?_
  refine va_get (ci := 9) (v := (.ref (b + 1))) (C := RX11) (T := TX11) (N := 10) hx hb hq i_X11 hown hK hP 0 (gb_at b rfl) rfl 0 (by decide) (hq _ w_315) (fun _ h9 => h9) rfl dX11_feed_1 ?_
  refine va_get (ci := 8) (v := (.int (σ.1 1 6))) (C := RX10) (T := TX10) (N := 9) hx hb hq i_X10 hown hK hP 1 (gb_at b rfl) rfl 6 (by decide) (hq _ w_125) (fun _ h9 => h9) rfl dX11_feed_4 ?_
  refine lv_sipush (v := 580) hx hb dX11_feed_7 (by decide) ?_
  refine lv_icmp_le (tgt := 15) hx hb dX11_feed_10 (by decide) (fun c_1 => ?_) (fun c_1 => ?_)
  · rw [if_pos c_1] at h
    refine lv_aload_n hx hb dX11_feed_15 rfl (lv_at hl 0 rfl) ?_
    refine va_get (ci := 9) (v := (.ref (b + 1))) (C := RX11) (T := TX11) (N := 10) hx hb hq i_X11 hown hK hP 0 (gb_at b rfl) rfl 0 (by decide) (hq _ w_315) (fun _ h9 => h9) rfl dX11_feed_16 ?_
    refine lv_iload_n hx hb dX11_feed_19 rfl (lv_at hl 1 rfl) ?_
    obtain ⟨s_2, r_3, z_4, h⟩ := gb_cd_s h
    refine gb_callv (va_runV (C := RX10) (As := [.int p1]) (rest := []) ⟨hx, hb, hml, hown, hq⟩ (cc_Told_addBytes l D cT tt b1 b hb1 n σ p1 s_2 r_3 z_4) (cwV 1 hq (gb_gV w_350 w_351 w_352 w_2 w_353) rfl rfl rfl (by decide +kernel) ⟨Nat.le_of_ble_eq_true rfl, Nat.le_of_ble_eq_true rfl⟩) (gb_preV (r := (RX10, TX10, 9)) (ci := 8) (q0 := 1) hSt hP rfl (gb_at b rfl) hS (fun q h => Nat.le_trans hb1 h.1) hP) rfl rfl hl.1 rfl (lv_room (Nat.le_of_ble_eq_true rfl)) dX11_feed_20 ⟨Nat.le_of_ble_eq_true rfl, Nat.le_of_ble_eq_true rfl⟩) hS (fun _ h => h) (fun _ h => h) (fun H locs hY hk hS => ?_)
    have hP := hY
    refine lv_aload_n hx hb dX11_feed_23 rfl (lv_at hl 0 rfl) ?_
    refine va_get (ci := 9) (v := (.ref (b + 1))) (C := RX11) (T := TX11) (N := 10) hx hb hq i_X11 hown hK hP 0 (gb_at b rfl) rfl 0 (by decide) (hq _ w_315) (fun _ h9 => h9) rfl dX11_feed_24 ?_
    refine lv_iload_n hx hb dX11_feed_27 rfl (lv_at hl 2 rfl) ?_
    obtain ⟨s_6, r_7, z_8, h⟩ := gb_cd_s h
    refine gb_callv (va_runV (C := RX10) (As := [.int p2]) (rest := []) ⟨hx, hb, hml, hown, hq⟩ (cc_Told_addBytes l D cT tt b1 b hb1 n s_2 p2 s_6 r_7 z_8) (cwV 1 hq (gb_gV w_350 w_351 w_352 w_2 w_353) rfl rfl rfl (by decide +kernel) ⟨Nat.le_of_ble_eq_true rfl, Nat.le_of_ble_eq_true rfl⟩) (gb_preV (r := (RX10, TX10, 9)) (ci := 8) (q0 := 1) hSt hP rfl (gb_at b rfl) hS (fun q h => Nat.le_trans hb1 h.1) hP) rfl rfl hl.1 rfl (lv_room (Nat.le_of_ble_eq_true rfl)) dX11_feed_28 ⟨Nat.le_of_ble_eq_true rfl, Nat.le_of_ble_eq_true rfl⟩) hS (fun _ h => h) (fun _ h => h) (fun H locs hY hk hS => ?_)
    have hP := hY
    refine lv_aload_n hx hb dX11_feed_31 rfl (lv_at hl 0 rfl) ?_
    refine va_get (ci := 9) (v := (.ref (b + 1))) (C := RX11) (T := TX11) (N := 10) hx hb hq i_X11 hown hK hP 0 (gb_at b rfl) rfl 0 (by decide) (hq _ w_315) (fun _ h9 => h9) rfl dX11_feed_32 ?_
    refine lv_iload_n hx hb dX11_feed_35 rfl (lv_at hl 3 rfl) ?_
    obtain ⟨s_10, r_11, z_12, h⟩ := gb_cd_s h
    refine gb_callv (va_runV (C := RX10) (As := [.int p3]) (rest := []) ⟨hx, hb, hml, hown, hq⟩ (cc_Told_addBytes l D cT tt b1 b hb1 n s_6 p3 s_10 r_11 z_12) (cwV 1 hq (gb_gV w_350 w_351 w_352 w_2 w_353) rfl rfl rfl (by decide +kernel) ⟨Nat.le_of_ble_eq_true rfl, Nat.le_of_ble_eq_true rfl⟩) (gb_preV (r := (RX10, TX10, 9)) (ci := 8) (q0 := 1) hSt hP rfl (gb_at b rfl) hS (fun q h => Nat.le_trans hb1 h.1) hP) rfl rfl hl.1 rfl (lv_room (Nat.le_of_ble_eq_true rfl)) dX11_feed_36 ⟨Nat.le_of_ble_eq_true rfl, Nat.le_of_ble_eq_true rfl⟩) hS (fun _ h => h) (fun _ h => h) (fun H locs hY hk hS => ?_)
    have hP := hY
    refine lv_aload_n hx hb dX11_feed_39 rfl (lv_at hl 0 rfl) ?_
    refine va_get (ci := 9) (v := (.ref (b + 1))) (C := RX11) (T := TX11) (N := 10) hx hb hq i_X11 hown hK hP 0 (gb_at b rfl) rfl 0 (by decide) (hq _ w_315) (fun _ h9 => h9) rfl dX11_feed_40 ?_
    refine lv_iload hx hb dX11_feed_43 (lv_at hl 4 rfl) ?_
    obtain ⟨s_14, r_15, z_16, h⟩ := gb_cd_s h
    refine gb_callv (va_runV (C := RX10) (As := [.int p4]) (rest := []) ⟨hx, hb, hml, hown, hq⟩ (cc_Told_addBytes l D cT tt b1 b hb1 n s_10 p4 s_14 r_15 z_16) (cwV 1 hq (gb_gV w_350 w_351 w_352 w_2 w_353) rfl rfl rfl (by decide +kernel) ⟨Nat.le_of_ble_eq_true rfl, Nat.le_of_ble_eq_true rfl⟩) (gb_preV (r := (RX10, TX10, 9)) (ci := 8) (q0 := 1) hSt hP rfl (gb_at b rfl) hS (fun q h => Nat.le_trans hb1 h.1) hP) rfl rfl hl.1 rfl (lv_room (Nat.le_of_ble_eq_true rfl)) dX11_feed_45 ⟨Nat.le_of_ble_eq_true rfl, Nat.le_of_ble_eq_true rfl⟩) hS (fun _ h => h) (fun _ h => h) (fun H locs hY hk hS => ?_)
    have hP := hY
    refine lv_aload_n hx hb dX11_feed_48 rfl (lv_at hl 0 rfl) ?_
    refine va_get (ci := 9) (v := (.ref (b + 1))) (C := RX11) (T := TX11) (N := 10) hx hb hq i_X11 hown hK hP 0 (gb_at b rfl) rfl 0 (by decide) (hq _ w_315) (fun _ h9 => h9) rfl dX11_feed_49 ?_
    refine lv_iload hx hb dX11_feed_52 (lv_at hl 5 rfl) ?_
    obtain ⟨s_18, r_19, z_20, h⟩ := gb_cd_s h
    refine gb_callv (va_runV (C := RX10) (As := [.int p5]) (rest := []) ⟨hx, hb, hml, hown, hq⟩ (cc_Told_addBytes l D cT tt b1 b hb1 n s_14 p5 s_18 r_19 z_20) (cwV 1 hq (gb_gV w_350 w_351 w_352 w_2 w_353) rfl rfl rfl (by decide +kernel) ⟨Nat.le_of_ble_eq_true rfl, Nat.le_of_ble_eq_true rfl⟩) (gb_preV (r := (RX10, TX10, 9)) (ci := 8) (q0 := 1) hSt hP rfl (gb_at b rfl) hS (fun q h => Nat.le_trans hb1 h.1) hP) rfl rfl hl.1 rfl (lv_room (Nat.le_of_ble_eq_true rfl)) dX11_feed_54 ⟨Nat.le_of_ble_eq_true rfl, Nat.le_of_ble_eq_true rfl⟩) hS (fun _ h => h) (fun _ h => h) (fun H locs hY hk hS => ?_)
    have hP := hY
    refine lv_aload_n hx hb dX11_feed_57 rfl (lv_at hl 0 rfl) ?_
    refine va_get (ci := 9) (v := (.ref (b + 1))) (C := RX11) (T := TX11) (N := 10) hx hb hq i_X11 hown hK hP 0 (gb_at b rfl) rfl 0 (by decide) (hq _ w_315) (fun _ h9 => h9) rfl dX11_feed_58 ?_
    refine va_get (ci := 8) (v := (.int (s_18.1 1 6))) (C := RX10) (T := TX10) (N := 9) hx hb hq i_X10 hown hK hP 1 (gb_at b rfl) rfl 6 (by decide) (hq _ w_125) (fun _ h9 => h9) rfl dX11_feed_61 ?_
    obtain ⟨e1, e2⟩ := gb_eq2 h
    exact W.iret (v := (s_18.1 1 6)) hx hb hr (fun t ht hW => gb_ri ht ⟨e2, by rw [← e1]; exact hP⟩ hS) hS.2.2 dX11_feed_64
  · rw [if_neg c_1] at h
    refine lv_iconst (v := (-1)) hx hb dX11_feed_13 (by decide) ?_
    obtain ⟨e1, e2⟩ := gb_eq2 h
    exact W.iret (v := (-1)) hx hb hr (fun t ht hW => gb_ri ht ⟨e2, by rw [← e1]; exact hP⟩ hS) hS.2.2 dX11_feed_14
theorem dX11_end_0 : decode cX11_end 0 = .ok (.iload_n 1, 1) := by decide +kernel
theorem dX11_end_1 : decode cX11_end 1 = .ok (.ifCond .lt 14, 3) := by decide +kernel
theorem dX11_end_15 : decode cX11_end 15 = .ok (.iconst (-1), 1) := by decide +kernel
theorem dX11_end_16 : decode cX11_end 16 = .ok (.ireturn, 1) := by decide +kernel
theorem dX11_end_4 : decode cX11_end 4 = .ok (.iload_n 1, 1) := by decide +kernel
theorem dX11_end_5 : decode cX11_end 5 = .ok (.aload_n 0, 1) := by decide +kernel
theorem dX11_end_6 : decode cX11_end 6 = .ok (.getfield 12, 3) := by decide +kernel
theorem dX11_end_9 : decode cX11_end 9 = .ok (.getfield 74, 3) := by decide +kernel
theorem dX11_end_12 : decode cX11_end 12 = .ok (.if_icmp .le 5, 3) := by decide +kernel
theorem dX11_end_17 : decode cX11_end 17 = .ok (.aload_n 0, 1) := by decide +kernel
theorem dX11_end_18 : decode cX11_end 18 = .ok (.getfield 12, 3) := by decide +kernel
theorem dX11_end_21 : decode cX11_end 21 = .ok (.iload_n 1, 1) := by decide +kernel
theorem dX11_end_22 : decode cX11_end 22 = .ok (.putfield 74, 3) := by decide +kernel
theorem dX11_end_25 : decode cX11_end 25 = .ok (.iload_n 1, 1) := by decide +kernel
theorem dX11_end_26 : decode cX11_end 26 = .ok (.ireturn, 1) := by decide +kernel
def cs_Face_end (n : Nat) (σ : gb_S) (p1 : Int32) : gb_CR Int32 := (if p1 < 0 then some (σ, (-1)) else (if p1 ≤ (σ.1 1 6) then gb_lt (gb_su σ 1 (upd (σ.1 1) 6 p1)) (fun s_3 => some (s_3, p1)) else some (σ, (-1))))
set_option maxHeartbeats 8000000 in
set_option maxRecDepth 100000 in
theorem cc_Face_end (l : Launch) (D : va_G) (cT : Nat → ClassId) (tt : Nat → Nat) (b1 b : Nat) (hb1 : b1 ≤ b) (n : Nat) (σ : gb_S) (p1 : Int32) (σE : gb_S) (rE : Int32) (h : cs_Face_end n σ p1 = some (σE, rE)) : Met l yX11_end (.code yX11_end cX11_end 2 (some FieldType.int) :: gb_wA) ({ frames := 0, cells := 0, slots := 0, locals := 0 }) (gb_Pc D cT tt b1 [.ref (b + 0), .int p1] (fun h => va_P D vwCl (gb_wl b (gb_CW cT b σ)) h)) (gb_Qi (fun r h => r = rE ∧ va_P D vwCl (gb_wl b (gb_CW cT b σE)) h) (gb_fr b 135)) 0 0 (gb_fr b 135) := by
  refine Met.ofW (cc := cX11_end) (maxL := 2) (ret := (some FieldType.int)) (by decide) rfl ?_
  intro p e s m args below meth c s₁ B hml hv
  obtain ⟨rfl, hSt, hP⟩ := hv
  have hx := B.exec
  have hb := B.bytes
  have hr := B.returns
  have hts := atoms_spec (ws := .code yX11_end cX11_end 2 (some FieldType.int) :: gb_wA) B.pre
  have hq : ∀ w ∈ gb_wA, w.before _ s = true := fun w h => hts w (List.mem_cons_of_mem _ h)
  have hown : s.vm.findClass RX11 = some m.cls := findClass_of_methodNamed B.named
  have hlocks := B.notSynchronized
  clear B hts
  have hK := hSt.1
  have hS : va_S (gb_fr b 135) s.heap s.heap [] := va_S.rf
  have hl := lv_entry ([.ref (b + 0), .int p1]) (n := 2) (Nat.le_of_ble_eq_true rfl)
  rw [lg_entry_eq]
  generalize (lg_sl ([.ref (b + 0), .int p1]) ++ List.replicate (2 - (lg_sl ([.ref (b + 0), .int p1])).length) Slot.unset).toArray = ls at hl ⊢
  replace hl : lv_has ls 2 [(0, .ref (b + 0)), (1, .int p1)] := hl
  unfold cs_Face_end at h
  refine lv_iload_n hx hb dX11_end_0 rfl (lv_at hl 1 rfl) ?_
  refine lv_if_lt (tgt := 15) hx hb dX11_end_1 (by decide) (fun c_1 => ?_) (fun c_1 => ?_)
  · rw [if_pos c_1] at h
    refine lv_iconst (v := (-1)) hx hb dX11_end_15 (by decide) ?_
    obtain ⟨e1, e2⟩ := gb_eq2 h
    exact W.iret (v := (-1)) hx hb hr (fun t ht hW => gb_ri ht ⟨e2, by rw [← e1]; exact hP⟩ hS) hS.2.2 dX11_end_16
  · rw [if_neg c_1] at h
    refine lv_iload_n hx hb dX11_end_4 rfl (lv_at hl 1 rfl) ?_
    refine lv_aload_n hx hb dX11_end_5 rfl (lv_at hl 0 rfl) ?_
    refine va_get (ci := 9) (v := (.ref (b + 1))) (C := RX11) (T := TX11) (N := 10) hx hb hq i_X11 hown hK hP 0 (gb_at b rfl) rfl 0 (by decide) (hq _ w_315) (fun _ h9 => h9) rfl dX11_end_6 ?_
    refine va_get (ci := 8) (v := (.int (σ.1 1 6))) (C := RX10) (T := TX10) (N := 9) hx hb hq i_X10 hown hK hP 1 (gb_at b rfl) rfl 6 (by decide) (hq _ w_125) (fun _ h9 => h9) rfl dX11_end_9 ?_
    refine lv_icmp_le (tgt := 17) hx hb dX11_end_12 (by decide) (fun c_2 => ?_) (fun c_2 => ?_)
    · rw [if_pos c_2] at h
      refine lv_aload_n hx hb dX11_end_17 rfl (lv_at hl 0 rfl) ?_
      refine va_get (ci := 9) (v := (.ref (b + 1))) (C := RX11) (T := TX11) (N := 10) hx hb hq i_X11 hown hK hP 0 (gb_at b rfl) rfl 0 (by decide) (hq _ w_315) (fun _ h9 => h9) rfl dX11_end_18 ?_
      refine lv_iload_n hx hb dX11_end_21 rfl (lv_at hl 1 rfl) ?_
      refine gb_put (ci := 8) (v := (.int p1)) (ty := .int) (C := RX10) (T := TX10) (N := 9) hx hb hq i_X10 tyX10 tyX10_ok nmX10 hown hK hP (fun k h => ⟨Nat.le_add_right b k, Nat.add_lt_add_left h b⟩) hS rfl 1 rfl rfl 6 (by decide) (hq _ w_125) (fun _ h9 => h9) rfl (by decide +kernel) rfl rfl (Nat.le_of_ble_eq_true rfl) dX11_end_22 (fun H locs hP hz_ hS => ?_)
      obtain ⟨s_3, es_3⟩ : ∃ q, q = (gb_su σ 1 (upd (σ.1 1) 6 p1)) := ⟨_, rfl⟩
      replace hP : va_P D vwCl (gb_wl b (gb_CW cT b s_3)) H := by rw [es_3]; exact hP
      replace h := gb_lt_s es_3 h
      refine lv_iload_n hx hb dX11_end_25 rfl (lv_at hl 1 rfl) ?_
      obtain ⟨e1, e2⟩ := gb_eq2 h
      exact W.iret (v := p1) hx hb hr (fun t ht hW => gb_ri ht ⟨e2, by rw [← e1]; exact hP⟩ hS) hS.2.2 dX11_end_26
    · rw [if_neg c_2] at h
      refine lv_iconst (v := (-1)) hx hb dX11_end_15 (by decide) ?_
      obtain ⟨e1, e2⟩ := gb_eq2 h
      exact W.iret (v := (-1)) hx hb hr (fun t ht hW => gb_ri ht ⟨e2, by rw [← e1]; exact hP⟩ hS) hS.2.2 dX11_end_16
theorem dX11_count_0 : decode cX11_count 0 = .ok (.iload_n 1, 1) := by decide +kernel
theorem dX11_count_1 : decode cX11_count 1 = .ok (.ifCond .lt 20, 3) := by decide +kernel
theorem dX11_count_21 : decode cX11_count 21 = .ok (.bipush (-2), 2) := by decide +kernel
theorem dX11_count_23 : decode cX11_count 23 = .ok (.ireturn, 1) := by decide +kernel
theorem dX11_count_4 : decode cX11_count 4 = .ok (.iload_n 1, 1) := by decide +kernel
theorem dX11_count_5 : decode cX11_count 5 = .ok (.iconst 4, 1) := by decide +kernel
theorem dX11_count_6 : decode cX11_count 6 = .ok (.if_icmp .ge 15, 3) := by decide +kernel
theorem dX11_count_9 : decode cX11_count 9 = .ok (.aload_n 0, 1) := by decide +kernel
theorem dX11_count_10 : decode cX11_count 10 = .ok (.getfield 12, 3) := by decide +kernel
theorem dX11_count_13 : decode cX11_count 13 = .ok (.getfield 88, 3) := by decide +kernel
theorem dX11_count_16 : decode cX11_count 16 = .ok (.iload_n 1, 1) := by decide +kernel
theorem dX11_count_17 : decode cX11_count 17 = .ok (.iaload, 1) := by decide +kernel
theorem dX11_count_18 : decode cX11_count 18 = .ok (.goto 5, 3) := by decide +kernel
def cs_Face_count (n : Nat) (σ : gb_S) (p1 : Int32) : gb_CR Int32 := (if p1 < 0 then some (σ, (-2)) else (if (4 : Int32) ≤ p1 then some (σ, (-2)) else gb_ck p1 4 (gb_lt ((σ.1 22) (Int32.toNatClampNeg p1)) (fun x_4 => some (σ, x_4)))))
set_option maxHeartbeats 8000000 in
set_option maxRecDepth 100000 in
theorem cc_Face_count (l : Launch) (D : va_G) (cT : Nat → ClassId) (tt : Nat → Nat) (b1 b : Nat) (hb1 : b1 ≤ b) (n : Nat) (σ : gb_S) (p1 : Int32) (σE : gb_S) (rE : Int32) (h : cs_Face_count n σ p1 = some (σE, rE)) : Met l yX11_count (.code yX11_count cX11_count 2 (some FieldType.int) :: gb_wA) ({ frames := 0, cells := 0, slots := 0, locals := 0 }) (gb_Pc D cT tt b1 [.ref (b + 0), .int p1] (fun h => va_P D vwCl (gb_wl b (gb_CW cT b σ)) h)) (gb_Qi (fun r h => r = rE ∧ va_P D vwCl (gb_wl b (gb_CW cT b σE)) h) (gb_fr b 135)) 0 0 (gb_fr b 135) := by
  refine Met.ofW (cc := cX11_count) (maxL := 2) (ret := (some FieldType.int)) (by decide) rfl ?_
  intro p e s m args below meth c s₁ B hml hv
  obtain ⟨rfl, hSt, hP⟩ := hv
  have hx := B.exec
  have hb := B.bytes
  have hr := B.returns
  have hts := atoms_spec (ws := .code yX11_count cX11_count 2 (some FieldType.int) :: gb_wA) B.pre
  have hq : ∀ w ∈ gb_wA, w.before _ s = true := fun w h => hts w (List.mem_cons_of_mem _ h)
  have hown : s.vm.findClass RX11 = some m.cls := findClass_of_methodNamed B.named
  have hlocks := B.notSynchronized
  clear B hts
  have hK := hSt.1
  have hS : va_S (gb_fr b 135) s.heap s.heap [] := va_S.rf
  have hl := lv_entry ([.ref (b + 0), .int p1]) (n := 2) (Nat.le_of_ble_eq_true rfl)
  rw [lg_entry_eq]
  generalize (lg_sl ([.ref (b + 0), .int p1]) ++ List.replicate (2 - (lg_sl ([.ref (b + 0), .int p1])).length) Slot.unset).toArray = ls at hl ⊢
  replace hl : lv_has ls 2 [(0, .ref (b + 0)), (1, .int p1)] := hl
  unfold cs_Face_count at h
  refine lv_iload_n hx hb dX11_count_0 rfl (lv_at hl 1 rfl) ?_
  refine lv_if_lt (tgt := 21) hx hb dX11_count_1 (by decide) (fun c_1 => ?_) (fun c_1 => ?_)
  · rw [if_pos c_1] at h
    refine lv_bipush (v := (-2)) hx hb dX11_count_21 (by decide) ?_
    obtain ⟨e1, e2⟩ := gb_eq2 h
    exact W.iret (v := (-2)) hx hb hr (fun t ht hW => gb_ri ht ⟨e2, by rw [← e1]; exact hP⟩ hS) hS.2.2 dX11_count_23
  · rw [if_neg c_1] at h
    refine lv_iload_n hx hb dX11_count_4 rfl (lv_at hl 1 rfl) ?_
    refine lv_iconst (v := 4) hx hb dX11_count_5 (by decide) ?_
    refine lv_icmp_ge (tgt := 21) hx hb dX11_count_6 (by decide) (fun c_2 => ?_) (fun c_2 => ?_)
    · rw [if_pos c_2] at h
      refine lv_bipush (v := (-2)) hx hb dX11_count_21 (by decide) ?_
      obtain ⟨e1, e2⟩ := gb_eq2 h
      exact W.iret (v := (-2)) hx hb hr (fun t ht hW => gb_ri ht ⟨e2, by rw [← e1]; exact hP⟩ hS) hS.2.2 dX11_count_23
    · rw [if_neg c_2] at h
      refine lv_aload_n hx hb dX11_count_9 rfl (lv_at hl 0 rfl) ?_
      refine va_get (ci := 9) (v := (.ref (b + 1))) (C := RX11) (T := TX11) (N := 10) hx hb hq i_X11 hown hK hP 0 (gb_at b rfl) rfl 0 (by decide) (hq _ w_315) (fun _ h9 => h9) rfl dX11_count_10 ?_
      refine va_get (ci := 8) (v := (.ref (b + 22))) (C := RX10) (T := TX10) (N := 9) hx hb hq i_X10 hown hK hP 1 (gb_at b rfl) rfl 4 (by decide) (hq _ w_121) (fun _ h9 => h9) rfl dX11_count_13 ?_
      refine lv_iload_n hx hb dX11_count_16 rfl (lv_at hl 1 rfl) ?_
      obtain ⟨z_3, h⟩ := gb_ck_s h
      refine va_iald hx hb hK hP 22 0 (gb_at b rfl) rfl z_3 dX11_count_17 ?_
      refine lv_topi (fun x_4 ex_4 => ?_)
      replace h := gb_lt_s ex_4 h
      refine lv_goto (tgt := 23) hx hb dX11_count_18 (by decide) ?_
      obtain ⟨e1, e2⟩ := gb_eq2 h
      exact W.iret (v := x_4) hx hb hr (fun t ht hW => gb_ri ht ⟨e2, by rw [← e1]; exact hP⟩ hS) hS.2.2 dX11_count_23
theorem dX11_fault_0 : decode cX11_fault 0 = .ok (.iload_n 1, 1) := by decide +kernel
theorem dX11_fault_1 : decode cX11_fault 1 = .ok (.lookupswitch 43 #[(0, 27), (1, 35)], 27) := by decide +kernel
theorem dX11_fault_28 : decode cX11_fault 28 = .ok (.aload_n 0, 1) := by decide +kernel
theorem dX11_fault_29 : decode cX11_fault 29 = .ok (.getfield 12, 3) := by decide +kernel
theorem dX11_fault_32 : decode cX11_fault 32 = .ok (.getfield 82, 3) := by decide +kernel
theorem w_126 : (Cond.fieldLink "GooseBorder" (82 : Nat) "GooseBorder$Told" "fault" "I") ∈ gb_wA := gb_t1 126 rfl rfl
theorem dX11_fault_35 : decode cX11_fault 35 = .ok (.ireturn, 1) := by decide +kernel
theorem dX11_fault_36 : decode cX11_fault 36 = .ok (.aload_n 0, 1) := by decide +kernel
theorem dX11_fault_37 : decode cX11_fault 37 = .ok (.getfield 12, 3) := by decide +kernel
theorem dX11_fault_40 : decode cX11_fault 40 = .ok (.getfield 85, 3) := by decide +kernel
theorem w_129 : (Cond.fieldLink "GooseBorder" (85 : Nat) "GooseBorder$Told" "place" "I") ∈ gb_wA := gb_t1 129 rfl rfl
theorem dX11_fault_43 : decode cX11_fault 43 = .ok (.ireturn, 1) := by decide +kernel
theorem dX11_fault_44 : decode cX11_fault 44 = .ok (.iconst (-1), 1) := by decide +kernel
theorem dX11_fault_45 : decode cX11_fault 45 = .ok (.ireturn, 1) := by decide +kernel
def cs_Face_fault (n : Nat) (σ : gb_S) (p1 : Int32) : gb_CR Int32 := (if p1 = (0 : Int32) then some (σ, (σ.1 1 7)) else (if p1 = (1 : Int32) then some (σ, (σ.1 1 8)) else some (σ, (-1))))
set_option maxHeartbeats 8000000 in
set_option maxRecDepth 100000 in
theorem cc_Face_fault (l : Launch) (D : va_G) (cT : Nat → ClassId) (tt : Nat → Nat) (b1 b : Nat) (hb1 : b1 ≤ b) (n : Nat) (σ : gb_S) (p1 : Int32) (σE : gb_S) (rE : Int32) (h : cs_Face_fault n σ p1 = some (σE, rE)) : Met l yX11_fault (.code yX11_fault cX11_fault 2 (some FieldType.int) :: gb_wA) ({ frames := 0, cells := 0, slots := 0, locals := 0 }) (gb_Pc D cT tt b1 [.ref (b + 0), .int p1] (fun h => va_P D vwCl (gb_wl b (gb_CW cT b σ)) h)) (gb_Qi (fun r h => r = rE ∧ va_P D vwCl (gb_wl b (gb_CW cT b σE)) h) (gb_fr b 135)) 0 0 (gb_fr b 135) := by
  refine Met.ofW (cc := cX11_fault) (maxL := 2) (ret := (some FieldType.int)) (by decide) rfl ?_
  intro p e s m args below meth c s₁ B hml hv
  obtain ⟨rfl, hSt, hP⟩ := hv
  have hx := B.exec
  have hb := B.bytes
  have hr := B.returns
  have hts := atoms_spec (ws := .code yX11_fault cX11_fault 2 (some FieldType.int) :: gb_wA) B.pre
  have hq : ∀ w ∈ gb_wA, w.before _ s = true := fun w h => hts w (List.mem_cons_of_mem _ h)
  have hown : s.vm.findClass RX11 = some m.cls := findClass_of_methodNamed B.named
  have hlocks := B.notSynchronized
  clear B hts
  have hK := hSt.1
  have hS : va_S (gb_fr b 135) s.heap s.heap [] := va_S.rf
  have hl := lv_entry ([.ref (b + 0), .int p1]) (n := 2) (Nat.le_of_ble_eq_true rfl)
  rw [lg_entry_eq]
  generalize (lg_sl ([.ref (b + 0), .int p1]) ++ List.replicate (2 - (lg_sl ([.ref (b + 0), .int p1])).length) Slot.unset).toArray = ls at hl ⊢
  replace hl : lv_has ls 2 [(0, .ref (b + 0)), (1, .int p1)] := hl
  unfold cs_Face_fault at h
  refine lv_iload_n hx hb dX11_fault_0 rfl (lv_at hl 1 rfl) ?_
  by_cases c_1 : p1 = (0 : Int32)
  · rw [if_pos c_1] at h
    refine lv_lookup (off := 27) (tgt := 28) hx hb dX11_fault_1 (by decide) (by rw [c_1]; decide) (by decide) ?_
    refine lv_aload_n hx hb dX11_fault_28 rfl (lv_at hl 0 rfl) ?_
    refine va_get (ci := 9) (v := (.ref (b + 1))) (C := RX11) (T := TX11) (N := 10) hx hb hq i_X11 hown hK hP 0 (gb_at b rfl) rfl 0 (by decide) (hq _ w_315) (fun _ h9 => h9) rfl dX11_fault_29 ?_
    refine va_get (ci := 8) (v := (.int (σ.1 1 7))) (C := RX10) (T := TX10) (N := 9) hx hb hq i_X10 hown hK hP 1 (gb_at b rfl) rfl 7 (by decide) (hq _ w_126) (fun _ h9 => h9) rfl dX11_fault_32 ?_
    obtain ⟨e1, e2⟩ := gb_eq2 h
    exact W.iret (v := (σ.1 1 7)) hx hb hr (fun t ht hW => gb_ri ht ⟨e2, by rw [← e1]; exact hP⟩ hS) hS.2.2 dX11_fault_35
  rw [if_neg c_1] at h
  by_cases c_2 : p1 = (1 : Int32)
  · rw [if_pos c_2] at h
    refine lv_lookup (off := 35) (tgt := 36) hx hb dX11_fault_1 (by decide) (by rw [c_2]; decide) (by decide) ?_
    refine lv_aload_n hx hb dX11_fault_36 rfl (lv_at hl 0 rfl) ?_
    refine va_get (ci := 9) (v := (.ref (b + 1))) (C := RX11) (T := TX11) (N := 10) hx hb hq i_X11 hown hK hP 0 (gb_at b rfl) rfl 0 (by decide) (hq _ w_315) (fun _ h9 => h9) rfl dX11_fault_37 ?_
    refine va_get (ci := 8) (v := (.int (σ.1 1 8))) (C := RX10) (T := TX10) (N := 9) hx hb hq i_X10 hown hK hP 1 (gb_at b rfl) rfl 8 (by decide) (hq _ w_129) (fun _ h9 => h9) rfl dX11_fault_40 ?_
    obtain ⟨e1, e2⟩ := gb_eq2 h
    exact W.iret (v := (σ.1 1 8)) hx hb hr (fun t ht hW => gb_ri ht ⟨e2, by rw [← e1]; exact hP⟩ hS) hS.2.2 dX11_fault_43
  rw [if_neg c_2] at h
  refine lv_lookup (off := 43) (tgt := 44) hx hb dX11_fault_1 (by decide) ((lv_osw c_1 rfl).trans (lv_osw c_2 rfl)) (by decide) ?_
  refine lv_iconst (v := (-1)) hx hb dX11_fault_44 (by decide) ?_
  obtain ⟨e1, e2⟩ := gb_eq2 h
  exact W.iret (v := (-1)) hx hb hr (fun t ht hW => gb_ri ht ⟨e2, by rw [← e1]; exact hP⟩ hS) hS.2.2 dX11_fault_45
