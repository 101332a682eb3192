theorem gb_nzB {k : Nat} (h : gb_kB k = true) : ¬ k = 0 := fun e => by rw [e] at h; cases h
theorem gb_nzN {k : Nat} (h : gb_kN k = true) : ¬ k = 0 := fun e => by rw [e] at h; cases h
theorem gb_nzL {k : Nat} (h : gb_kL k = true) : ¬ k = 0 := fun e => by rw [e] at h; cases h
theorem gb_nzD {k : Nat} (h : gb_kD k = true) : ¬ k = 0 := fun e => by rw [e] at h; cases h
theorem gb_on1 {b k : Nat} (h : ¬ k = 0) : some (b + k) = gb_on b k := by
  cases k with
  | zero => exact absurd rfl h
  | succ k => rfl
theorem gb_kY_eq {k : Nat} (h : (k == 23) = true) : k = 23 := by simpa using h
theorem gb_cY {cT : Nat → ClassId} {b : Nat} {σ : gb_S} {k : Nat} (h : (k == 23) = true) : (gb_CW cT b σ)[k]? = some (.inl (cT 1, 600, .inl (σ.1 k))) := by
  rw [gb_kY_eq h]
  rfl
theorem gb_wTo {cT : Nat → ClassId} {b : Nat} {σ : gb_S} {k : Nat} {F : Nat → Int32} (h : gb_kT k = true) : True := trivial

theorem dX0_clear_0 : decode cX0_clear 0 = .ok (.aload_n 0, 1) := by decide +kernel
theorem dX0_clear_1 : decode cX0_clear 1 = .ok (.getfield 11, 3) := by decide +kernel
theorem dX0_clear_4 : decode cX0_clear 4 = .ok (.iconst 0, 1) := by decide +kernel
theorem dX0_clear_5 : decode cX0_clear 5 = .ok (.iconst 0, 1) := by decide +kernel
theorem dX0_clear_6 : decode cX0_clear 6 = .ok (.iastore, 1) := by decide +kernel
theorem dX0_clear_7 : decode cX0_clear 7 = .ok (.aload_n 0, 1) := by decide +kernel
theorem dX0_clear_8 : decode cX0_clear 8 = .ok (.getfield 11, 3) := by decide +kernel
theorem dX0_clear_11 : decode cX0_clear 11 = .ok (.iconst 1, 1) := by decide +kernel
theorem dX0_clear_12 : decode cX0_clear 12 = .ok (.iconst 0, 1) := by decide +kernel
theorem dX0_clear_13 : decode cX0_clear 13 = .ok (.iastore, 1) := by decide +kernel
theorem dX0_clear_14 : decode cX0_clear 14 = .ok (.aload_n 0, 1) := by decide +kernel
theorem dX0_clear_15 : decode cX0_clear 15 = .ok (.getfield 11, 3) := by decide +kernel
theorem dX0_clear_18 : decode cX0_clear 18 = .ok (.iconst 2, 1) := by decide +kernel
theorem dX0_clear_19 : decode cX0_clear 19 = .ok (.iconst (-1), 1) := by decide +kernel
theorem dX0_clear_20 : decode cX0_clear 20 = .ok (.iastore, 1) := by decide +kernel
theorem dX0_clear_21 : decode cX0_clear 21 = .ok (.return_, 1) := by decide +kernel
def cs_Border_clear_B (n : Nat) (σ : gb_S) (k0 : Nat) : gb_CR Unit := gb_kk (gb_kB k0) (gb_lt (gb_su σ (k0 + 1) (upd (σ.1 (k0 + 1)) (Int32.toNatClampNeg 0) 0)) (fun s_2 => gb_lt (gb_su s_2 (k0 + 1) (upd (s_2.1 (k0 + 1)) (Int32.toNatClampNeg 1) 0)) (fun s_3 => gb_lt (gb_su s_3 (k0 + 1) (upd (s_3.1 (k0 + 1)) (Int32.toNatClampNeg 2) (-1))) (fun s_4 => some (s_4, ())))))
set_option maxHeartbeats 8000000 in
set_option maxRecDepth 100000 in
theorem cc_Border_clear_B (l : Launch) (D : va_G) (cT : Nat → ClassId) (tt : Nat → Nat) (b1 b : Nat) (hb1 : b1 ≤ b) (n : Nat) (σ : gb_S) (k0 : Nat) (σE : gb_S) (rE : Unit) (h : cs_Border_clear_B n σ k0 = some (σE, rE)) : Met l yX0_clear (.code yX0_clear cX0_clear 1 none :: gb_wA) ({ frames := 0, cells := 0, slots := 0, locals := 0 }) (gb_Pc D cT tt b1 [.ref (b + k0)] (fun h => va_P D vwCl (gb_wl b (gb_CW cT b σ)) h)) (gb_Qv (fun h => va_P D vwCl (gb_wl b (gb_CW cT b σE)) h) (gb_fr b 135)) 0 0 (gb_fr b 135) := by
  refine Met.ofW (cc := cX0_clear) (maxL := 1) (ret := none) (by decide) rfl ?_
  intro p e s m args below meth c s₁ B hml hv
  obtain ⟨rfl, hSt, hP⟩ := hv
  have hx := B.exec
  have hb := B.bytes
  have hr := B.returns
  have hts := atoms_spec (ws := .code yX0_clear cX0_clear 1 none :: gb_wA) B.pre
  have hq : ∀ w ∈ gb_wA, w.before _ s = true := fun w h => hts w (List.mem_cons_of_mem _ h)
  have hown : s.vm.findClass RX0 = some m.cls := findClass_of_methodNamed B.named
  have hlocks := B.notSynchronized
  clear B hts
  have hK := hSt.1
  have hS : va_S (gb_fr b 135) s.heap s.heap [] := va_S.rf
  have hl := lv_entry ([.ref (b + k0)]) (n := 1) (Nat.le_of_ble_eq_true rfl)
  rw [lg_entry_eq]
  generalize (lg_sl ([.ref (b + k0)]) ++ List.replicate (1 - (lg_sl ([.ref (b + k0)])).length) Slot.unset).toArray = ls at hl ⊢
  replace hl : lv_has ls 1 [(0, .ref (b + k0))] := hl
  unfold cs_Border_clear_B at h
  obtain ⟨z_1, h⟩ := gb_kk_s h
  refine lv_aload_n hx hb dX0_clear_0 rfl (lv_at hl 0 rfl) ?_
  refine va_get (ci := 0) (v := (.ref (b + (k0 + 1)))) (C := RX0) (T := TX0) (N := 1) hx hb hq i_X0 hown hK hP k0 (gb_at b (gb_cB z_1).1) rfl 0 (by decide) (hq _ w_49) (fun x9 h9 => u_same (hq _ w_50) x9 h9) rfl dX0_clear_1 ?_
  refine lv_iconst (v := 0) hx hb dX0_clear_4 (by decide) ?_
  refine lv_iconst (v := 0) hx hb dX0_clear_5 (by decide) ?_
  refine va_iast (x := 0) hx hb hK hP (gb_D (fun k h => ⟨Nat.le_add_right b k, Nat.add_lt_add_left h b⟩)) hS (k0 + 1) 0 (gb_at b (gb_cB z_1).2) rfl (gb_in rfl) dX0_clear_6 (fun H locs hP hD hS => ?_)
  rw [gb_set] at hP
  obtain ⟨s_2, es_2⟩ : ∃ q, q = (gb_su σ (k0 + 1) (upd (σ.1 (k0 + 1)) (Int32.toNatClampNeg 0) 0)) := ⟨_, rfl⟩
  replace hP : va_P D vwCl (gb_wl b (gb_CW cT b s_2)) H := by rw [es_2, ← gb_wB z_1]; exact hP
  replace h := gb_lt_s es_2 h
  refine lv_aload_n hx hb dX0_clear_7 rfl (lv_at hl 0 rfl) ?_
  refine va_get (ci := 0) (v := (.ref (b + (k0 + 1)))) (C := RX0) (T := TX0) (N := 1) hx hb hq i_X0 hown hK hP k0 (gb_at b (gb_cB z_1).1) rfl 0 (by decide) (hq _ w_49) (fun x9 h9 => u_same (hq _ w_50) x9 h9) rfl dX0_clear_8 ?_
  refine lv_iconst (v := 1) hx hb dX0_clear_11 (by decide) ?_
  refine lv_iconst (v := 0) hx hb dX0_clear_12 (by decide) ?_
  refine va_iast (x := 0) hx hb hK hP (gb_D (fun k h => ⟨Nat.le_add_right b k, Nat.add_lt_add_left h b⟩)) hS (k0 + 1) 0 (gb_at b (gb_cB z_1).2) rfl (gb_in rfl) dX0_clear_13 (fun H locs hP hD hS => ?_)
  rw [gb_set] at hP
  obtain ⟨s_3, es_3⟩ : ∃ q, q = (gb_su s_2 (k0 + 1) (upd (s_2.1 (k0 + 1)) (Int32.toNatClampNeg 1) 0)) := ⟨_, rfl⟩
  replace hP : va_P D vwCl (gb_wl b (gb_CW cT b s_3)) H := by rw [es_3, ← gb_wB z_1]; exact hP
  replace h := gb_lt_s es_3 h
  refine lv_aload_n hx hb dX0_clear_14 rfl (lv_at hl 0 rfl) ?_
  refine va_get (ci := 0) (v := (.ref (b + (k0 + 1)))) (C := RX0) (T := TX0) (N := 1) hx hb hq i_X0 hown hK hP k0 (gb_at b (gb_cB z_1).1) rfl 0 (by decide) (hq _ w_49) (fun x9 h9 => u_same (hq _ w_50) x9 h9) rfl dX0_clear_15 ?_
  refine lv_iconst (v := 2) hx hb dX0_clear_18 (by decide) ?_
  refine lv_iconst (v := (-1)) hx hb dX0_clear_19 (by decide) ?_
  refine va_iast (x := (-1)) hx hb hK hP (gb_D (fun k h => ⟨Nat.le_add_right b k, Nat.add_lt_add_left h b⟩)) hS (k0 + 1) 0 (gb_at b (gb_cB z_1).2) rfl (gb_in rfl) dX0_clear_20 (fun H locs hP hD hS => ?_)
  rw [gb_set] at hP
  obtain ⟨s_4, es_4⟩ : ∃ q, q = (gb_su s_3 (k0 + 1) (upd (s_3.1 (k0 + 1)) (Int32.toNatClampNeg 2) (-1))) := ⟨_, rfl⟩
  replace hP : va_P D vwCl (gb_wl b (gb_CW cT b s_4)) H := by rw [es_4, ← gb_wB z_1]; exact hP
  replace h := gb_lt_s es_4 h
  obtain ⟨e1, -⟩ := gb_eq2 h
  exact W.vret hx hb hr (fun t ht hW => gb_rv ht (by rw [← e1]; exact hP) hS) hS.2.2 dX0_clear_21
theorem dX0_hasRoomFor_0 : decode cX0_hasRoomFor 0 = .ok (.iload_n 1, 1) := by decide +kernel
theorem dX0_hasRoomFor_1 : decode cX0_hasRoomFor 1 = .ok (.iconst 2, 1) := by decide +kernel
theorem dX0_hasRoomFor_2 : decode cX0_hasRoomFor 2 = .ok (.if_icmp .eq 27, 3) := by decide +kernel
theorem dX0_hasRoomFor_29 : decode cX0_hasRoomFor 29 = .ok (.iconst 1, 1) := by decide +kernel
theorem dX0_hasRoomFor_30 : decode cX0_hasRoomFor 30 = .ok (.goto 4, 3) := by decide +kernel
theorem dX0_hasRoomFor_34 : decode cX0_hasRoomFor 34 = .ok (.ireturn, 1) := by decide +kernel
theorem dX0_hasRoomFor_5 : decode cX0_hasRoomFor 5 = .ok (.iload_n 1, 1) := by decide +kernel
theorem dX0_hasRoomFor_6 : decode cX0_hasRoomFor 6 = .ok (.ifCond .ne 14, 3) := by decide +kernel
theorem dX0_hasRoomFor_20 : decode cX0_hasRoomFor 20 = .ok (.aload_n 0, 1) := by decide +kernel
theorem dX0_hasRoomFor_21 : decode cX0_hasRoomFor 21 = .ok (.invokevirtual 19, 3) := by decide +kernel
theorem dX0_geese_0 : decode cX0_geese 0 = .ok (.aload_n 0, 1) := by decide +kernel
theorem dX0_geese_1 : decode cX0_geese 1 = .ok (.getfield 11, 3) := by decide +kernel
theorem dX0_geese_4 : decode cX0_geese 4 = .ok (.iconst 1, 1) := by decide +kernel
theorem dX0_geese_5 : decode cX0_geese 5 = .ok (.iaload, 1) := by decide +kernel
theorem dX0_geese_6 : decode cX0_geese 6 = .ok (.ireturn, 1) := by decide +kernel
def cs_Border_geese_B (n : Nat) (σ : gb_S) (k0 : Nat) : gb_CR Int32 := gb_kk (gb_kB k0) (gb_lt ((σ.1 (k0 + 1)) (Int32.toNatClampNeg 1)) (fun x_2 => some (σ, x_2)))
set_option maxHeartbeats 8000000 in
set_option maxRecDepth 100000 in
theorem cc_Border_geese_B (l : Launch) (D : va_G) (cT : Nat → ClassId) (tt : Nat → Nat) (b1 b : Nat) (hb1 : b1 ≤ b) (n : Nat) (σ : gb_S) (k0 : Nat) (σE : gb_S) (rE : Int32) (h : cs_Border_geese_B n σ k0 = some (σE, rE)) : Met l yX0_geese (.code yX0_geese cX0_geese 1 (some FieldType.int) :: gb_wA) ({ frames := 0, cells := 0, slots := 0, locals := 0 }) (gb_Pc D cT tt b1 [.ref (b + k0)] (fun h => va_P D vwCl (gb_wl b (gb_CW cT b σ)) h)) (gb_Qi (fun r h => r = rE ∧ va_P D vwCl (gb_wl b (gb_CW cT b σE)) h) (gb_fr b 135)) 0 0 (gb_fr b 135) := by
  refine Met.ofW (cc := cX0_geese) (maxL := 1) (ret := (some FieldType.int)) (by decide) rfl ?_
  intro p e s m args below meth c s₁ B hml hv
  obtain ⟨rfl, hSt, hP⟩ := hv
  have hx := B.exec
  have hb := B.bytes
  have hr := B.returns
  have hts := atoms_spec (ws := .code yX0_geese cX0_geese 1 (some FieldType.int) :: gb_wA) B.pre
  have hq : ∀ w ∈ gb_wA, w.before _ s = true := fun w h => hts w (List.mem_cons_of_mem _ h)
  have hown : s.vm.findClass RX0 = some m.cls := findClass_of_methodNamed B.named
  have hlocks := B.notSynchronized
  clear B hts
  have hK := hSt.1
  have hS : va_S (gb_fr b 135) s.heap s.heap [] := va_S.rf
  have hl := lv_entry ([.ref (b + k0)]) (n := 1) (Nat.le_of_ble_eq_true rfl)
  rw [lg_entry_eq]
  generalize (lg_sl ([.ref (b + k0)]) ++ List.replicate (1 - (lg_sl ([.ref (b + k0)])).length) Slot.unset).toArray = ls at hl ⊢
  replace hl : lv_has ls 1 [(0, .ref (b + k0))] := hl
  unfold cs_Border_geese_B at h
  obtain ⟨z_1, h⟩ := gb_kk_s h
  refine lv_aload_n hx hb dX0_geese_0 rfl (lv_at hl 0 rfl) ?_
  refine va_get (ci := 0) (v := (.ref (b + (k0 + 1)))) (C := RX0) (T := TX0) (N := 1) hx hb hq i_X0 hown hK hP k0 (gb_at b (gb_cB z_1).1) rfl 0 (by decide) (hq _ w_49) (fun x9 h9 => u_same (hq _ w_50) x9 h9) rfl dX0_geese_1 ?_
  refine lv_iconst (v := 1) hx hb dX0_geese_4 (by decide) ?_
  refine va_iald hx hb hK hP (k0 + 1) 0 (gb_at b (gb_cB z_1).2) rfl (gb_in rfl) dX0_geese_5 ?_
  refine lv_topi (fun x_2 ex_2 => ?_)
  replace h := gb_lt_s ex_2 h
  obtain ⟨e1, e2⟩ := gb_eq2 h
  exact W.iret (v := x_2) hx hb hr (fun t ht hW => gb_ri ht ⟨e2, by rw [← e1]; exact hP⟩ hS) hS.2.2 dX0_geese_6
theorem w_479 : (Cond.code ({ cls := "GooseBorder$Border", name := "geese", desc := "()I" } : MethodName) prog_2_method_7_code (1 : Nat) (Option.some FieldType.int)) ∈ gb_wA := gb_t2 239 rfl rfl
theorem w_476 : (Cond.methodLink "GooseBorder$Border" (19 : Nat) ({ cls := "GooseBorder$Border", name := "geese", desc := "()I" } : MethodName)) ∈ gb_wA := gb_t2 236 rfl rfl
theorem w_477 : (Cond.instanceMethod ({ cls := "GooseBorder$Border", name := "geese", desc := "()I" } : MethodName)) ∈ gb_wA := gb_t2 237 rfl rfl
theorem w_478 : (Cond.selects "GooseBorder$Border" ({ cls := "GooseBorder$Border", name := "geese", desc := "()I" } : MethodName) ({ cls := "GooseBorder$Border", name := "geese", desc := "()I" } : MethodName)) ∈ gb_wA := gb_t2 238 rfl rfl
theorem dX0_hasRoomFor_24 : decode cX0_hasRoomFor 24 = .ok (.bipush 8, 2) := by decide +kernel
theorem dX0_hasRoomFor_26 : decode cX0_hasRoomFor 26 = .ok (.if_icmp .ge 7, 3) := by decide +kernel
theorem dX0_hasRoomFor_33 : decode cX0_hasRoomFor 33 = .ok (.iconst 0, 1) := by decide +kernel
theorem dX0_hasRoomFor_9 : decode cX0_hasRoomFor 9 = .ok (.aload_n 0, 1) := by decide +kernel
theorem dX0_hasRoomFor_10 : decode cX0_hasRoomFor 10 = .ok (.invokevirtual 15, 3) := by decide +kernel
theorem dX0_paths_0 : decode cX0_paths 0 = .ok (.aload_n 0, 1) := by decide +kernel
theorem dX0_paths_1 : decode cX0_paths 1 = .ok (.getfield 11, 3) := by decide +kernel
theorem dX0_paths_4 : decode cX0_paths 4 = .ok (.iconst 0, 1) := by decide +kernel
theorem dX0_paths_5 : decode cX0_paths 5 = .ok (.iaload, 1) := by decide +kernel
theorem dX0_paths_6 : decode cX0_paths 6 = .ok (.ireturn, 1) := by decide +kernel
def cs_Border_paths_B (n : Nat) (σ : gb_S) (k0 : Nat) : gb_CR Int32 := gb_kk (gb_kB k0) (gb_lt ((σ.1 (k0 + 1)) (Int32.toNatClampNeg 0)) (fun x_2 => some (σ, x_2)))
set_option maxHeartbeats 8000000 in
set_option maxRecDepth 100000 in
theorem cc_Border_paths_B (l : Launch) (D : va_G) (cT : Nat → ClassId) (tt : Nat → Nat) (b1 b : Nat) (hb1 : b1 ≤ b) (n : Nat) (σ : gb_S) (k0 : Nat) (σE : gb_S) (rE : Int32) (h : cs_Border_paths_B n σ k0 = some (σE, rE)) : Met l yX0_paths (.code yX0_paths cX0_paths 1 (some FieldType.int) :: gb_wA) ({ frames := 0, cells := 0, slots := 0, locals := 0 }) (gb_Pc D cT tt b1 [.ref (b + k0)] (fun h => va_P D vwCl (gb_wl b (gb_CW cT b σ)) h)) (gb_Qi (fun r h => r = rE ∧ va_P D vwCl (gb_wl b (gb_CW cT b σE)) h) (gb_fr b 135)) 0 0 (gb_fr b 135) := by
  refine Met.ofW (cc := cX0_paths) (maxL := 1) (ret := (some FieldType.int)) (by decide) rfl ?_
  intro p e s m args below meth c s₁ B hml hv
  obtain ⟨rfl, hSt, hP⟩ := hv
  have hx := B.exec
  have hb := B.bytes
  have hr := B.returns
  have hts := atoms_spec (ws := .code yX0_paths cX0_paths 1 (some FieldType.int) :: gb_wA) B.pre
  have hq : ∀ w ∈ gb_wA, w.before _ s = true := fun w h => hts w (List.mem_cons_of_mem _ h)
  have hown : s.vm.findClass RX0 = some m.cls := findClass_of_methodNamed B.named
  have hlocks := B.notSynchronized
  clear B hts
  have hK := hSt.1
  have hS : va_S (gb_fr b 135) s.heap s.heap [] := va_S.rf
  have hl := lv_entry ([.ref (b + k0)]) (n := 1) (Nat.le_of_ble_eq_true rfl)
  rw [lg_entry_eq]
  generalize (lg_sl ([.ref (b + k0)]) ++ List.replicate (1 - (lg_sl ([.ref (b + k0)])).length) Slot.unset).toArray = ls at hl ⊢
  replace hl : lv_has ls 1 [(0, .ref (b + k0))] := hl
  unfold cs_Border_paths_B at h
  obtain ⟨z_1, h⟩ := gb_kk_s h
  refine lv_aload_n hx hb dX0_paths_0 rfl (lv_at hl 0 rfl) ?_
  refine va_get (ci := 0) (v := (.ref (b + (k0 + 1)))) (C := RX0) (T := TX0) (N := 1) hx hb hq i_X0 hown hK hP k0 (gb_at b (gb_cB z_1).1) rfl 0 (by decide) (hq _ w_49) (fun x9 h9 => u_same (hq _ w_50) x9 h9) rfl dX0_paths_1 ?_
  refine lv_iconst (v := 0) hx hb dX0_paths_4 (by decide) ?_
  refine va_iald hx hb hK hP (k0 + 1) 0 (gb_at b (gb_cB z_1).2) rfl (gb_in rfl) dX0_paths_5 ?_
  refine lv_topi (fun x_2 ex_2 => ?_)
  replace h := gb_lt_s ex_2 h
  obtain ⟨e1, e2⟩ := gb_eq2 h
  exact W.iret (v := x_2) hx hb hr (fun t ht hW => gb_ri ht ⟨e2, by rw [← e1]; exact hP⟩ hS) hS.2.2 dX0_paths_6
theorem w_475 : (Cond.code ({ cls := "GooseBorder$Border", name := "paths", desc := "()I" } : MethodName) prog_2_method_6_code (1 : Nat) (Option.some FieldType.int)) ∈ gb_wA := gb_t2 235 rfl rfl
theorem w_472 : (Cond.methodLink "GooseBorder$Border" (15 : Nat) ({ cls := "GooseBorder$Border", name := "paths", desc := "()I" } : MethodName)) ∈ gb_wA := gb_t2 232 rfl rfl
theorem w_473 : (Cond.instanceMethod ({ cls := "GooseBorder$Border", name := "paths", desc := "()I" } : MethodName)) ∈ gb_wA := gb_t2 233 rfl rfl
theorem w_474 : (Cond.selects "GooseBorder$Border" ({ cls := "GooseBorder$Border", name := "paths", desc := "()I" } : MethodName) ({ cls := "GooseBorder$Border", name := "paths", desc := "()I" } : MethodName)) ∈ gb_wA := gb_t2 234 rfl rfl
theorem dX0_hasRoomFor_13 : decode cX0_hasRoomFor 13 = .ok (.iconst 5, 1) := by decide +kernel
theorem dX0_hasRoomFor_14 : decode cX0_hasRoomFor 14 = .ok (.if_icmp .ge 19, 3) := by decide +kernel
theorem dX0_hasRoomFor_17 : decode cX0_hasRoomFor 17 = .ok (.goto 12, 3) := by decide +kernel
def cs_Border_hasRoomFor_B (n : Nat) (σ : gb_S) (k0 : Nat) (p1 : Int32) : gb_CR Int32 := gb_kk (gb_kB k0) ((if p1 = 2 then some (σ, 1) else (if p1 = 0 then gb_cd (cs_Border_paths_B n σ k0) (fun s_9 r_10 => (if (5 : Int32) ≤ r_10 then some (s_9, 0) else some (s_9, 1))) else gb_cd (cs_Border_geese_B n σ k0) (fun s_4 r_5 => (if (8 : Int32) ≤ r_5 then some (s_4, 0) else some (s_4, 1))))))
set_option maxHeartbeats 8000000 in
set_option maxRecDepth 100000 in
theorem cc_Border_hasRoomFor_B (l : Launch) (D : va_G) (cT : Nat → ClassId) (tt : Nat → Nat) (b1 b : Nat) (hb1 : b1 ≤ b) (n : Nat) (σ : gb_S) (k0 : Nat) (p1 : Int32) (σE : gb_S) (rE : Int32) (h : cs_Border_hasRoomFor_B n σ k0 p1 = some (σE, rE)) : Met l yX0_hasRoomFor (.code yX0_hasRoomFor cX0_hasRoomFor 2 (some FieldType.boolean) :: gb_wA) ({ frames := 1, cells := 0, slots := 0, locals := 20 }) (gb_Pc D cT tt b1 [.ref (b + k0), .int p1] (fun h => va_P D vwCl (gb_wl b (gb_CW cT b σ)) h)) (gb_Qi (fun r h => r = rE ∧ va_P D vwCl (gb_wl b (gb_CW cT b σE)) h) (gb_fr b 135)) 0 0 (gb_fr b 135) := by
  refine Met.ofW (cc := cX0_hasRoomFor) (maxL := 2) (ret := (some FieldType.boolean)) (by decide) rfl ?_
  intro p e s m args below meth c s₁ B hml hv
  obtain ⟨rfl, hSt, hP⟩ := hv
  have hx := B.exec
  have hb := B.bytes
  have hr := B.returns
  have hts := atoms_spec (ws := .code yX0_hasRoomFor cX0_hasRoomFor 2 (some FieldType.boolean) :: gb_wA) B.pre
  have hq : ∀ w ∈ gb_wA, w.before _ s = true := fun w h => hts w (List.mem_cons_of_mem _ h)
  have hown : s.vm.findClass RX0 = some m.cls := findClass_of_methodNamed B.named
  have hlocks := B.notSynchronized
  clear B hts
  have hK := hSt.1
  have hS : va_S (gb_fr b 135) s.heap s.heap [] := va_S.rf
  have hl := lv_entry ([.ref (b + k0), .int p1]) (n := 2) (Nat.le_of_ble_eq_true rfl)
  rw [lg_entry_eq]
  generalize (lg_sl ([.ref (b + k0), .int p1]) ++ List.replicate (2 - (lg_sl ([.ref (b + k0), .int p1])).length) Slot.unset).toArray = ls at hl ⊢
  replace hl : lv_has ls 2 [(0, .ref (b + k0)), (1, .int p1)] := hl
  unfold cs_Border_hasRoomFor_B at h
  obtain ⟨z_1, h⟩ := gb_kk_s h
  refine lv_iload_n hx hb dX0_hasRoomFor_0 rfl (lv_at hl 1 rfl) ?_
  refine lv_iconst (v := 2) hx hb dX0_hasRoomFor_1 (by decide) ?_
  refine lv_icmp_eq (tgt := 29) hx hb dX0_hasRoomFor_2 (by decide) (fun c_2 => ?_) (fun c_2 => ?_)
  · rw [if_pos c_2] at h
    refine lv_iconst (v := 1) hx hb dX0_hasRoomFor_29 (by decide) ?_
    refine lv_goto (tgt := 34) hx hb dX0_hasRoomFor_30 (by decide) ?_
    obtain ⟨e1, e2⟩ := gb_eq2 h
    exact W.zret (v := 1) hx hb hr (by decide) (fun t ht hW => gb_ri ht ⟨e2, by rw [← e1]; exact hP⟩ hS) hS.2.2 dX0_hasRoomFor_34
  · rw [if_neg c_2] at h
    refine lv_iload_n hx hb dX0_hasRoomFor_5 rfl (lv_at hl 1 rfl) ?_
    refine lv_if_ne (tgt := 20) hx hb dX0_hasRoomFor_6 (by decide) (fun c_3 => ?_) (fun c_3 => ?_)
    · rw [if_neg c_3] at h
      refine lv_aload_n hx hb dX0_hasRoomFor_20 rfl (lv_at hl 0 rfl) ?_
      obtain ⟨s_4, r_5, z_6, h⟩ := gb_cd_s h
      refine gb_calli (va_runV (C := RX0) (As := []) (rest := []) ⟨hx, hb, hml, hown, hq⟩ (cc_Border_geese_B l D cT tt b1 b hb1 n σ k0 s_4 r_5 z_6) (cwV 0 hq (gb_gV w_476 w_477 w_478 w_4 w_479) rfl rfl rfl (by decide +kernel) ⟨Nat.le_of_ble_eq_true rfl, Nat.le_of_ble_eq_true rfl⟩) (gb_preV (r := (RX0, TX0, 1)) (ci := 0) (q0 := k0) hSt hP rfl (gb_at b (gb_cB z_1).1) hS (fun q h => Nat.le_trans hb1 h.1) hP) rfl rfl hl.1 rfl (lv_room (Nat.le_of_ble_eq_true rfl)) dX0_hasRoomFor_21 ⟨Nat.le_of_ble_eq_true rfl, Nat.le_of_ble_eq_true rfl⟩) hS (fun _ h => h) (fun _ h => h) (fun q_7 H locs hY hk hS => ?_)
      obtain ⟨hq_7, hP⟩ := hY
      replace hq_7 := hq_7.symm
      subst hq_7
      refine lv_bipush (v := 8) hx hb dX0_hasRoomFor_24 (by decide) ?_
      refine lv_icmp_ge (tgt := 33) hx hb dX0_hasRoomFor_26 (by decide) (fun c_8 => ?_) (fun c_8 => ?_)
      · rw [if_pos c_8] at h
        refine lv_iconst (v := 0) hx hb dX0_hasRoomFor_33 (by decide) ?_
        obtain ⟨e1, e2⟩ := gb_eq2 h
        exact W.zret (v := 0) hx hb hr (by decide) (fun t ht hW => gb_ri ht ⟨e2, by rw [← e1]; exact hP⟩ hS) hS.2.2 dX0_hasRoomFor_34
      · rw [if_neg c_8] at h
        refine lv_iconst (v := 1) hx hb dX0_hasRoomFor_29 (by decide) ?_
        refine lv_goto (tgt := 34) hx hb dX0_hasRoomFor_30 (by decide) ?_
        obtain ⟨e1, e2⟩ := gb_eq2 h
        exact W.zret (v := 1) hx hb hr (by decide) (fun t ht hW => gb_ri ht ⟨e2, by rw [← e1]; exact hP⟩ hS) hS.2.2 dX0_hasRoomFor_34
    · rw [if_pos c_3] at h
      refine lv_aload_n hx hb dX0_hasRoomFor_9 rfl (lv_at hl 0 rfl) ?_
      obtain ⟨s_9, r_10, z_11, h⟩ := gb_cd_s h
      refine gb_calli (va_runV (C := RX0) (As := []) (rest := []) ⟨hx, hb, hml, hown, hq⟩ (cc_Border_paths_B l D cT tt b1 b hb1 n σ k0 s_9 r_10 z_11) (cwV 0 hq (gb_gV w_472 w_473 w_474 w_4 w_475) rfl rfl rfl (by decide +kernel) ⟨Nat.le_of_ble_eq_true rfl, Nat.le_of_ble_eq_true rfl⟩) (gb_preV (r := (RX0, TX0, 1)) (ci := 0) (q0 := k0) hSt hP rfl (gb_at b (gb_cB z_1).1) hS (fun q h => Nat.le_trans hb1 h.1) hP) rfl rfl hl.1 rfl (lv_room (Nat.le_of_ble_eq_true rfl)) dX0_hasRoomFor_10 ⟨Nat.le_of_ble_eq_true rfl, Nat.le_of_ble_eq_true rfl⟩) hS (fun _ h => h) (fun _ h => h) (fun q_12 H locs hY hk hS => ?_)
      obtain ⟨hq_12, hP⟩ := hY
      replace hq_12 := hq_12.symm
      subst hq_12
      refine lv_iconst (v := 5) hx hb dX0_hasRoomFor_13 (by decide) ?_
      refine lv_icmp_ge (tgt := 33) hx hb dX0_hasRoomFor_14 (by decide) (fun c_13 => ?_) (fun c_13 => ?_)
      · rw [if_pos c_13] at h
        refine lv_iconst (v := 0) hx hb dX0_hasRoomFor_33 (by decide) ?_
        obtain ⟨e1, e2⟩ := gb_eq2 h
        exact W.zret (v := 0) hx hb hr (by decide) (fun t ht hW => gb_ri ht ⟨e2, by rw [← e1]; exact hP⟩ hS) hS.2.2 dX0_hasRoomFor_34
      · rw [if_neg c_13] at h
        refine lv_goto (tgt := 29) hx hb dX0_hasRoomFor_17 (by decide) ?_
        refine lv_iconst (v := 1) hx hb dX0_hasRoomFor_29 (by decide) ?_
        refine lv_goto (tgt := 34) hx hb dX0_hasRoomFor_30 (by decide) ?_
        obtain ⟨e1, e2⟩ := gb_eq2 h
        exact W.zret (v := 1) hx hb hr (by decide) (fun t ht hW => gb_ri ht ⟨e2, by rw [← e1]; exact hP⟩ hS) hS.2.2 dX0_hasRoomFor_34
theorem dX0_clashes_0 : decode cX0_clashes 0 = .ok (.iconst 0, 1) := by decide +kernel
theorem dX0_clashes_1 : decode cX0_clashes 1 = .ok (.ireturn, 1) := by decide +kernel
def cs_Border_clashes_B (n : Nat) (σ : gb_S) (k0 : Nat) : gb_CR Int32 := gb_kk (gb_kB k0) (some (σ, 0))
set_option maxHeartbeats 8000000 in
set_option maxRecDepth 100000 in
theorem cc_Border_clashes_B (l : Launch) (D : va_G) (cT : Nat → ClassId) (tt : Nat → Nat) (b1 b : Nat) (hb1 : b1 ≤ b) (n : Nat) (σ : gb_S) (k0 : Nat) (σE : gb_S) (rE : Int32) (h : cs_Border_clashes_B n σ k0 = some (σE, rE)) : Met l yX0_clashes (.code yX0_clashes cX0_clashes 1 (some FieldType.boolean) :: gb_wA) ({ frames := 0, cells := 0, slots := 0, locals := 0 }) (gb_Pc D cT tt b1 [.ref (b + k0)] (fun h => va_P D vwCl (gb_wl b (gb_CW cT b σ)) h)) (gb_Qi (fun r h => r = rE ∧ va_P D vwCl (gb_wl b (gb_CW cT b σE)) h) (gb_fr b 135)) 0 0 (gb_fr b 135) := by
  refine Met.ofW (cc := cX0_clashes) (maxL := 1) (ret := (some FieldType.boolean)) (by decide) rfl ?_
  intro p e s m args below meth c s₁ B hml hv
  obtain ⟨rfl, hSt, hP⟩ := hv
  have hx := B.exec
  have hb := B.bytes
  have hr := B.returns
  have hts := atoms_spec (ws := .code yX0_clashes cX0_clashes 1 (some FieldType.boolean) :: gb_wA) B.pre
  have hq : ∀ w ∈ gb_wA, w.before _ s = true := fun w h => hts w (List.mem_cons_of_mem _ h)
  have hown : s.vm.findClass RX0 = some m.cls := findClass_of_methodNamed B.named
  have hlocks := B.notSynchronized
  clear B hts
  have hK := hSt.1
  have hS : va_S (gb_fr b 135) s.heap s.heap [] := va_S.rf
  have hl := lv_entry ([.ref (b + k0)]) (n := 1) (Nat.le_of_ble_eq_true rfl)
  rw [lg_entry_eq]
  generalize (lg_sl ([.ref (b + k0)]) ++ List.replicate (1 - (lg_sl ([.ref (b + k0)])).length) Slot.unset).toArray = ls at hl ⊢
  replace hl : lv_has ls 1 [(0, .ref (b + k0))] := hl
  unfold cs_Border_clashes_B at h
  obtain ⟨z_1, h⟩ := gb_kk_s h
  refine lv_iconst (v := 0) hx hb dX0_clashes_0 (by decide) ?_
  obtain ⟨e1, e2⟩ := gb_eq2 h
  exact W.zret (v := 0) hx hb hr (by decide) (fun t ht hW => gb_ri ht ⟨e2, by rw [← e1]; exact hP⟩ hS) hS.2.2 dX0_clashes_1
theorem dX0_cap_0 : decode cX0_cap 0 = .ok (.aload_n 0, 1) := by decide +kernel
theorem dX0_cap_1 : decode cX0_cap 1 = .ok (.getfield 11, 3) := by decide +kernel
theorem dX0_cap_4 : decode cX0_cap 4 = .ok (.iconst 2, 1) := by decide +kernel
theorem dX0_cap_5 : decode cX0_cap 5 = .ok (.iaload, 1) := by decide +kernel
theorem dX0_cap_6 : decode cX0_cap 6 = .ok (.ireturn, 1) := by decide +kernel
def cs_Border_cap_B (n : Nat) (σ : gb_S) (k0 : Nat) : gb_CR Int32 := gb_kk (gb_kB k0) (gb_lt ((σ.1 (k0 + 1)) (Int32.toNatClampNeg 2)) (fun x_2 => some (σ, x_2)))
set_option maxHeartbeats 8000000 in
set_option maxRecDepth 100000 in
theorem cc_Border_cap_B (l : Launch) (D : va_G) (cT : Nat → ClassId) (tt : Nat → Nat) (b1 b : Nat) (hb1 : b1 ≤ b) (n : Nat) (σ : gb_S) (k0 : Nat) (σE : gb_S) (rE : Int32) (h : cs_Border_cap_B n σ k0 = some (σE, rE)) : Met l yX0_cap (.code yX0_cap cX0_cap 1 (some FieldType.int) :: gb_wA) ({ frames := 0, cells := 0, slots := 0, locals := 0 }) (gb_Pc D cT tt b1 [.ref (b + k0)] (fun h => va_P D vwCl (gb_wl b (gb_CW cT b σ)) h)) (gb_Qi (fun r h => r = rE ∧ va_P D vwCl (gb_wl b (gb_CW cT b σE)) h) (gb_fr b 135)) 0 0 (gb_fr b 135) := by
  refine Met.ofW (cc := cX0_cap) (maxL := 1) (ret := (some FieldType.int)) (by decide) rfl ?_
  intro p e s m args below meth c s₁ B hml hv
  obtain ⟨rfl, hSt, hP⟩ := hv
  have hx := B.exec
  have hb := B.bytes
  have hr := B.returns
  have hts := atoms_spec (ws := .code yX0_cap cX0_cap 1 (some FieldType.int) :: gb_wA) B.pre
  have hq : ∀ w ∈ gb_wA, w.before _ s = true := fun w h => hts w (List.mem_cons_of_mem _ h)
  have hown : s.vm.findClass RX0 = some m.cls := findClass_of_methodNamed B.named
  have hlocks := B.notSynchronized
  clear B hts
  have hK := hSt.1
  have hS : va_S (gb_fr b 135) s.heap s.heap [] := va_S.rf
  have hl := lv_entry ([.ref (b + k0)]) (n := 1) (Nat.le_of_ble_eq_true rfl)
  rw [lg_entry_eq]
  generalize (lg_sl ([.ref (b + k0)]) ++ List.replicate (1 - (lg_sl ([.ref (b + k0)])).length) Slot.unset).toArray = ls at hl ⊢
  replace hl : lv_has ls 1 [(0, .ref (b + k0))] := hl
  unfold cs_Border_cap_B at h
  obtain ⟨z_1, h⟩ := gb_kk_s h
  refine lv_aload_n hx hb dX0_cap_0 rfl (lv_at hl 0 rfl) ?_
  refine va_get (ci := 0) (v := (.ref (b + (k0 + 1)))) (C := RX0) (T := TX0) (N := 1) hx hb hq i_X0 hown hK hP k0 (gb_at b (gb_cB z_1).1) rfl 0 (by decide) (hq _ w_49) (fun x9 h9 => u_same (hq _ w_50) x9 h9) rfl dX0_cap_1 ?_
  refine lv_iconst (v := 2) hx hb dX0_cap_4 (by decide) ?_
  refine va_iald hx hb hK hP (k0 + 1) 0 (gb_at b (gb_cB z_1).2) rfl (gb_in rfl) dX0_cap_5 ?_
  refine lv_topi (fun x_2 ex_2 => ?_)
  replace h := gb_lt_s ex_2 h
  obtain ⟨e1, e2⟩ := gb_eq2 h
  exact W.iret (v := x_2) hx hb hr (fun t ht hW => gb_ri ht ⟨e2, by rw [← e1]; exact hP⟩ hS) hS.2.2 dX0_cap_6
theorem dX0_hasPath_0 : decode cX0_hasPath 0 = .ok (.iload_n 1, 1) := by decide +kernel
theorem dX0_hasPath_1 : decode cX0_hasPath 1 = .ok (.ifCond .lt 15, 3) := by decide +kernel
theorem dX0_hasPath_16 : decode cX0_hasPath 16 = .ok (.iconst 0, 1) := by decide +kernel
theorem dX0_hasPath_17 : decode cX0_hasPath 17 = .ok (.ireturn, 1) := by decide +kernel
theorem dX0_hasPath_4 : decode cX0_hasPath 4 = .ok (.iload_n 1, 1) := by decide +kernel
theorem dX0_hasPath_5 : decode cX0_hasPath 5 = .ok (.aload_n 0, 1) := by decide +kernel
theorem dX0_hasPath_6 : decode cX0_hasPath 6 = .ok (.invokevirtual 15, 3) := by decide +kernel
theorem dX0_hasPath_9 : decode cX0_hasPath 9 = .ok (.if_icmp .ge 7, 3) := by decide +kernel
theorem dX0_hasPath_12 : decode cX0_hasPath 12 = .ok (.iconst 1, 1) := by decide +kernel
theorem dX0_hasPath_13 : decode cX0_hasPath 13 = .ok (.goto 4, 3) := by decide +kernel
def cs_Border_hasPath_B (n : Nat) (σ : gb_S) (k0 : Nat) (p1 : Int32) : gb_CR Int32 := gb_kk (gb_kB k0) ((if p1 < 0 then some (σ, 0) else gb_cd (cs_Border_paths_B n σ k0) (fun s_3 r_4 => (if r_4 ≤ p1 then some (s_3, 0) else some (s_3, 1)))))
set_option maxHeartbeats 8000000 in
set_option maxRecDepth 100000 in
theorem cc_Border_hasPath_B (l : Launch) (D : va_G) (cT : Nat → ClassId) (tt : Nat → Nat) (b1 b : Nat) (hb1 : b1 ≤ b) (n : Nat) (σ : gb_S) (k0 : Nat) (p1 : Int32) (σE : gb_S) (rE : Int32) (h : cs_Border_hasPath_B n σ k0 p1 = some (σE, rE)) : Met l yX0_hasPath (.code yX0_hasPath cX0_hasPath 2 (some FieldType.boolean) :: gb_wA) ({ frames := 1, cells := 0, slots := 0, locals := 20 }) (gb_Pc D cT tt b1 [.ref (b + k0), .int p1] (fun h => va_P D vwCl (gb_wl b (gb_CW cT b σ)) h)) (gb_Qi (fun r h => r = rE ∧ va_P D vwCl (gb_wl b (gb_CW cT b σE)) h) (gb_fr b 135)) 0 0 (gb_fr b 135) := by
  refine Met.ofW (cc := cX0_hasPath) (maxL := 2) (ret := (some FieldType.boolean)) (by decide) rfl ?_
  intro p e s m args below meth c s₁ B hml hv
  obtain ⟨rfl, hSt, hP⟩ := hv
  have hx := B.exec
  have hb := B.bytes
  have hr := B.returns
  have hts := atoms_spec (ws := .code yX0_hasPath cX0_hasPath 2 (some FieldType.boolean) :: gb_wA) B.pre
  have hq : ∀ w ∈ gb_wA, w.before _ s = true := fun w h => hts w (List.mem_cons_of_mem _ h)
  have hown : s.vm.findClass RX0 = some m.cls := findClass_of_methodNamed B.named
  have hlocks := B.notSynchronized
  clear B hts
  have hK := hSt.1
  have hS : va_S (gb_fr b 135) s.heap s.heap [] := va_S.rf
  have hl := lv_entry ([.ref (b + k0), .int p1]) (n := 2) (Nat.le_of_ble_eq_true rfl)
  rw [lg_entry_eq]
  generalize (lg_sl ([.ref (b + k0), .int p1]) ++ List.replicate (2 - (lg_sl ([.ref (b + k0), .int p1])).length) Slot.unset).toArray = ls at hl ⊢
  replace hl : lv_has ls 2 [(0, .ref (b + k0)), (1, .int p1)] := hl
  unfold cs_Border_hasPath_B at h
  obtain ⟨z_1, h⟩ := gb_kk_s h
  refine lv_iload_n hx hb dX0_hasPath_0 rfl (lv_at hl 1 rfl) ?_
  refine lv_if_lt (tgt := 16) hx hb dX0_hasPath_1 (by decide) (fun c_2 => ?_) (fun c_2 => ?_)
  · rw [if_pos c_2] at h
    refine lv_iconst (v := 0) hx hb dX0_hasPath_16 (by decide) ?_
    obtain ⟨e1, e2⟩ := gb_eq2 h
    exact W.zret (v := 0) hx hb hr (by decide) (fun t ht hW => gb_ri ht ⟨e2, by rw [← e1]; exact hP⟩ hS) hS.2.2 dX0_hasPath_17
  · rw [if_neg c_2] at h
    refine lv_iload_n hx hb dX0_hasPath_4 rfl (lv_at hl 1 rfl) ?_
    refine lv_aload_n hx hb dX0_hasPath_5 rfl (lv_at hl 0 rfl) ?_
    obtain ⟨s_3, r_4, z_5, h⟩ := gb_cd_s h
    refine gb_calli (va_runV (C := RX0) (As := []) (rest := [.int p1]) ⟨hx, hb, hml, hown, hq⟩ (cc_Border_paths_B l D cT tt b1 b hb1 n σ k0 s_3 r_4 z_5) (cwV 0 hq (gb_gV w_472 w_473 w_474 w_4 w_475) rfl rfl rfl (by decide +kernel) ⟨Nat.le_of_ble_eq_true rfl, Nat.le_of_ble_eq_true rfl⟩) (gb_preV (r := (RX0, TX0, 1)) (ci := 0) (q0 := k0) hSt hP rfl (gb_at b (gb_cB z_1).1) hS (fun q h => Nat.le_trans hb1 h.1) hP) rfl rfl hl.1 rfl (lv_room (Nat.le_of_ble_eq_true rfl)) dX0_hasPath_6 ⟨Nat.le_of_ble_eq_true rfl, Nat.le_of_ble_eq_true rfl⟩) hS (fun _ h => h) (fun _ h => h) (fun q_6 H locs hY hk hS => ?_)
    obtain ⟨hq_6, hP⟩ := hY
    replace hq_6 := hq_6.symm
    subst hq_6
    refine lv_icmp_ge (tgt := 16) hx hb dX0_hasPath_9 (by decide) (fun c_7 => ?_) (fun c_7 => ?_)
    · rw [if_pos c_7] at h
      refine lv_iconst (v := 0) hx hb dX0_hasPath_16 (by decide) ?_
      obtain ⟨e1, e2⟩ := gb_eq2 h
      exact W.zret (v := 0) hx hb hr (by decide) (fun t ht hW => gb_ri ht ⟨e2, by rw [← e1]; exact hP⟩ hS) hS.2.2 dX0_hasPath_17
    · rw [if_neg c_7] at h
      refine lv_iconst (v := 1) hx hb dX0_hasPath_12 (by decide) ?_
      refine lv_goto (tgt := 17) hx hb dX0_hasPath_13 (by decide) ?_
      obtain ⟨e1, e2⟩ := gb_eq2 h
      exact W.zret (v := 1) hx hb hr (by decide) (fun t ht hW => gb_ri ht ⟨e2, by rw [← e1]; exact hP⟩ hS) hS.2.2 dX0_hasPath_17
theorem dX0_hasGoose_0 : decode cX0_hasGoose 0 = .ok (.iload_n 1, 1) := by decide +kernel
theorem dX0_hasGoose_1 : decode cX0_hasGoose 1 = .ok (.ifCond .lt 15, 3) := by decide +kernel
theorem dX0_hasGoose_16 : decode cX0_hasGoose 16 = .ok (.iconst 0, 1) := by decide +kernel
theorem dX0_hasGoose_17 : decode cX0_hasGoose 17 = .ok (.ireturn, 1) := by decide +kernel
theorem dX0_hasGoose_4 : decode cX0_hasGoose 4 = .ok (.iload_n 1, 1) := by decide +kernel
theorem dX0_hasGoose_5 : decode cX0_hasGoose 5 = .ok (.aload_n 0, 1) := by decide +kernel
theorem dX0_hasGoose_6 : decode cX0_hasGoose 6 = .ok (.invokevirtual 19, 3) := by decide +kernel
theorem dX0_hasGoose_9 : decode cX0_hasGoose 9 = .ok (.if_icmp .ge 7, 3) := by decide +kernel
theorem dX0_hasGoose_12 : decode cX0_hasGoose 12 = .ok (.iconst 1, 1) := by decide +kernel
theorem dX0_hasGoose_13 : decode cX0_hasGoose 13 = .ok (.goto 4, 3) := by decide +kernel
def cs_Border_hasGoose_B (n : Nat) (σ : gb_S) (k0 : Nat) (p1 : Int32) : gb_CR Int32 := gb_kk (gb_kB k0) ((if p1 < 0 then some (σ, 0) else gb_cd (cs_Border_geese_B n σ k0) (fun s_3 r_4 => (if r_4 ≤ p1 then some (s_3, 0) else some (s_3, 1)))))
set_option maxHeartbeats 8000000 in
set_option maxRecDepth 100000 in
theorem cc_Border_hasGoose_B (l : Launch) (D : va_G) (cT : Nat → ClassId) (tt : Nat → Nat) (b1 b : Nat) (hb1 : b1 ≤ b) (n : Nat) (σ : gb_S) (k0 : Nat) (p1 : Int32) (σE : gb_S) (rE : Int32) (h : cs_Border_hasGoose_B n σ k0 p1 = some (σE, rE)) : Met l yX0_hasGoose (.code yX0_hasGoose cX0_hasGoose 2 (some FieldType.boolean) :: gb_wA) ({ frames := 1, cells := 0, slots := 0, locals := 20 }) (gb_Pc D cT tt b1 [.ref (b + k0), .int p1] (fun h => va_P D vwCl (gb_wl b (gb_CW cT b σ)) h)) (gb_Qi (fun r h => r = rE ∧ va_P D vwCl (gb_wl b (gb_CW cT b σE)) h) (gb_fr b 135)) 0 0 (gb_fr b 135) := by
  refine Met.ofW (cc := cX0_hasGoose) (maxL := 2) (ret := (some FieldType.boolean)) (by decide) rfl ?_
  intro p e s m args below meth c s₁ B hml hv
  obtain ⟨rfl, hSt, hP⟩ := hv
  have hx := B.exec
  have hb := B.bytes
  have hr := B.returns
  have hts := atoms_spec (ws := .code yX0_hasGoose cX0_hasGoose 2 (some FieldType.boolean) :: gb_wA) B.pre
  have hq : ∀ w ∈ gb_wA, w.before _ s = true := fun w h => hts w (List.mem_cons_of_mem _ h)
  have hown : s.vm.findClass RX0 = some m.cls := findClass_of_methodNamed B.named
  have hlocks := B.notSynchronized
  clear B hts
  have hK := hSt.1
  have hS : va_S (gb_fr b 135) s.heap s.heap [] := va_S.rf
  have hl := lv_entry ([.ref (b + k0), .int p1]) (n := 2) (Nat.le_of_ble_eq_true rfl)
  rw [lg_entry_eq]
  generalize (lg_sl ([.ref (b + k0), .int p1]) ++ List.replicate (2 - (lg_sl ([.ref (b + k0), .int p1])).length) Slot.unset).toArray = ls at hl ⊢
  replace hl : lv_has ls 2 [(0, .ref (b + k0)), (1, .int p1)] := hl
  unfold cs_Border_hasGoose_B at h
  obtain ⟨z_1, h⟩ := gb_kk_s h
  refine lv_iload_n hx hb dX0_hasGoose_0 rfl (lv_at hl 1 rfl) ?_
  refine lv_if_lt (tgt := 16) hx hb dX0_hasGoose_1 (by decide) (fun c_2 => ?_) (fun c_2 => ?_)
  · rw [if_pos c_2] at h
    refine lv_iconst (v := 0) hx hb dX0_hasGoose_16 (by decide) ?_
    obtain ⟨e1, e2⟩ := gb_eq2 h
    exact W.zret (v := 0) hx hb hr (by decide) (fun t ht hW => gb_ri ht ⟨e2, by rw [← e1]; exact hP⟩ hS) hS.2.2 dX0_hasGoose_17
  · rw [if_neg c_2] at h
    refine lv_iload_n hx hb dX0_hasGoose_4 rfl (lv_at hl 1 rfl) ?_
    refine lv_aload_n hx hb dX0_hasGoose_5 rfl (lv_at hl 0 rfl) ?_
    obtain ⟨s_3, r_4, z_5, h⟩ := gb_cd_s h
    refine gb_calli (va_runV (C := RX0) (As := []) (rest := [.int p1]) ⟨hx, hb, hml, hown, hq⟩ (cc_Border_geese_B l D cT tt b1 b hb1 n σ k0 s_3 r_4 z_5) (cwV 0 hq (gb_gV w_476 w_477 w_478 w_4 w_479) rfl rfl rfl (by decide +kernel) ⟨Nat.le_of_ble_eq_true rfl, Nat.le_of_ble_eq_true rfl⟩) (gb_preV (r := (RX0, TX0, 1)) (ci := 0) (q0 := k0) hSt hP rfl (gb_at b (gb_cB z_1).1) hS (fun q h => Nat.le_trans hb1 h.1) hP) rfl rfl hl.1 rfl (lv_room (Nat.le_of_ble_eq_true rfl)) dX0_hasGoose_6 ⟨Nat.le_of_ble_eq_true rfl, Nat.le_of_ble_eq_true rfl⟩) hS (fun _ h => h) (fun _ h => h) (fun q_6 H locs hY hk hS => ?_)
    obtain ⟨hq_6, hP⟩ := hY
    replace hq_6 := hq_6.symm
    subst hq_6
    refine lv_icmp_ge (tgt := 16) hx hb dX0_hasGoose_9 (by decide) (fun c_7 => ?_) (fun c_7 => ?_)
    · rw [if_pos c_7] at h
      refine lv_iconst (v := 0) hx hb dX0_hasGoose_16 (by decide) ?_
      obtain ⟨e1, e2⟩ := gb_eq2 h
      exact W.zret (v := 0) hx hb hr (by decide) (fun t ht hW => gb_ri ht ⟨e2, by rw [← e1]; exact hP⟩ hS) hS.2.2 dX0_hasGoose_17
    · rw [if_neg c_7] at h
      refine lv_iconst (v := 1) hx hb dX0_hasGoose_12 (by decide) ?_
      refine lv_goto (tgt := 17) hx hb dX0_hasGoose_13 (by decide) ?_
      obtain ⟨e1, e2⟩ := gb_eq2 h
      exact W.zret (v := 1) hx hb hr (by decide) (fun t ht hW => gb_ri ht ⟨e2, by rw [← e1]; exact hP⟩ hS) hS.2.2 dX0_hasGoose_17
theorem dX0_numberTold_0 : decode cX0_numberTold 0 = .ok (.iload_n 1, 1) := by decide +kernel
theorem dX0_numberTold_1 : decode cX0_numberTold 1 = .ok (.bipush 10, 2) := by decide +kernel
theorem dX0_numberTold_3 : decode cX0_numberTold 3 = .ok (.if_icmp .lt 9, 3) := by decide +kernel
theorem dX0_numberTold_12 : decode cX0_numberTold 12 = .ok (.bipush (-2), 2) := by decide +kernel
theorem dX0_numberTold_14 : decode cX0_numberTold 14 = .ok (.ireturn, 1) := by decide +kernel
theorem dX0_numberTold_6 : decode cX0_numberTold 6 = .ok (.iload_n 1, 1) := by decide +kernel
theorem dX0_numberTold_7 : decode cX0_numberTold 7 = .ok (.bipush 89, 2) := by decide +kernel
theorem dX0_numberTold_9 : decode cX0_numberTold 9 = .ok (.if_icmp .le 6, 3) := by decide +kernel
theorem dX0_numberTold_15 : decode cX0_numberTold 15 = .ok (.iload_n 1, 1) := by decide +kernel
theorem dX0_numberTold_16 : decode cX0_numberTold 16 = .ok (.bipush 10, 2) := by decide +kernel
theorem dX0_numberTold_18 : decode cX0_numberTold 18 = .ok (.idiv, 1) := by decide +kernel
theorem dX0_numberTold_19 : decode cX0_numberTold 19 = .ok (.istore_n 2, 1) := by decide +kernel
theorem dX0_numberTold_20 : decode cX0_numberTold 20 = .ok (.iload_n 1, 1) := by decide +kernel
theorem dX0_numberTold_21 : decode cX0_numberTold 21 = .ok (.bipush 10, 2) := by decide +kernel
theorem dX0_numberTold_23 : decode cX0_numberTold 23 = .ok (.irem, 1) := by decide +kernel
theorem dX0_numberTold_24 : decode cX0_numberTold 24 = .ok (.istore_n 3, 1) := by decide +kernel
theorem dX0_numberTold_25 : decode cX0_numberTold 25 = .ok (.iload_n 2, 1) := by decide +kernel
theorem dX0_numberTold_26 : decode cX0_numberTold 26 = .ok (.iconst 3, 1) := by decide +kernel
theorem dX0_numberTold_27 : decode cX0_numberTold 27 = .ok (.if_icmp .gt 31, 3) := by decide +kernel
theorem dX0_numberTold_58 : decode cX0_numberTold 58 = .ok (.iload_n 2, 1) := by decide +kernel
theorem dX0_numberTold_59 : decode cX0_numberTold 59 = .ok (.iconst 1, 1) := by decide +kernel
theorem dX0_numberTold_60 : decode cX0_numberTold 60 = .ok (.isub, 1) := by decide +kernel
theorem dX0_numberTold_61 : decode cX0_numberTold 61 = .ok (.iconst 3, 1) := by decide +kernel
theorem dX0_numberTold_62 : decode cX0_numberTold 62 = .ok (.isub, 1) := by decide +kernel
theorem dX0_numberTold_63 : decode cX0_numberTold 63 = .ok (.istore 4, 2) := by decide +kernel
theorem dX0_numberTold_65 : decode cX0_numberTold 65 = .ok (.aload_n 0, 1) := by decide +kernel
theorem dX0_numberTold_66 : decode cX0_numberTold 66 = .ok (.iload_n 3, 1) := by decide +kernel
theorem dX0_numberTold_67 : decode cX0_numberTold 67 = .ok (.invokevirtual 35, 3) := by decide +kernel
theorem w_614 : (Cond.code ({ cls := "GooseBorder$Border", name := "hasGoose", desc := "(I)Z" } : MethodName) prog_2_method_10_code (2 : Nat) (Option.some FieldType.boolean)) ∈ gb_wA := gb_t3 134 rfl rfl
theorem w_611 : (Cond.methodLink "GooseBorder$Border" (35 : Nat) ({ cls := "GooseBorder$Border", name := "hasGoose", desc := "(I)Z" } : MethodName)) ∈ gb_wA := gb_t3 131 rfl rfl
theorem w_612 : (Cond.instanceMethod ({ cls := "GooseBorder$Border", name := "hasGoose", desc := "(I)Z" } : MethodName)) ∈ gb_wA := gb_t3 132 rfl rfl
theorem w_613 : (Cond.selects "GooseBorder$Border" ({ cls := "GooseBorder$Border", name := "hasGoose", desc := "(I)Z" } : MethodName) ({ cls := "GooseBorder$Border", name := "hasGoose", desc := "(I)Z" } : MethodName)) ∈ gb_wA := gb_t3 133 rfl rfl
theorem dX0_numberTold_70 : decode cX0_numberTold 70 = .ok (.ifCond .eq 20, 3) := by decide +kernel
theorem dX0_numberTold_90 : decode cX0_numberTold 90 = .ok (.bipush (-2), 2) := by decide +kernel
theorem dX0_numberTold_92 : decode cX0_numberTold 92 = .ok (.ireturn, 1) := by decide +kernel
theorem dX0_numberTold_73 : decode cX0_numberTold 73 = .ok (.aload_n 0, 1) := by decide +kernel
theorem dX0_numberTold_74 : decode cX0_numberTold 74 = .ok (.getfield 11, 3) := by decide +kernel
theorem dX0_numberTold_77 : decode cX0_numberTold 77 = .ok (.bipush 18, 2) := by decide +kernel
theorem dX0_numberTold_79 : decode cX0_numberTold 79 = .ok (.iload_n 3, 1) := by decide +kernel
theorem dX0_numberTold_80 : decode cX0_numberTold 80 = .ok (.iconst 5, 1) := by decide +kernel
theorem dX0_numberTold_81 : decode cX0_numberTold 81 = .ok (.imul, 1) := by decide +kernel
theorem dX0_numberTold_82 : decode cX0_numberTold 82 = .ok (.iadd, 1) := by decide +kernel
theorem dX0_numberTold_83 : decode cX0_numberTold 83 = .ok (.iload 4, 2) := by decide +kernel
theorem dX0_numberTold_85 : decode cX0_numberTold 85 = .ok (.iadd, 1) := by decide +kernel
theorem dX0_numberTold_86 : decode cX0_numberTold 86 = .ok (.iaload, 1) := by decide +kernel
theorem dX0_numberTold_87 : decode cX0_numberTold 87 = .ok (.goto 5, 3) := by decide +kernel
theorem dX0_numberTold_30 : decode cX0_numberTold 30 = .ok (.aload_n 0, 1) := by decide +kernel
theorem dX0_numberTold_31 : decode cX0_numberTold 31 = .ok (.iload_n 3, 1) := by decide +kernel
theorem dX0_numberTold_32 : decode cX0_numberTold 32 = .ok (.invokevirtual 32, 3) := by decide +kernel
theorem w_610 : (Cond.code ({ cls := "GooseBorder$Border", name := "hasPath", desc := "(I)Z" } : MethodName) prog_2_method_9_code (2 : Nat) (Option.some FieldType.boolean)) ∈ gb_wA := gb_t3 130 rfl rfl
theorem w_607 : (Cond.methodLink "GooseBorder$Border" (32 : Nat) ({ cls := "GooseBorder$Border", name := "hasPath", desc := "(I)Z" } : MethodName)) ∈ gb_wA := gb_t3 127 rfl rfl
theorem w_608 : (Cond.instanceMethod ({ cls := "GooseBorder$Border", name := "hasPath", desc := "(I)Z" } : MethodName)) ∈ gb_wA := gb_t3 128 rfl rfl
theorem w_609 : (Cond.selects "GooseBorder$Border" ({ cls := "GooseBorder$Border", name := "hasPath", desc := "(I)Z" } : MethodName) ({ cls := "GooseBorder$Border", name := "hasPath", desc := "(I)Z" } : MethodName)) ∈ gb_wA := gb_t3 129 rfl rfl
theorem dX0_numberTold_35 : decode cX0_numberTold 35 = .ok (.ifCond .eq 20, 3) := by decide +kernel
theorem dX0_numberTold_55 : decode cX0_numberTold 55 = .ok (.bipush (-2), 2) := by decide +kernel
theorem dX0_numberTold_57 : decode cX0_numberTold 57 = .ok (.ireturn, 1) := by decide +kernel
theorem dX0_numberTold_38 : decode cX0_numberTold 38 = .ok (.aload_n 0, 1) := by decide +kernel
theorem dX0_numberTold_39 : decode cX0_numberTold 39 = .ok (.getfield 11, 3) := by decide +kernel
theorem dX0_numberTold_42 : decode cX0_numberTold 42 = .ok (.iconst 3, 1) := by decide +kernel
theorem dX0_numberTold_43 : decode cX0_numberTold 43 = .ok (.iload_n 3, 1) := by decide +kernel
theorem dX0_numberTold_44 : decode cX0_numberTold 44 = .ok (.iconst 3, 1) := by decide +kernel
theorem dX0_numberTold_45 : decode cX0_numberTold 45 = .ok (.imul, 1) := by decide +kernel
theorem dX0_numberTold_46 : decode cX0_numberTold 46 = .ok (.iadd, 1) := by decide +kernel
theorem dX0_numberTold_47 : decode cX0_numberTold 47 = .ok (.iload_n 2, 1) := by decide +kernel
theorem dX0_numberTold_48 : decode cX0_numberTold 48 = .ok (.iadd, 1) := by decide +kernel
theorem dX0_numberTold_49 : decode cX0_numberTold 49 = .ok (.iconst 1, 1) := by decide +kernel
theorem dX0_numberTold_50 : decode cX0_numberTold 50 = .ok (.isub, 1) := by decide +kernel
theorem dX0_numberTold_51 : decode cX0_numberTold 51 = .ok (.iaload, 1) := by decide +kernel
theorem dX0_numberTold_52 : decode cX0_numberTold 52 = .ok (.goto 5, 3) := by decide +kernel
def cs_Border_numberTold_B (n : Nat) (σ : gb_S) (k0 : Nat) (p1 : Int32) : gb_CR Int32 := gb_kk (gb_kB k0) ((if p1 < 10 then some (σ, (-2)) else (if p1 ≤ 89 then gb_lt (p1 / 10) (fun x_4 => gb_lt (p1 - p1 / 10 * 10) (fun x_5 => (if (3 : Int32) < x_4 then gb_lt ((x_4 - 1) - 3) (fun x_7 => gb_cd (cs_Border_hasGoose_B n σ k0 x_5) (fun s_8 r_9 => (if r_9 = 0 then some (s_8, (-2)) else gb_ck (((18 : Int32) + (x_5 * 5)) + x_7) 58 (gb_lt ((s_8.1 (k0 + 1)) (Int32.toNatClampNeg (((18 : Int32) + (x_5 * 5)) + x_7))) (fun x_14 => some (s_8, x_14)))))) else gb_cd (cs_Border_hasPath_B n σ k0 x_5) (fun s_15 r_16 => (if r_16 = 0 then some (s_15, (-2)) else gb_ck ((((3 : Int32) + (x_5 * 3)) + x_4) - 1) 58 (gb_lt ((s_15.1 (k0 + 1)) (Int32.toNatClampNeg ((((3 : Int32) + (x_5 * 3)) + x_4) - 1))) (fun x_21 => some (s_15, x_21)))))))) else some (σ, (-2)))))
set_option maxHeartbeats 8000000 in
set_option maxRecDepth 100000 in
theorem cc_Border_numberTold_B (l : Launch) (D : va_G) (cT : Nat → ClassId) (tt : Nat → Nat) (b1 b : Nat) (hb1 : b1 ≤ b) (n : Nat) (σ : gb_S) (k0 : Nat) (p1 : Int32) (σE : gb_S) (rE : Int32) (h : cs_Border_numberTold_B n σ k0 p1 = some (σE, rE)) : Met l yX0_numberTold (.code yX0_numberTold cX0_numberTold 5 (some FieldType.int) :: gb_wA) ({ frames := 2, cells := 0, slots := 0, locals := 41 }) (gb_Pc D cT tt b1 [.ref (b + k0), .int p1] (fun h => va_P D vwCl (gb_wl b (gb_CW cT b σ)) h)) (gb_Qi (fun r h => r = rE ∧ va_P D vwCl (gb_wl b (gb_CW cT b σE)) h) (gb_fr b 135)) 0 0 (gb_fr b 135) := by
  refine Met.ofW (cc := cX0_numberTold) (maxL := 5) (ret := (some FieldType.int)) (by decide) rfl ?_
  intro p e s m args below meth c s₁ B hml hv
  obtain ⟨rfl, hSt, hP⟩ := hv
  have hx := B.exec
  have hb := B.bytes
  have hr := B.returns
  have hts := atoms_spec (ws := .code yX0_numberTold cX0_numberTold 5 (some FieldType.int) :: gb_wA) B.pre
  have hq : ∀ w ∈ gb_wA, w.before _ s = true := fun w h => hts w (List.mem_cons_of_mem _ h)
  have hown : s.vm.findClass RX0 = some m.cls := findClass_of_methodNamed B.named
  have hlocks := B.notSynchronized
  clear B hts
  have hK := hSt.1
  have hS : va_S (gb_fr b 135) s.heap s.heap [] := va_S.rf
  have hl := lv_entry ([.ref (b + k0), .int p1]) (n := 5) (Nat.le_of_ble_eq_true rfl)
  rw [lg_entry_eq]
  generalize (lg_sl ([.ref (b + k0), .int p1]) ++ List.replicate (5 - (lg_sl ([.ref (b + k0), .int p1])).length) Slot.unset).toArray = ls at hl ⊢
  replace hl : lv_has ls 5 [(0, .ref (b + k0)), (1, .int p1)] := hl
  unfold cs_Border_numberTold_B at h
  obtain ⟨z_1, h⟩ := gb_kk_s h
  refine lv_iload_n hx hb dX0_numberTold_0 rfl (lv_at hl 1 rfl) ?_
  refine lv_bipush (v := 10) hx hb dX0_numberTold_1 (by decide) ?_
  refine lv_icmp_lt (tgt := 12) hx hb dX0_numberTold_3 (by decide) (fun c_2 => ?_) (fun c_2 => ?_)
  · rw [if_pos c_2] at h
    refine lv_bipush (v := (-2)) hx hb dX0_numberTold_12 (by decide) ?_
    obtain ⟨e1, e2⟩ := gb_eq2 h
    exact W.iret (v := (-2)) hx hb hr (fun t ht hW => gb_ri ht ⟨e2, by rw [← e1]; exact hP⟩ hS) hS.2.2 dX0_numberTold_14
  · rw [if_neg c_2] at h
    refine lv_iload_n hx hb dX0_numberTold_6 rfl (lv_at hl 1 rfl) ?_
    refine lv_bipush (v := 89) hx hb dX0_numberTold_7 (by decide) ?_
    refine lv_icmp_le (tgt := 15) hx hb dX0_numberTold_9 (by decide) (fun c_3 => ?_) (fun c_3 => ?_)
    · rw [if_pos c_3] at h
      refine lv_iload_n hx hb dX0_numberTold_15 rfl (lv_at hl 1 rfl) ?_
      refine lv_bipush (v := 10) hx hb dX0_numberTold_16 (by decide) ?_
      refine lv_idiv hx hb dX0_numberTold_18 (by decide) ?_
      refine lv_topi (fun x_4 ex_4 => ?_)
      replace h := gb_lt_s ex_4 h
      refine lv_istore_n (lv' := [(2, .int x_4), (0, .ref (b + k0)), (1, .int p1)]) hx hb dX0_numberTold_19 rfl hl (by decide) rfl (fun ls hl => ?_)
      refine lv_iload_n hx hb dX0_numberTold_20 rfl (lv_at hl 2 rfl) ?_
      refine lv_bipush (v := 10) hx hb dX0_numberTold_21 (by decide) ?_
      refine lv_irem hx hb dX0_numberTold_23 (by decide) ?_
      refine lv_topi (fun x_5 ex_5 => ?_)
      replace h := gb_lt_s ex_5 h
      refine lv_istore_n (lv' := [(3, .int x_5), (2, .int x_4), (0, .ref (b + k0)), (1, .int p1)]) hx hb dX0_numberTold_24 rfl hl (by decide) rfl (fun ls hl => ?_)
      refine lv_iload_n hx hb dX0_numberTold_25 rfl (lv_at hl 1 rfl) ?_
      refine lv_iconst (v := 3) hx hb dX0_numberTold_26 (by decide) ?_
      refine lv_icmp_gt (tgt := 58) hx hb dX0_numberTold_27 (by decide) (fun c_6 => ?_) (fun c_6 => ?_)
      · rw [if_pos c_6] at h
        refine lv_iload_n hx hb dX0_numberTold_58 rfl (lv_at hl 1 rfl) ?_
        refine lv_iconst (v := 1) hx hb dX0_numberTold_59 (by decide) ?_
        refine lv_isub hx hb dX0_numberTold_60 ?_
        refine lv_iconst (v := 3) hx hb dX0_numberTold_61 (by decide) ?_
        refine lv_isub hx hb dX0_numberTold_62 ?_
        refine lv_topi (fun x_7 ex_7 => ?_)
        replace h := gb_lt_s ex_7 h
        refine lv_istore (lv' := [(4, .int x_7), (3, .int x_5), (2, .int x_4), (0, .ref (b + k0)), (1, .int p1)]) hx hb dX0_numberTold_63 hl (by decide) rfl (fun ls hl => ?_)
        refine lv_aload_n hx hb dX0_numberTold_65 rfl (lv_at hl 3 rfl) ?_
        refine lv_iload_n hx hb dX0_numberTold_66 rfl (lv_at hl 1 rfl) ?_
        obtain ⟨s_8, r_9, z_10, h⟩ := gb_cd_s h
        refine gb_calli (va_runV (C := RX0) (As := [.int x_5]) (rest := []) ⟨hx, hb, hml, hown, hq⟩ (cc_Border_hasGoose_B l D cT tt b1 b hb1 n σ k0 x_5 s_8 r_9 z_10) (cwV 1 hq (gb_gV w_611 w_612 w_613 w_4 w_614) rfl rfl rfl (by decide +kernel) ⟨Nat.le_of_ble_eq_true rfl, Nat.le_of_ble_eq_true rfl⟩) (gb_preV (r := (RX0, TX0, 1)) (ci := 0) (q0 := k0) hSt hP rfl (gb_at b (gb_cB z_1).1) hS (fun q h => Nat.le_trans hb1 h.1) hP) rfl rfl hl.1 rfl (lv_room (Nat.le_of_ble_eq_true rfl)) dX0_numberTold_67 ⟨Nat.le_of_ble_eq_true rfl, Nat.le_of_ble_eq_true rfl⟩) hS (fun _ h => h) (fun _ h => h) (fun q_11 H locs hY hk hS => ?_)
        obtain ⟨hq_11, hP⟩ := hY
        replace hq_11 := hq_11.symm
        subst hq_11
        refine lv_if_eq (tgt := 90) hx hb dX0_numberTold_70 (by decide) (fun c_12 => ?_) (fun c_12 => ?_)
        · rw [if_pos c_12] at h
          refine lv_bipush (v := (-2)) hx hb dX0_numberTold_90 (by decide) ?_
          obtain ⟨e1, e2⟩ := gb_eq2 h
          exact W.iret (v := (-2)) hx hb hr (fun t ht hW => gb_ri ht ⟨e2, by rw [← e1]; exact hP⟩ hS) hS.2.2 dX0_numberTold_92
        · rw [if_neg c_12] at h
          refine lv_aload_n hx hb dX0_numberTold_73 rfl (lv_at hl 3 rfl) ?_
          refine va_get (ci := 0) (v := (.ref (b + (k0 + 1)))) (C := RX0) (T := TX0) (N := 1) hx hb hq i_X0 hown hK hP k0 (gb_at b (gb_cB z_1).1) rfl 0 (by decide) (hq _ w_49) (fun x9 h9 => u_same (hq _ w_50) x9 h9) rfl dX0_numberTold_74 ?_
          refine lv_bipush (v := 18) hx hb dX0_numberTold_77 (by decide) ?_
          refine lv_iload_n hx hb dX0_numberTold_79 rfl (lv_at hl 1 rfl) ?_
          refine lv_iconst (v := 5) hx hb dX0_numberTold_80 (by decide) ?_
          refine lv_imul hx hb dX0_numberTold_81 ?_
          refine lv_iadd hx hb dX0_numberTold_82 ?_
          refine lv_iload hx hb dX0_numberTold_83 (lv_at hl 0 rfl) ?_
          refine lv_iadd hx hb dX0_numberTold_85 ?_
          obtain ⟨z_13, h⟩ := gb_ck_s h
          refine va_iald hx hb hK hP (k0 + 1) 0 (gb_at b (gb_cB z_1).2) rfl z_13 dX0_numberTold_86 ?_
          refine lv_topi (fun x_14 ex_14 => ?_)
          replace h := gb_lt_s ex_14 h
          refine lv_goto (tgt := 92) hx hb dX0_numberTold_87 (by decide) ?_
          obtain ⟨e1, e2⟩ := gb_eq2 h
          exact W.iret (v := x_14) hx hb hr (fun t ht hW => gb_ri ht ⟨e2, by rw [← e1]; exact hP⟩ hS) hS.2.2 dX0_numberTold_92
      · rw [if_neg c_6] at h
        refine lv_aload_n hx hb dX0_numberTold_30 rfl (lv_at hl 2 rfl) ?_
        refine lv_iload_n hx hb dX0_numberTold_31 rfl (lv_at hl 0 rfl) ?_
        obtain ⟨s_15, r_16, z_17, h⟩ := gb_cd_s h
        refine gb_calli (va_runV (C := RX0) (As := [.int x_5]) (rest := []) ⟨hx, hb, hml, hown, hq⟩ (cc_Border_hasPath_B l D cT tt b1 b hb1 n σ k0 x_5 s_15 r_16 z_17) (cwV 1 hq (gb_gV w_607 w_608 w_609 w_4 w_610) rfl rfl rfl (by decide +kernel) ⟨Nat.le_of_ble_eq_true rfl, Nat.le_of_ble_eq_true rfl⟩) (gb_preV (r := (RX0, TX0, 1)) (ci := 0) (q0 := k0) hSt hP rfl (gb_at b (gb_cB z_1).1) hS (fun q h => Nat.le_trans hb1 h.1) hP) rfl rfl hl.1 rfl (lv_room (Nat.le_of_ble_eq_true rfl)) dX0_numberTold_32 ⟨Nat.le_of_ble_eq_true rfl, Nat.le_of_ble_eq_true rfl⟩) hS (fun _ h => h) (fun _ h => h) (fun q_18 H locs hY hk hS => ?_)
        obtain ⟨hq_18, hP⟩ := hY
        replace hq_18 := hq_18.symm
        subst hq_18
        refine lv_if_eq (tgt := 55) hx hb dX0_numberTold_35 (by decide) (fun c_19 => ?_) (fun c_19 => ?_)
        · rw [if_pos c_19] at h
          refine lv_bipush (v := (-2)) hx hb dX0_numberTold_55 (by decide) ?_
          obtain ⟨e1, e2⟩ := gb_eq2 h
          exact W.iret (v := (-2)) hx hb hr (fun t ht hW => gb_ri ht ⟨e2, by rw [← e1]; exact hP⟩ hS) hS.2.2 dX0_numberTold_57
        · rw [if_neg c_19] at h
          refine lv_aload_n hx hb dX0_numberTold_38 rfl (lv_at hl 2 rfl) ?_
          refine va_get (ci := 0) (v := (.ref (b + (k0 + 1)))) (C := RX0) (T := TX0) (N := 1) hx hb hq i_X0 hown hK hP k0 (gb_at b (gb_cB z_1).1) rfl 0 (by decide) (hq _ w_49) (fun x9 h9 => u_same (hq _ w_50) x9 h9) rfl dX0_numberTold_39 ?_
          refine lv_iconst (v := 3) hx hb dX0_numberTold_42 (by decide) ?_
          refine lv_iload_n hx hb dX0_numberTold_43 rfl (lv_at hl 0 rfl) ?_
          refine lv_iconst (v := 3) hx hb dX0_numberTold_44 (by decide) ?_
          refine lv_imul hx hb dX0_numberTold_45 ?_
          refine lv_iadd hx hb dX0_numberTold_46 ?_
          refine lv_iload_n hx hb dX0_numberTold_47 rfl (lv_at hl 1 rfl) ?_
          refine lv_iadd hx hb dX0_numberTold_48 ?_
          refine lv_iconst (v := 1) hx hb dX0_numberTold_49 (by decide) ?_
          refine lv_isub hx hb dX0_numberTold_50 ?_
          obtain ⟨z_20, h⟩ := gb_ck_s h
          refine va_iald hx hb hK hP (k0 + 1) 0 (gb_at b (gb_cB z_1).2) rfl z_20 dX0_numberTold_51 ?_
          refine lv_topi (fun x_21 ex_21 => ?_)
          replace h := gb_lt_s ex_21 h
          refine lv_goto (tgt := 57) hx hb dX0_numberTold_52 (by decide) ?_
          obtain ⟨e1, e2⟩ := gb_eq2 h
          exact W.iret (v := x_21) hx hb hr (fun t ht hW => gb_ri ht ⟨e2, by rw [← e1]; exact hP⟩ hS) hS.2.2 dX0_numberTold_57
    · rw [if_neg c_3] at h
      refine lv_bipush (v := (-2)) hx hb dX0_numberTold_12 (by decide) ?_
      obtain ⟨e1, e2⟩ := gb_eq2 h
      exact W.iret (v := (-2)) hx hb hr (fun t ht hW => gb_ri ht ⟨e2, by rw [← e1]; exact hP⟩ hS) hS.2.2 dX0_numberTold_14
theorem dX0_miles_0 : decode cX0_miles 0 = .ok (.aload_n 0, 1) := by decide +kernel
theorem dX0_miles_1 : decode cX0_miles 1 = .ok (.getfield 11, 3) := by decide +kernel
theorem dX0_miles_4 : decode cX0_miles 4 = .ok (.iconst 3, 1) := by decide +kernel
theorem dX0_miles_5 : decode cX0_miles 5 = .ok (.iload_n 1, 1) := by decide +kernel
theorem dX0_miles_6 : decode cX0_miles 6 = .ok (.iconst 3, 1) := by decide +kernel
theorem dX0_miles_7 : decode cX0_miles 7 = .ok (.imul, 1) := by decide +kernel
theorem dX0_miles_8 : decode cX0_miles 8 = .ok (.iadd, 1) := by decide +kernel
theorem dX0_miles_9 : decode cX0_miles 9 = .ok (.iaload, 1) := by decide +kernel
theorem dX0_miles_10 : decode cX0_miles 10 = .ok (.ireturn, 1) := by decide +kernel
def cs_Border_miles_B (n : Nat) (σ : gb_S) (k0 : Nat) (p1 : Int32) : gb_CR Int32 := gb_kk (gb_kB k0) (gb_ck ((3 : Int32) + (p1 * 3)) 58 (gb_lt ((σ.1 (k0 + 1)) (Int32.toNatClampNeg ((3 : Int32) + (p1 * 3)))) (fun x_3 => some (σ, x_3))))
set_option maxHeartbeats 8000000 in
set_option maxRecDepth 100000 in
theorem cc_Border_miles_B (l : Launch) (D : va_G) (cT : Nat → ClassId) (tt : Nat → Nat) (b1 b : Nat) (hb1 : b1 ≤ b) (n : Nat) (σ : gb_S) (k0 : Nat) (p1 : Int32) (σE : gb_S) (rE : Int32) (h : cs_Border_miles_B n σ k0 p1 = some (σE, rE)) : Met l yX0_miles (.code yX0_miles cX0_miles 2 (some FieldType.int) :: gb_wA) ({ frames := 0, cells := 0, slots := 0, locals := 0 }) (gb_Pc D cT tt b1 [.ref (b + k0), .int p1] (fun h => va_P D vwCl (gb_wl b (gb_CW cT b σ)) h)) (gb_Qi (fun r h => r = rE ∧ va_P D vwCl (gb_wl b (gb_CW cT b σE)) h) (gb_fr b 135)) 0 0 (gb_fr b 135) := by
  refine Met.ofW (cc := cX0_miles) (maxL := 2) (ret := (some FieldType.int)) (by decide) rfl ?_
  intro p e s m args below meth c s₁ B hml hv
  obtain ⟨rfl, hSt, hP⟩ := hv
  have hx := B.exec
  have hb := B.bytes
  have hr := B.returns
  have hts := atoms_spec (ws := .code yX0_miles cX0_miles 2 (some FieldType.int) :: gb_wA) B.pre
  have hq : ∀ w ∈ gb_wA, w.before _ s = true := fun w h => hts w (List.mem_cons_of_mem _ h)
  have hown : s.vm.findClass RX0 = some m.cls := findClass_of_methodNamed B.named
  have hlocks := B.notSynchronized
  clear B hts
  have hK := hSt.1
  have hS : va_S (gb_fr b 135) s.heap s.heap [] := va_S.rf
  have hl := lv_entry ([.ref (b + k0), .int p1]) (n := 2) (Nat.le_of_ble_eq_true rfl)
  rw [lg_entry_eq]
  generalize (lg_sl ([.ref (b + k0), .int p1]) ++ List.replicate (2 - (lg_sl ([.ref (b + k0), .int p1])).length) Slot.unset).toArray = ls at hl ⊢
  replace hl : lv_has ls 2 [(0, .ref (b + k0)), (1, .int p1)] := hl
  unfold cs_Border_miles_B at h
  obtain ⟨z_1, h⟩ := gb_kk_s h
  refine lv_aload_n hx hb dX0_miles_0 rfl (lv_at hl 0 rfl) ?_
  refine va_get (ci := 0) (v := (.ref (b + (k0 + 1)))) (C := RX0) (T := TX0) (N := 1) hx hb hq i_X0 hown hK hP k0 (gb_at b (gb_cB z_1).1) rfl 0 (by decide) (hq _ w_49) (fun x9 h9 => u_same (hq _ w_50) x9 h9) rfl dX0_miles_1 ?_
  refine lv_iconst (v := 3) hx hb dX0_miles_4 (by decide) ?_
  refine lv_iload_n hx hb dX0_miles_5 rfl (lv_at hl 1 rfl) ?_
  refine lv_iconst (v := 3) hx hb dX0_miles_6 (by decide) ?_
  refine lv_imul hx hb dX0_miles_7 ?_
  refine lv_iadd hx hb dX0_miles_8 ?_
  obtain ⟨z_2, h⟩ := gb_ck_s h
  refine va_iald hx hb hK hP (k0 + 1) 0 (gb_at b (gb_cB z_1).2) rfl z_2 dX0_miles_9 ?_
  refine lv_topi (fun x_3 ex_3 => ?_)
  replace h := gb_lt_s ex_3 h
  obtain ⟨e1, e2⟩ := gb_eq2 h
  exact W.iret (v := x_3) hx hb hr (fun t ht hW => gb_ri ht ⟨e2, by rw [← e1]; exact hP⟩ hS) hS.2.2 dX0_miles_10
theorem dX0_rate_0 : decode cX0_rate 0 = .ok (.aload_n 0, 1) := by decide +kernel
theorem dX0_rate_1 : decode cX0_rate 1 = .ok (.getfield 11, 3) := by decide +kernel
theorem dX0_rate_4 : decode cX0_rate 4 = .ok (.iconst 3, 1) := by decide +kernel
theorem dX0_rate_5 : decode cX0_rate 5 = .ok (.iload_n 1, 1) := by decide +kernel
theorem dX0_rate_6 : decode cX0_rate 6 = .ok (.iconst 3, 1) := by decide +kernel
theorem dX0_rate_7 : decode cX0_rate 7 = .ok (.imul, 1) := by decide +kernel
theorem dX0_rate_8 : decode cX0_rate 8 = .ok (.iadd, 1) := by decide +kernel
theorem dX0_rate_9 : decode cX0_rate 9 = .ok (.iconst 1, 1) := by decide +kernel
theorem dX0_rate_10 : decode cX0_rate 10 = .ok (.iadd, 1) := by decide +kernel
theorem dX0_rate_11 : decode cX0_rate 11 = .ok (.iaload, 1) := by decide +kernel
theorem dX0_rate_12 : decode cX0_rate 12 = .ok (.ireturn, 1) := by decide +kernel
def cs_Border_rate_B (n : Nat) (σ : gb_S) (k0 : Nat) (p1 : Int32) : gb_CR Int32 := gb_kk (gb_kB k0) (gb_ck (((3 : Int32) + (p1 * 3)) + 1) 58 (gb_lt ((σ.1 (k0 + 1)) (Int32.toNatClampNeg (((3 : Int32) + (p1 * 3)) + 1))) (fun x_3 => some (σ, x_3))))
set_option maxHeartbeats 8000000 in
set_option maxRecDepth 100000 in
theorem cc_Border_rate_B (l : Launch) (D : va_G) (cT : Nat → ClassId) (tt : Nat → Nat) (b1 b : Nat) (hb1 : b1 ≤ b) (n : Nat) (σ : gb_S) (k0 : Nat) (p1 : Int32) (σE : gb_S) (rE : Int32) (h : cs_Border_rate_B n σ k0 p1 = some (σE, rE)) : Met l yX0_rate (.code yX0_rate cX0_rate 2 (some FieldType.int) :: gb_wA) ({ frames := 0, cells := 0, slots := 0, locals := 0 }) (gb_Pc D cT tt b1 [.ref (b + k0), .int p1] (fun h => va_P D vwCl (gb_wl b (gb_CW cT b σ)) h)) (gb_Qi (fun r h => r = rE ∧ va_P D vwCl (gb_wl b (gb_CW cT b σE)) h) (gb_fr b 135)) 0 0 (gb_fr b 135) := by
  refine Met.ofW (cc := cX0_rate) (maxL := 2) (ret := (some FieldType.int)) (by decide) rfl ?_
  intro p e s m args below meth c s₁ B hml hv
  obtain ⟨rfl, hSt, hP⟩ := hv
  have hx := B.exec
  have hb := B.bytes
  have hr := B.returns
  have hts := atoms_spec (ws := .code yX0_rate cX0_rate 2 (some FieldType.int) :: gb_wA) B.pre
  have hq : ∀ w ∈ gb_wA, w.before _ s = true := fun w h => hts w (List.mem_cons_of_mem _ h)
  have hown : s.vm.findClass RX0 = some m.cls := findClass_of_methodNamed B.named
  have hlocks := B.notSynchronized
  clear B hts
  have hK := hSt.1
  have hS : va_S (gb_fr b 135) s.heap s.heap [] := va_S.rf
  have hl := lv_entry ([.ref (b + k0), .int p1]) (n := 2) (Nat.le_of_ble_eq_true rfl)
  rw [lg_entry_eq]
  generalize (lg_sl ([.ref (b + k0), .int p1]) ++ List.replicate (2 - (lg_sl ([.ref (b + k0), .int p1])).length) Slot.unset).toArray = ls at hl ⊢
  replace hl : lv_has ls 2 [(0, .ref (b + k0)), (1, .int p1)] := hl
  unfold cs_Border_rate_B at h
  obtain ⟨z_1, h⟩ := gb_kk_s h
  refine lv_aload_n hx hb dX0_rate_0 rfl (lv_at hl 0 rfl) ?_
  refine va_get (ci := 0) (v := (.ref (b + (k0 + 1)))) (C := RX0) (T := TX0) (N := 1) hx hb hq i_X0 hown hK hP k0 (gb_at b (gb_cB z_1).1) rfl 0 (by decide) (hq _ w_49) (fun x9 h9 => u_same (hq _ w_50) x9 h9) rfl dX0_rate_1 ?_
  refine lv_iconst (v := 3) hx hb dX0_rate_4 (by decide) ?_
  refine lv_iload_n hx hb dX0_rate_5 rfl (lv_at hl 1 rfl) ?_
  refine lv_iconst (v := 3) hx hb dX0_rate_6 (by decide) ?_
  refine lv_imul hx hb dX0_rate_7 ?_
  refine lv_iadd hx hb dX0_rate_8 ?_
  refine lv_iconst (v := 1) hx hb dX0_rate_9 (by decide) ?_
  refine lv_iadd hx hb dX0_rate_10 ?_
  obtain ⟨z_2, h⟩ := gb_ck_s h
  refine va_iald hx hb hK hP (k0 + 1) 0 (gb_at b (gb_cB z_1).2) rfl z_2 dX0_rate_11 ?_
  refine lv_topi (fun x_3 ex_3 => ?_)
  replace h := gb_lt_s ex_3 h
  obtain ⟨e1, e2⟩ := gb_eq2 h
  exact W.iret (v := x_3) hx hb hr (fun t ht hW => gb_ri ht ⟨e2, by rw [← e1]; exact hP⟩ hS) hS.2.2 dX0_rate_12
theorem dX0_pad_0 : decode cX0_pad 0 = .ok (.aload_n 0, 1) := by decide +kernel
theorem dX0_pad_1 : decode cX0_pad 1 = .ok (.getfield 11, 3) := by decide +kernel
theorem dX0_pad_4 : decode cX0_pad 4 = .ok (.iconst 3, 1) := by decide +kernel
theorem dX0_pad_5 : decode cX0_pad 5 = .ok (.iload_n 1, 1) := by decide +kernel
theorem dX0_pad_6 : decode cX0_pad 6 = .ok (.iconst 3, 1) := by decide +kernel
theorem dX0_pad_7 : decode cX0_pad 7 = .ok (.imul, 1) := by decide +kernel
theorem dX0_pad_8 : decode cX0_pad 8 = .ok (.iadd, 1) := by decide +kernel
theorem dX0_pad_9 : decode cX0_pad 9 = .ok (.iconst 2, 1) := by decide +kernel
theorem dX0_pad_10 : decode cX0_pad 10 = .ok (.iadd, 1) := by decide +kernel
theorem dX0_pad_11 : decode cX0_pad 11 = .ok (.iaload, 1) := by decide +kernel
theorem dX0_pad_12 : decode cX0_pad 12 = .ok (.ireturn, 1) := by decide +kernel
def cs_Border_pad_B (n : Nat) (σ : gb_S) (k0 : Nat) (p1 : Int32) : gb_CR Int32 := gb_kk (gb_kB k0) (gb_ck (((3 : Int32) + (p1 * 3)) + 2) 58 (gb_lt ((σ.1 (k0 + 1)) (Int32.toNatClampNeg (((3 : Int32) + (p1 * 3)) + 2))) (fun x_3 => some (σ, x_3))))
set_option maxHeartbeats 8000000 in
set_option maxRecDepth 100000 in
theorem cc_Border_pad_B (l : Launch) (D : va_G) (cT : Nat → ClassId) (tt : Nat → Nat) (b1 b : Nat) (hb1 : b1 ≤ b) (n : Nat) (σ : gb_S) (k0 : Nat) (p1 : Int32) (σE : gb_S) (rE : Int32) (h : cs_Border_pad_B n σ k0 p1 = some (σE, rE)) : Met l yX0_pad (.code yX0_pad cX0_pad 2 (some FieldType.int) :: gb_wA) ({ frames := 0, cells := 0, slots := 0, locals := 0 }) (gb_Pc D cT tt b1 [.ref (b + k0), .int p1] (fun h => va_P D vwCl (gb_wl b (gb_CW cT b σ)) h)) (gb_Qi (fun r h => r = rE ∧ va_P D vwCl (gb_wl b (gb_CW cT b σE)) h) (gb_fr b 135)) 0 0 (gb_fr b 135) := by
  refine Met.ofW (cc := cX0_pad) (maxL := 2) (ret := (some FieldType.int)) (by decide) rfl ?_
  intro p e s m args below meth c s₁ B hml hv
  obtain ⟨rfl, hSt, hP⟩ := hv
  have hx := B.exec
  have hb := B.bytes
  have hr := B.returns
  have hts := atoms_spec (ws := .code yX0_pad cX0_pad 2 (some FieldType.int) :: gb_wA) B.pre
  have hq : ∀ w ∈ gb_wA, w.before _ s = true := fun w h => hts w (List.mem_cons_of_mem _ h)
  have hown : s.vm.findClass RX0 = some m.cls := findClass_of_methodNamed B.named
  have hlocks := B.notSynchronized
  clear B hts
  have hK := hSt.1
  have hS : va_S (gb_fr b 135) s.heap s.heap [] := va_S.rf
  have hl := lv_entry ([.ref (b + k0), .int p1]) (n := 2) (Nat.le_of_ble_eq_true rfl)
  rw [lg_entry_eq]
  generalize (lg_sl ([.ref (b + k0), .int p1]) ++ List.replicate (2 - (lg_sl ([.ref (b + k0), .int p1])).length) Slot.unset).toArray = ls at hl ⊢
  replace hl : lv_has ls 2 [(0, .ref (b + k0)), (1, .int p1)] := hl
  unfold cs_Border_pad_B at h
  obtain ⟨z_1, h⟩ := gb_kk_s h
  refine lv_aload_n hx hb dX0_pad_0 rfl (lv_at hl 0 rfl) ?_
  refine va_get (ci := 0) (v := (.ref (b + (k0 + 1)))) (C := RX0) (T := TX0) (N := 1) hx hb hq i_X0 hown hK hP k0 (gb_at b (gb_cB z_1).1) rfl 0 (by decide) (hq _ w_49) (fun x9 h9 => u_same (hq _ w_50) x9 h9) rfl dX0_pad_1 ?_
  refine lv_iconst (v := 3) hx hb dX0_pad_4 (by decide) ?_
  refine lv_iload_n hx hb dX0_pad_5 rfl (lv_at hl 1 rfl) ?_
  refine lv_iconst (v := 3) hx hb dX0_pad_6 (by decide) ?_
  refine lv_imul hx hb dX0_pad_7 ?_
  refine lv_iadd hx hb dX0_pad_8 ?_
  refine lv_iconst (v := 2) hx hb dX0_pad_9 (by decide) ?_
  refine lv_iadd hx hb dX0_pad_10 ?_
  obtain ⟨z_2, h⟩ := gb_ck_s h
  refine va_iald hx hb hK hP (k0 + 1) 0 (gb_at b (gb_cB z_1).2) rfl z_2 dX0_pad_11 ?_
  refine lv_topi (fun x_3 ex_3 => ?_)
  replace h := gb_lt_s ex_3 h
  obtain ⟨e1, e2⟩ := gb_eq2 h
  exact W.iret (v := x_3) hx hb hr (fun t ht hW => gb_ri ht ⟨e2, by rw [← e1]; exact hP⟩ hS) hS.2.2 dX0_pad_12
theorem dX0_toes_0 : decode cX0_toes 0 = .ok (.bipush 18, 2) := by decide +kernel
theorem dX0_toes_2 : decode cX0_toes 2 = .ok (.iload_n 1, 1) := by decide +kernel
theorem dX0_toes_3 : decode cX0_toes 3 = .ok (.iconst 5, 1) := by decide +kernel
theorem dX0_toes_4 : decode cX0_toes 4 = .ok (.imul, 1) := by decide +kernel
theorem dX0_toes_5 : decode cX0_toes 5 = .ok (.iadd, 1) := by decide +kernel
theorem dX0_toes_6 : decode cX0_toes 6 = .ok (.istore_n 2, 1) := by decide +kernel
theorem dX0_toes_7 : decode cX0_toes 7 = .ok (.aload_n 0, 1) := by decide +kernel
theorem dX0_toes_8 : decode cX0_toes 8 = .ok (.getfield 11, 3) := by decide +kernel
theorem dX0_toes_11 : decode cX0_toes 11 = .ok (.iload_n 2, 1) := by decide +kernel
theorem dX0_toes_12 : decode cX0_toes 12 = .ok (.iaload, 1) := by decide +kernel
theorem dX0_toes_13 : decode cX0_toes 13 = .ok (.aload_n 0, 1) := by decide +kernel
theorem dX0_toes_14 : decode cX0_toes 14 = .ok (.getfield 11, 3) := by decide +kernel
theorem dX0_toes_17 : decode cX0_toes 17 = .ok (.iload_n 2, 1) := by decide +kernel
theorem dX0_toes_18 : decode cX0_toes 18 = .ok (.iconst 1, 1) := by decide +kernel
theorem dX0_toes_19 : decode cX0_toes 19 = .ok (.iadd, 1) := by decide +kernel
theorem dX0_toes_20 : decode cX0_toes 20 = .ok (.iaload, 1) := by decide +kernel
theorem dX0_toes_21 : decode cX0_toes 21 = .ok (.iadd, 1) := by decide +kernel
theorem dX0_toes_22 : decode cX0_toes 22 = .ok (.ireturn, 1) := by decide +kernel
def cs_Border_toes_B (n : Nat) (σ : gb_S) (k0 : Nat) (p1 : Int32) : gb_CR Int32 := gb_kk (gb_kB k0) (gb_lt ((18 : Int32) + (p1 * 5)) (fun x_2 => gb_ck x_2 58 (gb_lt ((σ.1 (k0 + 1)) (Int32.toNatClampNeg x_2)) (fun x_4 => gb_ck (x_2 + 1) 58 (gb_lt ((σ.1 (k0 + 1)) (Int32.toNatClampNeg (x_2 + 1))) (fun x_6 => some (σ, (x_4 + x_6))))))))
set_option maxHeartbeats 8000000 in
set_option maxRecDepth 100000 in
theorem cc_Border_toes_B (l : Launch) (D : va_G) (cT : Nat → ClassId) (tt : Nat → Nat) (b1 b : Nat) (hb1 : b1 ≤ b) (n : Nat) (σ : gb_S) (k0 : Nat) (p1 : Int32) (σE : gb_S) (rE : Int32) (h : cs_Border_toes_B n σ k0 p1 = some (σE, rE)) : Met l yX0_toes (.code yX0_toes cX0_toes 3 (some FieldType.int) :: gb_wA) ({ frames := 0, cells := 0, slots := 0, locals := 0 }) (gb_Pc D cT tt b1 [.ref (b + k0), .int p1] (fun h => va_P D vwCl (gb_wl b (gb_CW cT b σ)) h)) (gb_Qi (fun r h => r = rE ∧ va_P D vwCl (gb_wl b (gb_CW cT b σE)) h) (gb_fr b 135)) 0 0 (gb_fr b 135) := by
  refine Met.ofW (cc := cX0_toes) (maxL := 3) (ret := (some FieldType.int)) (by decide) rfl ?_
  intro p e s m args below meth c s₁ B hml hv
  obtain ⟨rfl, hSt, hP⟩ := hv
  have hx := B.exec
  have hb := B.bytes
  have hr := B.returns
  have hts := atoms_spec (ws := .code yX0_toes cX0_toes 3 (some FieldType.int) :: gb_wA) B.pre
  have hq : ∀ w ∈ gb_wA, w.before _ s = true := fun w h => hts w (List.mem_cons_of_mem _ h)
  have hown : s.vm.findClass RX0 = some m.cls := findClass_of_methodNamed B.named
  have hlocks := B.notSynchronized
  clear B hts
  have hK := hSt.1
  have hS : va_S (gb_fr b 135) s.heap s.heap [] := va_S.rf
  have hl := lv_entry ([.ref (b + k0), .int p1]) (n := 3) (Nat.le_of_ble_eq_true rfl)
  rw [lg_entry_eq]
  generalize (lg_sl ([.ref (b + k0), .int p1]) ++ List.replicate (3 - (lg_sl ([.ref (b + k0), .int p1])).length) Slot.unset).toArray = ls at hl ⊢
  replace hl : lv_has ls 3 [(0, .ref (b + k0)), (1, .int p1)] := hl
  unfold cs_Border_toes_B at h
  obtain ⟨z_1, h⟩ := gb_kk_s h
  refine lv_bipush (v := 18) hx hb dX0_toes_0 (by decide) ?_
  refine lv_iload_n hx hb dX0_toes_2 rfl (lv_at hl 1 rfl) ?_
  refine lv_iconst (v := 5) hx hb dX0_toes_3 (by decide) ?_
  refine lv_imul hx hb dX0_toes_4 ?_
  refine lv_iadd hx hb dX0_toes_5 ?_
  refine lv_topi (fun x_2 ex_2 => ?_)
  replace h := gb_lt_s ex_2 h
  refine lv_istore_n (lv' := [(2, .int x_2), (0, .ref (b + k0)), (1, .int p1)]) hx hb dX0_toes_6 rfl hl (by decide) rfl (fun ls hl => ?_)
  refine lv_aload_n hx hb dX0_toes_7 rfl (lv_at hl 1 rfl) ?_
  refine va_get (ci := 0) (v := (.ref (b + (k0 + 1)))) (C := RX0) (T := TX0) (N := 1) hx hb hq i_X0 hown hK hP k0 (gb_at b (gb_cB z_1).1) rfl 0 (by decide) (hq _ w_49) (fun x9 h9 => u_same (hq _ w_50) x9 h9) rfl dX0_toes_8 ?_
  refine lv_iload_n hx hb dX0_toes_11 rfl (lv_at hl 0 rfl) ?_
  obtain ⟨z_3, h⟩ := gb_ck_s h
  refine va_iald hx hb hK hP (k0 + 1) 0 (gb_at b (gb_cB z_1).2) rfl z_3 dX0_toes_12 ?_
  refine lv_topi (fun x_4 ex_4 => ?_)
  replace h := gb_lt_s ex_4 h
  refine lv_aload_n hx hb dX0_toes_13 rfl (lv_at hl 1 rfl) ?_
  refine va_get (ci := 0) (v := (.ref (b + (k0 + 1)))) (C := RX0) (T := TX0) (N := 1) hx hb hq i_X0 hown hK hP k0 (gb_at b (gb_cB z_1).1) rfl 0 (by decide) (hq _ w_49) (fun x9 h9 => u_same (hq _ w_50) x9 h9) rfl dX0_toes_14 ?_
  refine lv_iload_n hx hb dX0_toes_17 rfl (lv_at hl 0 rfl) ?_
  refine lv_iconst (v := 1) hx hb dX0_toes_18 (by decide) ?_
  refine lv_iadd hx hb dX0_toes_19 ?_
  obtain ⟨z_5, h⟩ := gb_ck_s h
  refine va_iald hx hb hK hP (k0 + 1) 0 (gb_at b (gb_cB z_1).2) rfl z_5 dX0_toes_20 ?_
  refine lv_topi (fun x_6 ex_6 => ?_)
  replace h := gb_lt_s ex_6 h
  refine lv_iadd hx hb dX0_toes_21 ?_
  obtain ⟨e1, e2⟩ := gb_eq2 h
  exact W.iret (v := (x_4 + x_6)) hx hb hr (fun t ht hW => gb_ri ht ⟨e2, by rw [← e1]; exact hP⟩ hS) hS.2.2 dX0_toes_22
theorem dX0_boots_0 : decode cX0_boots 0 = .ok (.aload_n 0, 1) := by decide +kernel
theorem dX0_boots_1 : decode cX0_boots 1 = .ok (.getfield 11, 3) := by decide +kernel
theorem dX0_boots_4 : decode cX0_boots 4 = .ok (.bipush 18, 2) := by decide +kernel
theorem dX0_boots_6 : decode cX0_boots 6 = .ok (.iload_n 1, 1) := by decide +kernel
theorem dX0_boots_7 : decode cX0_boots 7 = .ok (.iconst 5, 1) := by decide +kernel
theorem dX0_boots_8 : decode cX0_boots 8 = .ok (.imul, 1) := by decide +kernel
theorem dX0_boots_9 : decode cX0_boots 9 = .ok (.iadd, 1) := by decide +kernel
theorem dX0_boots_10 : decode cX0_boots 10 = .ok (.iconst 2, 1) := by decide +kernel
theorem dX0_boots_11 : decode cX0_boots 11 = .ok (.iadd, 1) := by decide +kernel
theorem dX0_boots_12 : decode cX0_boots 12 = .ok (.iaload, 1) := by decide +kernel
theorem dX0_boots_13 : decode cX0_boots 13 = .ok (.ireturn, 1) := by decide +kernel
def cs_Border_boots_B (n : Nat) (σ : gb_S) (k0 : Nat) (p1 : Int32) : gb_CR Int32 := gb_kk (gb_kB k0) (gb_ck (((18 : Int32) + (p1 * 5)) + 2) 58 (gb_lt ((σ.1 (k0 + 1)) (Int32.toNatClampNeg (((18 : Int32) + (p1 * 5)) + 2))) (fun x_3 => some (σ, x_3))))
set_option maxHeartbeats 8000000 in
set_option maxRecDepth 100000 in
theorem cc_Border_boots_B (l : Launch) (D : va_G) (cT : Nat → ClassId) (tt : Nat → Nat) (b1 b : Nat) (hb1 : b1 ≤ b) (n : Nat) (σ : gb_S) (k0 : Nat) (p1 : Int32) (σE : gb_S) (rE : Int32) (h : cs_Border_boots_B n σ k0 p1 = some (σE, rE)) : Met l yX0_boots (.code yX0_boots cX0_boots 2 (some FieldType.int) :: gb_wA) ({ frames := 0, cells := 0, slots := 0, locals := 0 }) (gb_Pc D cT tt b1 [.ref (b + k0), .int p1] (fun h => va_P D vwCl (gb_wl b (gb_CW cT b σ)) h)) (gb_Qi (fun r h => r = rE ∧ va_P D vwCl (gb_wl b (gb_CW cT b σE)) h) (gb_fr b 135)) 0 0 (gb_fr b 135) := by
  refine Met.ofW (cc := cX0_boots) (maxL := 2) (ret := (some FieldType.int)) (by decide) rfl ?_
  intro p e s m args below meth c s₁ B hml hv
  obtain ⟨rfl, hSt, hP⟩ := hv
  have hx := B.exec
  have hb := B.bytes
  have hr := B.returns
  have hts := atoms_spec (ws := .code yX0_boots cX0_boots 2 (some FieldType.int) :: gb_wA) B.pre
  have hq : ∀ w ∈ gb_wA, w.before _ s = true := fun w h => hts w (List.mem_cons_of_mem _ h)
  have hown : s.vm.findClass RX0 = some m.cls := findClass_of_methodNamed B.named
  have hlocks := B.notSynchronized
  clear B hts
  have hK := hSt.1
  have hS : va_S (gb_fr b 135) s.heap s.heap [] := va_S.rf
  have hl := lv_entry ([.ref (b + k0), .int p1]) (n := 2) (Nat.le_of_ble_eq_true rfl)
  rw [lg_entry_eq]
  generalize (lg_sl ([.ref (b + k0), .int p1]) ++ List.replicate (2 - (lg_sl ([.ref (b + k0), .int p1])).length) Slot.unset).toArray = ls at hl ⊢
  replace hl : lv_has ls 2 [(0, .ref (b + k0)), (1, .int p1)] := hl
  unfold cs_Border_boots_B at h
  obtain ⟨z_1, h⟩ := gb_kk_s h
  refine lv_aload_n hx hb dX0_boots_0 rfl (lv_at hl 0 rfl) ?_
  refine va_get (ci := 0) (v := (.ref (b + (k0 + 1)))) (C := RX0) (T := TX0) (N := 1) hx hb hq i_X0 hown hK hP k0 (gb_at b (gb_cB z_1).1) rfl 0 (by decide) (hq _ w_49) (fun x9 h9 => u_same (hq _ w_50) x9 h9) rfl dX0_boots_1 ?_
  refine lv_bipush (v := 18) hx hb dX0_boots_4 (by decide) ?_
  refine lv_iload_n hx hb dX0_boots_6 rfl (lv_at hl 1 rfl) ?_
  refine lv_iconst (v := 5) hx hb dX0_boots_7 (by decide) ?_
  refine lv_imul hx hb dX0_boots_8 ?_
  refine lv_iadd hx hb dX0_boots_9 ?_
  refine lv_iconst (v := 2) hx hb dX0_boots_10 (by decide) ?_
  refine lv_iadd hx hb dX0_boots_11 ?_
  obtain ⟨z_2, h⟩ := gb_ck_s h
  refine va_iald hx hb hK hP (k0 + 1) 0 (gb_at b (gb_cB z_1).2) rfl z_2 dX0_boots_12 ?_
  refine lv_topi (fun x_3 ex_3 => ?_)
  replace h := gb_lt_s ex_3 h
  obtain ⟨e1, e2⟩ := gb_eq2 h
  exact W.iret (v := x_3) hx hb hr (fun t ht hW => gb_ri ht ⟨e2, by rw [← e1]; exact hP⟩ hS) hS.2.2 dX0_boots_13
theorem dX0_limps_0 : decode cX0_limps 0 = .ok (.aload_n 0, 1) := by decide +kernel
theorem dX0_limps_1 : decode cX0_limps 1 = .ok (.getfield 11, 3) := by decide +kernel
theorem dX0_limps_4 : decode cX0_limps 4 = .ok (.bipush 18, 2) := by decide +kernel
theorem dX0_limps_6 : decode cX0_limps 6 = .ok (.iload_n 1, 1) := by decide +kernel
theorem dX0_limps_7 : decode cX0_limps 7 = .ok (.iconst 5, 1) := by decide +kernel
theorem dX0_limps_8 : decode cX0_limps 8 = .ok (.imul, 1) := by decide +kernel
theorem dX0_limps_9 : decode cX0_limps 9 = .ok (.iadd, 1) := by decide +kernel
theorem dX0_limps_10 : decode cX0_limps 10 = .ok (.iconst 3, 1) := by decide +kernel
theorem dX0_limps_11 : decode cX0_limps 11 = .ok (.iadd, 1) := by decide +kernel
theorem dX0_limps_12 : decode cX0_limps 12 = .ok (.iaload, 1) := by decide +kernel
theorem dX0_limps_13 : decode cX0_limps 13 = .ok (.iconst 1, 1) := by decide +kernel
theorem dX0_limps_14 : decode cX0_limps 14 = .ok (.if_icmp .ne 7, 3) := by decide +kernel
theorem dX0_limps_21 : decode cX0_limps 21 = .ok (.iconst 0, 1) := by decide +kernel
theorem dX0_limps_22 : decode cX0_limps 22 = .ok (.ireturn, 1) := by decide +kernel
theorem dX0_limps_17 : decode cX0_limps 17 = .ok (.iconst 1, 1) := by decide +kernel
theorem dX0_limps_18 : decode cX0_limps 18 = .ok (.goto 4, 3) := by decide +kernel
def cs_Border_limps_B (n : Nat) (σ : gb_S) (k0 : Nat) (p1 : Int32) : gb_CR Int32 := gb_kk (gb_kB k0) (gb_ck (((18 : Int32) + (p1 * 5)) + 3) 58 (gb_lt ((σ.1 (k0 + 1)) (Int32.toNatClampNeg (((18 : Int32) + (p1 * 5)) + 3))) (fun x_3 => (if x_3 = 1 then some (σ, 1) else some (σ, 0)))))
set_option maxHeartbeats 8000000 in
set_option maxRecDepth 100000 in
theorem cc_Border_limps_B (l : Launch) (D : va_G) (cT : Nat → ClassId) (tt : Nat → Nat) (b1 b : Nat) (hb1 : b1 ≤ b) (n : Nat) (σ : gb_S) (k0 : Nat) (p1 : Int32) (σE : gb_S) (rE : Int32) (h : cs_Border_limps_B n σ k0 p1 = some (σE, rE)) : Met l yX0_limps (.code yX0_limps cX0_limps 2 (some FieldType.boolean) :: gb_wA) ({ frames := 0, cells := 0, slots := 0, locals := 0 }) (gb_Pc D cT tt b1 [.ref (b + k0), .int p1] (fun h => va_P D vwCl (gb_wl b (gb_CW cT b σ)) h)) (gb_Qi (fun r h => r = rE ∧ va_P D vwCl (gb_wl b (gb_CW cT b σE)) h) (gb_fr b 135)) 0 0 (gb_fr b 135) := by
  refine Met.ofW (cc := cX0_limps) (maxL := 2) (ret := (some FieldType.boolean)) (by decide) rfl ?_
  intro p e s m args below meth c s₁ B hml hv
  obtain ⟨rfl, hSt, hP⟩ := hv
  have hx := B.exec
  have hb := B.bytes
  have hr := B.returns
  have hts := atoms_spec (ws := .code yX0_limps cX0_limps 2 (some FieldType.boolean) :: gb_wA) B.pre
  have hq : ∀ w ∈ gb_wA, w.before _ s = true := fun w h => hts w (List.mem_cons_of_mem _ h)
  have hown : s.vm.findClass RX0 = some m.cls := findClass_of_methodNamed B.named
  have hlocks := B.notSynchronized
  clear B hts
  have hK := hSt.1
  have hS : va_S (gb_fr b 135) s.heap s.heap [] := va_S.rf
  have hl := lv_entry ([.ref (b + k0), .int p1]) (n := 2) (Nat.le_of_ble_eq_true rfl)
  rw [lg_entry_eq]
  generalize (lg_sl ([.ref (b + k0), .int p1]) ++ List.replicate (2 - (lg_sl ([.ref (b + k0), .int p1])).length) Slot.unset).toArray = ls at hl ⊢
  replace hl : lv_has ls 2 [(0, .ref (b + k0)), (1, .int p1)] := hl
  unfold cs_Border_limps_B at h
  obtain ⟨z_1, h⟩ := gb_kk_s h
  refine lv_aload_n hx hb dX0_limps_0 rfl (lv_at hl 0 rfl) ?_
  refine va_get (ci := 0) (v := (.ref (b + (k0 + 1)))) (C := RX0) (T := TX0) (N := 1) hx hb hq i_X0 hown hK hP k0 (gb_at b (gb_cB z_1).1) rfl 0 (by decide) (hq _ w_49) (fun x9 h9 => u_same (hq _ w_50) x9 h9) rfl dX0_limps_1 ?_
  refine lv_bipush (v := 18) hx hb dX0_limps_4 (by decide) ?_
  refine lv_iload_n hx hb dX0_limps_6 rfl (lv_at hl 1 rfl) ?_
  refine lv_iconst (v := 5) hx hb dX0_limps_7 (by decide) ?_
  refine lv_imul hx hb dX0_limps_8 ?_
  refine lv_iadd hx hb dX0_limps_9 ?_
  refine lv_iconst (v := 3) hx hb dX0_limps_10 (by decide) ?_
  refine lv_iadd hx hb dX0_limps_11 ?_
  obtain ⟨z_2, h⟩ := gb_ck_s h
  refine va_iald hx hb hK hP (k0 + 1) 0 (gb_at b (gb_cB z_1).2) rfl z_2 dX0_limps_12 ?_
  refine lv_topi (fun x_3 ex_3 => ?_)
  replace h := gb_lt_s ex_3 h
  refine lv_iconst (v := 1) hx hb dX0_limps_13 (by decide) ?_
  refine lv_icmp_ne (tgt := 21) hx hb dX0_limps_14 (by decide) (fun c_4 => ?_) (fun c_4 => ?_)
  · rw [if_neg c_4] at h
    refine lv_iconst (v := 0) hx hb dX0_limps_21 (by decide) ?_
    obtain ⟨e1, e2⟩ := gb_eq2 h
    exact W.zret (v := 0) hx hb hr (by decide) (fun t ht hW => gb_ri ht ⟨e2, by rw [← e1]; exact hP⟩ hS) hS.2.2 dX0_limps_22
  · rw [if_pos c_4] at h
    refine lv_iconst (v := 1) hx hb dX0_limps_17 (by decide) ?_
    refine lv_goto (tgt := 22) hx hb dX0_limps_18 (by decide) ?_
    obtain ⟨e1, e2⟩ := gb_eq2 h
    exact W.zret (v := 1) hx hb hr (by decide) (fun t ht hW => gb_ri ht ⟨e2, by rw [← e1]; exact hP⟩ hS) hS.2.2 dX0_limps_22
theorem dX0_worth_0 : decode cX0_worth 0 = .ok (.aload_n 0, 1) := by decide +kernel
theorem dX0_worth_1 : decode cX0_worth 1 = .ok (.getfield 11, 3) := by decide +kernel
theorem dX0_worth_4 : decode cX0_worth 4 = .ok (.bipush 18, 2) := by decide +kernel
theorem dX0_worth_6 : decode cX0_worth 6 = .ok (.iload_n 1, 1) := by decide +kernel
theorem dX0_worth_7 : decode cX0_worth 7 = .ok (.iconst 5, 1) := by decide +kernel
theorem dX0_worth_8 : decode cX0_worth 8 = .ok (.imul, 1) := by decide +kernel
theorem dX0_worth_9 : decode cX0_worth 9 = .ok (.iadd, 1) := by decide +kernel
theorem dX0_worth_10 : decode cX0_worth 10 = .ok (.iconst 4, 1) := by decide +kernel
theorem dX0_worth_11 : decode cX0_worth 11 = .ok (.iadd, 1) := by decide +kernel
theorem dX0_worth_12 : decode cX0_worth 12 = .ok (.iaload, 1) := by decide +kernel
theorem dX0_worth_13 : decode cX0_worth 13 = .ok (.ireturn, 1) := by decide +kernel
def cs_Border_worth_B (n : Nat) (σ : gb_S) (k0 : Nat) (p1 : Int32) : gb_CR Int32 := gb_kk (gb_kB k0) (gb_ck (((18 : Int32) + (p1 * 5)) + 4) 58 (gb_lt ((σ.1 (k0 + 1)) (Int32.toNatClampNeg (((18 : Int32) + (p1 * 5)) + 4))) (fun x_3 => some (σ, x_3))))
set_option maxHeartbeats 8000000 in
set_option maxRecDepth 100000 in
theorem cc_Border_worth_B (l : Launch) (D : va_G) (cT : Nat → ClassId) (tt : Nat → Nat) (b1 b : Nat) (hb1 : b1 ≤ b) (n : Nat) (σ : gb_S) (k0 : Nat) (p1 : Int32) (σE : gb_S) (rE : Int32) (h : cs_Border_worth_B n σ k0 p1 = some (σE, rE)) : Met l yX0_worth (.code yX0_worth cX0_worth 2 (some FieldType.int) :: gb_wA) ({ frames := 0, cells := 0, slots := 0, locals := 0 }) (gb_Pc D cT tt b1 [.ref (b + k0), .int p1] (fun h => va_P D vwCl (gb_wl b (gb_CW cT b σ)) h)) (gb_Qi (fun r h => r = rE ∧ va_P D vwCl (gb_wl b (gb_CW cT b σE)) h) (gb_fr b 135)) 0 0 (gb_fr b 135) := by
  refine Met.ofW (cc := cX0_worth) (maxL := 2) (ret := (some FieldType.int)) (by decide) rfl ?_
  intro p e s m args below meth c s₁ B hml hv
  obtain ⟨rfl, hSt, hP⟩ := hv
  have hx := B.exec
  have hb := B.bytes
  have hr := B.returns
  have hts := atoms_spec (ws := .code yX0_worth cX0_worth 2 (some FieldType.int) :: gb_wA) B.pre
  have hq : ∀ w ∈ gb_wA, w.before _ s = true := fun w h => hts w (List.mem_cons_of_mem _ h)
  have hown : s.vm.findClass RX0 = some m.cls := findClass_of_methodNamed B.named
  have hlocks := B.notSynchronized
  clear B hts
  have hK := hSt.1
  have hS : va_S (gb_fr b 135) s.heap s.heap [] := va_S.rf
  have hl := lv_entry ([.ref (b + k0), .int p1]) (n := 2) (Nat.le_of_ble_eq_true rfl)
  rw [lg_entry_eq]
  generalize (lg_sl ([.ref (b + k0), .int p1]) ++ List.replicate (2 - (lg_sl ([.ref (b + k0), .int p1])).length) Slot.unset).toArray = ls at hl ⊢
  replace hl : lv_has ls 2 [(0, .ref (b + k0)), (1, .int p1)] := hl
  unfold cs_Border_worth_B at h
  obtain ⟨z_1, h⟩ := gb_kk_s h
  refine lv_aload_n hx hb dX0_worth_0 rfl (lv_at hl 0 rfl) ?_
  refine va_get (ci := 0) (v := (.ref (b + (k0 + 1)))) (C := RX0) (T := TX0) (N := 1) hx hb hq i_X0 hown hK hP k0 (gb_at b (gb_cB z_1).1) rfl 0 (by decide) (hq _ w_49) (fun x9 h9 => u_same (hq _ w_50) x9 h9) rfl dX0_worth_1 ?_
  refine lv_bipush (v := 18) hx hb dX0_worth_4 (by decide) ?_
  refine lv_iload_n hx hb dX0_worth_6 rfl (lv_at hl 1 rfl) ?_
  refine lv_iconst (v := 5) hx hb dX0_worth_7 (by decide) ?_
  refine lv_imul hx hb dX0_worth_8 ?_
  refine lv_iadd hx hb dX0_worth_9 ?_
  refine lv_iconst (v := 4) hx hb dX0_worth_10 (by decide) ?_
  refine lv_iadd hx hb dX0_worth_11 ?_
  obtain ⟨z_2, h⟩ := gb_ck_s h
  refine va_iald hx hb hK hP (k0 + 1) 0 (gb_at b (gb_cB z_1).2) rfl z_2 dX0_worth_12 ?_
  refine lv_topi (fun x_3 ex_3 => ?_)
  replace h := gb_lt_s ex_3 h
  obtain ⟨e1, e2⟩ := gb_eq2 h
  exact W.iret (v := x_3) hx hb hr (fun t ht hW => gb_ri ht ⟨e2, by rw [← e1]; exact hP⟩ hS) hS.2.2 dX0_worth_13
theorem dX0_worthOf_0 : decode cX0_worthOf 0 = .ok (.iconst 0, 1) := by decide +kernel
theorem dX0_worthOf_1 : decode cX0_worthOf 1 = .ok (.istore_n 2, 1) := by decide +kernel
theorem dX0_worthOf_2 : decode cX0_worthOf 2 = .ok (.iconst 0, 1) := by decide +kernel
theorem dX0_worthOf_3 : decode cX0_worthOf 3 = .ok (.istore_n 3, 1) := by decide +kernel
theorem dX0_worthOf_4 : decode cX0_worthOf 4 = .ok (.iload_n 3, 1) := by decide +kernel
theorem dX0_worthOf_5 : decode cX0_worthOf 5 = .ok (.aload_n 0, 1) := by decide +kernel
theorem dX0_worthOf_6 : decode cX0_worthOf 6 = .ok (.invokevirtual 19, 3) := by decide +kernel
theorem dX0_worthOf_9 : decode cX0_worthOf 9 = .ok (.if_icmp .ge 26, 3) := by decide +kernel
theorem dX0_worthOf_35 : decode cX0_worthOf 35 = .ok (.iload_n 2, 1) := by decide +kernel
theorem dX0_worthOf_36 : decode cX0_worthOf 36 = .ok (.ireturn, 1) := by decide +kernel
theorem dX0_worthOf_12 : decode cX0_worthOf 12 = .ok (.iload_n 1, 1) := by decide +kernel
theorem dX0_worthOf_13 : decode cX0_worthOf 13 = .ok (.iload_n 3, 1) := by decide +kernel
theorem dX0_worthOf_14 : decode cX0_worthOf 14 = .ok (.ishr, 1) := by decide +kernel
theorem dX0_worthOf_15 : decode cX0_worthOf 15 = .ok (.iconst 1, 1) := by decide +kernel
theorem dX0_worthOf_16 : decode cX0_worthOf 16 = .ok (.iand, 1) := by decide +kernel
theorem dX0_worthOf_17 : decode cX0_worthOf 17 = .ok (.iconst 1, 1) := by decide +kernel
theorem dX0_worthOf_18 : decode cX0_worthOf 18 = .ok (.if_icmp .ne 11, 3) := by decide +kernel
theorem dX0_worthOf_29 : decode cX0_worthOf 29 = .ok (.iinc 3 1, 3) := by decide +kernel
theorem dX0_worthOf_32 : decode cX0_worthOf 32 = .ok (.goto (-28), 3) := by decide +kernel
theorem dX0_worthOf_21 : decode cX0_worthOf 21 = .ok (.iload_n 2, 1) := by decide +kernel
theorem dX0_worthOf_22 : decode cX0_worthOf 22 = .ok (.aload_n 0, 1) := by decide +kernel
theorem dX0_worthOf_23 : decode cX0_worthOf 23 = .ok (.iload_n 3, 1) := by decide +kernel
theorem dX0_worthOf_24 : decode cX0_worthOf 24 = .ok (.invokevirtual 38, 3) := by decide +kernel
theorem w_807 : (Cond.code ({ cls := "GooseBorder$Border", name := "worth", desc := "(I)I" } : MethodName) prog_2_method_18_code (2 : Nat) (Option.some FieldType.int)) ∈ gb_wA := gb_t4 87 rfl rfl
theorem w_804 : (Cond.methodLink "GooseBorder$Border" (38 : Nat) ({ cls := "GooseBorder$Border", name := "worth", desc := "(I)I" } : MethodName)) ∈ gb_wA := gb_t4 84 rfl rfl
theorem w_805 : (Cond.instanceMethod ({ cls := "GooseBorder$Border", name := "worth", desc := "(I)I" } : MethodName)) ∈ gb_wA := gb_t4 85 rfl rfl
theorem w_806 : (Cond.selects "GooseBorder$Border" ({ cls := "GooseBorder$Border", name := "worth", desc := "(I)I" } : MethodName) ({ cls := "GooseBorder$Border", name := "worth", desc := "(I)I" } : MethodName)) ∈ gb_wA := gb_t4 86 rfl rfl
theorem dX0_worthOf_27 : decode cX0_worthOf 27 = .ok (.iadd, 1) := by decide +kernel
theorem dX0_worthOf_28 : decode cX0_worthOf 28 = .ok (.istore_n 2, 1) := by decide +kernel
def cs_Border_worthOf_B_4 (n : Nat) : Nat → gb_S → Nat → Int32 → Int32 → Int32 → gb_CR Int32
  | 0, _, _, _, _, _ => none
  | mm + 1, σ, v0, v1, v2, v3 => gb_kk (gb_kB v0) (gb_cd (cs_Border_geese_B n σ v0) (fun s_3 r_4 => (if r_4 ≤ v3 then some (s_3, v2) else (if ((v1 >>> (v3 &&& 31)) &&& 1) = 1 then gb_cd (cs_Border_worth_B n s_3 v0 v3) (fun s_10 r_11 => gb_lt (v2 + r_11) (fun x_14 => gb_lt (v3 + 1) (fun x_15 => cs_Border_worthOf_B_4 n mm s_10 v0 v1 x_14 x_15))) else gb_lt (v3 + 1) (fun x_9 => cs_Border_worthOf_B_4 n mm s_3 v0 v1 v2 x_9)))))
def cs_Border_worthOf_B (n : Nat) (σ : gb_S) (k0 : Nat) (p1 : Int32) : gb_CR Int32 := gb_kk (gb_kB k0) (cs_Border_worthOf_B_4 n n σ k0 p1 0 0)
set_option maxHeartbeats 8000000 in
set_option maxRecDepth 100000 in
theorem cc_Border_worthOf_B (l : Launch) (D : va_G) (cT : Nat → ClassId) (tt : Nat → Nat) (b1 b : Nat) (hb1 : b1 ≤ b) (n : Nat) (σ : gb_S) (k0 : Nat) (p1 : Int32) (σE : gb_S) (rE : Int32) (h : cs_Border_worthOf_B n σ k0 p1 = some (σE, rE)) : Met l yX0_worthOf (.code yX0_worthOf cX0_worthOf 4 (some FieldType.int) :: gb_wA) ({ frames := 1, cells := 0, slots := 0, locals := 21 }) (gb_Pc D cT tt b1 [.ref (b + k0), .int p1] (fun h => va_P D vwCl (gb_wl b (gb_CW cT b σ)) h)) (gb_Qi (fun r h => r = rE ∧ va_P D vwCl (gb_wl b (gb_CW cT b σE)) h) (gb_fr b 135)) 0 0 (gb_fr b 135) := by
  refine Met.ofW (cc := cX0_worthOf) (maxL := 4) (ret := (some FieldType.int)) (by decide) rfl ?_
  intro p e s m args below meth c s₁ B hml hv
  obtain ⟨rfl, hSt, hP⟩ := hv
  have hx := B.exec
  have hb := B.bytes
  have hr := B.returns
  have hts := atoms_spec (ws := .code yX0_worthOf cX0_worthOf 4 (some FieldType.int) :: gb_wA) B.pre
  have hq : ∀ w ∈ gb_wA, w.before _ s = true := fun w h => hts w (List.mem_cons_of_mem _ h)
  have hown : s.vm.findClass RX0 = some m.cls := findClass_of_methodNamed B.named
  have hlocks := B.notSynchronized
  clear B hts
  have hK := hSt.1
  have hS : va_S (gb_fr b 135) s.heap s.heap [] := va_S.rf
  have hl := lv_entry ([.ref (b + k0), .int p1]) (n := 4) (Nat.le_of_ble_eq_true rfl)
  rw [lg_entry_eq]
  generalize (lg_sl ([.ref (b + k0), .int p1]) ++ List.replicate (4 - (lg_sl ([.ref (b + k0), .int p1])).length) Slot.unset).toArray = ls at hl ⊢
  replace hl : lv_has ls 4 [(0, .ref (b + k0)), (1, .int p1)] := hl
  have L4_1 : ∀ (mm : Nat) (σ : gb_S) (v0 : Nat) (v1 : Int32) (v2 : Int32) (v3 : Int32) (H : Heap) (locs : List Loc) (ls : Array Slot), cs_Border_worthOf_B_4 n mm σ v0 v1 v2 v3 = some (σE, rE) → va_P D vwCl (gb_wl b (gb_CW cT b σ)) H → va_S (gb_fr b 135) s.heap H locs → lv_has ls 4 [(0, .ref (b + v0)), (1, .int v1), (2, .int v2), (3, .int v3)] → W p l e (headSpec (.code yX0_worthOf cX0_worthOf 4 (some FieldType.int) :: gb_wA) ({ frames := 1, cells := 0, slots := 0, locals := 21 })).room s m ([.ref (b + k0), .int p1]).toArray below meth c H locs 0 0 (MQ below (gb_Qi (fun r h => r = rE ∧ va_P D vwCl (gb_wl b (gb_CW cT b σE)) h) (gb_fr b 135)) ([.ref (b + k0), .int p1]).toArray s 0 0 (gb_fr b 135)) (F0 m 4 ls []) := by
    clear h hP hS hl ls
    intro mm
    induction mm with
    | zero =>
      intro σ v0 v1 v2 v3 H locs ls h
      cases h
    | succ mm ih =>
      intro σ v0 v1 v2 v3 H locs ls h hP hS hl
      rw [cs_Border_worthOf_B_4] at h
      obtain ⟨z_2, h⟩ := gb_kk_s h
      refine lv_iload_n hx hb dX0_worthOf_4 rfl (lv_at hl 3 rfl) ?_
      refine lv_aload_n hx hb dX0_worthOf_5 rfl (lv_at hl 0 rfl) ?_
      obtain ⟨s_3, r_4, z_5, h⟩ := gb_cd_s h
      refine gb_calli (va_runV (C := RX0) (As := []) (rest := [.int v3]) ⟨hx, hb, hml, hown, hq⟩ (cc_Border_geese_B l D cT tt b1 b hb1 n σ v0 s_3 r_4 z_5) (cwV 0 hq (gb_gV w_476 w_477 w_478 w_4 w_479) rfl rfl rfl (by decide +kernel) ⟨Nat.le_of_ble_eq_true rfl, Nat.le_of_ble_eq_true rfl⟩) (gb_preV (r := (RX0, TX0, 1)) (ci := 0) (q0 := v0) hSt hP rfl (gb_at b (gb_cB z_2).1) hS (fun q h => Nat.le_trans hb1 h.1) hP) rfl rfl hl.1 rfl (lv_room (Nat.le_of_ble_eq_true rfl)) dX0_worthOf_6 ⟨Nat.le_of_ble_eq_true rfl, Nat.le_of_ble_eq_true rfl⟩) hS (fun _ h => h) (fun _ h => h) (fun q_6 H locs hY hk hS => ?_)
      obtain ⟨hq_6, hP⟩ := hY
      replace hq_6 := hq_6.symm
      subst hq_6
      refine lv_icmp_ge (tgt := 35) hx hb dX0_worthOf_9 (by decide) (fun c_7 => ?_) (fun c_7 => ?_)
      · rw [if_pos c_7] at h
        refine lv_iload_n hx hb dX0_worthOf_35 rfl (lv_at hl 2 rfl) ?_
        obtain ⟨e1, e2⟩ := gb_eq2 h
        exact W.iret (v := v2) hx hb hr (fun t ht hW => gb_ri ht ⟨e2, by rw [← e1]; exact hP⟩ hS) hS.2.2 dX0_worthOf_36
      · rw [if_neg c_7] at h
        refine lv_iload_n hx hb dX0_worthOf_12 rfl (lv_at hl 1 rfl) ?_
        refine lv_iload_n hx hb dX0_worthOf_13 rfl (lv_at hl 3 rfl) ?_
        refine lv_ishr hx hb dX0_worthOf_14 ?_
        refine lv_iconst (v := 1) hx hb dX0_worthOf_15 (by decide) ?_
        refine lv_iand hx hb dX0_worthOf_16 ?_
        refine lv_iconst (v := 1) hx hb dX0_worthOf_17 (by decide) ?_
        refine lv_icmp_ne (tgt := 29) hx hb dX0_worthOf_18 (by decide) (fun c_8 => ?_) (fun c_8 => ?_)
        · rw [if_neg c_8] at h
          obtain ⟨x_9, ex_9⟩ : ∃ q, q = (v3 + 1) := ⟨_, rfl⟩
          replace h := gb_lt_s ex_9 h
          refine lv_iinc (v := x_9) (lv' := [(3, .int x_9), (0, .ref (b + v0)), (1, .int v1), (2, .int v2)]) hx hb dX0_worthOf_29 hl (k := 3) rfl (by rw [ex_9]; rfl) (by decide) rfl (fun ls hl => ?_)
          refine lv_goto (tgt := 4) hx hb dX0_worthOf_32 (by decide) ?_
          exact ih _ _ _ _ _ _ _ _ h hP hS (lv_sub hl [1, 2, 3, 0] rfl)
        · rw [if_pos c_8] at h
          refine lv_iload_n hx hb dX0_worthOf_21 rfl (lv_at hl 2 rfl) ?_
          refine lv_aload_n hx hb dX0_worthOf_22 rfl (lv_at hl 0 rfl) ?_
          refine lv_iload_n hx hb dX0_worthOf_23 rfl (lv_at hl 3 rfl) ?_
          obtain ⟨s_10, r_11, z_12, h⟩ := gb_cd_s h
          refine gb_calli (va_runV (C := RX0) (As := [.int v3]) (rest := [.int v2]) ⟨hx, hb, hml, hown, hq⟩ (cc_Border_worth_B l D cT tt b1 b hb1 n s_3 v0 v3 s_10 r_11 z_12) (cwV 1 hq (gb_gV w_804 w_805 w_806 w_4 w_807) rfl rfl rfl (by decide +kernel) ⟨Nat.le_of_ble_eq_true rfl, Nat.le_of_ble_eq_true rfl⟩) (gb_preV (r := (RX0, TX0, 1)) (ci := 0) (q0 := v0) hSt hP rfl (gb_at b (gb_cB z_2).1) hS (fun q h => Nat.le_trans hb1 h.1) hP) rfl rfl hl.1 rfl (lv_room (Nat.le_of_ble_eq_true rfl)) dX0_worthOf_24 ⟨Nat.le_of_ble_eq_true rfl, Nat.le_of_ble_eq_true rfl⟩) hS (fun _ h => h) (fun _ h => h) (fun q_13 H locs hY hk hS => ?_)
          obtain ⟨hq_13, hP⟩ := hY
          replace hq_13 := hq_13.symm
          subst hq_13
          refine lv_iadd hx hb dX0_worthOf_27 ?_
          refine lv_topi (fun x_14 ex_14 => ?_)
          replace h := gb_lt_s ex_14 h
          refine lv_istore_n (lv' := [(2, .int x_14), (0, .ref (b + v0)), (1, .int v1), (3, .int v3)]) hx hb dX0_worthOf_28 rfl hl (by decide) rfl (fun ls hl => ?_)
          obtain ⟨x_15, ex_15⟩ : ∃ q, q = (v3 + 1) := ⟨_, rfl⟩
          replace h := gb_lt_s ex_15 h
          refine lv_iinc (v := x_15) (lv' := [(3, .int x_15), (2, .int x_14), (0, .ref (b + v0)), (1, .int v1)]) hx hb dX0_worthOf_29 hl (k := 3) rfl (by rw [ex_15]; rfl) (by decide) rfl (fun ls hl => ?_)
          refine lv_goto (tgt := 4) hx hb dX0_worthOf_32 (by decide) ?_
          exact ih _ _ _ _ _ _ _ _ h hP hS (lv_sub hl [2, 3, 1, 0] rfl)
  unfold cs_Border_worthOf_B at h
  obtain ⟨z_1, h⟩ := gb_kk_s h
  refine lv_iconst (v := 0) hx hb dX0_worthOf_0 (by decide) ?_
  refine lv_istore_n (lv' := [(2, .int 0), (0, .ref (b + k0)), (1, .int p1)]) hx hb dX0_worthOf_1 rfl hl (by decide) rfl (fun ls hl => ?_)
  refine lv_iconst (v := 0) hx hb dX0_worthOf_2 (by decide) ?_
  refine lv_istore_n (lv' := [(3, .int 0), (2, .int 0), (0, .ref (b + k0)), (1, .int p1)]) hx hb dX0_worthOf_3 rfl hl (by decide) rfl (fun ls hl => ?_)
  exact L4_1 n _ _ _ _ _ _ _ _ h hP hS (lv_sub hl [2, 3, 1, 0] rfl)
theorem dX0_marksFirst_0 : decode cX0_marksFirst 0 = .ok (.aload_n 0, 1) := by decide +kernel
theorem dX0_marksFirst_1 : decode cX0_marksFirst 1 = .ok (.iload_n 1, 1) := by decide +kernel
theorem dX0_marksFirst_2 : decode cX0_marksFirst 2 = .ok (.aload_n 0, 1) := by decide +kernel
theorem dX0_marksFirst_3 : decode cX0_marksFirst 3 = .ok (.iload_n 2, 1) := by decide +kernel
theorem dX0_marksFirst_4 : decode cX0_marksFirst 4 = .ok (.invokevirtual 42, 3) := by decide +kernel
theorem w_624 : (Cond.code ({ cls := "GooseBorder$Border", name := "miles", desc := "(I)I" } : MethodName) prog_2_method_12_code (2 : Nat) (Option.some FieldType.int)) ∈ gb_wA := gb_t3 144 rfl rfl
theorem w_902 : (Cond.methodLink "GooseBorder$Border" (42 : Nat) ({ cls := "GooseBorder$Border", name := "miles", desc := "(I)I" } : MethodName)) ∈ gb_wA := gb_t4 182 rfl rfl
theorem w_622 : (Cond.instanceMethod ({ cls := "GooseBorder$Border", name := "miles", desc := "(I)I" } : MethodName)) ∈ gb_wA := gb_t3 142 rfl rfl
theorem w_623 : (Cond.selects "GooseBorder$Border" ({ cls := "GooseBorder$Border", name := "miles", desc := "(I)I" } : MethodName) ({ cls := "GooseBorder$Border", name := "miles", desc := "(I)I" } : MethodName)) ∈ gb_wA := gb_t3 143 rfl rfl
theorem dX0_marksFirst_7 : decode cX0_marksFirst 7 = .ok (.aload_n 0, 1) := by decide +kernel
theorem dX0_marksFirst_8 : decode cX0_marksFirst 8 = .ok (.iload_n 1, 1) := by decide +kernel
theorem dX0_marksFirst_9 : decode cX0_marksFirst 9 = .ok (.invokevirtual 45, 3) := by decide +kernel
theorem w_628 : (Cond.code ({ cls := "GooseBorder$Border", name := "boots", desc := "(I)I" } : MethodName) prog_2_method_16_code (2 : Nat) (Option.some FieldType.int)) ∈ gb_wA := gb_t3 148 rfl rfl
theorem w_903 : (Cond.methodLink "GooseBorder$Border" (45 : Nat) ({ cls := "GooseBorder$Border", name := "boots", desc := "(I)I" } : MethodName)) ∈ gb_wA := gb_t4 183 rfl rfl
theorem w_626 : (Cond.instanceMethod ({ cls := "GooseBorder$Border", name := "boots", desc := "(I)I" } : MethodName)) ∈ gb_wA := gb_t3 146 rfl rfl
theorem w_627 : (Cond.selects "GooseBorder$Border" ({ cls := "GooseBorder$Border", name := "boots", desc := "(I)I" } : MethodName) ({ cls := "GooseBorder$Border", name := "boots", desc := "(I)I" } : MethodName)) ∈ gb_wA := gb_t3 147 rfl rfl
theorem dX0_marksFirst_12 : decode cX0_marksFirst 12 = .ok (.iconst 0, 1) := by decide +kernel
theorem dX0_marksFirst_13 : decode cX0_marksFirst 13 = .ok (.invokevirtual 48, 3) := by decide +kernel
theorem dX0_marksOver_0 : decode cX0_marksOver 0 = .ok (.iload_n 2, 1) := by decide +kernel
theorem dX0_marksOver_1 : decode cX0_marksOver 1 = .ok (.iload_n 3, 1) := by decide +kernel
theorem dX0_marksOver_2 : decode cX0_marksOver 2 = .ok (.invokestatic 52, 3) := by decide +kernel
theorem w_633 : (Cond.methodLink "GooseBorder$Border" (52 : Nat) ({ cls := "java/lang/Math", name := "min", desc := "(II)I" } : MethodName)) ∈ gb_wA := gb_t3 153 rfl rfl
theorem w_367 : (Cond.static ({ cls := "java/lang/Math", name := "min", desc := "(II)I" } : MethodName)) ∈ gb_wA := gb_t2 127 rfl rfl
theorem w_368 : (Cond.code ({ cls := "java/lang/Math", name := "min", desc := "(II)I" } : MethodName) prog_16_method_69_code (2 : Nat) (Option.some FieldType.int)) ∈ gb_wA := gb_t2 128 rfl rfl
theorem dX0_marksOver_5 : decode cX0_marksOver 5 = .ok (.istore 5, 2) := by decide +kernel
theorem dX0_marksOver_7 : decode cX0_marksOver 7 = .ok (.iload 4, 2) := by decide +kernel
theorem dX0_marksOver_9 : decode cX0_marksOver 9 = .ok (.ifCond .eq 7, 3) := by decide +kernel
theorem dX0_marksOver_16 : decode cX0_marksOver 16 = .ok (.iconst 2, 1) := by decide +kernel
theorem dX0_marksOver_17 : decode cX0_marksOver 17 = .ok (.iload 5, 2) := by decide +kernel
theorem dX0_marksOver_19 : decode cX0_marksOver 19 = .ok (.imul, 1) := by decide +kernel
theorem dX0_marksOver_20 : decode cX0_marksOver 20 = .ok (.aload_n 0, 1) := by decide +kernel
theorem dX0_marksOver_21 : decode cX0_marksOver 21 = .ok (.iload_n 1, 1) := by decide +kernel
theorem dX0_marksOver_22 : decode cX0_marksOver 22 = .ok (.invokevirtual 58, 3) := by decide +kernel
theorem w_637 : (Cond.code ({ cls := "GooseBorder$Border", name := "toes", desc := "(I)I" } : MethodName) prog_2_method_15_code (3 : Nat) (Option.some FieldType.int)) ∈ gb_wA := gb_t3 157 rfl rfl
theorem w_634 : (Cond.methodLink "GooseBorder$Border" (58 : Nat) ({ cls := "GooseBorder$Border", name := "toes", desc := "(I)I" } : MethodName)) ∈ gb_wA := gb_t3 154 rfl rfl
theorem w_635 : (Cond.instanceMethod ({ cls := "GooseBorder$Border", name := "toes", desc := "(I)I" } : MethodName)) ∈ gb_wA := gb_t3 155 rfl rfl
theorem w_636 : (Cond.selects "GooseBorder$Border" ({ cls := "GooseBorder$Border", name := "toes", desc := "(I)I" } : MethodName) ({ cls := "GooseBorder$Border", name := "toes", desc := "(I)I" } : MethodName)) ∈ gb_wA := gb_t3 156 rfl rfl
theorem dX0_marksOver_25 : decode cX0_marksOver 25 = .ok (.iload_n 2, 1) := by decide +kernel
theorem dX0_marksOver_26 : decode cX0_marksOver 26 = .ok (.iload 5, 2) := by decide +kernel
theorem dX0_marksOver_28 : decode cX0_marksOver 28 = .ok (.isub, 1) := by decide +kernel
theorem dX0_marksOver_29 : decode cX0_marksOver 29 = .ok (.imul, 1) := by decide +kernel
theorem dX0_marksOver_30 : decode cX0_marksOver 30 = .ok (.iadd, 1) := by decide +kernel
theorem dX0_marksOver_31 : decode cX0_marksOver 31 = .ok (.istore 6, 2) := by decide +kernel
theorem dX0_marksOver_33 : decode cX0_marksOver 33 = .ok (.aload_n 0, 1) := by decide +kernel
theorem dX0_marksOver_34 : decode cX0_marksOver 34 = .ok (.iload_n 1, 1) := by decide +kernel
theorem dX0_marksOver_35 : decode cX0_marksOver 35 = .ok (.invokevirtual 61, 3) := by decide +kernel
theorem w_641 : (Cond.code ({ cls := "GooseBorder$Border", name := "limps", desc := "(I)Z" } : MethodName) prog_2_method_17_code (2 : Nat) (Option.some FieldType.boolean)) ∈ gb_wA := gb_t3 161 rfl rfl
theorem w_638 : (Cond.methodLink "GooseBorder$Border" (61 : Nat) ({ cls := "GooseBorder$Border", name := "limps", desc := "(I)Z" } : MethodName)) ∈ gb_wA := gb_t3 158 rfl rfl
theorem w_639 : (Cond.instanceMethod ({ cls := "GooseBorder$Border", name := "limps", desc := "(I)Z" } : MethodName)) ∈ gb_wA := gb_t3 159 rfl rfl
theorem w_640 : (Cond.selects "GooseBorder$Border" ({ cls := "GooseBorder$Border", name := "limps", desc := "(I)Z" } : MethodName) ({ cls := "GooseBorder$Border", name := "limps", desc := "(I)Z" } : MethodName)) ∈ gb_wA := gb_t3 160 rfl rfl
theorem dX0_marksOver_38 : decode cX0_marksOver 38 = .ok (.ifCond .eq 10, 3) := by decide +kernel
theorem dX0_marksOver_48 : decode cX0_marksOver 48 = .ok (.iload 6, 2) := by decide +kernel
theorem dX0_marksOver_50 : decode cX0_marksOver 50 = .ok (.ireturn, 1) := by decide +kernel
theorem dX0_marksOver_41 : decode cX0_marksOver 41 = .ok (.iconst 2, 1) := by decide +kernel
theorem dX0_marksOver_42 : decode cX0_marksOver 42 = .ok (.iload 6, 2) := by decide +kernel
theorem dX0_marksOver_44 : decode cX0_marksOver 44 = .ok (.imul, 1) := by decide +kernel
theorem dX0_marksOver_45 : decode cX0_marksOver 45 = .ok (.goto 5, 3) := by decide +kernel
theorem dX0_marksOver_12 : decode cX0_marksOver 12 = .ok (.iconst 0, 1) := by decide +kernel
theorem dX0_marksOver_13 : decode cX0_marksOver 13 = .ok (.goto 7, 3) := by decide +kernel
def cs_Border_marksOver_B_20 (n : Nat) (σ : gb_S) (v0 : Nat) (v1 : Int32) (v2 : Int32) (v5 : Int32) (t0 : Int32) : gb_CR Int32 := gb_kk (gb_kB v0) (gb_cd (cs_Border_toes_B n σ v0 v1) (fun s_5 r_6 => gb_lt (t0 + (r_6 * (v2 - v5))) (fun x_9 => gb_cd (cs_Border_limps_B n s_5 v0 v1) (fun s_10 r_11 => (if r_11 = 0 then some (s_10, x_9) else some (s_10, ((2 : Int32) * x_9)))))))
def cs_Border_marksOver_B (n : Nat) (σ : gb_S) (k0 : Nat) (p1 : Int32) (p2 : Int32) (p3 : Int32) (p4 : Int32) : gb_CR Int32 := gb_kk (gb_kB k0) (gb_lt (if p3 < p2 then p3 else p2) (fun x_2 => (if p4 = 0 then cs_Border_marksOver_B_20 n σ k0 p1 p2 x_2 ((2 : Int32) * x_2) else cs_Border_marksOver_B_20 n σ k0 p1 p2 x_2 0)))
set_option maxHeartbeats 8000000 in
set_option maxRecDepth 100000 in
theorem cc_Border_marksOver_B (l : Launch) (D : va_G) (cT : Nat → ClassId) (tt : Nat → Nat) (b1 b : Nat) (hb1 : b1 ≤ b) (n : Nat) (σ : gb_S) (k0 : Nat) (p1 : Int32) (p2 : Int32) (p3 : Int32) (p4 : Int32) (σE : gb_S) (rE : Int32) (h : cs_Border_marksOver_B n σ k0 p1 p2 p3 p4 = some (σE, rE)) : Met l yX0_marksOver (.code yX0_marksOver cX0_marksOver 7 (some FieldType.int) :: gb_wA) ({ frames := 1, cells := 0, slots := 0, locals := 22 }) (gb_Pc D cT tt b1 [.ref (b + k0), .int p1, .int p2, .int p3, .int p4] (fun h => va_P D vwCl (gb_wl b (gb_CW cT b σ)) h)) (gb_Qi (fun r h => r = rE ∧ va_P D vwCl (gb_wl b (gb_CW cT b σE)) h) (gb_fr b 135)) 0 0 (gb_fr b 135) := by
  refine Met.ofW (cc := cX0_marksOver) (maxL := 7) (ret := (some FieldType.int)) (by decide) rfl ?_
  intro p e s m args below meth c s₁ B hml hv
  obtain ⟨rfl, hSt, hP⟩ := hv
  have hx := B.exec
  have hb := B.bytes
  have hr := B.returns
  have hts := atoms_spec (ws := .code yX0_marksOver cX0_marksOver 7 (some FieldType.int) :: gb_wA) B.pre
  have hq : ∀ w ∈ gb_wA, w.before _ s = true := fun w h => hts w (List.mem_cons_of_mem _ h)
  have hown : s.vm.findClass RX0 = some m.cls := findClass_of_methodNamed B.named
  have hlocks := B.notSynchronized
  clear B hts
  have hK := hSt.1
  have hS : va_S (gb_fr b 135) s.heap s.heap [] := va_S.rf
  have hl := lv_entry ([.ref (b + k0), .int p1, .int p2, .int p3, .int p4]) (n := 7) (Nat.le_of_ble_eq_true rfl)
  rw [lg_entry_eq]
  generalize (lg_sl ([.ref (b + k0), .int p1, .int p2, .int p3, .int p4]) ++ List.replicate (7 - (lg_sl ([.ref (b + k0), .int p1, .int p2, .int p3, .int p4])).length) Slot.unset).toArray = ls at hl ⊢
  replace hl : lv_has ls 7 [(0, .ref (b + k0)), (1, .int p1), (2, .int p2), (3, .int p3), (4, .int p4)] := hl
  have L20_1 : ∀ (σ : gb_S) (v0 : Nat) (v1 : Int32) (v2 : Int32) (v5 : Int32) (t0 : Int32) (H : Heap) (locs : List Loc) (ls : Array Slot), cs_Border_marksOver_B_20 n σ v0 v1 v2 v5 t0 = some (σE, rE) → va_P D vwCl (gb_wl b (gb_CW cT b σ)) H → va_S (gb_fr b 135) s.heap H locs → lv_has ls 7 [(0, .ref (b + v0)), (1, .int v1), (2, .int v2), (5, .int v5)] → W p l e (headSpec (.code yX0_marksOver cX0_marksOver 7 (some FieldType.int) :: gb_wA) ({ frames := 1, cells := 0, slots := 0, locals := 22 })).room s m ([.ref (b + k0), .int p1, .int p2, .int p3, .int p4]).toArray below meth c H locs 0 0 (MQ below (gb_Qi (fun r h => r = rE ∧ va_P D vwCl (gb_wl b (gb_CW cT b σE)) h) (gb_fr b 135)) ([.ref (b + k0), .int p1, .int p2, .int p3, .int p4]).toArray s 0 0 (gb_fr b 135)) (F0 m 20 ls [.int t0]) := by
    clear h hP hS hl ls
    intro σ v0 v1 v2 v5 t0 H locs ls h hP hS hl
    unfold cs_Border_marksOver_B_20 at h
    obtain ⟨z_4, h⟩ := gb_kk_s h
    refine lv_aload_n hx hb dX0_marksOver_20 rfl (lv_at hl 0 rfl) ?_
    refine lv_iload_n hx hb dX0_marksOver_21 rfl (lv_at hl 1 rfl) ?_
    obtain ⟨s_5, r_6, z_7, h⟩ := gb_cd_s h
    refine gb_calli (va_runV (C := RX0) (As := [.int v1]) (rest := [.int t0]) ⟨hx, hb, hml, hown, hq⟩ (cc_Border_toes_B l D cT tt b1 b hb1 n σ v0 v1 s_5 r_6 z_7) (cwV 1 hq (gb_gV w_634 w_635 w_636 w_4 w_637) rfl rfl rfl (by decide +kernel) ⟨Nat.le_of_ble_eq_true rfl, Nat.le_of_ble_eq_true rfl⟩) (gb_preV (r := (RX0, TX0, 1)) (ci := 0) (q0 := v0) hSt hP rfl (gb_at b (gb_cB z_4).1) hS (fun q h => Nat.le_trans hb1 h.1) hP) rfl rfl hl.1 rfl (lv_room (Nat.le_of_ble_eq_true rfl)) dX0_marksOver_22 ⟨Nat.le_of_ble_eq_true rfl, Nat.le_of_ble_eq_true rfl⟩) hS (fun _ h => h) (fun _ h => h) (fun q_8 H locs hY hk hS => ?_)
    obtain ⟨hq_8, hP⟩ := hY
    replace hq_8 := hq_8.symm
    subst hq_8
    refine lv_iload_n hx hb dX0_marksOver_25 rfl (lv_at hl 2 rfl) ?_
    refine lv_iload hx hb dX0_marksOver_26 (lv_at hl 3 rfl) ?_
    refine lv_isub hx hb dX0_marksOver_28 ?_
    refine lv_imul hx hb dX0_marksOver_29 ?_
    refine lv_iadd hx hb dX0_marksOver_30 ?_
    refine lv_topi (fun x_9 ex_9 => ?_)
    replace h := gb_lt_s ex_9 h
    refine lv_istore (lv' := [(6, .int x_9), (0, .ref (b + v0)), (1, .int v1), (2, .int v2), (5, .int v5)]) hx hb dX0_marksOver_31 hl (by decide) rfl (fun ls hl => ?_)
    refine lv_aload_n hx hb dX0_marksOver_33 rfl (lv_at hl 1 rfl) ?_
    refine lv_iload_n hx hb dX0_marksOver_34 rfl (lv_at hl 2 rfl) ?_
    obtain ⟨s_10, r_11, z_12, h⟩ := gb_cd_s h
    refine gb_calli (va_runV (C := RX0) (As := [.int v1]) (rest := []) ⟨hx, hb, hml, hown, hq⟩ (cc_Border_limps_B l D cT tt b1 b hb1 n s_5 v0 v1 s_10 r_11 z_12) (cwV 1 hq (gb_gV w_638 w_639 w_640 w_4 w_641) rfl rfl rfl (by decide +kernel) ⟨Nat.le_of_ble_eq_true rfl, Nat.le_of_ble_eq_true rfl⟩) (gb_preV (r := (RX0, TX0, 1)) (ci := 0) (q0 := v0) hSt hP rfl (gb_at b (gb_cB z_4).1) hS (fun q h => Nat.le_trans hb1 h.1) hP) rfl rfl hl.1 rfl (lv_room (Nat.le_of_ble_eq_true rfl)) dX0_marksOver_35 ⟨Nat.le_of_ble_eq_true rfl, Nat.le_of_ble_eq_true rfl⟩) hS (fun _ h => h) (fun _ h => h) (fun q_13 H locs hY hk hS => ?_)
    obtain ⟨hq_13, hP⟩ := hY
    replace hq_13 := hq_13.symm
    subst hq_13
    refine lv_if_eq (tgt := 48) hx hb dX0_marksOver_38 (by decide) (fun c_14 => ?_) (fun c_14 => ?_)
    · rw [if_pos c_14] at h
      refine lv_iload hx hb dX0_marksOver_48 (lv_at hl 0 rfl) ?_
      obtain ⟨e1, e2⟩ := gb_eq2 h
      exact W.iret (v := x_9) hx hb hr (fun t ht hW => gb_ri ht ⟨e2, by rw [← e1]; exact hP⟩ hS) hS.2.2 dX0_marksOver_50
    · rw [if_neg c_14] at h
      refine lv_iconst (v := 2) hx hb dX0_marksOver_41 (by decide) ?_
      refine lv_iload hx hb dX0_marksOver_42 (lv_at hl 0 rfl) ?_
      refine lv_imul hx hb dX0_marksOver_44 ?_
      refine lv_goto (tgt := 50) hx hb dX0_marksOver_45 (by decide) ?_
      obtain ⟨e1, e2⟩ := gb_eq2 h
      exact W.iret (v := ((2 : Int32) * x_9)) hx hb hr (fun t ht hW => gb_ri ht ⟨e2, by rw [← e1]; exact hP⟩ hS) hS.2.2 dX0_marksOver_50
  unfold cs_Border_marksOver_B at h
  obtain ⟨z_1, h⟩ := gb_kk_s h
  refine lv_iload_n hx hb dX0_marksOver_0 rfl (lv_at hl 2 rfl) ?_
  refine lv_iload_n hx hb dX0_marksOver_1 rfl (lv_at hl 3 rfl) ?_
  refine va_mmin hx hb (hml.trans hl.1.symm) hown (hq _ w_633) (hq _ w_367) (hq _ w_5) (hq _ w_368) (Nat.le_of_ble_eq_true rfl) (Nat.le_of_ble_eq_true rfl) (Nat.le_of_ble_eq_true rfl) (Nat.le_of_ble_eq_true rfl) dX0_marksOver_2 ?_
  refine lv_topi (fun x_2 ex_2 => ?_)
  replace h := gb_lt_s ex_2 h
  refine lv_istore (lv' := [(5, .int x_2), (0, .ref (b + k0)), (1, .int p1), (2, .int p2), (3, .int p3), (4, .int p4)]) hx hb dX0_marksOver_5 hl (by decide) rfl (fun ls hl => ?_)
  refine lv_iload hx hb dX0_marksOver_7 (lv_at hl 5 rfl) ?_
  refine lv_if_eq (tgt := 16) hx hb dX0_marksOver_9 (by decide) (fun c_3 => ?_) (fun c_3 => ?_)
  · rw [if_pos c_3] at h
    refine lv_iconst (v := 2) hx hb dX0_marksOver_16 (by decide) ?_
    refine lv_iload hx hb dX0_marksOver_17 (lv_at hl 0 rfl) ?_
    refine lv_imul hx hb dX0_marksOver_19 ?_
    exact L20_1 _ _ _ _ _ _ _ _ _ h hP hS (lv_sub hl [1, 2, 3, 0] rfl)
  · rw [if_neg c_3] at h
    refine lv_iconst (v := 0) hx hb dX0_marksOver_12 (by decide) ?_
    refine lv_goto (tgt := 20) hx hb dX0_marksOver_13 (by decide) ?_
    exact L20_1 _ _ _ _ _ _ _ _ _ h hP hS (lv_sub hl [1, 2, 3, 0] rfl)
theorem w_632 : (Cond.code ({ cls := "GooseBorder$Border", name := "marksOver", desc := "(IIIZ)I" } : MethodName) prog_2_method_21_code (7 : Nat) (Option.some FieldType.int)) ∈ gb_wA := gb_t3 152 rfl rfl
theorem w_904 : (Cond.methodLink "GooseBorder$Border" (48 : Nat) ({ cls := "GooseBorder$Border", name := "marksOver", desc := "(IIIZ)I" } : MethodName)) ∈ gb_wA := gb_t4 184 rfl rfl
theorem w_630 : (Cond.instanceMethod ({ cls := "GooseBorder$Border", name := "marksOver", desc := "(IIIZ)I" } : MethodName)) ∈ gb_wA := gb_t3 150 rfl rfl
theorem w_631 : (Cond.selects "GooseBorder$Border" ({ cls := "GooseBorder$Border", name := "marksOver", desc := "(IIIZ)I" } : MethodName) ({ cls := "GooseBorder$Border", name := "marksOver", desc := "(IIIZ)I" } : MethodName)) ∈ gb_wA := gb_t3 151 rfl rfl
theorem dX0_marksFirst_16 : decode cX0_marksFirst 16 = .ok (.ireturn, 1) := by decide +kernel
def cs_Border_marksFirst_B (n : Nat) (σ : gb_S) (k0 : Nat) (p1 : Int32) (p2 : Int32) : gb_CR Int32 := gb_kk (gb_kB k0) (gb_cd (cs_Border_miles_B n σ k0 p2) (fun s_2 r_3 => gb_cd (cs_Border_boots_B n s_2 k0 p1) (fun s_6 r_7 => gb_cd (cs_Border_marksOver_B n s_6 k0 p1 r_3 r_7 0) (fun s_10 r_11 => some (s_10, r_11)))))
set_option maxHeartbeats 8000000 in
set_option maxRecDepth 100000 in
theorem cc_Border_marksFirst_B (l : Launch) (D : va_G) (cT : Nat → ClassId) (tt : Nat → Nat) (b1 b : Nat) (hb1 : b1 ≤ b) (n : Nat) (σ : gb_S) (k0 : Nat) (p1 : Int32) (p2 : Int32) (σE : gb_S) (rE : Int32) (h : cs_Border_marksFirst_B n σ k0 p1 p2 = some (σE, rE)) : Met l yX0_marksFirst (.code yX0_marksFirst cX0_marksFirst 3 (some FieldType.int) :: gb_wA) ({ frames := 2, cells := 0, slots := 0, locals := 48 }) (gb_Pc D cT tt b1 [.ref (b + k0), .int p1, .int p2] (fun h => va_P D vwCl (gb_wl b (gb_CW cT b σ)) h)) (gb_Qi (fun r h => r = rE ∧ va_P D vwCl (gb_wl b (gb_CW cT b σE)) h) (gb_fr b 135)) 0 0 (gb_fr b 135) := by
  refine Met.ofW (cc := cX0_marksFirst) (maxL := 3) (ret := (some FieldType.int)) (by decide) rfl ?_
  intro p e s m args below meth c s₁ B hml hv
  obtain ⟨rfl, hSt, hP⟩ := hv
  have hx := B.exec
  have hb := B.bytes
  have hr := B.returns
  have hts := atoms_spec (ws := .code yX0_marksFirst cX0_marksFirst 3 (some FieldType.int) :: gb_wA) B.pre
  have hq : ∀ w ∈ gb_wA, w.before _ s = true := fun w h => hts w (List.mem_cons_of_mem _ h)
  have hown : s.vm.findClass RX0 = some m.cls := findClass_of_methodNamed B.named
  have hlocks := B.notSynchronized
  clear B hts
  have hK := hSt.1
  have hS : va_S (gb_fr b 135) s.heap s.heap [] := va_S.rf
  have hl := lv_entry ([.ref (b + k0), .int p1, .int p2]) (n := 3) (Nat.le_of_ble_eq_true rfl)
  rw [lg_entry_eq]
  generalize (lg_sl ([.ref (b + k0), .int p1, .int p2]) ++ List.replicate (3 - (lg_sl ([.ref (b + k0), .int p1, .int p2])).length) Slot.unset).toArray = ls at hl ⊢
  replace hl : lv_has ls 3 [(0, .ref (b + k0)), (1, .int p1), (2, .int p2)] := hl
  unfold cs_Border_marksFirst_B at h
  obtain ⟨z_1, h⟩ := gb_kk_s h
  refine lv_aload_n hx hb dX0_marksFirst_0 rfl (lv_at hl 0 rfl) ?_
  refine lv_iload_n hx hb dX0_marksFirst_1 rfl (lv_at hl 1 rfl) ?_
  refine lv_aload_n hx hb dX0_marksFirst_2 rfl (lv_at hl 0 rfl) ?_
  refine lv_iload_n hx hb dX0_marksFirst_3 rfl (lv_at hl 2 rfl) ?_
  obtain ⟨s_2, r_3, z_4, h⟩ := gb_cd_s h
  refine gb_calli (va_runV (C := RX0) (As := [.int p2]) (rest := [.int p1, .ref (b + k0)]) ⟨hx, hb, hml, hown, hq⟩ (cc_Border_miles_B l D cT tt b1 b hb1 n σ k0 p2 s_2 r_3 z_4) (cwV 1 hq (gb_gV w_902 w_622 w_623 w_4 w_624) rfl rfl rfl (by decide +kernel) ⟨Nat.le_of_ble_eq_true rfl, Nat.le_of_ble_eq_true rfl⟩) (gb_preV (r := (RX0, TX0, 1)) (ci := 0) (q0 := k0) hSt hP rfl (gb_at b (gb_cB z_1).1) hS (fun q h => Nat.le_trans hb1 h.1) hP) rfl rfl hl.1 rfl (lv_room (Nat.le_of_ble_eq_true rfl)) dX0_marksFirst_4 ⟨Nat.le_of_ble_eq_true rfl, Nat.le_of_ble_eq_true rfl⟩) hS (fun _ h => h) (fun _ h => h) (fun q_5 H locs hY hk hS => ?_)
  obtain ⟨hq_5, hP⟩ := hY
  replace hq_5 := hq_5.symm
  subst hq_5
  refine lv_aload_n hx hb dX0_marksFirst_7 rfl (lv_at hl 0 rfl) ?_
  refine lv_iload_n hx hb dX0_marksFirst_8 rfl (lv_at hl 1 rfl) ?_
  obtain ⟨s_6, r_7, z_8, h⟩ := gb_cd_s h
  refine gb_calli (va_runV (C := RX0) (As := [.int p1]) (rest := [.int r_3, .int p1, .ref (b + k0)]) ⟨hx, hb, hml, hown, hq⟩ (cc_Border_boots_B l D cT tt b1 b hb1 n s_2 k0 p1 s_6 r_7 z_8) (cwV 1 hq (gb_gV w_903 w_626 w_627 w_4 w_628) rfl rfl rfl (by decide +kernel) ⟨Nat.le_of_ble_eq_true rfl, Nat.le_of_ble_eq_true rfl⟩) (gb_preV (r := (RX0, TX0, 1)) (ci := 0) (q0 := k0) hSt hP rfl (gb_at b (gb_cB z_1).1) hS (fun q h => Nat.le_trans hb1 h.1) hP) rfl rfl hl.1 rfl (lv_room (Nat.le_of_ble_eq_true rfl)) dX0_marksFirst_9 ⟨Nat.le_of_ble_eq_true rfl, Nat.le_of_ble_eq_true rfl⟩) hS (fun _ h => h) (fun _ h => h) (fun q_9 H locs hY hk hS => ?_)
  obtain ⟨hq_9, hP⟩ := hY
  replace hq_9 := hq_9.symm
  subst hq_9
  refine lv_iconst (v := 0) hx hb dX0_marksFirst_12 (by decide) ?_
  obtain ⟨s_10, r_11, z_12, h⟩ := gb_cd_s h
  refine gb_calli (va_runV (C := RX0) (As := [.int p1, .int r_3, .int r_7, .int 0]) (rest := []) ⟨hx, hb, hml, hown, hq⟩ (cc_Border_marksOver_B l D cT tt b1 b hb1 n s_6 k0 p1 r_3 r_7 0 s_10 r_11 z_12) (cwV 4 hq (gb_gV w_904 w_630 w_631 w_4 w_632) rfl rfl rfl (by decide +kernel) ⟨Nat.le_of_ble_eq_true rfl, Nat.le_of_ble_eq_true rfl⟩) (gb_preV (r := (RX0, TX0, 1)) (ci := 0) (q0 := k0) hSt hP rfl (gb_at b (gb_cB z_1).1) hS (fun q h => Nat.le_trans hb1 h.1) hP) rfl rfl hl.1 rfl (lv_room (Nat.le_of_ble_eq_true rfl)) dX0_marksFirst_13 ⟨Nat.le_of_ble_eq_true rfl, Nat.le_of_ble_eq_true rfl⟩) hS (fun _ h => h) (fun _ h => h) (fun q_13 H locs hY hk hS => ?_)
  obtain ⟨hq_13, hP⟩ := hY
  replace hq_13 := hq_13.symm
  subst hq_13
  obtain ⟨e1, e2⟩ := gb_eq2 h
  exact W.iret (v := r_11) hx hb hr (fun t ht hW => gb_ri ht ⟨e2, by rw [← e1]; exact hP⟩ hS) hS.2.2 dX0_marksFirst_16
theorem dX0_padded_0 : decode cX0_padded 0 = .ok (.iload_n 2, 1) := by decide +kernel
theorem dX0_padded_1 : decode cX0_padded 1 = .ok (.iload_n 2, 1) := by decide +kernel
theorem dX0_padded_2 : decode cX0_padded 2 = .ok (.aload_n 0, 1) := by decide +kernel
theorem dX0_padded_3 : decode cX0_padded 3 = .ok (.iload_n 1, 1) := by decide +kernel
theorem dX0_padded_4 : decode cX0_padded 4 = .ok (.invokevirtual 64, 3) := by decide +kernel
theorem w_782 : (Cond.code ({ cls := "GooseBorder$Border", name := "pad", desc := "(I)I" } : MethodName) prog_2_method_14_code (2 : Nat) (Option.some FieldType.int)) ∈ gb_wA := gb_t4 62 rfl rfl
theorem w_779 : (Cond.methodLink "GooseBorder$Border" (64 : Nat) ({ cls := "GooseBorder$Border", name := "pad", desc := "(I)I" } : MethodName)) ∈ gb_wA := gb_t4 59 rfl rfl
theorem w_780 : (Cond.instanceMethod ({ cls := "GooseBorder$Border", name := "pad", desc := "(I)I" } : MethodName)) ∈ gb_wA := gb_t4 60 rfl rfl
theorem w_781 : (Cond.selects "GooseBorder$Border" ({ cls := "GooseBorder$Border", name := "pad", desc := "(I)I" } : MethodName) ({ cls := "GooseBorder$Border", name := "pad", desc := "(I)I" } : MethodName)) ∈ gb_wA := gb_t4 61 rfl rfl
theorem dX0_padded_7 : decode cX0_padded 7 = .ok (.imul, 1) := by decide +kernel
theorem dX0_padded_8 : decode cX0_padded 8 = .ok (.bipush 10, 2) := by decide +kernel
theorem dX0_padded_10 : decode cX0_padded 10 = .ok (.idiv, 1) := by decide +kernel
theorem dX0_padded_11 : decode cX0_padded 11 = .ok (.iadd, 1) := by decide +kernel
theorem dX0_padded_12 : decode cX0_padded 12 = .ok (.ireturn, 1) := by decide +kernel
def cs_Border_padded_B (n : Nat) (σ : gb_S) (k0 : Nat) (p1 : Int32) (p2 : Int32) : gb_CR Int32 := gb_kk (gb_kB k0) (gb_cd (cs_Border_pad_B n σ k0 p1) (fun s_2 r_3 => gb_lt ((p2 * r_3) / 10) (fun x_6 => some (s_2, (p2 + x_6)))))
set_option maxHeartbeats 8000000 in
set_option maxRecDepth 100000 in
theorem cc_Border_padded_B (l : Launch) (D : va_G) (cT : Nat → ClassId) (tt : Nat → Nat) (b1 b : Nat) (hb1 : b1 ≤ b) (n : Nat) (σ : gb_S) (k0 : Nat) (p1 : Int32) (p2 : Int32) (σE : gb_S) (rE : Int32) (h : cs_Border_padded_B n σ k0 p1 p2 = some (σE, rE)) : Met l yX0_padded (.code yX0_padded cX0_padded 3 (some FieldType.int) :: gb_wA) ({ frames := 1, cells := 0, slots := 0, locals := 21 }) (gb_Pc D cT tt b1 [.ref (b + k0), .int p1, .int p2] (fun h => va_P D vwCl (gb_wl b (gb_CW cT b σ)) h)) (gb_Qi (fun r h => r = rE ∧ va_P D vwCl (gb_wl b (gb_CW cT b σE)) h) (gb_fr b 135)) 0 0 (gb_fr b 135) := by
  refine Met.ofW (cc := cX0_padded) (maxL := 3) (ret := (some FieldType.int)) (by decide) rfl ?_
  intro p e s m args below meth c s₁ B hml hv
  obtain ⟨rfl, hSt, hP⟩ := hv
  have hx := B.exec
  have hb := B.bytes
  have hr := B.returns
  have hts := atoms_spec (ws := .code yX0_padded cX0_padded 3 (some FieldType.int) :: gb_wA) B.pre
  have hq : ∀ w ∈ gb_wA, w.before _ s = true := fun w h => hts w (List.mem_cons_of_mem _ h)
  have hown : s.vm.findClass RX0 = some m.cls := findClass_of_methodNamed B.named
  have hlocks := B.notSynchronized
  clear B hts
  have hK := hSt.1
  have hS : va_S (gb_fr b 135) s.heap s.heap [] := va_S.rf
  have hl := lv_entry ([.ref (b + k0), .int p1, .int p2]) (n := 3) (Nat.le_of_ble_eq_true rfl)
  rw [lg_entry_eq]
  generalize (lg_sl ([.ref (b + k0), .int p1, .int p2]) ++ List.replicate (3 - (lg_sl ([.ref (b + k0), .int p1, .int p2])).length) Slot.unset).toArray = ls at hl ⊢
  replace hl : lv_has ls 3 [(0, .ref (b + k0)), (1, .int p1), (2, .int p2)] := hl
  unfold cs_Border_padded_B at h
  obtain ⟨z_1, h⟩ := gb_kk_s h
  refine lv_iload_n hx hb dX0_padded_0 rfl (lv_at hl 2 rfl) ?_
  refine lv_iload_n hx hb dX0_padded_1 rfl (lv_at hl 2 rfl) ?_
  refine lv_aload_n hx hb dX0_padded_2 rfl (lv_at hl 0 rfl) ?_
  refine lv_iload_n hx hb dX0_padded_3 rfl (lv_at hl 1 rfl) ?_
  obtain ⟨s_2, r_3, z_4, h⟩ := gb_cd_s h
  refine gb_calli (va_runV (C := RX0) (As := [.int p1]) (rest := [.int p2, .int p2]) ⟨hx, hb, hml, hown, hq⟩ (cc_Border_pad_B l D cT tt b1 b hb1 n σ k0 p1 s_2 r_3 z_4) (cwV 1 hq (gb_gV w_779 w_780 w_781 w_4 w_782) rfl rfl rfl (by decide +kernel) ⟨Nat.le_of_ble_eq_true rfl, Nat.le_of_ble_eq_true rfl⟩) (gb_preV (r := (RX0, TX0, 1)) (ci := 0) (q0 := k0) hSt hP rfl (gb_at b (gb_cB z_1).1) hS (fun q h => Nat.le_trans hb1 h.1) hP) rfl rfl hl.1 rfl (lv_room (Nat.le_of_ble_eq_true rfl)) dX0_padded_4 ⟨Nat.le_of_ble_eq_true rfl, Nat.le_of_ble_eq_true rfl⟩) hS (fun _ h => h) (fun _ h => h) (fun q_5 H locs hY hk hS => ?_)
  obtain ⟨hq_5, hP⟩ := hY
  replace hq_5 := hq_5.symm
  subst hq_5
  refine lv_imul hx hb dX0_padded_7 ?_
  refine lv_bipush (v := 10) hx hb dX0_padded_8 (by decide) ?_
  refine lv_idiv hx hb dX0_padded_10 (by decide) ?_
  refine lv_topi (fun x_6 ex_6 => ?_)
  replace h := gb_lt_s ex_6 h
  refine lv_iadd hx hb dX0_padded_11 ?_
  obtain ⟨e1, e2⟩ := gb_eq2 h
  exact W.iret (v := (p2 + x_6)) hx hb hr (fun t ht hW => gb_ri ht ⟨e2, by rw [← e1]; exact hP⟩ hS) hS.2.2 dX0_padded_12
theorem dX0_payOf_0 : decode cX0_payOf 0 = .ok (.aload_n 0, 1) := by decide +kernel
theorem dX0_payOf_1 : decode cX0_payOf 1 = .ok (.iload_n 1, 1) := by decide +kernel
theorem dX0_payOf_2 : decode cX0_payOf 2 = .ok (.invokevirtual 67, 3) := by decide +kernel
theorem w_790 : (Cond.code ({ cls := "GooseBorder$Border", name := "rate", desc := "(I)I" } : MethodName) prog_2_method_13_code (2 : Nat) (Option.some FieldType.int)) ∈ gb_wA := gb_t4 70 rfl rfl
theorem w_787 : (Cond.methodLink "GooseBorder$Border" (67 : Nat) ({ cls := "GooseBorder$Border", name := "rate", desc := "(I)I" } : MethodName)) ∈ gb_wA := gb_t4 67 rfl rfl
theorem w_788 : (Cond.instanceMethod ({ cls := "GooseBorder$Border", name := "rate", desc := "(I)I" } : MethodName)) ∈ gb_wA := gb_t4 68 rfl rfl
theorem w_789 : (Cond.selects "GooseBorder$Border" ({ cls := "GooseBorder$Border", name := "rate", desc := "(I)I" } : MethodName) ({ cls := "GooseBorder$Border", name := "rate", desc := "(I)I" } : MethodName)) ∈ gb_wA := gb_t4 69 rfl rfl
theorem dX0_payOf_5 : decode cX0_payOf 5 = .ok (.aload_n 0, 1) := by decide +kernel
theorem dX0_payOf_6 : decode cX0_payOf 6 = .ok (.iload_n 1, 1) := by decide +kernel
theorem dX0_payOf_7 : decode cX0_payOf 7 = .ok (.iload_n 2, 1) := by decide +kernel
theorem dX0_payOf_8 : decode cX0_payOf 8 = .ok (.invokevirtual 70, 3) := by decide +kernel
theorem w_778 : (Cond.code ({ cls := "GooseBorder$Border", name := "padded", desc := "(II)I" } : MethodName) prog_2_method_22_code (3 : Nat) (Option.some FieldType.int)) ∈ gb_wA := gb_t4 58 rfl rfl
theorem w_791 : (Cond.methodLink "GooseBorder$Border" (70 : Nat) ({ cls := "GooseBorder$Border", name := "padded", desc := "(II)I" } : MethodName)) ∈ gb_wA := gb_t4 71 rfl rfl
theorem w_776 : (Cond.instanceMethod ({ cls := "GooseBorder$Border", name := "padded", desc := "(II)I" } : MethodName)) ∈ gb_wA := gb_t4 56 rfl rfl
theorem w_777 : (Cond.selects "GooseBorder$Border" ({ cls := "GooseBorder$Border", name := "padded", desc := "(II)I" } : MethodName) ({ cls := "GooseBorder$Border", name := "padded", desc := "(II)I" } : MethodName)) ∈ gb_wA := gb_t4 57 rfl rfl
theorem dX0_payOf_11 : decode cX0_payOf 11 = .ok (.imul, 1) := by decide +kernel
theorem dX0_payOf_12 : decode cX0_payOf 12 = .ok (.ireturn, 1) := by decide +kernel
def cs_Border_payOf_B (n : Nat) (σ : gb_S) (k0 : Nat) (p1 : Int32) (p2 : Int32) : gb_CR Int32 := gb_kk (gb_kB k0) (gb_cd (cs_Border_rate_B n σ k0 p1) (fun s_2 r_3 => gb_cd (cs_Border_padded_B n s_2 k0 p1 p2) (fun s_6 r_7 => some (s_6, (r_3 * r_7)))))
set_option maxHeartbeats 8000000 in
set_option maxRecDepth 100000 in
theorem cc_Border_payOf_B (l : Launch) (D : va_G) (cT : Nat → ClassId) (tt : Nat → Nat) (b1 b : Nat) (hb1 : b1 ≤ b) (n : Nat) (σ : gb_S) (k0 : Nat) (p1 : Int32) (p2 : Int32) (σE : gb_S) (rE : Int32) (h : cs_Border_payOf_B n σ k0 p1 p2 = some (σE, rE)) : Met l yX0_payOf (.code yX0_payOf cX0_payOf 3 (some FieldType.int) :: gb_wA) ({ frames := 2, cells := 0, slots := 0, locals := 43 }) (gb_Pc D cT tt b1 [.ref (b + k0), .int p1, .int p2] (fun h => va_P D vwCl (gb_wl b (gb_CW cT b σ)) h)) (gb_Qi (fun r h => r = rE ∧ va_P D vwCl (gb_wl b (gb_CW cT b σE)) h) (gb_fr b 135)) 0 0 (gb_fr b 135) := by
  refine Met.ofW (cc := cX0_payOf) (maxL := 3) (ret := (some FieldType.int)) (by decide) rfl ?_
  intro p e s m args below meth c s₁ B hml hv
  obtain ⟨rfl, hSt, hP⟩ := hv
  have hx := B.exec
  have hb := B.bytes
  have hr := B.returns
  have hts := atoms_spec (ws := .code yX0_payOf cX0_payOf 3 (some FieldType.int) :: gb_wA) B.pre
  have hq : ∀ w ∈ gb_wA, w.before _ s = true := fun w h => hts w (List.mem_cons_of_mem _ h)
  have hown : s.vm.findClass RX0 = some m.cls := findClass_of_methodNamed B.named
  have hlocks := B.notSynchronized
  clear B hts
  have hK := hSt.1
  have hS : va_S (gb_fr b 135) s.heap s.heap [] := va_S.rf
  have hl := lv_entry ([.ref (b + k0), .int p1, .int p2]) (n := 3) (Nat.le_of_ble_eq_true rfl)
  rw [lg_entry_eq]
  generalize (lg_sl ([.ref (b + k0), .int p1, .int p2]) ++ List.replicate (3 - (lg_sl ([.ref (b + k0), .int p1, .int p2])).length) Slot.unset).toArray = ls at hl ⊢
  replace hl : lv_has ls 3 [(0, .ref (b + k0)), (1, .int p1), (2, .int p2)] := hl
  unfold cs_Border_payOf_B at h
  obtain ⟨z_1, h⟩ := gb_kk_s h
  refine lv_aload_n hx hb dX0_payOf_0 rfl (lv_at hl 0 rfl) ?_
  refine lv_iload_n hx hb dX0_payOf_1 rfl (lv_at hl 1 rfl) ?_
  obtain ⟨s_2, r_3, z_4, h⟩ := gb_cd_s h
  refine gb_calli (va_runV (C := RX0) (As := [.int p1]) (rest := []) ⟨hx, hb, hml, hown, hq⟩ (cc_Border_rate_B l D cT tt b1 b hb1 n σ k0 p1 s_2 r_3 z_4) (cwV 1 hq (gb_gV w_787 w_788 w_789 w_4 w_790) rfl rfl rfl (by decide +kernel) ⟨Nat.le_of_ble_eq_true rfl, Nat.le_of_ble_eq_true rfl⟩) (gb_preV (r := (RX0, TX0, 1)) (ci := 0) (q0 := k0) hSt hP rfl (gb_at b (gb_cB z_1).1) hS (fun q h => Nat.le_trans hb1 h.1) hP) rfl rfl hl.1 rfl (lv_room (Nat.le_of_ble_eq_true rfl)) dX0_payOf_2 ⟨Nat.le_of_ble_eq_true rfl, Nat.le_of_ble_eq_true rfl⟩) hS (fun _ h => h) (fun _ h => h) (fun q_5 H locs hY hk hS => ?_)
  obtain ⟨hq_5, hP⟩ := hY
  replace hq_5 := hq_5.symm
  subst hq_5
  refine lv_aload_n hx hb dX0_payOf_5 rfl (lv_at hl 0 rfl) ?_
  refine lv_iload_n hx hb dX0_payOf_6 rfl (lv_at hl 1 rfl) ?_
  refine lv_iload_n hx hb dX0_payOf_7 rfl (lv_at hl 2 rfl) ?_
  obtain ⟨s_6, r_7, z_8, h⟩ := gb_cd_s h
  refine gb_calli (va_runV (C := RX0) (As := [.int p1, .int p2]) (rest := [.int r_3]) ⟨hx, hb, hml, hown, hq⟩ (cc_Border_padded_B l D cT tt b1 b hb1 n s_2 k0 p1 p2 s_6 r_7 z_8) (cwV 2 hq (gb_gV w_791 w_776 w_777 w_4 w_778) rfl rfl rfl (by decide +kernel) ⟨Nat.le_of_ble_eq_true rfl, Nat.le_of_ble_eq_true rfl⟩) (gb_preV (r := (RX0, TX0, 1)) (ci := 0) (q0 := k0) hSt hP rfl (gb_at b (gb_cB z_1).1) hS (fun q h => Nat.le_trans hb1 h.1) hP) rfl rfl hl.1 rfl (lv_room (Nat.le_of_ble_eq_true rfl)) dX0_payOf_8 ⟨Nat.le_of_ble_eq_true rfl, Nat.le_of_ble_eq_true rfl⟩) hS (fun _ h => h) (fun _ h => h) (fun q_9 H locs hY hk hS => ?_)
  obtain ⟨hq_9, hP⟩ := hY
  replace hq_9 := hq_9.symm
  subst hq_9
  refine lv_imul hx hb dX0_payOf_11 ?_
  obtain ⟨e1, e2⟩ := gb_eq2 h
  exact W.iret (v := (r_3 * r_7)) hx hb hr (fun t ht hW => gb_ri ht ⟨e2, by rw [← e1]; exact hP⟩ hS) hS.2.2 dX0_payOf_12
theorem dX0_barefoot_0 : decode cX0_barefoot 0 = .ok (.iconst 0, 1) := by decide +kernel
theorem dX0_barefoot_1 : decode cX0_barefoot 1 = .ok (.istore_n 2, 1) := by decide +kernel
theorem dX0_barefoot_2 : decode cX0_barefoot 2 = .ok (.iconst 0, 1) := by decide +kernel
theorem dX0_barefoot_3 : decode cX0_barefoot 3 = .ok (.istore_n 3, 1) := by decide +kernel
theorem dX0_barefoot_4 : decode cX0_barefoot 4 = .ok (.iload_n 3, 1) := by decide +kernel
theorem dX0_barefoot_5 : decode cX0_barefoot 5 = .ok (.aload_n 0, 1) := by decide +kernel
theorem dX0_barefoot_6 : decode cX0_barefoot 6 = .ok (.invokevirtual 19, 3) := by decide +kernel
theorem dX0_barefoot_9 : decode cX0_barefoot 9 = .ok (.if_icmp .ge 24, 3) := by decide +kernel
theorem dX0_barefoot_33 : decode cX0_barefoot 33 = .ok (.iload_n 2, 1) := by decide +kernel
theorem dX0_barefoot_34 : decode cX0_barefoot 34 = .ok (.ireturn, 1) := by decide +kernel
theorem dX0_barefoot_12 : decode cX0_barefoot 12 = .ok (.iload_n 2, 1) := by decide +kernel
theorem dX0_barefoot_13 : decode cX0_barefoot 13 = .ok (.aload_n 0, 1) := by decide +kernel
theorem dX0_barefoot_14 : decode cX0_barefoot 14 = .ok (.iload_n 3, 1) := by decide +kernel
theorem dX0_barefoot_15 : decode cX0_barefoot 15 = .ok (.aload_n 0, 1) := by decide +kernel
theorem dX0_barefoot_16 : decode cX0_barefoot 16 = .ok (.iload_n 1, 1) := by decide +kernel
theorem dX0_barefoot_17 : decode cX0_barefoot 17 = .ok (.invokevirtual 42, 3) := by decide +kernel
theorem dX0_barefoot_20 : decode cX0_barefoot 20 = .ok (.iconst 0, 1) := by decide +kernel
theorem dX0_barefoot_21 : decode cX0_barefoot 21 = .ok (.iconst 0, 1) := by decide +kernel
theorem dX0_barefoot_22 : decode cX0_barefoot 22 = .ok (.invokevirtual 48, 3) := by decide +kernel
theorem dX0_barefoot_25 : decode cX0_barefoot 25 = .ok (.iadd, 1) := by decide +kernel
theorem dX0_barefoot_26 : decode cX0_barefoot 26 = .ok (.istore_n 2, 1) := by decide +kernel
theorem dX0_barefoot_27 : decode cX0_barefoot 27 = .ok (.iinc 3 1, 3) := by decide +kernel
theorem dX0_barefoot_30 : decode cX0_barefoot 30 = .ok (.goto (-26), 3) := by decide +kernel
def cs_Border_barefoot_B_4 (n : Nat) : Nat → gb_S → Nat → Int32 → Int32 → Int32 → gb_CR Int32
  | 0, _, _, _, _, _ => none
  | mm + 1, σ, v0, v1, v2, v3 => gb_kk (gb_kB v0) (gb_cd (cs_Border_geese_B n σ v0) (fun s_3 r_4 => (if r_4 ≤ v3 then some (s_3, v2) else gb_cd (cs_Border_miles_B n s_3 v0 v1) (fun s_8 r_9 => gb_cd (cs_Border_marksOver_B n s_8 v0 v3 r_9 0 0) (fun s_12 r_13 => gb_lt (v2 + r_13) (fun x_16 => gb_lt (v3 + 1) (fun x_17 => cs_Border_barefoot_B_4 n mm s_12 v0 v1 x_16 x_17)))))))
def cs_Border_barefoot_B (n : Nat) (σ : gb_S) (k0 : Nat) (p1 : Int32) : gb_CR Int32 := gb_kk (gb_kB k0) (cs_Border_barefoot_B_4 n n σ k0 p1 0 0)
set_option maxHeartbeats 8000000 in
set_option maxRecDepth 100000 in
theorem cc_Border_barefoot_B (l : Launch) (D : va_G) (cT : Nat → ClassId) (tt : Nat → Nat) (b1 b : Nat) (hb1 : b1 ≤ b) (n : Nat) (σ : gb_S) (k0 : Nat) (p1 : Int32) (σE : gb_S) (rE : Int32) (h : cs_Border_barefoot_B n σ k0 p1 = some (σE, rE)) : Met l yX0_barefoot (.code yX0_barefoot cX0_barefoot 4 (some FieldType.int) :: gb_wA) ({ frames := 2, cells := 0, slots := 0, locals := 48 }) (gb_Pc D cT tt b1 [.ref (b + k0), .int p1] (fun h => va_P D vwCl (gb_wl b (gb_CW cT b σ)) h)) (gb_Qi (fun r h => r = rE ∧ va_P D vwCl (gb_wl b (gb_CW cT b σE)) h) (gb_fr b 135)) 0 0 (gb_fr b 135) := by
  refine Met.ofW (cc := cX0_barefoot) (maxL := 4) (ret := (some FieldType.int)) (by decide) rfl ?_
  intro p e s m args below meth c s₁ B hml hv
  obtain ⟨rfl, hSt, hP⟩ := hv
  have hx := B.exec
  have hb := B.bytes
  have hr := B.returns
  have hts := atoms_spec (ws := .code yX0_barefoot cX0_barefoot 4 (some FieldType.int) :: gb_wA) B.pre
  have hq : ∀ w ∈ gb_wA, w.before _ s = true := fun w h => hts w (List.mem_cons_of_mem _ h)
  have hown : s.vm.findClass RX0 = some m.cls := findClass_of_methodNamed B.named
  have hlocks := B.notSynchronized
  clear B hts
  have hK := hSt.1
  have hS : va_S (gb_fr b 135) s.heap s.heap [] := va_S.rf
  have hl := lv_entry ([.ref (b + k0), .int p1]) (n := 4) (Nat.le_of_ble_eq_true rfl)
  rw [lg_entry_eq]
  generalize (lg_sl ([.ref (b + k0), .int p1]) ++ List.replicate (4 - (lg_sl ([.ref (b + k0), .int p1])).length) Slot.unset).toArray = ls at hl ⊢
  replace hl : lv_has ls 4 [(0, .ref (b + k0)), (1, .int p1)] := hl
  have L4_1 : ∀ (mm : Nat) (σ : gb_S) (v0 : Nat) (v1 : Int32) (v2 : Int32) (v3 : Int32) (H : Heap) (locs : List Loc) (ls : Array Slot), cs_Border_barefoot_B_4 n mm σ v0 v1 v2 v3 = some (σE, rE) → va_P D vwCl (gb_wl b (gb_CW cT b σ)) H → va_S (gb_fr b 135) s.heap H locs → lv_has ls 4 [(0, .ref (b + v0)), (1, .int v1), (2, .int v2), (3, .int v3)] → W p l e (headSpec (.code yX0_barefoot cX0_barefoot 4 (some FieldType.int) :: gb_wA) ({ frames := 2, cells := 0, slots := 0, locals := 48 })).room s m ([.ref (b + k0), .int p1]).toArray below meth c H locs 0 0 (MQ below (gb_Qi (fun r h => r = rE ∧ va_P D vwCl (gb_wl b (gb_CW cT b σE)) h) (gb_fr b 135)) ([.ref (b + k0), .int p1]).toArray s 0 0 (gb_fr b 135)) (F0 m 4 ls []) := by
    clear h hP hS hl ls
    intro mm
    induction mm with
    | zero =>
      intro σ v0 v1 v2 v3 H locs ls h
      cases h
    | succ mm ih =>
      intro σ v0 v1 v2 v3 H locs ls h hP hS hl
      rw [cs_Border_barefoot_B_4] at h
      obtain ⟨z_2, h⟩ := gb_kk_s h
      refine lv_iload_n hx hb dX0_barefoot_4 rfl (lv_at hl 3 rfl) ?_
      refine lv_aload_n hx hb dX0_barefoot_5 rfl (lv_at hl 0 rfl) ?_
      obtain ⟨s_3, r_4, z_5, h⟩ := gb_cd_s h
      refine gb_calli (va_runV (C := RX0) (As := []) (rest := [.int v3]) ⟨hx, hb, hml, hown, hq⟩ (cc_Border_geese_B l D cT tt b1 b hb1 n σ v0 s_3 r_4 z_5) (cwV 0 hq (gb_gV w_476 w_477 w_478 w_4 w_479) rfl rfl rfl (by decide +kernel) ⟨Nat.le_of_ble_eq_true rfl, Nat.le_of_ble_eq_true rfl⟩) (gb_preV (r := (RX0, TX0, 1)) (ci := 0) (q0 := v0) hSt hP rfl (gb_at b (gb_cB z_2).1) hS (fun q h => Nat.le_trans hb1 h.1) hP) rfl rfl hl.1 rfl (lv_room (Nat.le_of_ble_eq_true rfl)) dX0_barefoot_6 ⟨Nat.le_of_ble_eq_true rfl, Nat.le_of_ble_eq_true rfl⟩) hS (fun _ h => h) (fun _ h => h) (fun q_6 H locs hY hk hS => ?_)
      obtain ⟨hq_6, hP⟩ := hY
      replace hq_6 := hq_6.symm
      subst hq_6
      refine lv_icmp_ge (tgt := 33) hx hb dX0_barefoot_9 (by decide) (fun c_7 => ?_) (fun c_7 => ?_)
      · rw [if_pos c_7] at h
        refine lv_iload_n hx hb dX0_barefoot_33 rfl (lv_at hl 2 rfl) ?_
        obtain ⟨e1, e2⟩ := gb_eq2 h
        exact W.iret (v := v2) hx hb hr (fun t ht hW => gb_ri ht ⟨e2, by rw [← e1]; exact hP⟩ hS) hS.2.2 dX0_barefoot_34
      · rw [if_neg c_7] at h
        refine lv_iload_n hx hb dX0_barefoot_12 rfl (lv_at hl 2 rfl) ?_
        refine lv_aload_n hx hb dX0_barefoot_13 rfl (lv_at hl 0 rfl) ?_
        refine lv_iload_n hx hb dX0_barefoot_14 rfl (lv_at hl 3 rfl) ?_
        refine lv_aload_n hx hb dX0_barefoot_15 rfl (lv_at hl 0 rfl) ?_
        refine lv_iload_n hx hb dX0_barefoot_16 rfl (lv_at hl 1 rfl) ?_
        obtain ⟨s_8, r_9, z_10, h⟩ := gb_cd_s h
        refine gb_calli (va_runV (C := RX0) (As := [.int v1]) (rest := [.int v3, .ref (b + v0), .int v2]) ⟨hx, hb, hml, hown, hq⟩ (cc_Border_miles_B l D cT tt b1 b hb1 n s_3 v0 v1 s_8 r_9 z_10) (cwV 1 hq (gb_gV w_902 w_622 w_623 w_4 w_624) rfl rfl rfl (by decide +kernel) ⟨Nat.le_of_ble_eq_true rfl, Nat.le_of_ble_eq_true rfl⟩) (gb_preV (r := (RX0, TX0, 1)) (ci := 0) (q0 := v0) hSt hP rfl (gb_at b (gb_cB z_2).1) hS (fun q h => Nat.le_trans hb1 h.1) hP) rfl rfl hl.1 rfl (lv_room (Nat.le_of_ble_eq_true rfl)) dX0_barefoot_17 ⟨Nat.le_of_ble_eq_true rfl, Nat.le_of_ble_eq_true rfl⟩) hS (fun _ h => h) (fun _ h => h) (fun q_11 H locs hY hk hS => ?_)
        obtain ⟨hq_11, hP⟩ := hY
        replace hq_11 := hq_11.symm
        subst hq_11
        refine lv_iconst (v := 0) hx hb dX0_barefoot_20 (by decide) ?_
        refine lv_iconst (v := 0) hx hb dX0_barefoot_21 (by decide) ?_
        obtain ⟨s_12, r_13, z_14, h⟩ := gb_cd_s h
        refine gb_calli (va_runV (C := RX0) (As := [.int v3, .int r_9, .int 0, .int 0]) (rest := [.int v2]) ⟨hx, hb, hml, hown, hq⟩ (cc_Border_marksOver_B l D cT tt b1 b hb1 n s_8 v0 v3 r_9 0 0 s_12 r_13 z_14) (cwV 4 hq (gb_gV w_904 w_630 w_631 w_4 w_632) rfl rfl rfl (by decide +kernel) ⟨Nat.le_of_ble_eq_true rfl, Nat.le_of_ble_eq_true rfl⟩) (gb_preV (r := (RX0, TX0, 1)) (ci := 0) (q0 := v0) hSt hP rfl (gb_at b (gb_cB z_2).1) hS (fun q h => Nat.le_trans hb1 h.1) hP) rfl rfl hl.1 rfl (lv_room (Nat.le_of_ble_eq_true rfl)) dX0_barefoot_22 ⟨Nat.le_of_ble_eq_true rfl, Nat.le_of_ble_eq_true rfl⟩) hS (fun _ h => h) (fun _ h => h) (fun q_15 H locs hY hk hS => ?_)
        obtain ⟨hq_15, hP⟩ := hY
        replace hq_15 := hq_15.symm
        subst hq_15
        refine lv_iadd hx hb dX0_barefoot_25 ?_
        refine lv_topi (fun x_16 ex_16 => ?_)
        replace h := gb_lt_s ex_16 h
        refine lv_istore_n (lv' := [(2, .int x_16), (0, .ref (b + v0)), (1, .int v1), (3, .int v3)]) hx hb dX0_barefoot_26 rfl hl (by decide) rfl (fun ls hl => ?_)
        obtain ⟨x_17, ex_17⟩ : ∃ q, q = (v3 + 1) := ⟨_, rfl⟩
        replace h := gb_lt_s ex_17 h
        refine lv_iinc (v := x_17) (lv' := [(3, .int x_17), (2, .int x_16), (0, .ref (b + v0)), (1, .int v1)]) hx hb dX0_barefoot_27 hl (k := 3) rfl (by rw [ex_17]; rfl) (by decide) rfl (fun ls hl => ?_)
        refine lv_goto (tgt := 4) hx hb dX0_barefoot_30 (by decide) ?_
        exact ih _ _ _ _ _ _ _ _ h hP hS (lv_sub hl [2, 3, 1, 0] rfl)
  unfold cs_Border_barefoot_B at h
  obtain ⟨z_1, h⟩ := gb_kk_s h
  refine lv_iconst (v := 0) hx hb dX0_barefoot_0 (by decide) ?_
  refine lv_istore_n (lv' := [(2, .int 0), (0, .ref (b + k0)), (1, .int p1)]) hx hb dX0_barefoot_1 rfl hl (by decide) rfl (fun ls hl => ?_)
  refine lv_iconst (v := 0) hx hb dX0_barefoot_2 (by decide) ?_
  refine lv_istore_n (lv' := [(3, .int 0), (2, .int 0), (0, .ref (b + k0)), (1, .int p1)]) hx hb dX0_barefoot_3 rfl hl (by decide) rfl (fun ls hl => ?_)
  exact L4_1 n _ _ _ _ _ _ _ _ h hP hS (lv_sub hl [2, 3, 1, 0] rfl)
theorem dX0_milesThatSpare_0 : decode cX0_milesThatSpare 0 = .ok (.iconst 0, 1) := by decide +kernel
theorem dX0_milesThatSpare_1 : decode cX0_milesThatSpare 1 = .ok (.istore_n 3, 1) := by decide +kernel
theorem dX0_milesThatSpare_2 : decode cX0_milesThatSpare 2 = .ok (.iconst 0, 1) := by decide +kernel
theorem dX0_milesThatSpare_3 : decode cX0_milesThatSpare 3 = .ok (.istore 4, 2) := by decide +kernel
theorem dX0_milesThatSpare_5 : decode cX0_milesThatSpare 5 = .ok (.iload 4, 2) := by decide +kernel
theorem dX0_milesThatSpare_7 : decode cX0_milesThatSpare 7 = .ok (.aload_n 0, 1) := by decide +kernel
theorem dX0_milesThatSpare_8 : decode cX0_milesThatSpare 8 = .ok (.invokevirtual 19, 3) := by decide +kernel
theorem dX0_milesThatSpare_11 : decode cX0_milesThatSpare 11 = .ok (.if_icmp .ge 48, 3) := by decide +kernel
theorem dX0_milesThatSpare_59 : decode cX0_milesThatSpare 59 = .ok (.iload_n 3, 1) := by decide +kernel
theorem dX0_milesThatSpare_60 : decode cX0_milesThatSpare 60 = .ok (.ireturn, 1) := by decide +kernel
theorem dX0_milesThatSpare_14 : decode cX0_milesThatSpare 14 = .ok (.aload_n 0, 1) := by decide +kernel
theorem dX0_milesThatSpare_15 : decode cX0_milesThatSpare 15 = .ok (.iload 4, 2) := by decide +kernel
theorem dX0_milesThatSpare_17 : decode cX0_milesThatSpare 17 = .ok (.invokevirtual 58, 3) := by decide +kernel
theorem dX0_milesThatSpare_20 : decode cX0_milesThatSpare 20 = .ok (.iconst 2, 1) := by decide +kernel
theorem dX0_milesThatSpare_21 : decode cX0_milesThatSpare 21 = .ok (.isub, 1) := by decide +kernel
theorem dX0_milesThatSpare_22 : decode cX0_milesThatSpare 22 = .ok (.aload_n 0, 1) := by decide +kernel
theorem dX0_milesThatSpare_23 : decode cX0_milesThatSpare 23 = .ok (.iload 4, 2) := by decide +kernel
theorem dX0_milesThatSpare_25 : decode cX0_milesThatSpare 25 = .ok (.invokevirtual 61, 3) := by decide +kernel
theorem dX0_milesThatSpare_28 : decode cX0_milesThatSpare 28 = .ok (.ifCond .eq 7, 3) := by decide +kernel
theorem dX0_milesThatSpare_35 : decode cX0_milesThatSpare 35 = .ok (.iconst 1, 1) := by decide +kernel
theorem dX0_milesThatSpare_36 : decode cX0_milesThatSpare 36 = .ok (.imul, 1) := by decide +kernel
theorem dX0_milesThatSpare_37 : decode cX0_milesThatSpare 37 = .ok (.istore 5, 2) := by decide +kernel
theorem dX0_milesThatSpare_39 : decode cX0_milesThatSpare 39 = .ok (.iload 5, 2) := by decide +kernel
theorem dX0_milesThatSpare_41 : decode cX0_milesThatSpare 41 = .ok (.iload_n 2, 1) := by decide +kernel
theorem dX0_milesThatSpare_42 : decode cX0_milesThatSpare 42 = .ok (.if_icmp .ne 11, 3) := by decide +kernel
theorem dX0_milesThatSpare_53 : decode cX0_milesThatSpare 53 = .ok (.iinc 4 1, 3) := by decide +kernel
theorem dX0_milesThatSpare_56 : decode cX0_milesThatSpare 56 = .ok (.goto (-51), 3) := by decide +kernel
theorem dX0_milesThatSpare_45 : decode cX0_milesThatSpare 45 = .ok (.iload_n 3, 1) := by decide +kernel
theorem dX0_milesThatSpare_46 : decode cX0_milesThatSpare 46 = .ok (.aload_n 0, 1) := by decide +kernel
theorem dX0_milesThatSpare_47 : decode cX0_milesThatSpare 47 = .ok (.iload_n 1, 1) := by decide +kernel
theorem dX0_milesThatSpare_48 : decode cX0_milesThatSpare 48 = .ok (.invokevirtual 42, 3) := by decide +kernel
theorem dX0_milesThatSpare_51 : decode cX0_milesThatSpare 51 = .ok (.iadd, 1) := by decide +kernel
theorem dX0_milesThatSpare_52 : decode cX0_milesThatSpare 52 = .ok (.istore_n 3, 1) := by decide +kernel
theorem dX0_milesThatSpare_31 : decode cX0_milesThatSpare 31 = .ok (.iconst 2, 1) := by decide +kernel
theorem dX0_milesThatSpare_32 : decode cX0_milesThatSpare 32 = .ok (.goto 4, 3) := by decide +kernel
def cs_Border_milesThatSpare_B_5 (n : Nat) : Nat → gb_S → Nat → Int32 → Int32 → Int32 → Int32 → gb_CR Int32
  | 0, _, _, _, _, _, _ => none
  | mm + 1, σ, v0, v1, v2, v3, v4 => gb_kk (gb_kB v0) (gb_cd (cs_Border_geese_B n σ v0) (fun s_3 r_4 => (if r_4 ≤ v4 then some (s_3, v3) else gb_cd (cs_Border_toes_B n s_3 v0 v4) (fun s_8 r_9 => gb_cd (cs_Border_limps_B n s_8 v0 v4) (fun s_12 r_13 => (if r_13 = 0 then gb_lt ((r_9 - 2) * 1) (fun x_17 => (if x_17 = v2 then gb_cd (cs_Border_miles_B n s_12 v0 v1) (fun s_20 r_21 => gb_lt (v3 + r_21) (fun x_24 => gb_lt (v4 + 1) (fun x_25 => cs_Border_milesThatSpare_B_5 n mm s_20 v0 v1 v2 x_24 x_25))) else gb_lt (v4 + 1) (fun x_19 => cs_Border_milesThatSpare_B_5 n mm s_12 v0 v1 v2 v3 x_19))) else gb_lt ((r_9 - 2) * 2) (fun x_26 => (if x_26 = v2 then gb_cd (cs_Border_miles_B n s_12 v0 v1) (fun s_29 r_30 => gb_lt (v3 + r_30) (fun x_33 => gb_lt (v4 + 1) (fun x_34 => cs_Border_milesThatSpare_B_5 n mm s_29 v0 v1 v2 x_33 x_34))) else gb_lt (v4 + 1) (fun x_28 => cs_Border_milesThatSpare_B_5 n mm s_12 v0 v1 v2 v3 x_28)))))))))
def cs_Border_milesThatSpare_B (n : Nat) (σ : gb_S) (k0 : Nat) (p1 : Int32) (p2 : Int32) : gb_CR Int32 := gb_kk (gb_kB k0) (cs_Border_milesThatSpare_B_5 n n σ k0 p1 p2 0 0)
set_option maxHeartbeats 8000000 in
set_option maxRecDepth 100000 in
theorem cc_Border_milesThatSpare_B (l : Launch) (D : va_G) (cT : Nat → ClassId) (tt : Nat → Nat) (b1 b : Nat) (hb1 : b1 ≤ b) (n : Nat) (σ : gb_S) (k0 : Nat) (p1 : Int32) (p2 : Int32) (σE : gb_S) (rE : Int32) (h : cs_Border_milesThatSpare_B n σ k0 p1 p2 = some (σE, rE)) : Met l yX0_milesThatSpare (.code yX0_milesThatSpare cX0_milesThatSpare 6 (some FieldType.int) :: gb_wA) ({ frames := 1, cells := 0, slots := 0, locals := 22 }) (gb_Pc D cT tt b1 [.ref (b + k0), .int p1, .int p2] (fun h => va_P D vwCl (gb_wl b (gb_CW cT b σ)) h)) (gb_Qi (fun r h => r = rE ∧ va_P D vwCl (gb_wl b (gb_CW cT b σE)) h) (gb_fr b 135)) 0 0 (gb_fr b 135) := by
  refine Met.ofW (cc := cX0_milesThatSpare) (maxL := 6) (ret := (some FieldType.int)) (by decide) rfl ?_
  intro p e s m args below meth c s₁ B hml hv
  obtain ⟨rfl, hSt, hP⟩ := hv
  have hx := B.exec
  have hb := B.bytes
  have hr := B.returns
  have hts := atoms_spec (ws := .code yX0_milesThatSpare cX0_milesThatSpare 6 (some FieldType.int) :: gb_wA) B.pre
  have hq : ∀ w ∈ gb_wA, w.before _ s = true := fun w h => hts w (List.mem_cons_of_mem _ h)
  have hown : s.vm.findClass RX0 = some m.cls := findClass_of_methodNamed B.named
  have hlocks := B.notSynchronized
  clear B hts
  have hK := hSt.1
  have hS : va_S (gb_fr b 135) s.heap s.heap [] := va_S.rf
  have hl := lv_entry ([.ref (b + k0), .int p1, .int p2]) (n := 6) (Nat.le_of_ble_eq_true rfl)
  rw [lg_entry_eq]
  generalize (lg_sl ([.ref (b + k0), .int p1, .int p2]) ++ List.replicate (6 - (lg_sl ([.ref (b + k0), .int p1, .int p2])).length) Slot.unset).toArray = ls at hl ⊢
  replace hl : lv_has ls 6 [(0, .ref (b + k0)), (1, .int p1), (2, .int p2)] := hl
  have L5_1 : ∀ (mm : Nat) (σ : gb_S) (v0 : Nat) (v1 : Int32) (v2 : Int32) (v3 : Int32) (v4 : Int32) (H : Heap) (locs : List Loc) (ls : Array Slot), cs_Border_milesThatSpare_B_5 n mm σ v0 v1 v2 v3 v4 = some (σE, rE) → va_P D vwCl (gb_wl b (gb_CW cT b σ)) H → va_S (gb_fr b 135) s.heap H locs → lv_has ls 6 [(0, .ref (b + v0)), (1, .int v1), (2, .int v2), (3, .int v3), (4, .int v4)] → W p l e (headSpec (.code yX0_milesThatSpare cX0_milesThatSpare 6 (some FieldType.int) :: gb_wA) ({ frames := 1, cells := 0, slots := 0, locals := 22 })).room s m ([.ref (b + k0), .int p1, .int p2]).toArray below meth c H locs 0 0 (MQ below (gb_Qi (fun r h => r = rE ∧ va_P D vwCl (gb_wl b (gb_CW cT b σE)) h) (gb_fr b 135)) ([.ref (b + k0), .int p1, .int p2]).toArray s 0 0 (gb_fr b 135)) (F0 m 5 ls []) := by
    clear h hP hS hl ls
    intro mm
    induction mm with
    | zero =>
      intro σ v0 v1 v2 v3 v4 H locs ls h
      cases h
    | succ mm ih =>
      intro σ v0 v1 v2 v3 v4 H locs ls h hP hS hl
      rw [cs_Border_milesThatSpare_B_5] at h
      obtain ⟨z_2, h⟩ := gb_kk_s h
      refine lv_iload hx hb dX0_milesThatSpare_5 (lv_at hl 4 rfl) ?_
      refine lv_aload_n hx hb dX0_milesThatSpare_7 rfl (lv_at hl 0 rfl) ?_
      obtain ⟨s_3, r_4, z_5, h⟩ := gb_cd_s h
      refine gb_calli (va_runV (C := RX0) (As := []) (rest := [.int v4]) ⟨hx, hb, hml, hown, hq⟩ (cc_Border_geese_B l D cT tt b1 b hb1 n σ v0 s_3 r_4 z_5) (cwV 0 hq (gb_gV w_476 w_477 w_478 w_4 w_479) rfl rfl rfl (by decide +kernel) ⟨Nat.le_of_ble_eq_true rfl, Nat.le_of_ble_eq_true rfl⟩) (gb_preV (r := (RX0, TX0, 1)) (ci := 0) (q0 := v0) hSt hP rfl (gb_at b (gb_cB z_2).1) hS (fun q h => Nat.le_trans hb1 h.1) hP) rfl rfl hl.1 rfl (lv_room (Nat.le_of_ble_eq_true rfl)) dX0_milesThatSpare_8 ⟨Nat.le_of_ble_eq_true rfl, Nat.le_of_ble_eq_true rfl⟩) hS (fun _ h => h) (fun _ h => h) (fun q_6 H locs hY hk hS => ?_)
      obtain ⟨hq_6, hP⟩ := hY
      replace hq_6 := hq_6.symm
      subst hq_6
      refine lv_icmp_ge (tgt := 59) hx hb dX0_milesThatSpare_11 (by decide) (fun c_7 => ?_) (fun c_7 => ?_)
      · rw [if_pos c_7] at h
        refine lv_iload_n hx hb dX0_milesThatSpare_59 rfl (lv_at hl 3 rfl) ?_
        obtain ⟨e1, e2⟩ := gb_eq2 h
        exact W.iret (v := v3) hx hb hr (fun t ht hW => gb_ri ht ⟨e2, by rw [← e1]; exact hP⟩ hS) hS.2.2 dX0_milesThatSpare_60
      · rw [if_neg c_7] at h
        refine lv_aload_n hx hb dX0_milesThatSpare_14 rfl (lv_at hl 0 rfl) ?_
        refine lv_iload hx hb dX0_milesThatSpare_15 (lv_at hl 4 rfl) ?_
        obtain ⟨s_8, r_9, z_10, h⟩ := gb_cd_s h
        refine gb_calli (va_runV (C := RX0) (As := [.int v4]) (rest := []) ⟨hx, hb, hml, hown, hq⟩ (cc_Border_toes_B l D cT tt b1 b hb1 n s_3 v0 v4 s_8 r_9 z_10) (cwV 1 hq (gb_gV w_634 w_635 w_636 w_4 w_637) rfl rfl rfl (by decide +kernel) ⟨Nat.le_of_ble_eq_true rfl, Nat.le_of_ble_eq_true rfl⟩) (gb_preV (r := (RX0, TX0, 1)) (ci := 0) (q0 := v0) hSt hP rfl (gb_at b (gb_cB z_2).1) hS (fun q h => Nat.le_trans hb1 h.1) hP) rfl rfl hl.1 rfl (lv_room (Nat.le_of_ble_eq_true rfl)) dX0_milesThatSpare_17 ⟨Nat.le_of_ble_eq_true rfl, Nat.le_of_ble_eq_true rfl⟩) hS (fun _ h => h) (fun _ h => h) (fun q_11 H locs hY hk hS => ?_)
        obtain ⟨hq_11, hP⟩ := hY
        replace hq_11 := hq_11.symm
        subst hq_11
        refine lv_iconst (v := 2) hx hb dX0_milesThatSpare_20 (by decide) ?_
        refine lv_isub hx hb dX0_milesThatSpare_21 ?_
        refine lv_aload_n hx hb dX0_milesThatSpare_22 rfl (lv_at hl 0 rfl) ?_
        refine lv_iload hx hb dX0_milesThatSpare_23 (lv_at hl 4 rfl) ?_
        obtain ⟨s_12, r_13, z_14, h⟩ := gb_cd_s h
        refine gb_calli (va_runV (C := RX0) (As := [.int v4]) (rest := [.int (r_9 - 2)]) ⟨hx, hb, hml, hown, hq⟩ (cc_Border_limps_B l D cT tt b1 b hb1 n s_8 v0 v4 s_12 r_13 z_14) (cwV 1 hq (gb_gV w_638 w_639 w_640 w_4 w_641) rfl rfl rfl (by decide +kernel) ⟨Nat.le_of_ble_eq_true rfl, Nat.le_of_ble_eq_true rfl⟩) (gb_preV (r := (RX0, TX0, 1)) (ci := 0) (q0 := v0) hSt hP rfl (gb_at b (gb_cB z_2).1) hS (fun q h => Nat.le_trans hb1 h.1) hP) rfl rfl hl.1 rfl (lv_room (Nat.le_of_ble_eq_true rfl)) dX0_milesThatSpare_25 ⟨Nat.le_of_ble_eq_true rfl, Nat.le_of_ble_eq_true rfl⟩) hS (fun _ h => h) (fun _ h => h) (fun q_15 H locs hY hk hS => ?_)
        obtain ⟨hq_15, hP⟩ := hY
        replace hq_15 := hq_15.symm
        subst hq_15
        refine lv_if_eq (tgt := 35) hx hb dX0_milesThatSpare_28 (by decide) (fun c_16 => ?_) (fun c_16 => ?_)
        · rw [if_pos c_16] at h
          refine lv_iconst (v := 1) hx hb dX0_milesThatSpare_35 (by decide) ?_
          refine lv_imul hx hb dX0_milesThatSpare_36 ?_
          refine lv_topi (fun x_17 ex_17 => ?_)
          replace h := gb_lt_s ex_17 h
          refine lv_istore (lv' := [(5, .int x_17), (0, .ref (b + v0)), (1, .int v1), (2, .int v2), (3, .int v3), (4, .int v4)]) hx hb dX0_milesThatSpare_37 hl (by decide) rfl (fun ls hl => ?_)
          refine lv_iload hx hb dX0_milesThatSpare_39 (lv_at hl 0 rfl) ?_
          refine lv_iload_n hx hb dX0_milesThatSpare_41 rfl (lv_at hl 3 rfl) ?_
          refine lv_icmp_ne (tgt := 53) hx hb dX0_milesThatSpare_42 (by decide) (fun c_18 => ?_) (fun c_18 => ?_)
          · rw [if_neg c_18] at h
            obtain ⟨x_19, ex_19⟩ : ∃ q, q = (v4 + 1) := ⟨_, rfl⟩
            replace h := gb_lt_s ex_19 h
            refine lv_iinc (v := x_19) (lv' := [(4, .int x_19), (5, .int x_17), (0, .ref (b + v0)), (1, .int v1), (2, .int v2), (3, .int v3)]) hx hb dX0_milesThatSpare_53 hl (k := 5) rfl (by rw [ex_19]; rfl) (by decide) rfl (fun ls hl => ?_)
            refine lv_goto (tgt := 5) hx hb dX0_milesThatSpare_56 (by decide) ?_
            exact ih _ _ _ _ _ _ _ _ _ h hP hS (lv_sub hl [2, 3, 4, 5, 0] rfl)
          · rw [if_pos c_18] at h
            refine lv_iload_n hx hb dX0_milesThatSpare_45 rfl (lv_at hl 4 rfl) ?_
            refine lv_aload_n hx hb dX0_milesThatSpare_46 rfl (lv_at hl 1 rfl) ?_
            refine lv_iload_n hx hb dX0_milesThatSpare_47 rfl (lv_at hl 2 rfl) ?_
            obtain ⟨s_20, r_21, z_22, h⟩ := gb_cd_s h
            refine gb_calli (va_runV (C := RX0) (As := [.int v1]) (rest := [.int v3]) ⟨hx, hb, hml, hown, hq⟩ (cc_Border_miles_B l D cT tt b1 b hb1 n s_12 v0 v1 s_20 r_21 z_22) (cwV 1 hq (gb_gV w_902 w_622 w_623 w_4 w_624) rfl rfl rfl (by decide +kernel) ⟨Nat.le_of_ble_eq_true rfl, Nat.le_of_ble_eq_true rfl⟩) (gb_preV (r := (RX0, TX0, 1)) (ci := 0) (q0 := v0) hSt hP rfl (gb_at b (gb_cB z_2).1) hS (fun q h => Nat.le_trans hb1 h.1) hP) rfl rfl hl.1 rfl (lv_room (Nat.le_of_ble_eq_true rfl)) dX0_milesThatSpare_48 ⟨Nat.le_of_ble_eq_true rfl, Nat.le_of_ble_eq_true rfl⟩) hS (fun _ h => h) (fun _ h => h) (fun q_23 H locs hY hk hS => ?_)
            obtain ⟨hq_23, hP⟩ := hY
            replace hq_23 := hq_23.symm
            subst hq_23
            refine lv_iadd hx hb dX0_milesThatSpare_51 ?_
            refine lv_topi (fun x_24 ex_24 => ?_)
            replace h := gb_lt_s ex_24 h
            refine lv_istore_n (lv' := [(3, .int x_24), (5, .int x_17), (0, .ref (b + v0)), (1, .int v1), (2, .int v2), (4, .int v4)]) hx hb dX0_milesThatSpare_52 rfl hl (by decide) rfl (fun ls hl => ?_)
            obtain ⟨x_25, ex_25⟩ : ∃ q, q = (v4 + 1) := ⟨_, rfl⟩
            replace h := gb_lt_s ex_25 h
            refine lv_iinc (v := x_25) (lv' := [(4, .int x_25), (3, .int x_24), (5, .int x_17), (0, .ref (b + v0)), (1, .int v1), (2, .int v2)]) hx hb dX0_milesThatSpare_53 hl (k := 5) rfl (by rw [ex_25]; rfl) (by decide) rfl (fun ls hl => ?_)
            refine lv_goto (tgt := 5) hx hb dX0_milesThatSpare_56 (by decide) ?_
            exact ih _ _ _ _ _ _ _ _ _ h hP hS (lv_sub hl [3, 4, 5, 1, 0] rfl)
        · rw [if_neg c_16] at h
          refine lv_iconst (v := 2) hx hb dX0_milesThatSpare_31 (by decide) ?_
          refine lv_goto (tgt := 36) hx hb dX0_milesThatSpare_32 (by decide) ?_
          refine lv_imul hx hb dX0_milesThatSpare_36 ?_
          refine lv_topi (fun x_26 ex_26 => ?_)
          replace h := gb_lt_s ex_26 h
          refine lv_istore (lv' := [(5, .int x_26), (0, .ref (b + v0)), (1, .int v1), (2, .int v2), (3, .int v3), (4, .int v4)]) hx hb dX0_milesThatSpare_37 hl (by decide) rfl (fun ls hl => ?_)
          refine lv_iload hx hb dX0_milesThatSpare_39 (lv_at hl 0 rfl) ?_
          refine lv_iload_n hx hb dX0_milesThatSpare_41 rfl (lv_at hl 3 rfl) ?_
          refine lv_icmp_ne (tgt := 53) hx hb dX0_milesThatSpare_42 (by decide) (fun c_27 => ?_) (fun c_27 => ?_)
          · rw [if_neg c_27] at h
            obtain ⟨x_28, ex_28⟩ : ∃ q, q = (v4 + 1) := ⟨_, rfl⟩
            replace h := gb_lt_s ex_28 h
            refine lv_iinc (v := x_28) (lv' := [(4, .int x_28), (5, .int x_26), (0, .ref (b + v0)), (1, .int v1), (2, .int v2), (3, .int v3)]) hx hb dX0_milesThatSpare_53 hl (k := 5) rfl (by rw [ex_28]; rfl) (by decide) rfl (fun ls hl => ?_)
            refine lv_goto (tgt := 5) hx hb dX0_milesThatSpare_56 (by decide) ?_
            exact ih _ _ _ _ _ _ _ _ _ h hP hS (lv_sub hl [2, 3, 4, 5, 0] rfl)
          · rw [if_pos c_27] at h
            refine lv_iload_n hx hb dX0_milesThatSpare_45 rfl (lv_at hl 4 rfl) ?_
            refine lv_aload_n hx hb dX0_milesThatSpare_46 rfl (lv_at hl 1 rfl) ?_
            refine lv_iload_n hx hb dX0_milesThatSpare_47 rfl (lv_at hl 2 rfl) ?_
            obtain ⟨s_29, r_30, z_31, h⟩ := gb_cd_s h
            refine gb_calli (va_runV (C := RX0) (As := [.int v1]) (rest := [.int v3]) ⟨hx, hb, hml, hown, hq⟩ (cc_Border_miles_B l D cT tt b1 b hb1 n s_12 v0 v1 s_29 r_30 z_31) (cwV 1 hq (gb_gV w_902 w_622 w_623 w_4 w_624) rfl rfl rfl (by decide +kernel) ⟨Nat.le_of_ble_eq_true rfl, Nat.le_of_ble_eq_true rfl⟩) (gb_preV (r := (RX0, TX0, 1)) (ci := 0) (q0 := v0) hSt hP rfl (gb_at b (gb_cB z_2).1) hS (fun q h => Nat.le_trans hb1 h.1) hP) rfl rfl hl.1 rfl (lv_room (Nat.le_of_ble_eq_true rfl)) dX0_milesThatSpare_48 ⟨Nat.le_of_ble_eq_true rfl, Nat.le_of_ble_eq_true rfl⟩) hS (fun _ h => h) (fun _ h => h) (fun q_32 H locs hY hk hS => ?_)
            obtain ⟨hq_32, hP⟩ := hY
            replace hq_32 := hq_32.symm
            subst hq_32
            refine lv_iadd hx hb dX0_milesThatSpare_51 ?_
            refine lv_topi (fun x_33 ex_33 => ?_)
            replace h := gb_lt_s ex_33 h
            refine lv_istore_n (lv' := [(3, .int x_33), (5, .int x_26), (0, .ref (b + v0)), (1, .int v1), (2, .int v2), (4, .int v4)]) hx hb dX0_milesThatSpare_52 rfl hl (by decide) rfl (fun ls hl => ?_)
            obtain ⟨x_34, ex_34⟩ : ∃ q, q = (v4 + 1) := ⟨_, rfl⟩
            replace h := gb_lt_s ex_34 h
            refine lv_iinc (v := x_34) (lv' := [(4, .int x_34), (3, .int x_33), (5, .int x_26), (0, .ref (b + v0)), (1, .int v1), (2, .int v2)]) hx hb dX0_milesThatSpare_53 hl (k := 5) rfl (by rw [ex_34]; rfl) (by decide) rfl (fun ls hl => ?_)
            refine lv_goto (tgt := 5) hx hb dX0_milesThatSpare_56 (by decide) ?_
            exact ih _ _ _ _ _ _ _ _ _ h hP hS (lv_sub hl [3, 4, 5, 1, 0] rfl)
  unfold cs_Border_milesThatSpare_B at h
  obtain ⟨z_1, h⟩ := gb_kk_s h
  refine lv_iconst (v := 0) hx hb dX0_milesThatSpare_0 (by decide) ?_
  refine lv_istore_n (lv' := [(3, .int 0), (0, .ref (b + k0)), (1, .int p1), (2, .int p2)]) hx hb dX0_milesThatSpare_1 rfl hl (by decide) rfl (fun ls hl => ?_)
  refine lv_iconst (v := 0) hx hb dX0_milesThatSpare_2 (by decide) ?_
  refine lv_istore (lv' := [(4, .int 0), (3, .int 0), (0, .ref (b + k0)), (1, .int p1), (2, .int p2)]) hx hb dX0_milesThatSpare_3 hl (by decide) rfl (fun ls hl => ?_)
  exact L5_1 n _ _ _ _ _ _ _ _ _ h hP hS (lv_sub hl [2, 3, 4, 1, 0] rfl)
theorem dX11_feed_0 : decode cX11_feed 0 = .ok (.aload_n 0, 1) := by decide +kernel
theorem dX11_feed_1 : decode cX11_feed 1 = .ok (.getfield 12, 3) := by decide +kernel
theorem dX11_feed_4 : decode cX11_feed 4 = .ok (.getfield 74, 3) := by decide +kernel
theorem w_125 : (Cond.fieldLink "GooseBorder" (74 : Nat) "GooseBorder$Told" "length" "I") ∈ gb_wA := gb_t1 125 rfl rfl
theorem dX11_feed_7 : decode cX11_feed 7 = .ok (.sipush 580, 3) := by decide +kernel
theorem dX11_feed_10 : decode cX11_feed 10 = .ok (.if_icmp .le 5, 3) := by decide +kernel
theorem dX11_feed_15 : decode cX11_feed 15 = .ok (.aload_n 0, 1) := by decide +kernel
theorem dX11_feed_16 : decode cX11_feed 16 = .ok (.getfield 12, 3) := by decide +kernel
theorem dX11_feed_19 : decode cX11_feed 19 = .ok (.iload_n 1, 1) := by decide +kernel
theorem dX11_feed_20 : decode cX11_feed 20 = .ok (.invokevirtual 78, 3) := by decide +kernel
theorem dX10_addBytes_0 : decode cX10_addBytes 0 = .ok (.aload_n 0, 1) := by decide +kernel
theorem dX10_addBytes_1 : decode cX10_addBytes 1 = .ok (.getfield 51, 3) := by decide +kernel
theorem w_124 : (Cond.fieldLink "GooseBorder$Told" (51 : Nat) "GooseBorder$Told" "length" "I") ∈ gb_wA := gb_t1 124 rfl rfl
theorem dX10_addBytes_4 : decode cX10_addBytes 4 = .ok (.sipush 596, 3) := by decide +kernel
theorem dX10_addBytes_7 : decode cX10_addBytes 7 = .ok (.if_icmp .le 4, 3) := by decide +kernel
theorem dX10_addBytes_11 : decode cX10_addBytes 11 = .ok (.bipush 24, 2) := by decide +kernel
theorem dX10_addBytes_13 : decode cX10_addBytes 13 = .ok (.istore_n 2, 1) := by decide +kernel
theorem dX10_addBytes_14 : decode cX10_addBytes 14 = .ok (.iload_n 2, 1) := by decide +kernel
theorem dX10_addBytes_15 : decode cX10_addBytes 15 = .ok (.ifCond .lt 32, 3) := by decide +kernel
theorem dX10_addBytes_47 : decode cX10_addBytes 47 = .ok (.return_, 1) := by decide +kernel
theorem dX10_addBytes_18 : decode cX10_addBytes 18 = .ok (.aload_n 0, 1) := by decide +kernel
theorem dX10_addBytes_19 : decode cX10_addBytes 19 = .ok (.getfield 43, 3) := by decide +kernel
theorem dX10_addBytes_22 : decode cX10_addBytes 22 = .ok (.aload_n 0, 1) := by decide +kernel
theorem dX10_addBytes_23 : decode cX10_addBytes 23 = .ok (.getfield 51, 3) := by decide +kernel
theorem dX10_addBytes_26 : decode cX10_addBytes 26 = .ok (.iload_n 1, 1) := by decide +kernel
theorem dX10_addBytes_27 : decode cX10_addBytes 27 = .ok (.iload_n 2, 1) := by decide +kernel
theorem dX10_addBytes_28 : decode cX10_addBytes 28 = .ok (.ishr, 1) := by decide +kernel
theorem dX10_addBytes_29 : decode cX10_addBytes 29 = .ok (.i2b, 1) := by decide +kernel
theorem dX10_addBytes_30 : decode cX10_addBytes 30 = .ok (.bastore, 1) := by decide +kernel
theorem dX10_addBytes_31 : decode cX10_addBytes 31 = .ok (.aload_n 0, 1) := by decide +kernel
theorem dX10_addBytes_32 : decode cX10_addBytes 32 = .ok (.dup, 1) := by decide +kernel
theorem dX10_addBytes_33 : decode cX10_addBytes 33 = .ok (.getfield 51, 3) := by decide +kernel
theorem dX10_addBytes_36 : decode cX10_addBytes 36 = .ok (.iconst 1, 1) := by decide +kernel
theorem dX10_addBytes_37 : decode cX10_addBytes 37 = .ok (.iadd, 1) := by decide +kernel
theorem dX10_addBytes_38 : decode cX10_addBytes 38 = .ok (.putfield 51, 3) := by decide +kernel
theorem dX10_addBytes_41 : decode cX10_addBytes 41 = .ok (.iinc 2 (-8), 3) := by decide +kernel
theorem dX10_addBytes_44 : decode cX10_addBytes 44 = .ok (.goto (-30), 3) := by decide +kernel
theorem dX10_addBytes_10 : decode cX10_addBytes 10 = .ok (.return_, 1) := by decide +kernel
def cs_Told_addBytes_14 (n : Nat) : Nat → gb_S → Int32 → Int32 → gb_CR Unit
  | 0, _, _, _ => none
  | mm + 1, σ, v1, v2 => (if v2 < 0 then some (σ, ()) else gb_ck (σ.1 1 6) 600 (gb_lt (gb_su σ 23 (upd (σ.1 23) (Int32.toNatClampNeg (σ.1 1 6)) (vp_nar .byte ((v1 >>> (v2 &&& 31)).toInt8.toInt32)))) (fun s_4 => gb_lt (gb_su s_4 1 (upd (s_4.1 1) 6 ((s_4.1 1 6) + 1))) (fun s_5 => gb_lt (v2 + (-8)) (fun x_6 => cs_Told_addBytes_14 n mm s_5 v1 x_6)))))
def cs_Told_addBytes (n : Nat) (σ : gb_S) (p1 : Int32) : gb_CR Unit := (if (σ.1 1 6) ≤ 596 then cs_Told_addBytes_14 n n σ p1 24 else some (σ, ()))
set_option maxHeartbeats 8000000 in
set_option maxRecDepth 100000 in
theorem cc_Told_addBytes (l : Launch) (D : va_G) (cT : Nat → ClassId) (tt : Nat → Nat) (b1 b : Nat) (hb1 : b1 ≤ b) (n : Nat) (σ : gb_S) (p1 : Int32) (σE : gb_S) (rE : Unit) (h : cs_Told_addBytes n σ p1 = some (σE, rE)) : Met l yX10_addBytes (.code yX10_addBytes cX10_addBytes 3 none :: gb_wA) ({ frames := 0, cells := 0, slots := 0, locals := 0 }) (gb_Pc D cT tt b1 [.ref (b + 1), .int p1] (fun h => va_P D vwCl (gb_wl b (gb_CW cT b σ)) h)) (gb_Qv (fun h => va_P D vwCl (gb_wl b (gb_CW cT b σE)) h) (gb_fr b 135)) 0 0 (gb_fr b 135) := by
  refine Met.ofW (cc := cX10_addBytes) (maxL := 3) (ret := none) (by decide) rfl ?_
  intro p e s m args below meth c s₁ B hml hv
  obtain ⟨rfl, hSt, hP⟩ := hv
  have hx := B.exec
  have hb := B.bytes
  have hr := B.returns
  have hts := atoms_spec (ws := .code yX10_addBytes cX10_addBytes 3 none :: gb_wA) B.pre
  have hq : ∀ w ∈ gb_wA, w.before _ s = true := fun w h => hts w (List.mem_cons_of_mem _ h)
  have hown : s.vm.findClass RX10 = some m.cls := findClass_of_methodNamed B.named
  have hlocks := B.notSynchronized
  clear B hts
  have hK := hSt.1
  have hS : va_S (gb_fr b 135) s.heap s.heap [] := va_S.rf
  have hl := lv_entry ([.ref (b + 1), .int p1]) (n := 3) (Nat.le_of_ble_eq_true rfl)
  rw [lg_entry_eq]
  generalize (lg_sl ([.ref (b + 1), .int p1]) ++ List.replicate (3 - (lg_sl ([.ref (b + 1), .int p1])).length) Slot.unset).toArray = ls at hl ⊢
  replace hl : lv_has ls 3 [(0, .ref (b + 1)), (1, .int p1)] := hl
  have L14_1 : ∀ (mm : Nat) (σ : gb_S) (v1 : Int32) (v2 : Int32) (H : Heap) (locs : List Loc) (ls : Array Slot), cs_Told_addBytes_14 n mm σ v1 v2 = some (σE, rE) → va_P D vwCl (gb_wl b (gb_CW cT b σ)) H → va_S (gb_fr b 135) s.heap H locs → lv_has ls 3 [(0, .ref (b + 1)), (1, .int v1), (2, .int v2)] → W p l e (headSpec (.code yX10_addBytes cX10_addBytes 3 none :: gb_wA) ({ frames := 0, cells := 0, slots := 0, locals := 0 })).room s m ([.ref (b + 1), .int p1]).toArray below meth c H locs 0 0 (MQ below (gb_Qv (fun h => va_P D vwCl (gb_wl b (gb_CW cT b σE)) h) (gb_fr b 135)) ([.ref (b + 1), .int p1]).toArray s 0 0 (gb_fr b 135)) (F0 m 14 ls []) := by
    clear h hP hS hl ls
    intro mm
    induction mm with
    | zero =>
      intro σ v1 v2 H locs ls h
      cases h
    | succ mm ih =>
      intro σ v1 v2 H locs ls h hP hS hl
      rw [cs_Told_addBytes_14] at h
      refine lv_iload_n hx hb dX10_addBytes_14 rfl (lv_at hl 2 rfl) ?_
      refine lv_if_lt (tgt := 47) hx hb dX10_addBytes_15 (by decide) (fun c_2 => ?_) (fun c_2 => ?_)
      · rw [if_pos c_2] at h
        obtain ⟨e1, -⟩ := gb_eq2 h
        exact W.vret hx hb hr (fun t ht hW => gb_rv ht (by rw [← e1]; exact hP) hS) hS.2.2 dX10_addBytes_47
      · rw [if_neg c_2] at h
        refine lv_aload_n hx hb dX10_addBytes_18 rfl (lv_at hl 0 rfl) ?_
        refine va_get (ci := 8) (v := (.ref (b + 23))) (C := RX10) (T := TX10) (N := 9) hx hb hq i_X10 hown hK hP 1 (gb_at b rfl) rfl 5 (by decide) (hq _ w_122) (fun _ h9 => h9) rfl dX10_addBytes_19 ?_
        refine lv_aload_n hx hb dX10_addBytes_22 rfl (lv_at hl 0 rfl) ?_
        refine va_get (ci := 8) (v := (.int (σ.1 1 6))) (C := RX10) (T := TX10) (N := 9) hx hb hq i_X10 hown hK hP 1 (gb_at b rfl) rfl 6 (by decide) (hq _ w_124) (fun _ h9 => h9) rfl dX10_addBytes_23 ?_
        refine lv_iload_n hx hb dX10_addBytes_26 rfl (lv_at hl 1 rfl) ?_
        refine lv_iload_n hx hb dX10_addBytes_27 rfl (lv_at hl 2 rfl) ?_
        refine lv_ishr hx hb dX10_addBytes_28 ?_
        refine lv_i2b hx hb dX10_addBytes_29 rfl ?_
        obtain ⟨z_3, h⟩ := gb_ck_s h
        refine va_bast (x := ((v1 >>> (v2 &&& 31)).toInt8.toInt32)) hx hb hK hP (gb_D (fun k h => ⟨Nat.le_add_right b k, Nat.add_lt_add_left h b⟩)) hS 23 1 (gb_at b rfl) rfl z_3 dX10_addBytes_30 (fun H locs hP hD hS => ?_)
        rw [gb_set] at hP
        obtain ⟨s_4, es_4⟩ : ∃ q, q = (gb_su σ 23 (upd (σ.1 23) (Int32.toNatClampNeg (σ.1 1 6)) (vp_nar .byte ((v1 >>> (v2 &&& 31)).toInt8.toInt32)))) := ⟨_, rfl⟩
        replace hP : va_P D vwCl (gb_wl b (gb_CW cT b s_4)) H := by rw [es_4]; exact hP
        replace h := gb_lt_s es_4 h
        refine lv_aload_n hx hb dX10_addBytes_31 rfl (lv_at hl 0 rfl) ?_
        refine lv_dup hx hb dX10_addBytes_32 rfl ?_
        refine va_get (ci := 8) (v := (.int (s_4.1 1 6))) (C := RX10) (T := TX10) (N := 9) hx hb hq i_X10 hown hK hP 1 (gb_at b rfl) rfl 6 (by decide) (hq _ w_124) (fun _ h9 => h9) rfl dX10_addBytes_33 ?_
        refine lv_iconst (v := 1) hx hb dX10_addBytes_36 (by decide) ?_
        refine lv_iadd hx hb dX10_addBytes_37 ?_
        refine gb_put (ci := 8) (v := (.int ((s_4.1 1 6) + 1))) (ty := .int) (C := RX10) (T := TX10) (N := 9) hx hb hq i_X10 tyX10 tyX10_ok nmX10 hown hK hP (fun k h => ⟨Nat.le_add_right b k, Nat.add_lt_add_left h b⟩) hS rfl 1 rfl rfl 6 (by decide) (hq _ w_124) (fun _ h9 => h9) rfl (by decide +kernel) rfl rfl (Nat.le_of_ble_eq_true rfl) dX10_addBytes_38 (fun H locs hP hz_ hS => ?_)
        obtain ⟨s_5, es_5⟩ : ∃ q, q = (gb_su s_4 1 (upd (s_4.1 1) 6 ((s_4.1 1 6) + 1))) := ⟨_, rfl⟩
        replace hP : va_P D vwCl (gb_wl b (gb_CW cT b s_5)) H := by rw [es_5]; exact hP
        replace h := gb_lt_s es_5 h
        obtain ⟨x_6, ex_6⟩ : ∃ q, q = (v2 + (-8)) := ⟨_, rfl⟩
        replace h := gb_lt_s ex_6 h
        refine lv_iinc (v := x_6) (lv' := [(2, .int x_6), (0, .ref (b + 1)), (1, .int v1)]) hx hb dX10_addBytes_41 hl (k := 2) rfl (by rw [ex_6]; rfl) (by decide) rfl (fun ls hl => ?_)
        refine lv_goto (tgt := 14) hx hb dX10_addBytes_44 (by decide) ?_
        exact ih _ _ _ _ _ _ h hP hS (lv_sub hl [1, 2, 0] rfl)
  unfold cs_Told_addBytes at h
  refine lv_aload_n hx hb dX10_addBytes_0 rfl (lv_at hl 0 rfl) ?_
  refine va_get (ci := 8) (v := (.int (σ.1 1 6))) (C := RX10) (T := TX10) (N := 9) hx hb hq i_X10 hown hK hP 1 (gb_at b rfl) rfl 6 (by decide) (hq _ w_124) (fun _ h9 => h9) rfl dX10_addBytes_1 ?_
  refine lv_sipush (v := 596) hx hb dX10_addBytes_4 (by decide) ?_
  refine lv_icmp_le (tgt := 11) hx hb dX10_addBytes_7 (by decide) (fun c_1 => ?_) (fun c_1 => ?_)
  · rw [if_pos c_1] at h
    refine lv_bipush (v := 24) hx hb dX10_addBytes_11 (by decide) ?_
    refine lv_istore_n (lv' := [(2, .int 24), (0, .ref (b + 1)), (1, .int p1)]) hx hb dX10_addBytes_13 rfl hl (by decide) rfl (fun ls hl => ?_)
    exact L14_1 n _ _ _ _ _ _ h hP hS (lv_sub hl [1, 2, 0] rfl)
  · rw [if_neg c_1] at h
    obtain ⟨e1, -⟩ := gb_eq2 h
    exact W.vret hx hb hr (fun t ht hW => gb_rv ht (by rw [← e1]; exact hP) hS) hS.2.2 dX10_addBytes_10
theorem w_353 : (Cond.code ({ cls := "GooseBorder$Told", name := "addBytes", desc := "(I)V" } : MethodName) prog_12_method_2_code (3 : Nat) (Option.none : Option FieldType)) ∈ gb_wA := gb_t2 113 rfl rfl
theorem w_350 : (Cond.methodLink "GooseBorder" (78 : Nat) ({ cls := "GooseBorder$Told", name := "addBytes", desc := "(I)V" } : MethodName)) ∈ gb_wA := gb_t2 110 rfl rfl
theorem w_351 : (Cond.instanceMethod ({ cls := "GooseBorder$Told", name := "addBytes", desc := "(I)V" } : MethodName)) ∈ gb_wA := gb_t2 111 rfl rfl
theorem w_352 : (Cond.selects "GooseBorder$Told" ({ cls := "GooseBorder$Told", name := "addBytes", desc := "(I)V" } : MethodName) ({ cls := "GooseBorder$Told", name := "addBytes", desc := "(I)V" } : MethodName)) ∈ gb_wA := gb_t2 112 rfl rfl
theorem dX11_feed_23 : decode cX11_feed 23 = .ok (.aload_n 0, 1) := by decide +kernel
theorem dX11_feed_24 : decode cX11_feed 24 = .ok (.getfield 12, 3) := by decide +kernel
theorem dX11_feed_27 : decode cX11_feed 27 = .ok (.iload_n 2, 1) := by decide +kernel
theorem dX11_feed_28 : decode cX11_feed 28 = .ok (.invokevirtual 78, 3) := by decide +kernel
theorem dX11_feed_31 : decode cX11_feed 31 = .ok (.aload_n 0, 1) := by decide +kernel
theorem dX11_feed_32 : decode cX11_feed 32 = .ok (.getfield 12, 3) := by decide +kernel
theorem dX11_feed_35 : decode cX11_feed 35 = .ok (.iload_n 3, 1) := by decide +kernel
theorem dX11_feed_36 : decode cX11_feed 36 = .ok (.invokevirtual 78, 3) := by decide +kernel
theorem dX11_feed_39 : decode cX11_feed 39 = .ok (.aload_n 0, 1) := by decide +kernel
theorem dX11_feed_40 : decode cX11_feed 40 = .ok (.getfield 12, 3) := by decide +kernel
theorem dX11_feed_43 : decode cX11_feed 43 = .ok (.iload 4, 2) := by decide +kernel
theorem dX11_feed_45 : decode cX11_feed 45 = .ok (.invokevirtual 78, 3) := by decide +kernel
theorem dX11_feed_48 : decode cX11_feed 48 = .ok (.aload_n 0, 1) := by decide +kernel
theorem dX11_feed_49 : decode cX11_feed 49 = .ok (.getfield 12, 3) := by decide +kernel
theorem dX11_feed_52 : decode cX11_feed 52 = .ok (.iload 5, 2) := by decide +kernel
theorem dX11_feed_54 : decode cX11_feed 54 = .ok (.invokevirtual 78, 3) := by decide +kernel
theorem dX11_feed_57 : decode cX11_feed 57 = .ok (.aload_n 0, 1) := by decide +kernel
theorem dX11_feed_58 : decode cX11_feed 58 = .ok (.getfield 12, 3) := by decide +kernel
theorem dX11_feed_61 : decode cX11_feed 61 = .ok (.getfield 74, 3) := by decide +kernel
theorem dX11_feed_64 : decode cX11_feed 64 = .ok (.ireturn, 1) := by decide +kernel
theorem dX11_feed_13 : decode cX11_feed 13 = .ok (.iconst (-1), 1) := by decide +kernel
theorem dX11_feed_14 : decode cX11_feed 14 = .ok (.ireturn, 1) := by decide +kernel
def cs_Face_feed (n : Nat) (σ : gb_S) (p1 : Int32) (p2 : Int32) (p3 : Int32) (p4 : Int32) (p5 : Int32) : gb_CR Int32 := (if (σ.1 1 6) ≤ 580 then gb_cd (cs_Told_addBytes n σ p1) (fun s_2 _ => gb_cd (cs_Told_addBytes n s_2 p2) (fun s_6 _ => gb_cd (cs_Told_addBytes n s_6 p3) (fun s_10 _ => gb_cd (cs_Told_addBytes n s_10 p4) (fun s_14 _ => gb_cd (cs_Told_addBytes n s_14 p5) (fun s_18 _ => some (s_18, (s_18.1 1 6))))))) else some (σ, (-1)))
set_option maxHeartbeats 8000000 in
set_option maxRecDepth 100000 in
theorem cc_Face_feed (l : Launch) (D : va_G) (cT : Nat → ClassId) (tt : Nat → Nat) (b1 b : Nat) (hb1 : b1 ≤ b) (n : Nat) (σ : gb_S) (p1 : Int32) (p2 : Int32) (p3 : Int32) (p4 : Int32) (p5 : Int32) (σE : gb_S) (rE : Int32) (h : cs_Face_feed n σ p1 p2 p3 p4 p5 = some (σE, rE)) : Met l yX11_feed (.code yX11_feed cX11_feed 6 (some FieldType.int) :: gb_wA) ({ frames := 1, cells := 0, slots := 0, locals := 22 }) (gb_Pc D cT tt b1 [.ref (b + 0), .int p1, .int p2, .int p3, .int p4, .int p5] (fun h => va_P D vwCl (gb_wl b (gb_CW cT b σ)) h)) (gb_Qi (fun r h => r = rE ∧ va_P D vwCl (gb_wl b (gb_CW cT b σE)) h) (gb_fr b 135)) 0 0 (gb_fr b 135) := by
  refine Met.ofW (cc := cX11_feed) (maxL := 6) (ret := (some FieldType.int)) (by decide) rfl ?_
  intro p e s m args below meth c s₁ B hml hv
  obtain ⟨rfl, hSt, hP⟩ := hv
  have hx := B.exec
  have hb := B.bytes
  have hr := B.returns
  have hts := atoms_spec (ws := .code yX11_feed cX11_feed 6 (some FieldType.int) :: gb_wA) B.pre
  have hq : ∀ w ∈ gb_wA, w.before _ s = true := fun w h => hts w (List.mem_cons_of_mem _ h)
  have hown : s.vm.findClass RX11 = some m.cls := findClass_of_methodNamed B.named
  have hlocks := B.notSynchronized
  clear B hts
  have hK := hSt.1
  have hS : va_S (gb_fr b 135) s.heap s.heap [] := va_S.rf
  have hl := lv_entry ([.ref (b + 0), .int p1, .int p2, .int p3, .int p4, .int p5]) (n := 6) (Nat.le_of_ble_eq_true rfl)
  rw [lg_entry_eq]
  generalize (lg_sl ([.ref (b + 0), .int p1, .int p2, .int p3, .int p4, .int p5]) ++ List.replicate (6 - (lg_sl ([.ref (b + 0), .int p1, .int p2, .int p3, .int p4, .int p5])).length) Slot.unset).toArray = ls at hl ⊢
  replace hl : lv_has ls 6 [(0, .ref (b + 0)), (1, .int p1), (2, .int p2), (3, .int p3), (4, .int p4), (5, .int p5)] := hl
  unfold cs_Face_feed at h
  refine lv_aload_n hx hb dX11_feed_0 rfl (lv_at hl 0 rfl) ?_
  refine va_get (ci := 9) (v := (.ref (b + 1))) (C := RX11) (T := TX11) (N := 10) hx hb hq i_X11 hown hK hP 0 (gb_at b rfl) rfl 0 (by decide) (hq _ w_315) (fun _ h9 => h9) rfl dX11_feed_1 ?_
  refine va_get (ci := 8) (v := (.int (σ.1 1 6))) (C := RX10) (T := TX10) (N := 9) hx hb hq i_X10 hown hK hP 1 (gb_at b rfl) rfl 6 (by decide) (hq _ w_125) (fun _ h9 => h9) rfl dX11_feed_4 ?_
  refine lv_sipush (v := 580) hx hb dX11_feed_7 (by decide) ?_
  refine lv_icmp_le (tgt := 15) hx hb dX11_feed_10 (by decide) (fun c_1 => ?_) (fun c_1 => ?_)
  · rw [if_pos c_1] at h
    refine lv_aload_n hx hb dX11_feed_15 rfl (lv_at hl 0 rfl) ?_
    refine va_get (ci := 9) (v := (.ref (b + 1))) (C := RX11) (T := TX11) (N := 10) hx hb hq i_X11 hown hK hP 0 (gb_at b rfl) rfl 0 (by decide) (hq _ w_315) (fun _ h9 => h9) rfl dX11_feed_16 ?_
    refine lv_iload_n hx hb dX11_feed_19 rfl (lv_at hl 1 rfl) ?_
    obtain ⟨s_2, r_3, z_4, h⟩ := gb_cd_s h
    refine gb_callv (va_runV (C := RX10) (As := [.int p1]) (rest := []) ⟨hx, hb, hml, hown, hq⟩ (cc_Told_addBytes l D cT tt b1 b hb1 n σ p1 s_2 r_3 z_4) (cwV 1 hq (gb_gV w_350 w_351 w_352 w_2 w_353) rfl rfl rfl (by decide +kernel) ⟨Nat.le_of_ble_eq_true rfl, Nat.le_of_ble_eq_true rfl⟩) (gb_preV (r := (RX10, TX10, 9)) (ci := 8) (q0 := 1) hSt hP rfl (gb_at b rfl) hS (fun q h => Nat.le_trans hb1 h.1) hP) rfl rfl hl.1 rfl (lv_room (Nat.le_of_ble_eq_true rfl)) dX11_feed_20 ⟨Nat.le_of_ble_eq_true rfl, Nat.le_of_ble_eq_true rfl⟩) hS (fun _ h => h) (fun _ h => h) (fun H locs hY hk hS => ?_)
    have hP := hY
    refine lv_aload_n hx hb dX11_feed_23 rfl (lv_at hl 0 rfl) ?_
    refine va_get (ci := 9) (v := (.ref (b + 1))) (C := RX11) (T := TX11) (N := 10) hx hb hq i_X11 hown hK hP 0 (gb_at b rfl) rfl 0 (by decide) (hq _ w_315) (fun _ h9 => h9) rfl dX11_feed_24 ?_
    refine lv_iload_n hx hb dX11_feed_27 rfl (lv_at hl 2 rfl) ?_
    obtain ⟨s_6, r_7, z_8, h⟩ := gb_cd_s h
    refine gb_callv (va_runV (C := RX10) (As := [.int p2]) (rest := []) ⟨hx, hb, hml, hown, hq⟩ (cc_Told_addBytes l D cT tt b1 b hb1 n s_2 p2 s_6 r_7 z_8) (cwV 1 hq (gb_gV w_350 w_351 w_352 w_2 w_353) rfl rfl rfl (by decide +kernel) ⟨Nat.le_of_ble_eq_true rfl, Nat.le_of_ble_eq_true rfl⟩) (gb_preV (r := (RX10, TX10, 9)) (ci := 8) (q0 := 1) hSt hP rfl (gb_at b rfl) hS (fun q h => Nat.le_trans hb1 h.1) hP) rfl rfl hl.1 rfl (lv_room (Nat.le_of_ble_eq_true rfl)) dX11_feed_28 ⟨Nat.le_of_ble_eq_true rfl, Nat.le_of_ble_eq_true rfl⟩) hS (fun _ h => h) (fun _ h => h) (fun H locs hY hk hS => ?_)
    have hP := hY
    refine lv_aload_n hx hb dX11_feed_31 rfl (lv_at hl 0 rfl) ?_
    refine va_get (ci := 9) (v := (.ref (b + 1))) (C := RX11) (T := TX11) (N := 10) hx hb hq i_X11 hown hK hP 0 (gb_at b rfl) rfl 0 (by decide) (hq _ w_315) (fun _ h9 => h9) rfl dX11_feed_32 ?_
    refine lv_iload_n hx hb dX11_feed_35 rfl (lv_at hl 3 rfl) ?_
    obtain ⟨s_10, r_11, z_12, h⟩ := gb_cd_s h
    refine gb_callv (va_runV (C := RX10) (As := [.int p3]) (rest := []) ⟨hx, hb, hml, hown, hq⟩ (cc_Told_addBytes l D cT tt b1 b hb1 n s_6 p3 s_10 r_11 z_12) (cwV 1 hq (gb_gV w_350 w_351 w_352 w_2 w_353) rfl rfl rfl (by decide +kernel) ⟨Nat.le_of_ble_eq_true rfl, Nat.le_of_ble_eq_true rfl⟩) (gb_preV (r := (RX10, TX10, 9)) (ci := 8) (q0 := 1) hSt hP rfl (gb_at b rfl) hS (fun q h => Nat.le_trans hb1 h.1) hP) rfl rfl hl.1 rfl (lv_room (Nat.le_of_ble_eq_true rfl)) dX11_feed_36 ⟨Nat.le_of_ble_eq_true rfl, Nat.le_of_ble_eq_true rfl⟩) hS (fun _ h => h) (fun _ h => h) (fun H locs hY hk hS => ?_)
    have hP := hY
    refine lv_aload_n hx hb dX11_feed_39 rfl (lv_at hl 0 rfl) ?_
    refine va_get (ci := 9) (v := (.ref (b + 1))) (C := RX11) (T := TX11) (N := 10) hx hb hq i_X11 hown hK hP 0 (gb_at b rfl) rfl 0 (by decide) (hq _ w_315) (fun _ h9 => h9) rfl dX11_feed_40 ?_
    refine lv_iload hx hb dX11_feed_43 (lv_at hl 4 rfl) ?_
    obtain ⟨s_14, r_15, z_16, h⟩ := gb_cd_s h
    refine gb_callv (va_runV (C := RX10) (As := [.int p4]) (rest := []) ⟨hx, hb, hml, hown, hq⟩ (cc_Told_addBytes l D cT tt b1 b hb1 n s_10 p4 s_14 r_15 z_16) (cwV 1 hq (gb_gV w_350 w_351 w_352 w_2 w_353) rfl rfl rfl (by decide +kernel) ⟨Nat.le_of_ble_eq_true rfl, Nat.le_of_ble_eq_true rfl⟩) (gb_preV (r := (RX10, TX10, 9)) (ci := 8) (q0 := 1) hSt hP rfl (gb_at b rfl) hS (fun q h => Nat.le_trans hb1 h.1) hP) rfl rfl hl.1 rfl (lv_room (Nat.le_of_ble_eq_true rfl)) dX11_feed_45 ⟨Nat.le_of_ble_eq_true rfl, Nat.le_of_ble_eq_true rfl⟩) hS (fun _ h => h) (fun _ h => h) (fun H locs hY hk hS => ?_)
    have hP := hY
    refine lv_aload_n hx hb dX11_feed_48 rfl (lv_at hl 0 rfl) ?_
    refine va_get (ci := 9) (v := (.ref (b + 1))) (C := RX11) (T := TX11) (N := 10) hx hb hq i_X11 hown hK hP 0 (gb_at b rfl) rfl 0 (by decide) (hq _ w_315) (fun _ h9 => h9) rfl dX11_feed_49 ?_
    refine lv_iload hx hb dX11_feed_52 (lv_at hl 5 rfl) ?_
    obtain ⟨s_18, r_19, z_20, h⟩ := gb_cd_s h
    refine gb_callv (va_runV (C := RX10) (As := [.int p5]) (rest := []) ⟨hx, hb, hml, hown, hq⟩ (cc_Told_addBytes l D cT tt b1 b hb1 n s_14 p5 s_18 r_19 z_20) (cwV 1 hq (gb_gV w_350 w_351 w_352 w_2 w_353) rfl rfl rfl (by decide +kernel) ⟨Nat.le_of_ble_eq_true rfl, Nat.le_of_ble_eq_true rfl⟩) (gb_preV (r := (RX10, TX10, 9)) (ci := 8) (q0 := 1) hSt hP rfl (gb_at b rfl) hS (fun q h => Nat.le_trans hb1 h.1) hP) rfl rfl hl.1 rfl (lv_room (Nat.le_of_ble_eq_true rfl)) dX11_feed_54 ⟨Nat.le_of_ble_eq_true rfl, Nat.le_of_ble_eq_true rfl⟩) hS (fun _ h => h) (fun _ h => h) (fun H locs hY hk hS => ?_)
    have hP := hY
    refine lv_aload_n hx hb dX11_feed_57 rfl (lv_at hl 0 rfl) ?_
    refine va_get (ci := 9) (v := (.ref (b + 1))) (C := RX11) (T := TX11) (N := 10) hx hb hq i_X11 hown hK hP 0 (gb_at b rfl) rfl 0 (by decide) (hq _ w_315) (fun _ h9 => h9) rfl dX11_feed_58 ?_
    refine va_get (ci := 8) (v := (.int (s_18.1 1 6))) (C := RX10) (T := TX10) (N := 9) hx hb hq i_X10 hown hK hP 1 (gb_at b rfl) rfl 6 (by decide) (hq _ w_125) (fun _ h9 => h9) rfl dX11_feed_61 ?_
    obtain ⟨e1, e2⟩ := gb_eq2 h
    exact W.iret (v := (s_18.1 1 6)) hx hb hr (fun t ht hW => gb_ri ht ⟨e2, by rw [← e1]; exact hP⟩ hS) hS.2.2 dX11_feed_64
  · rw [if_neg c_1] at h
    refine lv_iconst (v := (-1)) hx hb dX11_feed_13 (by decide) ?_
    obtain ⟨e1, e2⟩ := gb_eq2 h
    exact W.iret (v := (-1)) hx hb hr (fun t ht hW => gb_ri ht ⟨e2, by rw [← e1]; exact hP⟩ hS) hS.2.2 dX11_feed_14
theorem dX11_end_0 : decode cX11_end 0 = .ok (.iload_n 1, 1) := by decide +kernel
theorem dX11_end_1 : decode cX11_end 1 = .ok (.ifCond .lt 14, 3) := by decide +kernel
theorem dX11_end_15 : decode cX11_end 15 = .ok (.iconst (-1), 1) := by decide +kernel
theorem dX11_end_16 : decode cX11_end 16 = .ok (.ireturn, 1) := by decide +kernel
theorem dX11_end_4 : decode cX11_end 4 = .ok (.iload_n 1, 1) := by decide +kernel
theorem dX11_end_5 : decode cX11_end 5 = .ok (.aload_n 0, 1) := by decide +kernel
theorem dX11_end_6 : decode cX11_end 6 = .ok (.getfield 12, 3) := by decide +kernel
theorem dX11_end_9 : decode cX11_end 9 = .ok (.getfield 74, 3) := by decide +kernel
theorem dX11_end_12 : decode cX11_end 12 = .ok (.if_icmp .le 5, 3) := by decide +kernel
theorem dX11_end_17 : decode cX11_end 17 = .ok (.aload_n 0, 1) := by decide +kernel
theorem dX11_end_18 : decode cX11_end 18 = .ok (.getfield 12, 3) := by decide +kernel
theorem dX11_end_21 : decode cX11_end 21 = .ok (.iload_n 1, 1) := by decide +kernel
theorem dX11_end_22 : decode cX11_end 22 = .ok (.putfield 74, 3) := by decide +kernel
theorem dX11_end_25 : decode cX11_end 25 = .ok (.iload_n 1, 1) := by decide +kernel
theorem dX11_end_26 : decode cX11_end 26 = .ok (.ireturn, 1) := by decide +kernel
def cs_Face_end (n : Nat) (σ : gb_S) (p1 : Int32) : gb_CR Int32 := (if p1 < 0 then some (σ, (-1)) else (if p1 ≤ (σ.1 1 6) then gb_lt (gb_su σ 1 (upd (σ.1 1) 6 p1)) (fun s_3 => some (s_3, p1)) else some (σ, (-1))))
set_option maxHeartbeats 8000000 in
set_option maxRecDepth 100000 in
theorem cc_Face_end (l : Launch) (D : va_G) (cT : Nat → ClassId) (tt : Nat → Nat) (b1 b : Nat) (hb1 : b1 ≤ b) (n : Nat) (σ : gb_S) (p1 : Int32) (σE : gb_S) (rE : Int32) (h : cs_Face_end n σ p1 = some (σE, rE)) : Met l yX11_end (.code yX11_end cX11_end 2 (some FieldType.int) :: gb_wA) ({ frames := 0, cells := 0, slots := 0, locals := 0 }) (gb_Pc D cT tt b1 [.ref (b + 0), .int p1] (fun h => va_P D vwCl (gb_wl b (gb_CW cT b σ)) h)) (gb_Qi (fun r h => r = rE ∧ va_P D vwCl (gb_wl b (gb_CW cT b σE)) h) (gb_fr b 135)) 0 0 (gb_fr b 135) := by
  refine Met.ofW (cc := cX11_end) (maxL := 2) (ret := (some FieldType.int)) (by decide) rfl ?_
  intro p e s m args below meth c s₁ B hml hv
  obtain ⟨rfl, hSt, hP⟩ := hv
  have hx := B.exec
  have hb := B.bytes
  have hr := B.returns
  have hts := atoms_spec (ws := .code yX11_end cX11_end 2 (some FieldType.int) :: gb_wA) B.pre
  have hq : ∀ w ∈ gb_wA, w.before _ s = true := fun w h => hts w (List.mem_cons_of_mem _ h)
  have hown : s.vm.findClass RX11 = some m.cls := findClass_of_methodNamed B.named
  have hlocks := B.notSynchronized
  clear B hts
  have hK := hSt.1
  have hS : va_S (gb_fr b 135) s.heap s.heap [] := va_S.rf
  have hl := lv_entry ([.ref (b + 0), .int p1]) (n := 2) (Nat.le_of_ble_eq_true rfl)
  rw [lg_entry_eq]
  generalize (lg_sl ([.ref (b + 0), .int p1]) ++ List.replicate (2 - (lg_sl ([.ref (b + 0), .int p1])).length) Slot.unset).toArray = ls at hl ⊢
  replace hl : lv_has ls 2 [(0, .ref (b + 0)), (1, .int p1)] := hl
  unfold cs_Face_end at h
  refine lv_iload_n hx hb dX11_end_0 rfl (lv_at hl 1 rfl) ?_
  refine lv_if_lt (tgt := 15) hx hb dX11_end_1 (by decide) (fun c_1 => ?_) (fun c_1 => ?_)
  · rw [if_pos c_1] at h
    refine lv_iconst (v := (-1)) hx hb dX11_end_15 (by decide) ?_
    obtain ⟨e1, e2⟩ := gb_eq2 h
    exact W.iret (v := (-1)) hx hb hr (fun t ht hW => gb_ri ht ⟨e2, by rw [← e1]; exact hP⟩ hS) hS.2.2 dX11_end_16
  · rw [if_neg c_1] at h
    refine lv_iload_n hx hb dX11_end_4 rfl (lv_at hl 1 rfl) ?_
    refine lv_aload_n hx hb dX11_end_5 rfl (lv_at hl 0 rfl) ?_
    refine va_get (ci := 9) (v := (.ref (b + 1))) (C := RX11) (T := TX11) (N := 10) hx hb hq i_X11 hown hK hP 0 (gb_at b rfl) rfl 0 (by decide) (hq _ w_315) (fun _ h9 => h9) rfl dX11_end_6 ?_
    refine va_get (ci := 8) (v := (.int (σ.1 1 6))) (C := RX10) (T := TX10) (N := 9) hx hb hq i_X10 hown hK hP 1 (gb_at b rfl) rfl 6 (by decide) (hq _ w_125) (fun _ h9 => h9) rfl dX11_end_9 ?_
    refine lv_icmp_le (tgt := 17) hx hb dX11_end_12 (by decide) (fun c_2 => ?_) (fun c_2 => ?_)
    · rw [if_pos c_2] at h
      refine lv_aload_n hx hb dX11_end_17 rfl (lv_at hl 0 rfl) ?_
      refine va_get (ci := 9) (v := (.ref (b + 1))) (C := RX11) (T := TX11) (N := 10) hx hb hq i_X11 hown hK hP 0 (gb_at b rfl) rfl 0 (by decide) (hq _ w_315) (fun _ h9 => h9) rfl dX11_end_18 ?_
      refine lv_iload_n hx hb dX11_end_21 rfl (lv_at hl 1 rfl) ?_
      refine gb_put (ci := 8) (v := (.int p1)) (ty := .int) (C := RX10) (T := TX10) (N := 9) hx hb hq i_X10 tyX10 tyX10_ok nmX10 hown hK hP (fun k h => ⟨Nat.le_add_right b k, Nat.add_lt_add_left h b⟩) hS rfl 1 rfl rfl 6 (by decide) (hq _ w_125) (fun _ h9 => h9) rfl (by decide +kernel) rfl rfl (Nat.le_of_ble_eq_true rfl) dX11_end_22 (fun H locs hP hz_ hS => ?_)
      obtain ⟨s_3, es_3⟩ : ∃ q, q = (gb_su σ 1 (upd (σ.1 1) 6 p1)) := ⟨_, rfl⟩
      replace hP : va_P D vwCl (gb_wl b (gb_CW cT b s_3)) H := by rw [es_3]; exact hP
      replace h := gb_lt_s es_3 h
      refine lv_iload_n hx hb dX11_end_25 rfl (lv_at hl 1 rfl) ?_
      obtain ⟨e1, e2⟩ := gb_eq2 h
      exact W.iret (v := p1) hx hb hr (fun t ht hW => gb_ri ht ⟨e2, by rw [← e1]; exact hP⟩ hS) hS.2.2 dX11_end_26
    · rw [if_neg c_2] at h
      refine lv_iconst (v := (-1)) hx hb dX11_end_15 (by decide) ?_
      obtain ⟨e1, e2⟩ := gb_eq2 h
      exact W.iret (v := (-1)) hx hb hr (fun t ht hW => gb_ri ht ⟨e2, by rw [← e1]; exact hP⟩ hS) hS.2.2 dX11_end_16
theorem dX11_text_0 : decode cX11_text 0 = .ok (.aload_n 0, 1) := by decide +kernel
theorem dX11_text_1 : decode cX11_text 1 = .ok (.getfield 12, 3) := by decide +kernel
theorem dX11_text_4 : decode cX11_text 4 = .ok (.getfield 74, 3) := by decide +kernel
theorem dX11_text_7 : decode cX11_text 7 = .ok (.istore_n 3, 1) := by decide +kernel
theorem dX11_text_8 : decode cX11_text 8 = .ok (.aload_n 0, 1) := by decide +kernel
theorem dX11_text_9 : decode cX11_text 9 = .ok (.getfield 12, 3) := by decide +kernel
theorem dX11_text_12 : decode cX11_text 12 = .ok (.iconst 0, 1) := by decide +kernel
theorem dX11_text_13 : decode cX11_text 13 = .ok (.putfield 74, 3) := by decide +kernel
theorem dX11_text_16 : decode cX11_text 16 = .ok (.aload_n 0, 1) := by decide +kernel
theorem dX11_text_17 : decode cX11_text 17 = .ok (.getfield 12, 3) := by decide +kernel
theorem dX11_text_20 : decode cX11_text 20 = .ok (.iconst 0, 1) := by decide +kernel
theorem dX11_text_21 : decode cX11_text 21 = .ok (.putfield 82, 3) := by decide +kernel
theorem w_126 : (Cond.fieldLink "GooseBorder" (82 : Nat) "GooseBorder$Told" "fault" "I") ∈ gb_wA := gb_t1 126 rfl rfl
theorem dX11_text_24 : decode cX11_text 24 = .ok (.aload_n 0, 1) := by decide +kernel
theorem dX11_text_25 : decode cX11_text 25 = .ok (.getfield 12, 3) := by decide +kernel
theorem dX11_text_28 : decode cX11_text 28 = .ok (.iconst (-1), 1) := by decide +kernel
theorem dX11_text_29 : decode cX11_text 29 = .ok (.putfield 85, 3) := by decide +kernel
theorem w_129 : (Cond.fieldLink "GooseBorder" (85 : Nat) "GooseBorder$Told" "place" "I") ∈ gb_wA := gb_t1 129 rfl rfl
theorem dX11_text_32 : decode cX11_text 32 = .ok (.iload_n 1, 1) := by decide +kernel
theorem dX11_text_33 : decode cX11_text 33 = .ok (.ifCond .lt 8, 3) := by decide +kernel
theorem dX11_text_41 : decode cX11_text 41 = .ok (.bipush (-2), 2) := by decide +kernel
theorem dX11_text_43 : decode cX11_text 43 = .ok (.ireturn, 1) := by decide +kernel
theorem dX11_text_36 : decode cX11_text 36 = .ok (.iload_n 1, 1) := by decide +kernel
theorem dX11_text_37 : decode cX11_text 37 = .ok (.iconst 4, 1) := by decide +kernel
theorem dX11_text_38 : decode cX11_text 38 = .ok (.if_icmp .lt 6, 3) := by decide +kernel
theorem dX11_text_44 : decode cX11_text 44 = .ok (.aload_n 0, 1) := by decide +kernel
theorem dX11_text_45 : decode cX11_text 45 = .ok (.getfield 12, 3) := by decide +kernel
theorem dX11_text_48 : decode cX11_text 48 = .ok (.getfield 88, 3) := by decide +kernel
theorem w_121 : (Cond.fieldLink "GooseBorder" (88 : Nat) "GooseBorder$Told" "held" "[I") ∈ gb_wA := gb_t1 121 rfl rfl
theorem dX11_text_51 : decode cX11_text 51 = .ok (.iload_n 1, 1) := by decide +kernel
theorem dX11_text_52 : decode cX11_text 52 = .ok (.iaload, 1) := by decide +kernel
theorem dX11_text_53 : decode cX11_text 53 = .ok (.istore 4, 2) := by decide +kernel
theorem dX11_text_55 : decode cX11_text 55 = .ok (.iload_n 2, 1) := by decide +kernel
theorem dX11_text_56 : decode cX11_text 56 = .ok (.iconst (-1), 1) := by decide +kernel
theorem dX11_text_57 : decode cX11_text 57 = .ok (.if_icmp .ne 7, 3) := by decide +kernel
theorem dX11_text_64 : decode cX11_text 64 = .ok (.iconst 0, 1) := by decide +kernel
theorem dX11_text_65 : decode cX11_text 65 = .ok (.istore 5, 2) := by decide +kernel
theorem dX11_text_67 : decode cX11_text 67 = .ok (.iload 5, 2) := by decide +kernel
theorem dX11_text_69 : decode cX11_text 69 = .ok (.ifCond .eq 12, 3) := by decide +kernel
theorem dX11_text_81 : decode cX11_text 81 = .ok (.iload_n 2, 1) := by decide +kernel
theorem dX11_text_82 : decode cX11_text 82 = .ok (.ifCond .lt 9, 3) := by decide +kernel
theorem dX11_text_91 : decode cX11_text 91 = .ok (.bipush (-2), 2) := by decide +kernel
theorem dX11_text_93 : decode cX11_text 93 = .ok (.ireturn, 1) := by decide +kernel
theorem dX11_text_85 : decode cX11_text 85 = .ok (.iload_n 2, 1) := by decide +kernel
theorem dX11_text_86 : decode cX11_text 86 = .ok (.iload 4, 2) := by decide +kernel
theorem dX11_text_88 : decode cX11_text 88 = .ok (.if_icmp .lt 6, 3) := by decide +kernel
theorem dX11_text_94 : decode cX11_text 94 = .ok (.aload_n 0, 1) := by decide +kernel
theorem dX11_text_95 : decode cX11_text 95 = .ok (.getfield 38, 3) := by decide +kernel
theorem dX11_text_98 : decode cX11_text 98 = .ok (.iload_n 1, 1) := by decide +kernel
theorem dX11_text_99 : decode cX11_text 99 = .ok (.aaload, 1) := by decide +kernel
theorem dX11_text_100 : decode cX11_text 100 = .ok (.astore 6, 2) := by decide +kernel
theorem dX11_text_102 : decode cX11_text 102 = .ok (.aload_n 0, 1) := by decide +kernel
theorem dX11_text_103 : decode cX11_text 103 = .ok (.getfield 49, 3) := by decide +kernel
theorem dX11_text_106 : decode cX11_text 106 = .ok (.aload_n 0, 1) := by decide +kernel
theorem dX11_text_107 : decode cX11_text 107 = .ok (.getfield 12, 3) := by decide +kernel
theorem dX11_text_110 : decode cX11_text 110 = .ok (.getfield 92, 3) := by decide +kernel
theorem w_123 : (Cond.fieldLink "GooseBorder" (92 : Nat) "GooseBorder$Told" "tape" "[B") ∈ gb_wA := gb_t1 123 rfl rfl
theorem dX11_text_113 : decode cX11_text 113 = .ok (.iload_n 3, 1) := by decide +kernel
theorem dX11_text_114 : decode cX11_text 114 = .ok (.iload_n 1, 1) := by decide +kernel
theorem dX11_text_115 : decode cX11_text 115 = .ok (.aload 6, 2) := by decide +kernel
theorem dX11_text_117 : decode cX11_text 117 = .ok (.invokevirtual 96, 3) := by decide +kernel
theorem dX7_read_0 : decode cX7_read 0 = .ok (.aload_n 0, 1) := by decide +kernel
theorem dX7_read_1 : decode cX7_read 1 = .ok (.aload_n 1, 1) := by decide +kernel
theorem dX7_read_2 : decode cX7_read 2 = .ok (.putfield 15, 3) := by decide +kernel
theorem dX7_read_5 : decode cX7_read 5 = .ok (.aload_n 0, 1) := by decide +kernel
theorem dX7_read_6 : decode cX7_read 6 = .ok (.iload_n 2, 1) := by decide +kernel
theorem dX7_read_7 : decode cX7_read 7 = .ok (.aload_n 1, 1) := by decide +kernel
theorem dX7_read_8 : decode cX7_read 8 = .ok (.arraylength, 1) := by decide +kernel
theorem dX11_fault_0 : decode cX11_fault 0 = .ok (.iload_n 1, 1) := by decide +kernel
theorem dX11_fault_1 : decode cX11_fault 1 = .ok (.lookupswitch 43 #[(0, 27), (1, 35)], 27) := by decide +kernel
theorem dX11_fault_28 : decode cX11_fault 28 = .ok (.aload_n 0, 1) := by decide +kernel
theorem dX11_fault_29 : decode cX11_fault 29 = .ok (.getfield 12, 3) := by decide +kernel
theorem dX11_fault_32 : decode cX11_fault 32 = .ok (.getfield 82, 3) := by decide +kernel
theorem dX11_fault_35 : decode cX11_fault 35 = .ok (.ireturn, 1) := by decide +kernel
theorem dX11_fault_36 : decode cX11_fault 36 = .ok (.aload_n 0, 1) := by decide +kernel
theorem dX11_fault_37 : decode cX11_fault 37 = .ok (.getfield 12, 3) := by decide +kernel
theorem dX11_fault_40 : decode cX11_fault 40 = .ok (.getfield 85, 3) := by decide +kernel
theorem dX11_fault_43 : decode cX11_fault 43 = .ok (.ireturn, 1) := by decide +kernel
theorem dX11_fault_44 : decode cX11_fault 44 = .ok (.iconst (-1), 1) := by decide +kernel
theorem dX11_fault_45 : decode cX11_fault 45 = .ok (.ireturn, 1) := by decide +kernel
def cs_Face_fault (n : Nat) (σ : gb_S) (p1 : Int32) : gb_CR Int32 := (if p1 = (0 : Int32) then some (σ, (σ.1 1 7)) else (if p1 = (1 : Int32) then some (σ, (σ.1 1 8)) else some (σ, (-1))))
set_option maxHeartbeats 8000000 in
set_option maxRecDepth 100000 in
theorem cc_Face_fault (l : Launch) (D : va_G) (cT : Nat → ClassId) (tt : Nat → Nat) (b1 b : Nat) (hb1 : b1 ≤ b) (n : Nat) (σ : gb_S) (p1 : Int32) (σE : gb_S) (rE : Int32) (h : cs_Face_fault n σ p1 = some (σE, rE)) : Met l yX11_fault (.code yX11_fault cX11_fault 2 (some FieldType.int) :: gb_wA) ({ frames := 0, cells := 0, slots := 0, locals := 0 }) (gb_Pc D cT tt b1 [.ref (b + 0), .int p1] (fun h => va_P D vwCl (gb_wl b (gb_CW cT b σ)) h)) (gb_Qi (fun r h => r = rE ∧ va_P D vwCl (gb_wl b (gb_CW cT b σE)) h) (gb_fr b 135)) 0 0 (gb_fr b 135) := by
  refine Met.ofW (cc := cX11_fault) (maxL := 2) (ret := (some FieldType.int)) (by decide) rfl ?_
  intro p e s m args below meth c s₁ B hml hv
  obtain ⟨rfl, hSt, hP⟩ := hv
  have hx := B.exec
  have hb := B.bytes
  have hr := B.returns
  have hts := atoms_spec (ws := .code yX11_fault cX11_fault 2 (some FieldType.int) :: gb_wA) B.pre
  have hq : ∀ w ∈ gb_wA, w.before _ s = true := fun w h => hts w (List.mem_cons_of_mem _ h)
  have hown : s.vm.findClass RX11 = some m.cls := findClass_of_methodNamed B.named
  have hlocks := B.notSynchronized
  clear B hts
  have hK := hSt.1
  have hS : va_S (gb_fr b 135) s.heap s.heap [] := va_S.rf
  have hl := lv_entry ([.ref (b + 0), .int p1]) (n := 2) (Nat.le_of_ble_eq_true rfl)
  rw [lg_entry_eq]
  generalize (lg_sl ([.ref (b + 0), .int p1]) ++ List.replicate (2 - (lg_sl ([.ref (b + 0), .int p1])).length) Slot.unset).toArray = ls at hl ⊢
  replace hl : lv_has ls 2 [(0, .ref (b + 0)), (1, .int p1)] := hl
  unfold cs_Face_fault at h
  refine lv_iload_n hx hb dX11_fault_0 rfl (lv_at hl 1 rfl) ?_
  by_cases c_1 : p1 = (0 : Int32)
  · rw [if_pos c_1] at h
    refine lv_lookup (off := 27) (tgt := 28) hx hb dX11_fault_1 (by decide) (by rw [c_1]; decide) (by decide) ?_
    refine lv_aload_n hx hb dX11_fault_28 rfl (lv_at hl 0 rfl) ?_
    refine va_get (ci := 9) (v := (.ref (b + 1))) (C := RX11) (T := TX11) (N := 10) hx hb hq i_X11 hown hK hP 0 (gb_at b rfl) rfl 0 (by decide) (hq _ w_315) (fun _ h9 => h9) rfl dX11_fault_29 ?_
    refine va_get (ci := 8) (v := (.int (σ.1 1 7))) (C := RX10) (T := TX10) (N := 9) hx hb hq i_X10 hown hK hP 1 (gb_at b rfl) rfl 7 (by decide) (hq _ w_126) (fun _ h9 => h9) rfl dX11_fault_32 ?_
    obtain ⟨e1, e2⟩ := gb_eq2 h
    exact W.iret (v := (σ.1 1 7)) hx hb hr (fun t ht hW => gb_ri ht ⟨e2, by rw [← e1]; exact hP⟩ hS) hS.2.2 dX11_fault_35
  rw [if_neg c_1] at h
  by_cases c_2 : p1 = (1 : Int32)
  · rw [if_pos c_2] at h
    refine lv_lookup (off := 35) (tgt := 36) hx hb dX11_fault_1 (by decide) (by rw [c_2]; decide) (by decide) ?_
    refine lv_aload_n hx hb dX11_fault_36 rfl (lv_at hl 0 rfl) ?_
    refine va_get (ci := 9) (v := (.ref (b + 1))) (C := RX11) (T := TX11) (N := 10) hx hb hq i_X11 hown hK hP 0 (gb_at b rfl) rfl 0 (by decide) (hq _ w_315) (fun _ h9 => h9) rfl dX11_fault_37 ?_
    refine va_get (ci := 8) (v := (.int (σ.1 1 8))) (C := RX10) (T := TX10) (N := 9) hx hb hq i_X10 hown hK hP 1 (gb_at b rfl) rfl 8 (by decide) (hq _ w_129) (fun _ h9 => h9) rfl dX11_fault_40 ?_
    obtain ⟨e1, e2⟩ := gb_eq2 h
    exact W.iret (v := (σ.1 1 8)) hx hb hr (fun t ht hW => gb_ri ht ⟨e2, by rw [← e1]; exact hP⟩ hS) hS.2.2 dX11_fault_43
  rw [if_neg c_2] at h
  refine lv_lookup (off := 43) (tgt := 44) hx hb dX11_fault_1 (by decide) ((lv_osw c_1 rfl).trans (lv_osw c_2 rfl)) (by decide) ?_
  refine lv_iconst (v := (-1)) hx hb dX11_fault_44 (by decide) ?_
  obtain ⟨e1, e2⟩ := gb_eq2 h
  exact W.iret (v := (-1)) hx hb hr (fun t ht hW => gb_ri ht ⟨e2, by rw [← e1]; exact hP⟩ hS) hS.2.2 dX11_fault_45
theorem dX11_count_0 : decode cX11_count 0 = .ok (.iload_n 1, 1) := by decide +kernel
theorem dX11_count_1 : decode cX11_count 1 = .ok (.ifCond .lt 20, 3) := by decide +kernel
theorem dX11_count_21 : decode cX11_count 21 = .ok (.bipush (-2), 2) := by decide +kernel
theorem dX11_count_23 : decode cX11_count 23 = .ok (.ireturn, 1) := by decide +kernel
theorem dX11_count_4 : decode cX11_count 4 = .ok (.iload_n 1, 1) := by decide +kernel
theorem dX11_count_5 : decode cX11_count 5 = .ok (.iconst 4, 1) := by decide +kernel
theorem dX11_count_6 : decode cX11_count 6 = .ok (.if_icmp .ge 15, 3) := by decide +kernel
theorem dX11_count_9 : decode cX11_count 9 = .ok (.aload_n 0, 1) := by decide +kernel
theorem dX11_count_10 : decode cX11_count 10 = .ok (.getfield 12, 3) := by decide +kernel
theorem dX11_count_13 : decode cX11_count 13 = .ok (.getfield 88, 3) := by decide +kernel
theorem dX11_count_16 : decode cX11_count 16 = .ok (.iload_n 1, 1) := by decide +kernel
theorem dX11_count_17 : decode cX11_count 17 = .ok (.iaload, 1) := by decide +kernel
theorem dX11_count_18 : decode cX11_count 18 = .ok (.goto 5, 3) := by decide +kernel
def cs_Face_count (n : Nat) (σ : gb_S) (p1 : Int32) : gb_CR Int32 := (if p1 < 0 then some (σ, (-2)) else (if (4 : Int32) ≤ p1 then some (σ, (-2)) else gb_ck p1 4 (gb_lt ((σ.1 22) (Int32.toNatClampNeg p1)) (fun x_4 => some (σ, x_4)))))
set_option maxHeartbeats 8000000 in
set_option maxRecDepth 100000 in
theorem cc_Face_count (l : Launch) (D : va_G) (cT : Nat → ClassId) (tt : Nat → Nat) (b1 b : Nat) (hb1 : b1 ≤ b) (n : Nat) (σ : gb_S) (p1 : Int32) (σE : gb_S) (rE : Int32) (h : cs_Face_count n σ p1 = some (σE, rE)) : Met l yX11_count (.code yX11_count cX11_count 2 (some FieldType.int) :: gb_wA) ({ frames := 0, cells := 0, slots := 0, locals := 0 }) (gb_Pc D cT tt b1 [.ref (b + 0), .int p1] (fun h => va_P D vwCl (gb_wl b (gb_CW cT b σ)) h)) (gb_Qi (fun r h => r = rE ∧ va_P D vwCl (gb_wl b (gb_CW cT b σE)) h) (gb_fr b 135)) 0 0 (gb_fr b 135) := by
  refine Met.ofW (cc := cX11_count) (maxL := 2) (ret := (some FieldType.int)) (by decide) rfl ?_
  intro p e s m args below meth c s₁ B hml hv
  obtain ⟨rfl, hSt, hP⟩ := hv
  have hx := B.exec
  have hb := B.bytes
  have hr := B.returns
  have hts := atoms_spec (ws := .code yX11_count cX11_count 2 (some FieldType.int) :: gb_wA) B.pre
  have hq : ∀ w ∈ gb_wA, w.before _ s = true := fun w h => hts w (List.mem_cons_of_mem _ h)
  have hown : s.vm.findClass RX11 = some m.cls := findClass_of_methodNamed B.named
  have hlocks := B.notSynchronized
  clear B hts
  have hK := hSt.1
  have hS : va_S (gb_fr b 135) s.heap s.heap [] := va_S.rf
  have hl := lv_entry ([.ref (b + 0), .int p1]) (n := 2) (Nat.le_of_ble_eq_true rfl)
  rw [lg_entry_eq]
  generalize (lg_sl ([.ref (b + 0), .int p1]) ++ List.replicate (2 - (lg_sl ([.ref (b + 0), .int p1])).length) Slot.unset).toArray = ls at hl ⊢
  replace hl : lv_has ls 2 [(0, .ref (b + 0)), (1, .int p1)] := hl
  unfold cs_Face_count at h
  refine lv_iload_n hx hb dX11_count_0 rfl (lv_at hl 1 rfl) ?_
  refine lv_if_lt (tgt := 21) hx hb dX11_count_1 (by decide) (fun c_1 => ?_) (fun c_1 => ?_)
  · rw [if_pos c_1] at h
    refine lv_bipush (v := (-2)) hx hb dX11_count_21 (by decide) ?_
    obtain ⟨e1, e2⟩ := gb_eq2 h
    exact W.iret (v := (-2)) hx hb hr (fun t ht hW => gb_ri ht ⟨e2, by rw [← e1]; exact hP⟩ hS) hS.2.2 dX11_count_23
  · rw [if_neg c_1] at h
    refine lv_iload_n hx hb dX11_count_4 rfl (lv_at hl 1 rfl) ?_
    refine lv_iconst (v := 4) hx hb dX11_count_5 (by decide) ?_
    refine lv_icmp_ge (tgt := 21) hx hb dX11_count_6 (by decide) (fun c_2 => ?_) (fun c_2 => ?_)
    · rw [if_pos c_2] at h
      refine lv_bipush (v := (-2)) hx hb dX11_count_21 (by decide) ?_
      obtain ⟨e1, e2⟩ := gb_eq2 h
      exact W.iret (v := (-2)) hx hb hr (fun t ht hW => gb_ri ht ⟨e2, by rw [← e1]; exact hP⟩ hS) hS.2.2 dX11_count_23
    · rw [if_neg c_2] at h
      refine lv_aload_n hx hb dX11_count_9 rfl (lv_at hl 0 rfl) ?_
      refine va_get (ci := 9) (v := (.ref (b + 1))) (C := RX11) (T := TX11) (N := 10) hx hb hq i_X11 hown hK hP 0 (gb_at b rfl) rfl 0 (by decide) (hq _ w_315) (fun _ h9 => h9) rfl dX11_count_10 ?_
      refine va_get (ci := 8) (v := (.ref (b + 22))) (C := RX10) (T := TX10) (N := 9) hx hb hq i_X10 hown hK hP 1 (gb_at b rfl) rfl 4 (by decide) (hq _ w_121) (fun _ h9 => h9) rfl dX11_count_13 ?_
      refine lv_iload_n hx hb dX11_count_16 rfl (lv_at hl 1 rfl) ?_
      obtain ⟨z_3, h⟩ := gb_ck_s h
      refine va_iald hx hb hK hP 22 0 (gb_at b rfl) rfl z_3 dX11_count_17 ?_
      refine lv_topi (fun x_4 ex_4 => ?_)
      replace h := gb_lt_s ex_4 h
      refine lv_goto (tgt := 23) hx hb dX11_count_18 (by decide) ?_
      obtain ⟨e1, e2⟩ := gb_eq2 h
      exact W.iret (v := x_4) hx hb hr (fun t ht hW => gb_ri ht ⟨e2, by rw [← e1]; exact hP⟩ hS) hS.2.2 dX11_count_23
theorem dX11_image_0 : decode cX11_image 0 = .ok (.iload_n 1, 1) := by decide +kernel
theorem dX11_image_1 : decode cX11_image 1 = .ok (.ifCond .lt 8, 3) := by decide +kernel
theorem dX11_image_9 : decode cX11_image 9 = .ok (.iconst 0, 1) := by decide +kernel
theorem dX11_image_10 : decode cX11_image 10 = .ok (.ireturn, 1) := by decide +kernel
theorem dX11_image_4 : decode cX11_image 4 = .ok (.iload_n 1, 1) := by decide +kernel
theorem dX11_image_5 : decode cX11_image 5 = .ok (.iconst 3, 1) := by decide +kernel
theorem dX11_image_6 : decode cX11_image 6 = .ok (.if_icmp .lt 5, 3) := by decide +kernel
theorem dX11_image_11 : decode cX11_image 11 = .ok (.aload_n 0, 1) := by decide +kernel
theorem dX11_image_12 : decode cX11_image 12 = .ok (.getfield 16, 3) := by decide +kernel
theorem dX11_image_15 : decode cX11_image 15 = .ok (.iload_n 1, 1) := by decide +kernel
theorem dX11_image_16 : decode cX11_image 16 = .ok (.aaload, 1) := by decide +kernel
theorem dX11_image_17 : decode cX11_image 17 = .ok (.aload_n 0, 1) := by decide +kernel
theorem dX11_image_18 : decode cX11_image 18 = .ok (.getfield 12, 3) := by decide +kernel
theorem dX11_image_21 : decode cX11_image 21 = .ok (.invokevirtual 110, 3) := by decide +kernel
theorem dX10_copyFrom_0 : decode cX10_copyFrom 0 = .ok (.iconst 0, 1) := by decide +kernel
theorem dX10_copyFrom_1 : decode cX10_copyFrom 1 = .ok (.istore_n 2, 1) := by decide +kernel
theorem dX10_copyFrom_2 : decode cX10_copyFrom 2 = .ok (.iload_n 2, 1) := by decide +kernel
theorem dX10_copyFrom_3 : decode cX10_copyFrom 3 = .ok (.iconst 4, 1) := by decide +kernel
theorem dX10_copyFrom_4 : decode cX10_copyFrom 4 = .ok (.if_icmp .ge 49, 3) := by decide +kernel
theorem dX10_copyFrom_53 : decode cX10_copyFrom 53 = .ok (.aload_n 1, 1) := by decide +kernel
theorem dX10_copyFrom_54 : decode cX10_copyFrom 54 = .ok (.getfield 43, 3) := by decide +kernel
theorem dX10_copyFrom_57 : decode cX10_copyFrom 57 = .ok (.iconst 0, 1) := by decide +kernel
theorem dX10_copyFrom_58 : decode cX10_copyFrom 58 = .ok (.aload_n 0, 1) := by decide +kernel
theorem dX10_copyFrom_59 : decode cX10_copyFrom 59 = .ok (.getfield 43, 3) := by decide +kernel
theorem dX10_copyFrom_62 : decode cX10_copyFrom 62 = .ok (.iconst 0, 1) := by decide +kernel
theorem dX10_copyFrom_63 : decode cX10_copyFrom 63 = .ok (.sipush 600, 3) := by decide +kernel
theorem dX10_copyFrom_66 : decode cX10_copyFrom 66 = .ok (.invokestatic 64, 3) := by decide +kernel
theorem dX11_again_0 : decode cX11_again 0 = .ok (.iload_n 1, 1) := by decide +kernel
theorem dX11_again_1 : decode cX11_again 1 = .ok (.ifCond .lt 17, 3) := by decide +kernel
theorem dX11_again_18 : decode cX11_again 18 = .ok (.iconst 0, 1) := by decide +kernel
theorem dX11_again_19 : decode cX11_again 19 = .ok (.ireturn, 1) := by decide +kernel
theorem dX11_again_4 : decode cX11_again 4 = .ok (.iload_n 1, 1) := by decide +kernel
theorem dX11_again_5 : decode cX11_again 5 = .ok (.iconst 3, 1) := by decide +kernel
theorem dX11_again_6 : decode cX11_again 6 = .ok (.if_icmp .ge 12, 3) := by decide +kernel
theorem dX11_again_9 : decode cX11_again 9 = .ok (.aload_n 0, 1) := by decide +kernel
theorem dX11_again_10 : decode cX11_again 10 = .ok (.getfield 20, 3) := by decide +kernel
theorem dX11_again_13 : decode cX11_again 13 = .ok (.iload_n 1, 1) := by decide +kernel
theorem dX11_again_14 : decode cX11_again 14 = .ok (.baload, 1) := by decide +kernel
theorem dX11_again_15 : decode cX11_again 15 = .ok (.ifCond .ne 5, 3) := by decide +kernel
theorem dX11_again_20 : decode cX11_again 20 = .ok (.aload_n 0, 1) := by decide +kernel
theorem dX11_again_21 : decode cX11_again 21 = .ok (.getfield 12, 3) := by decide +kernel
theorem dX11_again_24 : decode cX11_again 24 = .ok (.aload_n 0, 1) := by decide +kernel
theorem dX11_again_25 : decode cX11_again 25 = .ok (.getfield 16, 3) := by decide +kernel
theorem dX11_again_28 : decode cX11_again 28 = .ok (.iload_n 1, 1) := by decide +kernel
theorem dX11_again_29 : decode cX11_again 29 = .ok (.aaload, 1) := by decide +kernel
theorem dX11_again_30 : decode cX11_again 30 = .ok (.invokevirtual 110, 3) := by decide +kernel
theorem dX11_border_0 : decode cX11_border 0 = .ok (.aload_n 0, 1) := by decide +kernel
theorem dX11_border_1 : decode cX11_border 1 = .ok (.iload_n 1, 1) := by decide +kernel
theorem dX11_border_2 : decode cX11_border 2 = .ok (.invokevirtual 113, 3) := by decide +kernel
theorem dX11_borderAt_0 : decode cX11_borderAt 0 = .ok (.iload_n 1, 1) := by decide +kernel
theorem dX11_borderAt_1 : decode cX11_borderAt 1 = .ok (.ifCond .lt 28, 3) := by decide +kernel
theorem dX11_borderAt_29 : decode cX11_borderAt 29 = .ok (.aconst_null, 1) := by decide +kernel
theorem dX11_borderAt_30 : decode cX11_borderAt 30 = .ok (.areturn, 1) := by decide +kernel
theorem dX11_borderAt_4 : decode cX11_borderAt 4 = .ok (.iload_n 1, 1) := by decide +kernel
theorem dX11_borderAt_5 : decode cX11_borderAt 5 = .ok (.aload_n 0, 1) := by decide +kernel
theorem dX11_borderAt_6 : decode cX11_borderAt 6 = .ok (.getfield 12, 3) := by decide +kernel
theorem dX11_borderAt_9 : decode cX11_borderAt 9 = .ok (.getfield 88, 3) := by decide +kernel
theorem dX11_borderAt_12 : decode cX11_borderAt 12 = .ok (.iconst 0, 1) := by decide +kernel
theorem dX11_borderAt_13 : decode cX11_borderAt 13 = .ok (.iaload, 1) := by decide +kernel
theorem dX11_borderAt_14 : decode cX11_borderAt 14 = .ok (.if_icmp .ge 15, 3) := by decide +kernel
theorem dX11_borderAt_17 : decode cX11_borderAt 17 = .ok (.aload_n 0, 1) := by decide +kernel
theorem dX11_borderAt_18 : decode cX11_borderAt 18 = .ok (.getfield 12, 3) := by decide +kernel
theorem dX11_borderAt_21 : decode cX11_borderAt 21 = .ok (.getfield 179, 3) := by decide +kernel
theorem w_113 : (Cond.fieldLink "GooseBorder" (179 : Nat) "GooseBorder$Told" "borders" "[LGooseBorder$Border;") ∈ gb_wA := gb_t1 113 rfl rfl
theorem dX11_borderAt_24 : decode cX11_borderAt 24 = .ok (.iload_n 1, 1) := by decide +kernel
theorem dX11_borderAt_25 : decode cX11_borderAt 25 = .ok (.aaload, 1) := by decide +kernel
theorem dX11_borderAt_26 : decode cX11_borderAt 26 = .ok (.goto 4, 3) := by decide +kernel
def cs_Face_borderAt (n : Nat) (σ : gb_S) (p1 : Int32) : gb_CR Nat := (if p1 < 0 then some (σ, 0) else gb_lt ((σ.1 22) (Int32.toNatClampNeg 0)) (fun x_2 => (if x_2 ≤ p1 then some (σ, 0) else gb_ck p1 2 (gb_lt (([3, 5] : List Nat).getD (Int32.toNatClampNeg p1) 0) (fun a_5 => gb_kk (gb_kB a_5) (some (σ, a_5)))))))
set_option maxHeartbeats 8000000 in
set_option maxRecDepth 100000 in
theorem cc_Face_borderAt (l : Launch) (D : va_G) (cT : Nat → ClassId) (tt : Nat → Nat) (b1 b : Nat) (hb1 : b1 ≤ b) (n : Nat) (σ : gb_S) (p1 : Int32) (σE : gb_S) (rE : Nat) (h : cs_Face_borderAt n σ p1 = some (σE, rE)) : Met l yX11_borderAt (.code yX11_borderAt cX11_borderAt 2 (some (FieldType.object "GooseBorder$Border")) :: gb_wA) ({ frames := 0, cells := 0, slots := 0, locals := 0 }) (gb_Pc D cT tt b1 [.ref (b + 0), .int p1] (fun h => va_P D vwCl (gb_wl b (gb_CW cT b σ)) h)) (gb_Qq (fun r h => r = gb_on b rE ∧ va_P D vwCl (gb_wl b (gb_CW cT b σE)) h) (gb_fr b 135)) 0 0 (gb_fr b 135) := by
  refine Met.ofW (cc := cX11_borderAt) (maxL := 2) (ret := (some (FieldType.object "GooseBorder$Border"))) (by decide) rfl ?_
  intro p e s m args below meth c s₁ B hml hv
  obtain ⟨rfl, hSt, hP⟩ := hv
  have hx := B.exec
  have hb := B.bytes
  have hr := B.returns
  have hts := atoms_spec (ws := .code yX11_borderAt cX11_borderAt 2 (some (FieldType.object "GooseBorder$Border")) :: gb_wA) B.pre
  have hq : ∀ w ∈ gb_wA, w.before _ s = true := fun w h => hts w (List.mem_cons_of_mem _ h)
  have hown : s.vm.findClass RX11 = some m.cls := findClass_of_methodNamed B.named
  have hlocks := B.notSynchronized
  clear B hts
  have hK := hSt.1
  have hS : va_S (gb_fr b 135) s.heap s.heap [] := va_S.rf
  have hl := lv_entry ([.ref (b + 0), .int p1]) (n := 2) (Nat.le_of_ble_eq_true rfl)
  rw [lg_entry_eq]
  generalize (lg_sl ([.ref (b + 0), .int p1]) ++ List.replicate (2 - (lg_sl ([.ref (b + 0), .int p1])).length) Slot.unset).toArray = ls at hl ⊢
  replace hl : lv_has ls 2 [(0, .ref (b + 0)), (1, .int p1)] := hl
  unfold cs_Face_borderAt at h
  refine lv_iload_n hx hb dX11_borderAt_0 rfl (lv_at hl 1 rfl) ?_
  refine lv_if_lt (tgt := 29) hx hb dX11_borderAt_1 (by decide) (fun c_1 => ?_) (fun c_1 => ?_)
  · rw [if_pos c_1] at h
    refine lv_null hx hb dX11_borderAt_29 ?_
    obtain ⟨e1, e2⟩ := gb_eq2 h
    exact W.aret (v := .null) hx hb hr (Or.inl ⟨_, rfl⟩) (Or.inl rfl) (fun t ht hW => gb_rq none ht ⟨by rw [← e2]; rfl, by rw [← e1]; exact hP⟩ hS) hS.2.2 dX11_borderAt_30
  · rw [if_neg c_1] at h
    refine lv_iload_n hx hb dX11_borderAt_4 rfl (lv_at hl 1 rfl) ?_
    refine lv_aload_n hx hb dX11_borderAt_5 rfl (lv_at hl 0 rfl) ?_
    refine va_get (ci := 9) (v := (.ref (b + 1))) (C := RX11) (T := TX11) (N := 10) hx hb hq i_X11 hown hK hP 0 (gb_at b rfl) rfl 0 (by decide) (hq _ w_315) (fun _ h9 => h9) rfl dX11_borderAt_6 ?_
    refine va_get (ci := 8) (v := (.ref (b + 22))) (C := RX10) (T := TX10) (N := 9) hx hb hq i_X10 hown hK hP 1 (gb_at b rfl) rfl 4 (by decide) (hq _ w_121) (fun _ h9 => h9) rfl dX11_borderAt_9 ?_
    refine lv_iconst (v := 0) hx hb dX11_borderAt_12 (by decide) ?_
    refine va_iald hx hb hK hP 22 0 (gb_at b rfl) rfl (gb_in rfl) dX11_borderAt_13 ?_
    refine lv_topi (fun x_2 ex_2 => ?_)
    replace h := gb_lt_s ex_2 h
    refine lv_icmp_ge (tgt := 29) hx hb dX11_borderAt_14 (by decide) (fun c_3 => ?_) (fun c_3 => ?_)
    · rw [if_pos c_3] at h
      refine lv_null hx hb dX11_borderAt_29 ?_
      obtain ⟨e1, e2⟩ := gb_eq2 h
      exact W.aret (v := .null) hx hb hr (Or.inl ⟨_, rfl⟩) (Or.inl rfl) (fun t ht hW => gb_rq none ht ⟨by rw [← e2]; rfl, by rw [← e1]; exact hP⟩ hS) hS.2.2 dX11_borderAt_30
    · rw [if_neg c_3] at h
      refine lv_aload_n hx hb dX11_borderAt_17 rfl (lv_at hl 0 rfl) ?_
      refine va_get (ci := 9) (v := (.ref (b + 1))) (C := RX11) (T := TX11) (N := 10) hx hb hq i_X11 hown hK hP 0 (gb_at b rfl) rfl 0 (by decide) (hq _ w_315) (fun _ h9 => h9) rfl dX11_borderAt_18 ?_
      refine va_get (ci := 8) (v := (.ref (b + 2))) (C := RX10) (T := TX10) (N := 9) hx hb hq i_X10 hown hK hP 1 (gb_at b rfl) rfl 0 (by decide) (hq _ w_113) (fun _ h9 => h9) rfl dX11_borderAt_21 ?_
      refine lv_iload_n hx hb dX11_borderAt_24 rfl (lv_at hl 1 rfl) ?_
      obtain ⟨z_4, h⟩ := gb_ck_s h
      refine gb_aald (v := .ref (b + (([3, 5] : List Nat).getD (Int32.toNatClampNeg p1) 0))) hx hb hK hP 2 4 (gb_at b rfl) rfl z_4 (gb_ra_at (L := ([3, 5] : List Nat)) z_4) dX11_borderAt_25 ?_
      obtain ⟨a_5, ea_5⟩ : ∃ q, q = (([3, 5] : List Nat).getD (Int32.toNatClampNeg p1) 0) := ⟨_, rfl⟩
      rw [← ea_5]
      replace h := gb_lt_s ea_5 h
      obtain ⟨z_6, h⟩ := gb_kk_s h
      refine lv_goto (tgt := 30) hx hb dX11_borderAt_26 (by decide) ?_
      obtain ⟨e1, e2⟩ := gb_eq2 h
      exact W.aret (v := (.ref (b + a_5))) hx hb hr (Or.inl ⟨_, rfl⟩) (Or.inr ⟨_, rfl⟩) (fun t ht hW => gb_rq (some (b + a_5)) ht ⟨by rw [← e2]; exact (gb_on1 (gb_nzB z_6)), by rw [← e1]; exact hP⟩ hS) hS.2.2 dX11_borderAt_30
theorem w_596 : (Cond.code ({ cls := "GooseBorder", name := "borderAt", desc := "(I)LGooseBorder$Border;" } : MethodName) prog_1_method_16_code (2 : Nat) (Option.some (FieldType.object "GooseBorder$Border"))) ∈ gb_wA := gb_t3 116 rfl rfl
theorem w_593 : (Cond.methodLink "GooseBorder" (113 : Nat) ({ cls := "GooseBorder", name := "borderAt", desc := "(I)LGooseBorder$Border;" } : MethodName)) ∈ gb_wA := gb_t3 113 rfl rfl
theorem w_595 : (Cond.instanceMethod ({ cls := "GooseBorder", name := "borderAt", desc := "(I)LGooseBorder$Border;" } : MethodName)) ∈ gb_wA := gb_t3 115 rfl rfl
theorem s_1_7 : Cond.selects "GooseBorder" (⟨"GooseBorder", "borderAt", "(I)LGooseBorder$Border;"⟩ : MethodName) (⟨"GooseBorder", "borderAt", "(I)LGooseBorder$Border;"⟩ : MethodName) ∈ gb_wA := gb_s1 7 rfl rfl
theorem w_1 : (Cond.initialized "GooseBorder") ∈ gb_wA := gb_t1 1 rfl rfl
theorem dX11_border_5 : decode cX11_border 5 = .ok (.astore_n 3, 1) := by decide +kernel
theorem dX11_border_6 : decode cX11_border 6 = .ok (.aload_n 3, 1) := by decide +kernel
theorem dX11_border_7 : decode cX11_border 7 = .ok (.ifnonnull 6, 3) := by decide +kernel
theorem dX11_border_10 : decode cX11_border 10 = .ok (.bipush (-2), 2) := by decide +kernel
theorem dX11_border_12 : decode cX11_border 12 = .ok (.ireturn, 1) := by decide +kernel
theorem dX11_border_13 : decode cX11_border 13 = .ok (.iload_n 2, 1) := by decide +kernel
theorem dX11_border_14 : decode cX11_border 14 = .ok (.tableswitch 41 0 2 #[26, 31, 36], 26) := by decide +kernel
theorem dX11_border_40 : decode cX11_border 40 = .ok (.aload_n 3, 1) := by decide +kernel
theorem dX11_border_41 : decode cX11_border 41 = .ok (.invokevirtual 117, 3) := by decide +kernel
theorem w_597 : (Cond.methodLink "GooseBorder" (117 : Nat) ({ cls := "GooseBorder$Border", name := "paths", desc := "()I" } : MethodName)) ∈ gb_wA := gb_t3 117 rfl rfl
theorem dX11_border_44 : decode cX11_border 44 = .ok (.ireturn, 1) := by decide +kernel
theorem dX11_border_45 : decode cX11_border 45 = .ok (.aload_n 3, 1) := by decide +kernel
theorem dX11_border_46 : decode cX11_border 46 = .ok (.invokevirtual 121, 3) := by decide +kernel
theorem w_598 : (Cond.methodLink "GooseBorder" (121 : Nat) ({ cls := "GooseBorder$Border", name := "geese", desc := "()I" } : MethodName)) ∈ gb_wA := gb_t3 118 rfl rfl
theorem dX11_border_49 : decode cX11_border 49 = .ok (.ireturn, 1) := by decide +kernel
theorem dX11_border_50 : decode cX11_border 50 = .ok (.aload_n 3, 1) := by decide +kernel
theorem dX11_border_51 : decode cX11_border 51 = .ok (.invokevirtual 124, 3) := by decide +kernel
theorem w_602 : (Cond.code ({ cls := "GooseBorder$Border", name := "cap", desc := "()I" } : MethodName) prog_2_method_8_code (1 : Nat) (Option.some FieldType.int)) ∈ gb_wA := gb_t3 122 rfl rfl
theorem w_599 : (Cond.methodLink "GooseBorder" (124 : Nat) ({ cls := "GooseBorder$Border", name := "cap", desc := "()I" } : MethodName)) ∈ gb_wA := gb_t3 119 rfl rfl
theorem w_600 : (Cond.instanceMethod ({ cls := "GooseBorder$Border", name := "cap", desc := "()I" } : MethodName)) ∈ gb_wA := gb_t3 120 rfl rfl
theorem w_601 : (Cond.selects "GooseBorder$Border" ({ cls := "GooseBorder$Border", name := "cap", desc := "()I" } : MethodName) ({ cls := "GooseBorder$Border", name := "cap", desc := "()I" } : MethodName)) ∈ gb_wA := gb_t3 121 rfl rfl
theorem dX11_border_54 : decode cX11_border 54 = .ok (.ireturn, 1) := by decide +kernel
theorem dX11_border_55 : decode cX11_border 55 = .ok (.aload_n 3, 1) := by decide +kernel
theorem dX11_border_56 : decode cX11_border 56 = .ok (.iload_n 2, 1) := by decide +kernel
theorem dX11_border_57 : decode cX11_border 57 = .ok (.invokevirtual 127, 3) := by decide +kernel
theorem w_606 : (Cond.code ({ cls := "GooseBorder$Border", name := "numberTold", desc := "(I)I" } : MethodName) prog_2_method_11_code (5 : Nat) (Option.some FieldType.int)) ∈ gb_wA := gb_t3 126 rfl rfl
theorem w_603 : (Cond.methodLink "GooseBorder" (127 : Nat) ({ cls := "GooseBorder$Border", name := "numberTold", desc := "(I)I" } : MethodName)) ∈ gb_wA := gb_t3 123 rfl rfl
theorem w_604 : (Cond.instanceMethod ({ cls := "GooseBorder$Border", name := "numberTold", desc := "(I)I" } : MethodName)) ∈ gb_wA := gb_t3 124 rfl rfl
theorem w_605 : (Cond.selects "GooseBorder$Border" ({ cls := "GooseBorder$Border", name := "numberTold", desc := "(I)I" } : MethodName) ({ cls := "GooseBorder$Border", name := "numberTold", desc := "(I)I" } : MethodName)) ∈ gb_wA := gb_t3 125 rfl rfl
theorem dX11_border_60 : decode cX11_border 60 = .ok (.ireturn, 1) := by decide +kernel
def cs_Face_border (n : Nat) (σ : gb_S) (p1 : Int32) (p2 : Int32) : gb_CR Int32 := gb_cd (cs_Face_borderAt n σ p1) (fun s_1 r_2 => (if r_2 = 0 then some (s_1, (-2)) else gb_kk (gb_kB r_2) ((if p2 = (0 : Int32) then gb_cd (cs_Border_paths_B n s_1 r_2) (fun s_8 r_9 => some (s_8, r_9)) else (if p2 = (1 : Int32) then gb_cd (cs_Border_geese_B n s_1 r_2) (fun s_13 r_14 => some (s_13, r_14)) else (if p2 = (2 : Int32) then gb_cd (cs_Border_cap_B n s_1 r_2) (fun s_18 r_19 => some (s_18, r_19)) else gb_cd (cs_Border_numberTold_B n s_1 r_2 p2) (fun s_22 r_23 => some (s_22, r_23))))))))
set_option maxHeartbeats 8000000 in
set_option maxRecDepth 100000 in
theorem cc_Face_border (l : Launch) (D : va_G) (cT : Nat → ClassId) (tt : Nat → Nat) (b1 b : Nat) (hb1 : b1 ≤ b) (n : Nat) (σ : gb_S) (p1 : Int32) (p2 : Int32) (σE : gb_S) (rE : Int32) (h : cs_Face_border n σ p1 p2 = some (σE, rE)) : Met l yX11_border (.code yX11_border cX11_border 4 (some FieldType.int) :: gb_wA) ({ frames := 3, cells := 0, slots := 0, locals := 65 }) (gb_Pc D cT tt b1 [.ref (b + 0), .int p1, .int p2] (fun h => va_P D vwCl (gb_wl b (gb_CW cT b σ)) h)) (gb_Qi (fun r h => r = rE ∧ va_P D vwCl (gb_wl b (gb_CW cT b σE)) h) (gb_fr b 135)) 0 0 (gb_fr b 135) := by
  refine Met.ofW (cc := cX11_border) (maxL := 4) (ret := (some FieldType.int)) (by decide) rfl ?_
  intro p e s m args below meth c s₁ B hml hv
  obtain ⟨rfl, hSt, hP⟩ := hv
  have hx := B.exec
  have hb := B.bytes
  have hr := B.returns
  have hts := atoms_spec (ws := .code yX11_border cX11_border 4 (some FieldType.int) :: gb_wA) B.pre
  have hq : ∀ w ∈ gb_wA, w.before _ s = true := fun w h => hts w (List.mem_cons_of_mem _ h)
  have hown : s.vm.findClass RX11 = some m.cls := findClass_of_methodNamed B.named
  have hlocks := B.notSynchronized
  clear B hts
  have hK := hSt.1
  have hS : va_S (gb_fr b 135) s.heap s.heap [] := va_S.rf
  have hl := lv_entry ([.ref (b + 0), .int p1, .int p2]) (n := 4) (Nat.le_of_ble_eq_true rfl)
  rw [lg_entry_eq]
  generalize (lg_sl ([.ref (b + 0), .int p1, .int p2]) ++ List.replicate (4 - (lg_sl ([.ref (b + 0), .int p1, .int p2])).length) Slot.unset).toArray = ls at hl ⊢
  replace hl : lv_has ls 4 [(0, .ref (b + 0)), (1, .int p1), (2, .int p2)] := hl
  unfold cs_Face_border at h
  refine lv_aload_n hx hb dX11_border_0 rfl (lv_at hl 0 rfl) ?_
  refine lv_iload_n hx hb dX11_border_1 rfl (lv_at hl 1 rfl) ?_
  obtain ⟨s_1, r_2, z_3, h⟩ := gb_cd_s h
  refine gb_callq (va_runV (C := RX11) (As := [.int p1]) (rest := []) ⟨hx, hb, hml, hown, hq⟩ (cc_Face_borderAt l D cT tt b1 b hb1 n σ p1 s_1 r_2 z_3) (cwV 1 hq (gb_gV w_593 w_595 s_1_7 w_1 w_596) rfl rfl rfl (by decide +kernel) ⟨Nat.le_of_ble_eq_true rfl, Nat.le_of_ble_eq_true rfl⟩) (gb_preV (r := (RX11, TX11, 10)) (ci := 9) (q0 := 0) hSt hP rfl (gb_at b rfl) hS (fun q h => Nat.le_trans hb1 h.1) hP) rfl rfl hl.1 rfl (lv_room (Nat.le_of_ble_eq_true rfl)) dX11_border_2 ⟨Nat.le_of_ble_eq_true rfl, Nat.le_of_ble_eq_true rfl⟩) hS (fun _ h => h) (fun _ h => h) (fun q_4 H locs hY hk hS => ?_)
  obtain ⟨hq_4, hP⟩ := hY
  subst hq_4
  rw [gb_onv]
  by_cases c_5 : r_2 = 0
  · rw [if_pos c_5] at h
    rw [gb_nv0 c_5]
    refine lv_astore_nN (lv' := [(3, .null), (0, .ref (b + 0)), (1, .int p1), (2, .int p2)]) hx hb dX11_border_5 rfl hl (by decide) rfl (fun ls hl => ?_)
    refine lv_aload_nN hx hb dX11_border_6 rfl (lv_at hl 0 rfl) ?_
    refine lv_ifnonnullN hx hb dX11_border_7 ?_
    refine lv_bipush (v := (-2)) hx hb dX11_border_10 (by decide) ?_
    obtain ⟨e1, e2⟩ := gb_eq2 h
    exact W.iret (v := (-2)) hx hb hr (fun t ht hW => gb_ri ht ⟨e2, by rw [← e1]; exact hP⟩ hS) hS.2.2 dX11_border_12
  rw [if_neg c_5] at h
  rw [gb_nv1 c_5]
  obtain ⟨z_6, h⟩ := gb_kk_s h
  refine lv_astore_n (lv' := [(3, .ref (b + r_2)), (0, .ref (b + 0)), (1, .int p1), (2, .int p2)]) hx hb dX11_border_5 rfl hl (by decide) rfl (fun ls hl => ?_)
  refine lv_aload_n hx hb dX11_border_6 rfl (lv_at hl 0 rfl) ?_
  refine lv_ifnonnull (tgt := 13) hx hb dX11_border_7 (by decide) ?_
  refine lv_iload_n hx hb dX11_border_13 rfl (lv_at hl 3 rfl) ?_
  by_cases c_7 : p2 = (0 : Int32)
  · rw [if_pos c_7] at h
    refine lv_tableIn (off := 26) (tgt := 40) hx hb dX11_border_14 (by rw [c_7]; decide) (by rw [c_7]; decide) (by rw [c_7]; decide) (by decide) ?_
    refine lv_aload_n hx hb dX11_border_40 rfl (lv_at hl 0 rfl) ?_
    obtain ⟨s_8, r_9, z_10, h⟩ := gb_cd_s h
    refine gb_calli (va_runV (C := RX0) (As := []) (rest := []) ⟨hx, hb, hml, hown, hq⟩ (cc_Border_paths_B l D cT tt b1 b hb1 n s_1 r_2 s_8 r_9 z_10) (cwV 0 hq (gb_gV w_597 w_473 w_474 w_4 w_475) rfl rfl rfl (by decide +kernel) ⟨Nat.le_of_ble_eq_true rfl, Nat.le_of_ble_eq_true rfl⟩) (gb_preV (r := (RX0, TX0, 1)) (ci := 0) (q0 := r_2) hSt hP rfl (gb_at b (gb_cB z_6).1) hS (fun q h => Nat.le_trans hb1 h.1) hP) rfl rfl hl.1 rfl (lv_room (Nat.le_of_ble_eq_true rfl)) dX11_border_41 ⟨Nat.le_of_ble_eq_true rfl, Nat.le_of_ble_eq_true rfl⟩) hS (fun _ h => h) (fun _ h => h) (fun q_11 H locs hY hk hS => ?_)
    obtain ⟨hq_11, hP⟩ := hY
    replace hq_11 := hq_11.symm
    subst hq_11
    obtain ⟨e1, e2⟩ := gb_eq2 h
    exact W.iret (v := r_9) hx hb hr (fun t ht hW => gb_ri ht ⟨e2, by rw [← e1]; exact hP⟩ hS) hS.2.2 dX11_border_44
  rw [if_neg c_7] at h
  by_cases c_12 : p2 = (1 : Int32)
  · rw [if_pos c_12] at h
    refine lv_tableIn (off := 31) (tgt := 45) hx hb dX11_border_14 (by rw [c_12]; decide) (by rw [c_12]; decide) (by rw [c_12]; decide) (by decide) ?_
    refine lv_aload_n hx hb dX11_border_45 rfl (lv_at hl 0 rfl) ?_
    obtain ⟨s_13, r_14, z_15, h⟩ := gb_cd_s h
    refine gb_calli (va_runV (C := RX0) (As := []) (rest := []) ⟨hx, hb, hml, hown, hq⟩ (cc_Border_geese_B l D cT tt b1 b hb1 n s_1 r_2 s_13 r_14 z_15) (cwV 0 hq (gb_gV w_598 w_477 w_478 w_4 w_479) rfl rfl rfl (by decide +kernel) ⟨Nat.le_of_ble_eq_true rfl, Nat.le_of_ble_eq_true rfl⟩) (gb_preV (r := (RX0, TX0, 1)) (ci := 0) (q0 := r_2) hSt hP rfl (gb_at b (gb_cB z_6).1) hS (fun q h => Nat.le_trans hb1 h.1) hP) rfl rfl hl.1 rfl (lv_room (Nat.le_of_ble_eq_true rfl)) dX11_border_46 ⟨Nat.le_of_ble_eq_true rfl, Nat.le_of_ble_eq_true rfl⟩) hS (fun _ h => h) (fun _ h => h) (fun q_16 H locs hY hk hS => ?_)
    obtain ⟨hq_16, hP⟩ := hY
    replace hq_16 := hq_16.symm
    subst hq_16
    obtain ⟨e1, e2⟩ := gb_eq2 h
    exact W.iret (v := r_14) hx hb hr (fun t ht hW => gb_ri ht ⟨e2, by rw [← e1]; exact hP⟩ hS) hS.2.2 dX11_border_49
  rw [if_neg c_12] at h
  by_cases c_17 : p2 = (2 : Int32)
  · rw [if_pos c_17] at h
    refine lv_tableIn (off := 36) (tgt := 50) hx hb dX11_border_14 (by rw [c_17]; decide) (by rw [c_17]; decide) (by rw [c_17]; decide) (by decide) ?_
    refine lv_aload_n hx hb dX11_border_50 rfl (lv_at hl 0 rfl) ?_
    obtain ⟨s_18, r_19, z_20, h⟩ := gb_cd_s h
    refine gb_calli (va_runV (C := RX0) (As := []) (rest := []) ⟨hx, hb, hml, hown, hq⟩ (cc_Border_cap_B l D cT tt b1 b hb1 n s_1 r_2 s_18 r_19 z_20) (cwV 0 hq (gb_gV w_599 w_600 w_601 w_4 w_602) rfl rfl rfl (by decide +kernel) ⟨Nat.le_of_ble_eq_true rfl, Nat.le_of_ble_eq_true rfl⟩) (gb_preV (r := (RX0, TX0, 1)) (ci := 0) (q0 := r_2) hSt hP rfl (gb_at b (gb_cB z_6).1) hS (fun q h => Nat.le_trans hb1 h.1) hP) rfl rfl hl.1 rfl (lv_room (Nat.le_of_ble_eq_true rfl)) dX11_border_51 ⟨Nat.le_of_ble_eq_true rfl, Nat.le_of_ble_eq_true rfl⟩) hS (fun _ h => h) (fun _ h => h) (fun q_21 H locs hY hk hS => ?_)
    obtain ⟨hq_21, hP⟩ := hY
    replace hq_21 := hq_21.symm
    subst hq_21
    obtain ⟨e1, e2⟩ := gb_eq2 h
    exact W.iret (v := r_19) hx hb hr (fun t ht hW => gb_ri ht ⟨e2, by rw [← e1]; exact hP⟩ hS) hS.2.2 dX11_border_54
  rw [if_neg c_17] at h
  refine lv_tableOut (tgt := 55) hx hb dX11_border_14 (by have := lv_neT c_7 (a := 0) rfl; have := lv_neT c_12 (a := 1) rfl; have := lv_neT c_17 (a := 2) rfl; omega) (by decide) ?_
  refine lv_aload_n hx hb dX11_border_55 rfl (lv_at hl 0 rfl) ?_
  refine lv_iload_n hx hb dX11_border_56 rfl (lv_at hl 3 rfl) ?_
  obtain ⟨s_22, r_23, z_24, h⟩ := gb_cd_s h
  refine gb_calli (va_runV (C := RX0) (As := [.int p2]) (rest := []) ⟨hx, hb, hml, hown, hq⟩ (cc_Border_numberTold_B l D cT tt b1 b hb1 n s_1 r_2 p2 s_22 r_23 z_24) (cwV 1 hq (gb_gV w_603 w_604 w_605 w_4 w_606) rfl rfl rfl (by decide +kernel) ⟨Nat.le_of_ble_eq_true rfl, Nat.le_of_ble_eq_true rfl⟩) (gb_preV (r := (RX0, TX0, 1)) (ci := 0) (q0 := r_2) hSt hP rfl (gb_at b (gb_cB z_6).1) hS (fun q h => Nat.le_trans hb1 h.1) hP) rfl rfl hl.1 rfl (lv_room (Nat.le_of_ble_eq_true rfl)) dX11_border_57 ⟨Nat.le_of_ble_eq_true rfl, Nat.le_of_ble_eq_true rfl⟩) hS (fun _ h => h) (fun _ h => h) (fun q_25 H locs hY hk hS => ?_)
  obtain ⟨hq_25, hP⟩ := hY
  replace hq_25 := hq_25.symm
  subst hq_25
  obtain ⟨e1, e2⟩ := gb_eq2 h
  exact W.iret (v := r_23) hx hb hr (fun t ht hW => gb_ri ht ⟨e2, by rw [← e1]; exact hP⟩ hS) hS.2.2 dX11_border_60
theorem dX11_marks_0 : decode cX11_marks 0 = .ok (.aload_n 0, 1) := by decide +kernel
theorem dX11_marks_1 : decode cX11_marks 1 = .ok (.iload_n 1, 1) := by decide +kernel
theorem dX11_marks_2 : decode cX11_marks 2 = .ok (.invokevirtual 113, 3) := by decide +kernel
theorem dX11_marks_5 : decode cX11_marks 5 = .ok (.astore 5, 2) := by decide +kernel
theorem dX11_marks_7 : decode cX11_marks 7 = .ok (.aload 5, 2) := by decide +kernel
theorem dX11_marks_9 : decode cX11_marks 9 = .ok (.ifnull 21, 3) := by decide +kernel
theorem dX11_marks_30 : decode cX11_marks 30 = .ok (.iconst (-1), 1) := by decide +kernel
theorem dX11_marks_31 : decode cX11_marks 31 = .ok (.ireturn, 1) := by decide +kernel
theorem dX11_marks_12 : decode cX11_marks 12 = .ok (.aload 5, 2) := by decide +kernel
theorem dX11_marks_14 : decode cX11_marks 14 = .ok (.iload_n 2, 1) := by decide +kernel
theorem dX11_marks_15 : decode cX11_marks 15 = .ok (.invokevirtual 131, 3) := by decide +kernel
theorem w_619 : (Cond.methodLink "GooseBorder" (131 : Nat) ({ cls := "GooseBorder$Border", name := "hasGoose", desc := "(I)Z" } : MethodName)) ∈ gb_wA := gb_t3 139 rfl rfl
theorem dX11_marks_18 : decode cX11_marks 18 = .ok (.ifCond .eq 12, 3) := by decide +kernel
theorem dX11_marks_21 : decode cX11_marks 21 = .ok (.aload 5, 2) := by decide +kernel
theorem dX11_marks_23 : decode cX11_marks 23 = .ok (.iload_n 3, 1) := by decide +kernel
theorem dX11_marks_24 : decode cX11_marks 24 = .ok (.invokevirtual 135, 3) := by decide +kernel
theorem w_620 : (Cond.methodLink "GooseBorder" (135 : Nat) ({ cls := "GooseBorder$Border", name := "hasPath", desc := "(I)Z" } : MethodName)) ∈ gb_wA := gb_t3 140 rfl rfl
theorem dX11_marks_27 : decode cX11_marks 27 = .ok (.ifCond .ne 5, 3) := by decide +kernel
theorem dX11_marks_32 : decode cX11_marks 32 = .ok (.aload 5, 2) := by decide +kernel
theorem dX11_marks_34 : decode cX11_marks 34 = .ok (.iload_n 2, 1) := by decide +kernel
theorem dX11_marks_35 : decode cX11_marks 35 = .ok (.aload 5, 2) := by decide +kernel
theorem dX11_marks_37 : decode cX11_marks 37 = .ok (.iload_n 3, 1) := by decide +kernel
theorem dX11_marks_38 : decode cX11_marks 38 = .ok (.invokevirtual 138, 3) := by decide +kernel
theorem w_621 : (Cond.methodLink "GooseBorder" (138 : Nat) ({ cls := "GooseBorder$Border", name := "miles", desc := "(I)I" } : MethodName)) ∈ gb_wA := gb_t3 141 rfl rfl
theorem dX11_marks_41 : decode cX11_marks 41 = .ok (.aload 5, 2) := by decide +kernel
theorem dX11_marks_43 : decode cX11_marks 43 = .ok (.iload_n 2, 1) := by decide +kernel
theorem dX11_marks_44 : decode cX11_marks 44 = .ok (.invokevirtual 141, 3) := by decide +kernel
theorem w_625 : (Cond.methodLink "GooseBorder" (141 : Nat) ({ cls := "GooseBorder$Border", name := "boots", desc := "(I)I" } : MethodName)) ∈ gb_wA := gb_t3 145 rfl rfl
theorem dX11_marks_47 : decode cX11_marks 47 = .ok (.iload 4, 2) := by decide +kernel
theorem dX11_marks_49 : decode cX11_marks 49 = .ok (.invokevirtual 144, 3) := by decide +kernel
theorem w_629 : (Cond.methodLink "GooseBorder" (144 : Nat) ({ cls := "GooseBorder$Border", name := "marksOver", desc := "(IIIZ)I" } : MethodName)) ∈ gb_wA := gb_t3 149 rfl rfl
theorem dX11_marks_52 : decode cX11_marks 52 = .ok (.ireturn, 1) := by decide +kernel
def cs_Face_marks (n : Nat) (σ : gb_S) (p1 : Int32) (p2 : Int32) (p3 : Int32) (p4 : Int32) : gb_CR Int32 := gb_cd (cs_Face_borderAt n σ p1) (fun s_1 r_2 => (if r_2 = 0 then some (s_1, (-1)) else gb_kk (gb_kB r_2) (gb_cd (cs_Border_hasGoose_B n s_1 r_2 p2) (fun s_7 r_8 => (if r_8 = 0 then some (s_7, (-1)) else gb_cd (cs_Border_hasPath_B n s_7 r_2 p3) (fun s_12 r_13 => (if r_13 = 0 then some (s_12, (-1)) else gb_cd (cs_Border_miles_B n s_12 r_2 p3) (fun s_17 r_18 => gb_cd (cs_Border_boots_B n s_17 r_2 p2) (fun s_21 r_22 => gb_cd (cs_Border_marksOver_B n s_21 r_2 p2 r_18 r_22 p4) (fun s_25 r_26 => some (s_25, r_26)))))))))))
set_option maxHeartbeats 8000000 in
set_option maxRecDepth 100000 in
theorem cc_Face_marks (l : Launch) (D : va_G) (cT : Nat → ClassId) (tt : Nat → Nat) (b1 b : Nat) (hb1 : b1 ≤ b) (n : Nat) (σ : gb_S) (p1 : Int32) (p2 : Int32) (p3 : Int32) (p4 : Int32) (σE : gb_S) (rE : Int32) (h : cs_Face_marks n σ p1 p2 p3 p4 = some (σE, rE)) : Met l yX11_marks (.code yX11_marks cX11_marks 6 (some FieldType.int) :: gb_wA) ({ frames := 2, cells := 0, slots := 0, locals := 48 }) (gb_Pc D cT tt b1 [.ref (b + 0), .int p1, .int p2, .int p3, .int p4] (fun h => va_P D vwCl (gb_wl b (gb_CW cT b σ)) h)) (gb_Qi (fun r h => r = rE ∧ va_P D vwCl (gb_wl b (gb_CW cT b σE)) h) (gb_fr b 135)) 0 0 (gb_fr b 135) := by
  refine Met.ofW (cc := cX11_marks) (maxL := 6) (ret := (some FieldType.int)) (by decide) rfl ?_
  intro p e s m args below meth c s₁ B hml hv
  obtain ⟨rfl, hSt, hP⟩ := hv
  have hx := B.exec
  have hb := B.bytes
  have hr := B.returns
  have hts := atoms_spec (ws := .code yX11_marks cX11_marks 6 (some FieldType.int) :: gb_wA) B.pre
  have hq : ∀ w ∈ gb_wA, w.before _ s = true := fun w h => hts w (List.mem_cons_of_mem _ h)
  have hown : s.vm.findClass RX11 = some m.cls := findClass_of_methodNamed B.named
  have hlocks := B.notSynchronized
  clear B hts
  have hK := hSt.1
  have hS : va_S (gb_fr b 135) s.heap s.heap [] := va_S.rf
  have hl := lv_entry ([.ref (b + 0), .int p1, .int p2, .int p3, .int p4]) (n := 6) (Nat.le_of_ble_eq_true rfl)
  rw [lg_entry_eq]
  generalize (lg_sl ([.ref (b + 0), .int p1, .int p2, .int p3, .int p4]) ++ List.replicate (6 - (lg_sl ([.ref (b + 0), .int p1, .int p2, .int p3, .int p4])).length) Slot.unset).toArray = ls at hl ⊢
  replace hl : lv_has ls 6 [(0, .ref (b + 0)), (1, .int p1), (2, .int p2), (3, .int p3), (4, .int p4)] := hl
  unfold cs_Face_marks at h
  refine lv_aload_n hx hb dX11_marks_0 rfl (lv_at hl 0 rfl) ?_
  refine lv_iload_n hx hb dX11_marks_1 rfl (lv_at hl 1 rfl) ?_
  obtain ⟨s_1, r_2, z_3, h⟩ := gb_cd_s h
  refine gb_callq (va_runV (C := RX11) (As := [.int p1]) (rest := []) ⟨hx, hb, hml, hown, hq⟩ (cc_Face_borderAt l D cT tt b1 b hb1 n σ p1 s_1 r_2 z_3) (cwV 1 hq (gb_gV w_593 w_595 s_1_7 w_1 w_596) rfl rfl rfl (by decide +kernel) ⟨Nat.le_of_ble_eq_true rfl, Nat.le_of_ble_eq_true rfl⟩) (gb_preV (r := (RX11, TX11, 10)) (ci := 9) (q0 := 0) hSt hP rfl (gb_at b rfl) hS (fun q h => Nat.le_trans hb1 h.1) hP) rfl rfl hl.1 rfl (lv_room (Nat.le_of_ble_eq_true rfl)) dX11_marks_2 ⟨Nat.le_of_ble_eq_true rfl, Nat.le_of_ble_eq_true rfl⟩) hS (fun _ h => h) (fun _ h => h) (fun q_4 H locs hY hk hS => ?_)
  obtain ⟨hq_4, hP⟩ := hY
  subst hq_4
  rw [gb_onv]
  by_cases c_5 : r_2 = 0
  · rw [if_pos c_5] at h
    rw [gb_nv0 c_5]
    refine lv_astoreN (lv' := [(5, .null), (0, .ref (b + 0)), (1, .int p1), (2, .int p2), (3, .int p3), (4, .int p4)]) hx hb dX11_marks_5 hl (by decide) rfl (fun ls hl => ?_)
    refine lv_aloadN hx hb dX11_marks_7 (lv_at hl 0 rfl) ?_
    refine lv_ifnullN (tgt := 30) hx hb dX11_marks_9 (by decide) ?_
    refine lv_iconst (v := (-1)) hx hb dX11_marks_30 (by decide) ?_
    obtain ⟨e1, e2⟩ := gb_eq2 h
    exact W.iret (v := (-1)) hx hb hr (fun t ht hW => gb_ri ht ⟨e2, by rw [← e1]; exact hP⟩ hS) hS.2.2 dX11_marks_31
  rw [if_neg c_5] at h
  rw [gb_nv1 c_5]
  obtain ⟨z_6, h⟩ := gb_kk_s h
  refine lv_astore (lv' := [(5, .ref (b + r_2)), (0, .ref (b + 0)), (1, .int p1), (2, .int p2), (3, .int p3), (4, .int p4)]) hx hb dX11_marks_5 hl (by decide) rfl (fun ls hl => ?_)
  refine lv_aload hx hb dX11_marks_7 (lv_at hl 0 rfl) ?_
  refine lv_ifnull hx hb dX11_marks_9 ?_
  refine lv_aload hx hb dX11_marks_12 (lv_at hl 0 rfl) ?_
  refine lv_iload_n hx hb dX11_marks_14 rfl (lv_at hl 3 rfl) ?_
  obtain ⟨s_7, r_8, z_9, h⟩ := gb_cd_s h
  refine gb_calli (va_runV (C := RX0) (As := [.int p2]) (rest := []) ⟨hx, hb, hml, hown, hq⟩ (cc_Border_hasGoose_B l D cT tt b1 b hb1 n s_1 r_2 p2 s_7 r_8 z_9) (cwV 1 hq (gb_gV w_619 w_612 w_613 w_4 w_614) rfl rfl rfl (by decide +kernel) ⟨Nat.le_of_ble_eq_true rfl, Nat.le_of_ble_eq_true rfl⟩) (gb_preV (r := (RX0, TX0, 1)) (ci := 0) (q0 := r_2) hSt hP rfl (gb_at b (gb_cB z_6).1) hS (fun q h => Nat.le_trans hb1 h.1) hP) rfl rfl hl.1 rfl (lv_room (Nat.le_of_ble_eq_true rfl)) dX11_marks_15 ⟨Nat.le_of_ble_eq_true rfl, Nat.le_of_ble_eq_true rfl⟩) hS (fun _ h => h) (fun _ h => h) (fun q_10 H locs hY hk hS => ?_)
  obtain ⟨hq_10, hP⟩ := hY
  replace hq_10 := hq_10.symm
  subst hq_10
  refine lv_if_eq (tgt := 30) hx hb dX11_marks_18 (by decide) (fun c_11 => ?_) (fun c_11 => ?_)
  · rw [if_pos c_11] at h
    refine lv_iconst (v := (-1)) hx hb dX11_marks_30 (by decide) ?_
    obtain ⟨e1, e2⟩ := gb_eq2 h
    exact W.iret (v := (-1)) hx hb hr (fun t ht hW => gb_ri ht ⟨e2, by rw [← e1]; exact hP⟩ hS) hS.2.2 dX11_marks_31
  · rw [if_neg c_11] at h
    refine lv_aload hx hb dX11_marks_21 (lv_at hl 0 rfl) ?_
    refine lv_iload_n hx hb dX11_marks_23 rfl (lv_at hl 4 rfl) ?_
    obtain ⟨s_12, r_13, z_14, h⟩ := gb_cd_s h
    refine gb_calli (va_runV (C := RX0) (As := [.int p3]) (rest := []) ⟨hx, hb, hml, hown, hq⟩ (cc_Border_hasPath_B l D cT tt b1 b hb1 n s_7 r_2 p3 s_12 r_13 z_14) (cwV 1 hq (gb_gV w_620 w_608 w_609 w_4 w_610) rfl rfl rfl (by decide +kernel) ⟨Nat.le_of_ble_eq_true rfl, Nat.le_of_ble_eq_true rfl⟩) (gb_preV (r := (RX0, TX0, 1)) (ci := 0) (q0 := r_2) hSt hP rfl (gb_at b (gb_cB z_6).1) hS (fun q h => Nat.le_trans hb1 h.1) hP) rfl rfl hl.1 rfl (lv_room (Nat.le_of_ble_eq_true rfl)) dX11_marks_24 ⟨Nat.le_of_ble_eq_true rfl, Nat.le_of_ble_eq_true rfl⟩) hS (fun _ h => h) (fun _ h => h) (fun q_15 H locs hY hk hS => ?_)
    obtain ⟨hq_15, hP⟩ := hY
    replace hq_15 := hq_15.symm
    subst hq_15
    refine lv_if_ne (tgt := 32) hx hb dX11_marks_27 (by decide) (fun c_16 => ?_) (fun c_16 => ?_)
    · rw [if_neg c_16] at h
      refine lv_aload hx hb dX11_marks_32 (lv_at hl 0 rfl) ?_
      refine lv_iload_n hx hb dX11_marks_34 rfl (lv_at hl 3 rfl) ?_
      refine lv_aload hx hb dX11_marks_35 (lv_at hl 0 rfl) ?_
      refine lv_iload_n hx hb dX11_marks_37 rfl (lv_at hl 4 rfl) ?_
      obtain ⟨s_17, r_18, z_19, h⟩ := gb_cd_s h
      refine gb_calli (va_runV (C := RX0) (As := [.int p3]) (rest := [.int p2, .ref (b + r_2)]) ⟨hx, hb, hml, hown, hq⟩ (cc_Border_miles_B l D cT tt b1 b hb1 n s_12 r_2 p3 s_17 r_18 z_19) (cwV 1 hq (gb_gV w_621 w_622 w_623 w_4 w_624) rfl rfl rfl (by decide +kernel) ⟨Nat.le_of_ble_eq_true rfl, Nat.le_of_ble_eq_true rfl⟩) (gb_preV (r := (RX0, TX0, 1)) (ci := 0) (q0 := r_2) hSt hP rfl (gb_at b (gb_cB z_6).1) hS (fun q h => Nat.le_trans hb1 h.1) hP) rfl rfl hl.1 rfl (lv_room (Nat.le_of_ble_eq_true rfl)) dX11_marks_38 ⟨Nat.le_of_ble_eq_true rfl, Nat.le_of_ble_eq_true rfl⟩) hS (fun _ h => h) (fun _ h => h) (fun q_20 H locs hY hk hS => ?_)
      obtain ⟨hq_20, hP⟩ := hY
      replace hq_20 := hq_20.symm
      subst hq_20
      refine lv_aload hx hb dX11_marks_41 (lv_at hl 0 rfl) ?_
      refine lv_iload_n hx hb dX11_marks_43 rfl (lv_at hl 3 rfl) ?_
      obtain ⟨s_21, r_22, z_23, h⟩ := gb_cd_s h
      refine gb_calli (va_runV (C := RX0) (As := [.int p2]) (rest := [.int r_18, .int p2, .ref (b + r_2)]) ⟨hx, hb, hml, hown, hq⟩ (cc_Border_boots_B l D cT tt b1 b hb1 n s_17 r_2 p2 s_21 r_22 z_23) (cwV 1 hq (gb_gV w_625 w_626 w_627 w_4 w_628) rfl rfl rfl (by decide +kernel) ⟨Nat.le_of_ble_eq_true rfl, Nat.le_of_ble_eq_true rfl⟩) (gb_preV (r := (RX0, TX0, 1)) (ci := 0) (q0 := r_2) hSt hP rfl (gb_at b (gb_cB z_6).1) hS (fun q h => Nat.le_trans hb1 h.1) hP) rfl rfl hl.1 rfl (lv_room (Nat.le_of_ble_eq_true rfl)) dX11_marks_44 ⟨Nat.le_of_ble_eq_true rfl, Nat.le_of_ble_eq_true rfl⟩) hS (fun _ h => h) (fun _ h => h) (fun q_24 H locs hY hk hS => ?_)
      obtain ⟨hq_24, hP⟩ := hY
      replace hq_24 := hq_24.symm
      subst hq_24
      refine lv_iload hx hb dX11_marks_47 (lv_at hl 5 rfl) ?_
      obtain ⟨s_25, r_26, z_27, h⟩ := gb_cd_s h
      refine gb_calli (va_runV (C := RX0) (As := [.int p2, .int r_18, .int r_22, .int p4]) (rest := []) ⟨hx, hb, hml, hown, hq⟩ (cc_Border_marksOver_B l D cT tt b1 b hb1 n s_21 r_2 p2 r_18 r_22 p4 s_25 r_26 z_27) (cwV 4 hq (gb_gV w_629 w_630 w_631 w_4 w_632) rfl rfl rfl (by decide +kernel) ⟨Nat.le_of_ble_eq_true rfl, Nat.le_of_ble_eq_true rfl⟩) (gb_preV (r := (RX0, TX0, 1)) (ci := 0) (q0 := r_2) hSt hP rfl (gb_at b (gb_cB z_6).1) hS (fun q h => Nat.le_trans hb1 h.1) hP) rfl rfl hl.1 rfl (lv_room (Nat.le_of_ble_eq_true rfl)) dX11_marks_49 ⟨Nat.le_of_ble_eq_true rfl, Nat.le_of_ble_eq_true rfl⟩) hS (fun _ h => h) (fun _ h => h) (fun q_28 H locs hY hk hS => ?_)
      obtain ⟨hq_28, hP⟩ := hY
      replace hq_28 := hq_28.symm
      subst hq_28
      obtain ⟨e1, e2⟩ := gb_eq2 h
      exact W.iret (v := r_26) hx hb hr (fun t ht hW => gb_ri ht ⟨e2, by rw [← e1]; exact hP⟩ hS) hS.2.2 dX11_marks_52
    · rw [if_pos c_16] at h
      refine lv_iconst (v := (-1)) hx hb dX11_marks_30 (by decide) ?_
      obtain ⟨e1, e2⟩ := gb_eq2 h
      exact W.iret (v := (-1)) hx hb hr (fun t ht hW => gb_ri ht ⟨e2, by rw [← e1]; exact hP⟩ hS) hS.2.2 dX11_marks_31
theorem dX11_deed_0 : decode cX11_deed 0 = .ok (.aload_n 0, 1) := by decide +kernel
theorem dX11_deed_1 : decode cX11_deed 1 = .ok (.iload_n 1, 1) := by decide +kernel
theorem dX11_deed_2 : decode cX11_deed 2 = .ok (.invokevirtual 148, 3) := by decide +kernel
theorem dX11_nightAt_0 : decode cX11_nightAt 0 = .ok (.iload_n 1, 1) := by decide +kernel
theorem dX11_nightAt_1 : decode cX11_nightAt 1 = .ok (.ifCond .lt 28, 3) := by decide +kernel
theorem dX11_nightAt_29 : decode cX11_nightAt 29 = .ok (.aconst_null, 1) := by decide +kernel
theorem dX11_nightAt_30 : decode cX11_nightAt 30 = .ok (.areturn, 1) := by decide +kernel
theorem dX11_nightAt_4 : decode cX11_nightAt 4 = .ok (.iload_n 1, 1) := by decide +kernel
theorem dX11_nightAt_5 : decode cX11_nightAt 5 = .ok (.aload_n 0, 1) := by decide +kernel
theorem dX11_nightAt_6 : decode cX11_nightAt 6 = .ok (.getfield 12, 3) := by decide +kernel
theorem dX11_nightAt_9 : decode cX11_nightAt 9 = .ok (.getfield 88, 3) := by decide +kernel
theorem dX11_nightAt_12 : decode cX11_nightAt 12 = .ok (.iconst 1, 1) := by decide +kernel
theorem dX11_nightAt_13 : decode cX11_nightAt 13 = .ok (.iaload, 1) := by decide +kernel
theorem dX11_nightAt_14 : decode cX11_nightAt 14 = .ok (.if_icmp .ge 15, 3) := by decide +kernel
theorem dX11_nightAt_17 : decode cX11_nightAt 17 = .ok (.aload_n 0, 1) := by decide +kernel
theorem dX11_nightAt_18 : decode cX11_nightAt 18 = .ok (.getfield 12, 3) := by decide +kernel
theorem dX11_nightAt_21 : decode cX11_nightAt 21 = .ok (.getfield 183, 3) := by decide +kernel
theorem w_115 : (Cond.fieldLink "GooseBorder" (183 : Nat) "GooseBorder$Told" "nights" "[LGooseBorder$Night;") ∈ gb_wA := gb_t1 115 rfl rfl
theorem dX11_nightAt_24 : decode cX11_nightAt 24 = .ok (.iload_n 1, 1) := by decide +kernel
theorem dX11_nightAt_25 : decode cX11_nightAt 25 = .ok (.aaload, 1) := by decide +kernel
theorem dX11_nightAt_26 : decode cX11_nightAt 26 = .ok (.goto 4, 3) := by decide +kernel
def cs_Face_nightAt (n : Nat) (σ : gb_S) (p1 : Int32) : gb_CR Nat := (if p1 < 0 then some (σ, 0) else gb_lt ((σ.1 22) (Int32.toNatClampNeg 1)) (fun x_2 => (if x_2 ≤ p1 then some (σ, 0) else gb_ck p1 2 (gb_lt (([8, 10] : List Nat).getD (Int32.toNatClampNeg p1) 0) (fun a_5 => gb_kk (gb_kN a_5) (some (σ, a_5)))))))
set_option maxHeartbeats 8000000 in
set_option maxRecDepth 100000 in
theorem cc_Face_nightAt (l : Launch) (D : va_G) (cT : Nat → ClassId) (tt : Nat → Nat) (b1 b : Nat) (hb1 : b1 ≤ b) (n : Nat) (σ : gb_S) (p1 : Int32) (σE : gb_S) (rE : Nat) (h : cs_Face_nightAt n σ p1 = some (σE, rE)) : Met l yX11_nightAt (.code yX11_nightAt cX11_nightAt 2 (some (FieldType.object "GooseBorder$Night")) :: gb_wA) ({ frames := 0, cells := 0, slots := 0, locals := 0 }) (gb_Pc D cT tt b1 [.ref (b + 0), .int p1] (fun h => va_P D vwCl (gb_wl b (gb_CW cT b σ)) h)) (gb_Qq (fun r h => r = gb_on b rE ∧ va_P D vwCl (gb_wl b (gb_CW cT b σE)) h) (gb_fr b 135)) 0 0 (gb_fr b 135) := by
  refine Met.ofW (cc := cX11_nightAt) (maxL := 2) (ret := (some (FieldType.object "GooseBorder$Night"))) (by decide) rfl ?_
  intro p e s m args below meth c s₁ B hml hv
  obtain ⟨rfl, hSt, hP⟩ := hv
  have hx := B.exec
  have hb := B.bytes
  have hr := B.returns
  have hts := atoms_spec (ws := .code yX11_nightAt cX11_nightAt 2 (some (FieldType.object "GooseBorder$Night")) :: gb_wA) B.pre
  have hq : ∀ w ∈ gb_wA, w.before _ s = true := fun w h => hts w (List.mem_cons_of_mem _ h)
  have hown : s.vm.findClass RX11 = some m.cls := findClass_of_methodNamed B.named
  have hlocks := B.notSynchronized
  clear B hts
  have hK := hSt.1
  have hS : va_S (gb_fr b 135) s.heap s.heap [] := va_S.rf
  have hl := lv_entry ([.ref (b + 0), .int p1]) (n := 2) (Nat.le_of_ble_eq_true rfl)
  rw [lg_entry_eq]
  generalize (lg_sl ([.ref (b + 0), .int p1]) ++ List.replicate (2 - (lg_sl ([.ref (b + 0), .int p1])).length) Slot.unset).toArray = ls at hl ⊢
  replace hl : lv_has ls 2 [(0, .ref (b + 0)), (1, .int p1)] := hl
  unfold cs_Face_nightAt at h
  refine lv_iload_n hx hb dX11_nightAt_0 rfl (lv_at hl 1 rfl) ?_
  refine lv_if_lt (tgt := 29) hx hb dX11_nightAt_1 (by decide) (fun c_1 => ?_) (fun c_1 => ?_)
  · rw [if_pos c_1] at h
    refine lv_null hx hb dX11_nightAt_29 ?_
    obtain ⟨e1, e2⟩ := gb_eq2 h
    exact W.aret (v := .null) hx hb hr (Or.inl ⟨_, rfl⟩) (Or.inl rfl) (fun t ht hW => gb_rq none ht ⟨by rw [← e2]; rfl, by rw [← e1]; exact hP⟩ hS) hS.2.2 dX11_nightAt_30
  · rw [if_neg c_1] at h
    refine lv_iload_n hx hb dX11_nightAt_4 rfl (lv_at hl 1 rfl) ?_
    refine lv_aload_n hx hb dX11_nightAt_5 rfl (lv_at hl 0 rfl) ?_
    refine va_get (ci := 9) (v := (.ref (b + 1))) (C := RX11) (T := TX11) (N := 10) hx hb hq i_X11 hown hK hP 0 (gb_at b rfl) rfl 0 (by decide) (hq _ w_315) (fun _ h9 => h9) rfl dX11_nightAt_6 ?_
    refine va_get (ci := 8) (v := (.ref (b + 22))) (C := RX10) (T := TX10) (N := 9) hx hb hq i_X10 hown hK hP 1 (gb_at b rfl) rfl 4 (by decide) (hq _ w_121) (fun _ h9 => h9) rfl dX11_nightAt_9 ?_
    refine lv_iconst (v := 1) hx hb dX11_nightAt_12 (by decide) ?_
    refine va_iald hx hb hK hP 22 0 (gb_at b rfl) rfl (gb_in rfl) dX11_nightAt_13 ?_
    refine lv_topi (fun x_2 ex_2 => ?_)
    replace h := gb_lt_s ex_2 h
    refine lv_icmp_ge (tgt := 29) hx hb dX11_nightAt_14 (by decide) (fun c_3 => ?_) (fun c_3 => ?_)
    · rw [if_pos c_3] at h
      refine lv_null hx hb dX11_nightAt_29 ?_
      obtain ⟨e1, e2⟩ := gb_eq2 h
      exact W.aret (v := .null) hx hb hr (Or.inl ⟨_, rfl⟩) (Or.inl rfl) (fun t ht hW => gb_rq none ht ⟨by rw [← e2]; rfl, by rw [← e1]; exact hP⟩ hS) hS.2.2 dX11_nightAt_30
    · rw [if_neg c_3] at h
      refine lv_aload_n hx hb dX11_nightAt_17 rfl (lv_at hl 0 rfl) ?_
      refine va_get (ci := 9) (v := (.ref (b + 1))) (C := RX11) (T := TX11) (N := 10) hx hb hq i_X11 hown hK hP 0 (gb_at b rfl) rfl 0 (by decide) (hq _ w_315) (fun _ h9 => h9) rfl dX11_nightAt_18 ?_
      refine va_get (ci := 8) (v := (.ref (b + 7))) (C := RX10) (T := TX10) (N := 9) hx hb hq i_X10 hown hK hP 1 (gb_at b rfl) rfl 1 (by decide) (hq _ w_115) (fun _ h9 => h9) rfl dX11_nightAt_21 ?_
      refine lv_iload_n hx hb dX11_nightAt_24 rfl (lv_at hl 1 rfl) ?_
      obtain ⟨z_4, h⟩ := gb_ck_s h
      refine gb_aald (v := .ref (b + (([8, 10] : List Nat).getD (Int32.toNatClampNeg p1) 0))) hx hb hK hP 7 5 (gb_at b rfl) rfl z_4 (gb_ra_at (L := ([8, 10] : List Nat)) z_4) dX11_nightAt_25 ?_
      obtain ⟨a_5, ea_5⟩ : ∃ q, q = (([8, 10] : List Nat).getD (Int32.toNatClampNeg p1) 0) := ⟨_, rfl⟩
      rw [← ea_5]
      replace h := gb_lt_s ea_5 h
      obtain ⟨z_6, h⟩ := gb_kk_s h
      refine lv_goto (tgt := 30) hx hb dX11_nightAt_26 (by decide) ?_
      obtain ⟨e1, e2⟩ := gb_eq2 h
      exact W.aret (v := (.ref (b + a_5))) hx hb hr (Or.inl ⟨_, rfl⟩) (Or.inr ⟨_, rfl⟩) (fun t ht hW => gb_rq (some (b + a_5)) ht ⟨by rw [← e2]; exact (gb_on1 (gb_nzN z_6)), by rw [← e1]; exact hP⟩ hS) hS.2.2 dX11_nightAt_30
theorem w_649 : (Cond.code ({ cls := "GooseBorder", name := "nightAt", desc := "(I)LGooseBorder$Night;" } : MethodName) prog_1_method_17_code (2 : Nat) (Option.some (FieldType.object "GooseBorder$Night"))) ∈ gb_wA := gb_t3 169 rfl rfl
theorem w_646 : (Cond.methodLink "GooseBorder" (148 : Nat) ({ cls := "GooseBorder", name := "nightAt", desc := "(I)LGooseBorder$Night;" } : MethodName)) ∈ gb_wA := gb_t3 166 rfl rfl
theorem w_648 : (Cond.instanceMethod ({ cls := "GooseBorder", name := "nightAt", desc := "(I)LGooseBorder$Night;" } : MethodName)) ∈ gb_wA := gb_t3 168 rfl rfl
theorem s_1_8 : Cond.selects "GooseBorder" (⟨"GooseBorder", "nightAt", "(I)LGooseBorder$Night;"⟩ : MethodName) (⟨"GooseBorder", "nightAt", "(I)LGooseBorder$Night;"⟩ : MethodName) ∈ gb_wA := gb_s1 8 rfl rfl
theorem dX11_deed_5 : decode cX11_deed 5 = .ok (.astore 4, 2) := by decide +kernel
theorem dX11_deed_7 : decode cX11_deed 7 = .ok (.aload 4, 2) := by decide +kernel
theorem dX11_deed_9 : decode cX11_deed 9 = .ok (.ifnonnull 8, 3) := by decide +kernel
theorem dX11_deed_12 : decode cX11_deed 12 = .ok (.bipush (-2), 2) := by decide +kernel
theorem dX11_deed_14 : decode cX11_deed 14 = .ok (.goto 10, 3) := by decide +kernel
theorem dX11_deed_24 : decode cX11_deed 24 = .ok (.ireturn, 1) := by decide +kernel
theorem dX11_deed_17 : decode cX11_deed 17 = .ok (.aload 4, 2) := by decide +kernel
theorem dX11_deed_19 : decode cX11_deed 19 = .ok (.iload_n 2, 1) := by decide +kernel
theorem dX11_deed_20 : decode cX11_deed 20 = .ok (.iload_n 3, 1) := by decide +kernel
theorem dX11_deed_21 : decode cX11_deed 21 = .ok (.invokestatic 152, 3) := by decide +kernel
theorem dX11_lineOf_0 : decode cX11_lineOf 0 = .ok (.iload_n 1, 1) := by decide +kernel
theorem dX11_lineOf_1 : decode cX11_lineOf 1 = .ok (.iconst (-1), 1) := by decide +kernel
theorem dX11_lineOf_2 : decode cX11_lineOf 2 = .ok (.if_icmp .ne 17, 3) := by decide +kernel
theorem dX11_lineOf_19 : decode cX11_lineOf 19 = .ok (.iload_n 1, 1) := by decide +kernel
theorem dX11_lineOf_20 : decode cX11_lineOf 20 = .ok (.ifCond .lt 23, 3) := by decide +kernel
theorem dX11_lineOf_43 : decode cX11_lineOf 43 = .ok (.bipush (-2), 2) := by decide +kernel
theorem dX11_lineOf_45 : decode cX11_lineOf 45 = .ok (.ireturn, 1) := by decide +kernel
theorem dX11_lineOf_23 : decode cX11_lineOf 23 = .ok (.iload_n 1, 1) := by decide +kernel
theorem dX11_lineOf_24 : decode cX11_lineOf 24 = .ok (.aload_n 0, 1) := by decide +kernel
theorem dX11_lineOf_25 : decode cX11_lineOf 25 = .ok (.invokevirtual 167, 3) := by decide +kernel
theorem dX4_size_0 : decode cX4_size 0 = .ok (.aload_n 0, 1) := by decide +kernel
theorem dX4_size_1 : decode cX4_size 1 = .ok (.getfield 21, 3) := by decide +kernel
theorem w_53 : (Cond.sameField "GooseBorder$Lines" "GooseBorder$Sheet" "cells" "[I") ∈ gb_wA := gb_t1 53 rfl rfl
theorem w_52 : (Cond.fieldLink "GooseBorder$Lines" (21 : Nat) "GooseBorder$Lines" "cells" "[I") ∈ gb_wA := gb_t1 52 rfl rfl
theorem dX4_size_4 : decode cX4_size 4 = .ok (.iconst 0, 1) := by decide +kernel
theorem dX4_size_5 : decode cX4_size 5 = .ok (.iaload, 1) := by decide +kernel
theorem dX4_size_6 : decode cX4_size 6 = .ok (.ireturn, 1) := by decide +kernel
def cs_Lines_size_N (n : Nat) (σ : gb_S) (k0 : Nat) : gb_CR Int32 := gb_kk (gb_kN k0) (gb_lt ((σ.1 (k0 + 1)) (Int32.toNatClampNeg 0)) (fun x_2 => some (σ, x_2)))
set_option maxHeartbeats 8000000 in
set_option maxRecDepth 100000 in
theorem cc_Lines_size_N (l : Launch) (D : va_G) (cT : Nat → ClassId) (tt : Nat → Nat) (b1 b : Nat) (hb1 : b1 ≤ b) (n : Nat) (σ : gb_S) (k0 : Nat) (σE : gb_S) (rE : Int32) (h : cs_Lines_size_N n σ k0 = some (σE, rE)) : Met l yX4_size (.code yX4_size cX4_size 1 (some FieldType.int) :: gb_wA) ({ frames := 0, cells := 0, slots := 0, locals := 0 }) (gb_Pc D cT tt b1 [.ref (b + k0)] (fun h => va_P D vwCl (gb_wl b (gb_CW cT b σ)) h)) (gb_Qi (fun r h => r = rE ∧ va_P D vwCl (gb_wl b (gb_CW cT b σE)) h) (gb_fr b 135)) 0 0 (gb_fr b 135) := by
  refine Met.ofW (cc := cX4_size) (maxL := 1) (ret := (some FieldType.int)) (by decide) rfl ?_
  intro p e s m args below meth c s₁ B hml hv
  obtain ⟨rfl, hSt, hP⟩ := hv
  have hx := B.exec
  have hb := B.bytes
  have hr := B.returns
  have hts := atoms_spec (ws := .code yX4_size cX4_size 1 (some FieldType.int) :: gb_wA) B.pre
  have hq : ∀ w ∈ gb_wA, w.before _ s = true := fun w h => hts w (List.mem_cons_of_mem _ h)
  have hown : s.vm.findClass RX4 = some m.cls := findClass_of_methodNamed B.named
  have hlocks := B.notSynchronized
  clear B hts
  have hK := hSt.1
  have hS : va_S (gb_fr b 135) s.heap s.heap [] := va_S.rf
  have hl := lv_entry ([.ref (b + k0)]) (n := 1) (Nat.le_of_ble_eq_true rfl)
  rw [lg_entry_eq]
  generalize (lg_sl ([.ref (b + k0)]) ++ List.replicate (1 - (lg_sl ([.ref (b + k0)])).length) Slot.unset).toArray = ls at hl ⊢
  replace hl : lv_has ls 1 [(0, .ref (b + k0))] := hl
  unfold cs_Lines_size_N at h
  obtain ⟨z_1, h⟩ := gb_kk_s h
  refine lv_aload_n hx hb dX4_size_0 rfl (lv_at hl 0 rfl) ?_
  refine va_get (ci := 4) (v := (.ref (b + (k0 + 1)))) (C := RX5) (T := TX5) (N := 4) hx hb hq i_X5 hown hK hP k0 (gb_at b (gb_cN z_1).1) rfl 3 (by decide) (hq _ w_52) (fun x9 h9 => u_same (hq _ w_53) x9 h9) rfl dX4_size_1 ?_
  refine lv_iconst (v := 0) hx hb dX4_size_4 (by decide) ?_
  refine va_iald hx hb hK hP (k0 + 1) 0 (gb_at b (gb_cN z_1).2) rfl (gb_in rfl) dX4_size_5 ?_
  refine lv_topi (fun x_2 ex_2 => ?_)
  replace h := gb_lt_s ex_2 h
  obtain ⟨e1, e2⟩ := gb_eq2 h
  exact W.iret (v := x_2) hx hb hr (fun t ht hW => gb_ri ht ⟨e2, by rw [← e1]; exact hP⟩ hS) hS.2.2 dX4_size_6
theorem w_489 : (Cond.code ({ cls := "GooseBorder$Lines", name := "size", desc := "()I" } : MethodName) prog_6_method_6_code (1 : Nat) (Option.some FieldType.int)) ∈ gb_wA := gb_t3 9 rfl rfl
theorem w_653 : (Cond.methodLink "GooseBorder" (167 : Nat) ({ cls := "GooseBorder$Lines", name := "size", desc := "()I" } : MethodName)) ∈ gb_wA := gb_t3 173 rfl rfl
theorem w_485 : (Cond.sameMethod "GooseBorder$Lines" "GooseBorder$Lines" "size" "()I") ∈ gb_wA := gb_t3 5 rfl rfl
theorem w_488 : (Cond.selects "GooseBorder$Night" ({ cls := "GooseBorder$Lines", name := "size", desc := "()I" } : MethodName) ({ cls := "GooseBorder$Lines", name := "size", desc := "()I" } : MethodName)) ∈ gb_wA := gb_t3 8 rfl rfl
theorem w_484 : (Cond.instanceMethod ({ cls := "GooseBorder$Lines", name := "size", desc := "()I" } : MethodName)) ∈ gb_wA := gb_t3 4 rfl rfl
theorem dX11_lineOf_28 : decode cX11_lineOf 28 = .ok (.if_icmp .ge 15, 3) := by decide +kernel
theorem dX11_lineOf_31 : decode cX11_lineOf 31 = .ok (.iload_n 2, 1) := by decide +kernel
theorem dX11_lineOf_32 : decode cX11_lineOf 32 = .ok (.ifCond .lt 11, 3) := by decide +kernel
theorem dX11_lineOf_35 : decode cX11_lineOf 35 = .ok (.iload_n 2, 1) := by decide +kernel
theorem dX11_lineOf_36 : decode cX11_lineOf 36 = .ok (.aload_n 0, 1) := by decide +kernel
theorem dX11_lineOf_37 : decode cX11_lineOf 37 = .ok (.getfield 172, 3) := by decide +kernel
theorem w_76 : (Cond.fieldLink "GooseBorder" (172 : Nat) "GooseBorder$Lines" "numbers" "I") ∈ gb_wA := gb_t1 76 rfl rfl
theorem dX11_lineOf_40 : decode cX11_lineOf 40 = .ok (.if_icmp .le 6, 3) := by decide +kernel
theorem dX11_lineOf_46 : decode cX11_lineOf 46 = .ok (.aload_n 0, 1) := by decide +kernel
theorem dX11_lineOf_47 : decode cX11_lineOf 47 = .ok (.iload_n 1, 1) := by decide +kernel
theorem dX11_lineOf_48 : decode cX11_lineOf 48 = .ok (.iload_n 2, 1) := by decide +kernel
theorem dX11_lineOf_49 : decode cX11_lineOf 49 = .ok (.invokevirtual 175, 3) := by decide +kernel
theorem dX4_cell_0 : decode cX4_cell 0 = .ok (.aload_n 0, 1) := by decide +kernel
theorem dX4_cell_1 : decode cX4_cell 1 = .ok (.getfield 21, 3) := by decide +kernel
theorem dX4_cell_4 : decode cX4_cell 4 = .ok (.iconst 1, 1) := by decide +kernel
theorem dX4_cell_5 : decode cX4_cell 5 = .ok (.iload_n 1, 1) := by decide +kernel
theorem dX4_cell_6 : decode cX4_cell 6 = .ok (.aload_n 0, 1) := by decide +kernel
theorem dX4_cell_7 : decode cX4_cell 7 = .ok (.getfield 15, 3) := by decide +kernel
theorem dX4_cell_10 : decode cX4_cell 10 = .ok (.iconst 1, 1) := by decide +kernel
theorem dX4_cell_11 : decode cX4_cell 11 = .ok (.iadd, 1) := by decide +kernel
theorem dX4_cell_12 : decode cX4_cell 12 = .ok (.imul, 1) := by decide +kernel
theorem dX4_cell_13 : decode cX4_cell 13 = .ok (.iadd, 1) := by decide +kernel
theorem dX4_cell_14 : decode cX4_cell 14 = .ok (.iload_n 2, 1) := by decide +kernel
theorem dX4_cell_15 : decode cX4_cell 15 = .ok (.iadd, 1) := by decide +kernel
theorem dX4_cell_16 : decode cX4_cell 16 = .ok (.iaload, 1) := by decide +kernel
theorem dX4_cell_17 : decode cX4_cell 17 = .ok (.ireturn, 1) := by decide +kernel
def cs_Lines_cell_N (n : Nat) (σ : gb_S) (k0 : Nat) (p1 : Int32) (p2 : Int32) : gb_CR Int32 := gb_kk (gb_kN k0) (gb_ck (((1 : Int32) + (p1 * ((3 : Int32) + 1))) + p2) 97 (gb_lt ((σ.1 (k0 + 1)) (Int32.toNatClampNeg (((1 : Int32) + (p1 * ((3 : Int32) + 1))) + p2))) (fun x_3 => some (σ, x_3))))
set_option maxHeartbeats 8000000 in
set_option maxRecDepth 100000 in
theorem cc_Lines_cell_N (l : Launch) (D : va_G) (cT : Nat → ClassId) (tt : Nat → Nat) (b1 b : Nat) (hb1 : b1 ≤ b) (n : Nat) (σ : gb_S) (k0 : Nat) (p1 : Int32) (p2 : Int32) (σE : gb_S) (rE : Int32) (h : cs_Lines_cell_N n σ k0 p1 p2 = some (σE, rE)) : Met l yX4_cell (.code yX4_cell cX4_cell 3 (some FieldType.int) :: gb_wA) ({ frames := 0, cells := 0, slots := 0, locals := 0 }) (gb_Pc D cT tt b1 [.ref (b + k0), .int p1, .int p2] (fun h => va_P D vwCl (gb_wl b (gb_CW cT b σ)) h)) (gb_Qi (fun r h => r = rE ∧ va_P D vwCl (gb_wl b (gb_CW cT b σE)) h) (gb_fr b 135)) 0 0 (gb_fr b 135) := by
  refine Met.ofW (cc := cX4_cell) (maxL := 3) (ret := (some FieldType.int)) (by decide) rfl ?_
  intro p e s m args below meth c s₁ B hml hv
  obtain ⟨rfl, hSt, hP⟩ := hv
  have hx := B.exec
  have hb := B.bytes
  have hr := B.returns
  have hts := atoms_spec (ws := .code yX4_cell cX4_cell 3 (some FieldType.int) :: gb_wA) B.pre
  have hq : ∀ w ∈ gb_wA, w.before _ s = true := fun w h => hts w (List.mem_cons_of_mem _ h)
  have hown : s.vm.findClass RX4 = some m.cls := findClass_of_methodNamed B.named
  have hlocks := B.notSynchronized
  clear B hts
  have hK := hSt.1
  have hS : va_S (gb_fr b 135) s.heap s.heap [] := va_S.rf
  have hl := lv_entry ([.ref (b + k0), .int p1, .int p2]) (n := 3) (Nat.le_of_ble_eq_true rfl)
  rw [lg_entry_eq]
  generalize (lg_sl ([.ref (b + k0), .int p1, .int p2]) ++ List.replicate (3 - (lg_sl ([.ref (b + k0), .int p1, .int p2])).length) Slot.unset).toArray = ls at hl ⊢
  replace hl : lv_has ls 3 [(0, .ref (b + k0)), (1, .int p1), (2, .int p2)] := hl
  unfold cs_Lines_cell_N at h
  obtain ⟨z_1, h⟩ := gb_kk_s h
  refine lv_aload_n hx hb dX4_cell_0 rfl (lv_at hl 0 rfl) ?_
  refine va_get (ci := 4) (v := (.ref (b + (k0 + 1)))) (C := RX5) (T := TX5) (N := 4) hx hb hq i_X5 hown hK hP k0 (gb_at b (gb_cN z_1).1) rfl 3 (by decide) (hq _ w_52) (fun x9 h9 => u_same (hq _ w_53) x9 h9) rfl dX4_cell_1 ?_
  refine lv_iconst (v := 1) hx hb dX4_cell_4 (by decide) ?_
  refine lv_iload_n hx hb dX4_cell_5 rfl (lv_at hl 1 rfl) ?_
  refine lv_aload_n hx hb dX4_cell_6 rfl (lv_at hl 0 rfl) ?_
  refine va_get (ci := 4) (v := (.int 3)) (C := RX5) (T := TX5) (N := 4) hx hb hq i_X5 hown hK hP k0 (gb_at b (gb_cN z_1).1) rfl 1 (by decide) (hq _ w_73) (fun _ h9 => h9) rfl dX4_cell_7 ?_
  refine lv_iconst (v := 1) hx hb dX4_cell_10 (by decide) ?_
  refine lv_iadd hx hb dX4_cell_11 ?_
  refine lv_imul hx hb dX4_cell_12 ?_
  refine lv_iadd hx hb dX4_cell_13 ?_
  refine lv_iload_n hx hb dX4_cell_14 rfl (lv_at hl 2 rfl) ?_
  refine lv_iadd hx hb dX4_cell_15 ?_
  obtain ⟨z_2, h⟩ := gb_ck_s h
  refine va_iald hx hb hK hP (k0 + 1) 0 (gb_at b (gb_cN z_1).2) rfl z_2 dX4_cell_16 ?_
  refine lv_topi (fun x_3 ex_3 => ?_)
  replace h := gb_lt_s ex_3 h
  obtain ⟨e1, e2⟩ := gb_eq2 h
  exact W.iret (v := x_3) hx hb hr (fun t ht hW => gb_ri ht ⟨e2, by rw [← e1]; exact hP⟩ hS) hS.2.2 dX4_cell_17
theorem w_547 : (Cond.code ({ cls := "GooseBorder$Lines", name := "cell", desc := "(II)I" } : MethodName) prog_6_method_8_code (3 : Nat) (Option.some FieldType.int)) ∈ gb_wA := gb_t3 67 rfl rfl
theorem w_654 : (Cond.methodLink "GooseBorder" (175 : Nat) ({ cls := "GooseBorder$Lines", name := "cell", desc := "(II)I" } : MethodName)) ∈ gb_wA := gb_t3 174 rfl rfl
theorem w_1730 : (Cond.sameMethod "GooseBorder$Lines" "GooseBorder$Lines" "cell" "(II)I") ∈ gb_wA := gb_t8 50 rfl rfl
theorem w_1733 : (Cond.selects "GooseBorder$Night" ({ cls := "GooseBorder$Lines", name := "cell", desc := "(II)I" } : MethodName) ({ cls := "GooseBorder$Lines", name := "cell", desc := "(II)I" } : MethodName)) ∈ gb_wA := gb_t8 53 rfl rfl
theorem w_546 : (Cond.instanceMethod ({ cls := "GooseBorder$Lines", name := "cell", desc := "(II)I" } : MethodName)) ∈ gb_wA := gb_t3 66 rfl rfl
theorem dX11_lineOf_52 : decode cX11_lineOf 52 = .ok (.ireturn, 1) := by decide +kernel
theorem dX11_lineOf_5 : decode cX11_lineOf 5 = .ok (.iload_n 2, 1) := by decide +kernel
theorem dX11_lineOf_6 : decode cX11_lineOf 6 = .ok (.ifCond .ne 10, 3) := by decide +kernel
theorem dX11_lineOf_16 : decode cX11_lineOf 16 = .ok (.bipush (-2), 2) := by decide +kernel
theorem dX11_lineOf_18 : decode cX11_lineOf 18 = .ok (.ireturn, 1) := by decide +kernel
theorem dX11_lineOf_9 : decode cX11_lineOf 9 = .ok (.aload_n 0, 1) := by decide +kernel
theorem dX11_lineOf_10 : decode cX11_lineOf 10 = .ok (.invokevirtual 167, 3) := by decide +kernel
theorem dX11_lineOf_13 : decode cX11_lineOf 13 = .ok (.goto 5, 3) := by decide +kernel
def cs_Face_lineOf_N (n : Nat) (σ : gb_S) (p1 : Nat) (p2 : Int32) (p3 : Int32) : gb_CR Int32 := gb_kk (gb_kN p1) ((if p2 = (-1) then (if p3 = 0 then gb_cd (cs_Lines_size_N n σ p1) (fun s_16 r_17 => some (s_16, r_17)) else some (σ, (-2))) else (if p2 < 0 then some (σ, (-2)) else gb_cd (cs_Lines_size_N n σ p1) (fun s_4 r_5 => (if r_5 ≤ p2 then some (s_4, (-2)) else (if p3 < 0 then some (s_4, (-2)) else (if p3 ≤ 3 then gb_cd (cs_Lines_cell_N n s_4 p1 p2 p3) (fun s_11 r_12 => some (s_11, r_12)) else some (s_4, (-2)))))))))
set_option maxHeartbeats 8000000 in
set_option maxRecDepth 100000 in
theorem cc_Face_lineOf_N (l : Launch) (D : va_G) (cT : Nat → ClassId) (tt : Nat → Nat) (b1 b : Nat) (hb1 : b1 ≤ b) (n : Nat) (σ : gb_S) (p1 : Nat) (p2 : Int32) (p3 : Int32) (σE : gb_S) (rE : Int32) (h : cs_Face_lineOf_N n σ p1 p2 p3 = some (σE, rE)) : Met l yX11_lineOf (.code yX11_lineOf cX11_lineOf 3 (some FieldType.int) :: gb_wA) ({ frames := 1, cells := 0, slots := 0, locals := 22 }) (gb_Pc D cT tt b1 [.ref (b + p1), .int p2, .int p3] (fun h => va_P D vwCl (gb_wl b (gb_CW cT b σ)) h)) (gb_Qi (fun r h => r = rE ∧ va_P D vwCl (gb_wl b (gb_CW cT b σE)) h) (gb_fr b 135)) 0 0 (gb_fr b 135) := by
  refine Met.ofW (cc := cX11_lineOf) (maxL := 3) (ret := (some FieldType.int)) (by decide) rfl ?_
  intro p e s m args below meth c s₁ B hml hv
  obtain ⟨rfl, hSt, hP⟩ := hv
  have hx := B.exec
  have hb := B.bytes
  have hr := B.returns
  have hts := atoms_spec (ws := .code yX11_lineOf cX11_lineOf 3 (some FieldType.int) :: gb_wA) B.pre
  have hq : ∀ w ∈ gb_wA, w.before _ s = true := fun w h => hts w (List.mem_cons_of_mem _ h)
  have hown : s.vm.findClass RX11 = some m.cls := findClass_of_methodNamed B.named
  have hlocks := B.notSynchronized
  clear B hts
  have hK := hSt.1
  have hS : va_S (gb_fr b 135) s.heap s.heap [] := va_S.rf
  have hl := lv_entry ([.ref (b + p1), .int p2, .int p3]) (n := 3) (Nat.le_of_ble_eq_true rfl)
  rw [lg_entry_eq]
  generalize (lg_sl ([.ref (b + p1), .int p2, .int p3]) ++ List.replicate (3 - (lg_sl ([.ref (b + p1), .int p2, .int p3])).length) Slot.unset).toArray = ls at hl ⊢
  replace hl : lv_has ls 3 [(0, .ref (b + p1)), (1, .int p2), (2, .int p3)] := hl
  unfold cs_Face_lineOf_N at h
  obtain ⟨z_1, h⟩ := gb_kk_s h
  refine lv_iload_n hx hb dX11_lineOf_0 rfl (lv_at hl 1 rfl) ?_
  refine lv_iconst (v := (-1)) hx hb dX11_lineOf_1 (by decide) ?_
  refine lv_icmp_ne (tgt := 19) hx hb dX11_lineOf_2 (by decide) (fun c_2 => ?_) (fun c_2 => ?_)
  · rw [if_neg c_2] at h
    refine lv_iload_n hx hb dX11_lineOf_19 rfl (lv_at hl 1 rfl) ?_
    refine lv_if_lt (tgt := 43) hx hb dX11_lineOf_20 (by decide) (fun c_3 => ?_) (fun c_3 => ?_)
    · rw [if_pos c_3] at h
      refine lv_bipush (v := (-2)) hx hb dX11_lineOf_43 (by decide) ?_
      obtain ⟨e1, e2⟩ := gb_eq2 h
      exact W.iret (v := (-2)) hx hb hr (fun t ht hW => gb_ri ht ⟨e2, by rw [← e1]; exact hP⟩ hS) hS.2.2 dX11_lineOf_45
    · rw [if_neg c_3] at h
      refine lv_iload_n hx hb dX11_lineOf_23 rfl (lv_at hl 1 rfl) ?_
      refine lv_aload_n hx hb dX11_lineOf_24 rfl (lv_at hl 0 rfl) ?_
      obtain ⟨s_4, r_5, z_6, h⟩ := gb_cd_s h
      refine gb_calli (va_runU (x := yX4_size) (C := RX5) (owner := "GooseBorder$Lines") (As := []) (rest := [.int p2]) ⟨hx, hb, hml, hown, hq⟩ (cc_Lines_size_N l D cT tt b1 b hb1 n σ p1 s_4 r_5 z_6) (va_cwU (owner := "GooseBorder$Lines") (C := RX5) 0 hq (gb_gU w_653 w_485 w_488 w_484 w_6 w_489) rfl rfl rfl rfl (by decide +kernel) ⟨Nat.le_of_ble_eq_true rfl, Nat.le_of_ble_eq_true rfl⟩) (gb_preV (r := (RX5, TX5, 4)) (ci := 4) (q0 := p1) hSt hP rfl (gb_at b (gb_cN z_1).1) hS (fun q h => Nat.le_trans hb1 h.1) hP) rfl rfl hl.1 rfl (lv_room (Nat.le_of_ble_eq_true rfl)) dX11_lineOf_25 ⟨Nat.le_of_ble_eq_true rfl, Nat.le_of_ble_eq_true rfl⟩) hS (fun _ h => h) (fun _ h => h) (fun q_7 H locs hY hk hS => ?_)
      obtain ⟨hq_7, hP⟩ := hY
      replace hq_7 := hq_7.symm
      subst hq_7
      refine lv_icmp_ge (tgt := 43) hx hb dX11_lineOf_28 (by decide) (fun c_8 => ?_) (fun c_8 => ?_)
      · rw [if_pos c_8] at h
        refine lv_bipush (v := (-2)) hx hb dX11_lineOf_43 (by decide) ?_
        obtain ⟨e1, e2⟩ := gb_eq2 h
        exact W.iret (v := (-2)) hx hb hr (fun t ht hW => gb_ri ht ⟨e2, by rw [← e1]; exact hP⟩ hS) hS.2.2 dX11_lineOf_45
      · rw [if_neg c_8] at h
        refine lv_iload_n hx hb dX11_lineOf_31 rfl (lv_at hl 2 rfl) ?_
        refine lv_if_lt (tgt := 43) hx hb dX11_lineOf_32 (by decide) (fun c_9 => ?_) (fun c_9 => ?_)
        · rw [if_pos c_9] at h
          refine lv_bipush (v := (-2)) hx hb dX11_lineOf_43 (by decide) ?_
          obtain ⟨e1, e2⟩ := gb_eq2 h
          exact W.iret (v := (-2)) hx hb hr (fun t ht hW => gb_ri ht ⟨e2, by rw [← e1]; exact hP⟩ hS) hS.2.2 dX11_lineOf_45
        · rw [if_neg c_9] at h
          refine lv_iload_n hx hb dX11_lineOf_35 rfl (lv_at hl 2 rfl) ?_
          refine lv_aload_n hx hb dX11_lineOf_36 rfl (lv_at hl 0 rfl) ?_
          refine va_get (ci := 4) (v := (.int 3)) (C := RX5) (T := TX5) (N := 4) hx hb hq i_X5 hown hK hP p1 (gb_at b (gb_cN z_1).1) rfl 1 (by decide) (hq _ w_76) (fun _ h9 => h9) rfl dX11_lineOf_37 ?_
          refine lv_icmp_le (tgt := 46) hx hb dX11_lineOf_40 (by decide) (fun c_10 => ?_) (fun c_10 => ?_)
          · rw [if_pos c_10] at h
            refine lv_aload_n hx hb dX11_lineOf_46 rfl (lv_at hl 0 rfl) ?_
            refine lv_iload_n hx hb dX11_lineOf_47 rfl (lv_at hl 1 rfl) ?_
            refine lv_iload_n hx hb dX11_lineOf_48 rfl (lv_at hl 2 rfl) ?_
            obtain ⟨s_11, r_12, z_13, h⟩ := gb_cd_s h
            refine gb_calli (va_runU (x := yX4_cell) (C := RX5) (owner := "GooseBorder$Lines") (As := [.int p2, .int p3]) (rest := []) ⟨hx, hb, hml, hown, hq⟩ (cc_Lines_cell_N l D cT tt b1 b hb1 n s_4 p1 p2 p3 s_11 r_12 z_13) (va_cwU (owner := "GooseBorder$Lines") (C := RX5) 2 hq (gb_gU w_654 w_1730 w_1733 w_546 w_6 w_547) rfl rfl rfl rfl (by decide +kernel) ⟨Nat.le_of_ble_eq_true rfl, Nat.le_of_ble_eq_true rfl⟩) (gb_preV (r := (RX5, TX5, 4)) (ci := 4) (q0 := p1) hSt hP rfl (gb_at b (gb_cN z_1).1) hS (fun q h => Nat.le_trans hb1 h.1) hP) rfl rfl hl.1 rfl (lv_room (Nat.le_of_ble_eq_true rfl)) dX11_lineOf_49 ⟨Nat.le_of_ble_eq_true rfl, Nat.le_of_ble_eq_true rfl⟩) hS (fun _ h => h) (fun _ h => h) (fun q_14 H locs hY hk hS => ?_)
            obtain ⟨hq_14, hP⟩ := hY
            replace hq_14 := hq_14.symm
            subst hq_14
            obtain ⟨e1, e2⟩ := gb_eq2 h
            exact W.iret (v := r_12) hx hb hr (fun t ht hW => gb_ri ht ⟨e2, by rw [← e1]; exact hP⟩ hS) hS.2.2 dX11_lineOf_52
          · rw [if_neg c_10] at h
            refine lv_bipush (v := (-2)) hx hb dX11_lineOf_43 (by decide) ?_
            obtain ⟨e1, e2⟩ := gb_eq2 h
            exact W.iret (v := (-2)) hx hb hr (fun t ht hW => gb_ri ht ⟨e2, by rw [← e1]; exact hP⟩ hS) hS.2.2 dX11_lineOf_45
  · rw [if_pos c_2] at h
    refine lv_iload_n hx hb dX11_lineOf_5 rfl (lv_at hl 2 rfl) ?_
    refine lv_if_ne (tgt := 16) hx hb dX11_lineOf_6 (by decide) (fun c_15 => ?_) (fun c_15 => ?_)
    · rw [if_neg c_15] at h
      refine lv_bipush (v := (-2)) hx hb dX11_lineOf_16 (by decide) ?_
      obtain ⟨e1, e2⟩ := gb_eq2 h
      exact W.iret (v := (-2)) hx hb hr (fun t ht hW => gb_ri ht ⟨e2, by rw [← e1]; exact hP⟩ hS) hS.2.2 dX11_lineOf_18
    · rw [if_pos c_15] at h
      refine lv_aload_n hx hb dX11_lineOf_9 rfl (lv_at hl 0 rfl) ?_
      obtain ⟨s_16, r_17, z_18, h⟩ := gb_cd_s h
      refine gb_calli (va_runU (x := yX4_size) (C := RX5) (owner := "GooseBorder$Lines") (As := []) (rest := []) ⟨hx, hb, hml, hown, hq⟩ (cc_Lines_size_N l D cT tt b1 b hb1 n σ p1 s_16 r_17 z_18) (va_cwU (owner := "GooseBorder$Lines") (C := RX5) 0 hq (gb_gU w_653 w_485 w_488 w_484 w_6 w_489) rfl rfl rfl rfl (by decide +kernel) ⟨Nat.le_of_ble_eq_true rfl, Nat.le_of_ble_eq_true rfl⟩) (gb_preV (r := (RX5, TX5, 4)) (ci := 4) (q0 := p1) hSt hP rfl (gb_at b (gb_cN z_1).1) hS (fun q h => Nat.le_trans hb1 h.1) hP) rfl rfl hl.1 rfl (lv_room (Nat.le_of_ble_eq_true rfl)) dX11_lineOf_10 ⟨Nat.le_of_ble_eq_true rfl, Nat.le_of_ble_eq_true rfl⟩) hS (fun _ h => h) (fun _ h => h) (fun q_19 H locs hY hk hS => ?_)
      obtain ⟨hq_19, hP⟩ := hY
      replace hq_19 := hq_19.symm
      subst hq_19
      refine lv_goto (tgt := 18) hx hb dX11_lineOf_13 (by decide) ?_
      obtain ⟨e1, e2⟩ := gb_eq2 h
      exact W.iret (v := r_17) hx hb hr (fun t ht hW => gb_ri ht ⟨e2, by rw [← e1]; exact hP⟩ hS) hS.2.2 dX11_lineOf_18
theorem w_652 : (Cond.code ({ cls := "GooseBorder", name := "lineOf", desc := "(LGooseBorder$Lines;II)I" } : MethodName) prog_1_method_15_code (3 : Nat) (Option.some FieldType.int)) ∈ gb_wA := gb_t3 172 rfl rfl
theorem w_650 : (Cond.methodLink "GooseBorder" (152 : Nat) ({ cls := "GooseBorder", name := "lineOf", desc := "(LGooseBorder$Lines;II)I" } : MethodName)) ∈ gb_wA := gb_t3 170 rfl rfl
theorem w_651 : (Cond.static ({ cls := "GooseBorder", name := "lineOf", desc := "(LGooseBorder$Lines;II)I" } : MethodName)) ∈ gb_wA := gb_t3 171 rfl rfl
def cs_Face_deed (n : Nat) (σ : gb_S) (p1 : Int32) (p2 : Int32) (p3 : Int32) : gb_CR Int32 := gb_cd (cs_Face_nightAt n σ p1) (fun s_1 r_2 => (if r_2 = 0 then some (s_1, (-2)) else gb_kk (gb_kN r_2) (gb_cd (cs_Face_lineOf_N n s_1 r_2 p2 p3) (fun s_7 r_8 => some (s_7, r_8)))))
set_option maxHeartbeats 8000000 in
set_option maxRecDepth 100000 in
theorem cc_Face_deed (l : Launch) (D : va_G) (cT : Nat → ClassId) (tt : Nat → Nat) (b1 b : Nat) (hb1 : b1 ≤ b) (n : Nat) (σ : gb_S) (p1 : Int32) (p2 : Int32) (p3 : Int32) (σE : gb_S) (rE : Int32) (h : cs_Face_deed n σ p1 p2 p3 = some (σE, rE)) : Met l yX11_deed (.code yX11_deed cX11_deed 5 (some FieldType.int) :: gb_wA) ({ frames := 2, cells := 0, slots := 0, locals := 44 }) (gb_Pc D cT tt b1 [.ref (b + 0), .int p1, .int p2, .int p3] (fun h => va_P D vwCl (gb_wl b (gb_CW cT b σ)) h)) (gb_Qi (fun r h => r = rE ∧ va_P D vwCl (gb_wl b (gb_CW cT b σE)) h) (gb_fr b 135)) 0 0 (gb_fr b 135) := by
  refine Met.ofW (cc := cX11_deed) (maxL := 5) (ret := (some FieldType.int)) (by decide) rfl ?_
  intro p e s m args below meth c s₁ B hml hv
  obtain ⟨rfl, hSt, hP⟩ := hv
  have hx := B.exec
  have hb := B.bytes
  have hr := B.returns
  have hts := atoms_spec (ws := .code yX11_deed cX11_deed 5 (some FieldType.int) :: gb_wA) B.pre
  have hq : ∀ w ∈ gb_wA, w.before _ s = true := fun w h => hts w (List.mem_cons_of_mem _ h)
  have hown : s.vm.findClass RX11 = some m.cls := findClass_of_methodNamed B.named
  have hlocks := B.notSynchronized
  clear B hts
  have hK := hSt.1
  have hS : va_S (gb_fr b 135) s.heap s.heap [] := va_S.rf
  have hl := lv_entry ([.ref (b + 0), .int p1, .int p2, .int p3]) (n := 5) (Nat.le_of_ble_eq_true rfl)
  rw [lg_entry_eq]
  generalize (lg_sl ([.ref (b + 0), .int p1, .int p2, .int p3]) ++ List.replicate (5 - (lg_sl ([.ref (b + 0), .int p1, .int p2, .int p3])).length) Slot.unset).toArray = ls at hl ⊢
  replace hl : lv_has ls 5 [(0, .ref (b + 0)), (1, .int p1), (2, .int p2), (3, .int p3)] := hl
  unfold cs_Face_deed at h
  refine lv_aload_n hx hb dX11_deed_0 rfl (lv_at hl 0 rfl) ?_
  refine lv_iload_n hx hb dX11_deed_1 rfl (lv_at hl 1 rfl) ?_
  obtain ⟨s_1, r_2, z_3, h⟩ := gb_cd_s h
  refine gb_callq (va_runV (C := RX11) (As := [.int p1]) (rest := []) ⟨hx, hb, hml, hown, hq⟩ (cc_Face_nightAt l D cT tt b1 b hb1 n σ p1 s_1 r_2 z_3) (cwV 1 hq (gb_gV w_646 w_648 s_1_8 w_1 w_649) rfl rfl rfl (by decide +kernel) ⟨Nat.le_of_ble_eq_true rfl, Nat.le_of_ble_eq_true rfl⟩) (gb_preV (r := (RX11, TX11, 10)) (ci := 9) (q0 := 0) hSt hP rfl (gb_at b rfl) hS (fun q h => Nat.le_trans hb1 h.1) hP) rfl rfl hl.1 rfl (lv_room (Nat.le_of_ble_eq_true rfl)) dX11_deed_2 ⟨Nat.le_of_ble_eq_true rfl, Nat.le_of_ble_eq_true rfl⟩) hS (fun _ h => h) (fun _ h => h) (fun q_4 H locs hY hk hS => ?_)
  obtain ⟨hq_4, hP⟩ := hY
  subst hq_4
  rw [gb_onv]
  by_cases c_5 : r_2 = 0
  · rw [if_pos c_5] at h
    rw [gb_nv0 c_5]
    refine lv_astoreN (lv' := [(4, .null), (0, .ref (b + 0)), (1, .int p1), (2, .int p2), (3, .int p3)]) hx hb dX11_deed_5 hl (by decide) rfl (fun ls hl => ?_)
    refine lv_aloadN hx hb dX11_deed_7 (lv_at hl 0 rfl) ?_
    refine lv_ifnonnullN hx hb dX11_deed_9 ?_
    refine lv_bipush (v := (-2)) hx hb dX11_deed_12 (by decide) ?_
    refine lv_goto (tgt := 24) hx hb dX11_deed_14 (by decide) ?_
    obtain ⟨e1, e2⟩ := gb_eq2 h
    exact W.iret (v := (-2)) hx hb hr (fun t ht hW => gb_ri ht ⟨e2, by rw [← e1]; exact hP⟩ hS) hS.2.2 dX11_deed_24
  rw [if_neg c_5] at h
  rw [gb_nv1 c_5]
  obtain ⟨z_6, h⟩ := gb_kk_s h
  refine lv_astore (lv' := [(4, .ref (b + r_2)), (0, .ref (b + 0)), (1, .int p1), (2, .int p2), (3, .int p3)]) hx hb dX11_deed_5 hl (by decide) rfl (fun ls hl => ?_)
  refine lv_aload hx hb dX11_deed_7 (lv_at hl 0 rfl) ?_
  refine lv_ifnonnull (tgt := 17) hx hb dX11_deed_9 (by decide) ?_
  refine lv_aload hx hb dX11_deed_17 (lv_at hl 0 rfl) ?_
  refine lv_iload_n hx hb dX11_deed_19 rfl (lv_at hl 3 rfl) ?_
  refine lv_iload_n hx hb dX11_deed_20 rfl (lv_at hl 4 rfl) ?_
  obtain ⟨s_7, r_8, z_9, h⟩ := gb_cd_s h
  refine gb_calli (va_runS (As := [.ref (b + r_2), .int p2, .int p3]) (rest := []) ⟨hx, hb, hml, hown, hq⟩ (cc_Face_lineOf_N l D cT tt b1 b hb1 n s_1 r_2 p2 p3 s_7 r_8 z_9) (va_cwS 3 hq (gb_gS w_650 w_651 w_1 w_652) rfl rfl rfl (by decide +kernel) ⟨Nat.le_of_ble_eq_true rfl, Nat.le_of_ble_eq_true rfl⟩) (gb_preS hSt hS (fun q h => Nat.le_trans hb1 h.1) hP) rfl rfl hl.1 rfl (lv_room (Nat.le_of_ble_eq_true rfl)) dX11_deed_21 ⟨Nat.le_of_ble_eq_true rfl, Nat.le_of_ble_eq_true rfl⟩) hS (fun _ h => h) (fun _ h => h) (fun q_10 H locs hY hk hS => ?_)
  obtain ⟨hq_10, hP⟩ := hY
  replace hq_10 := hq_10.symm
  subst hq_10
  obtain ⟨e1, e2⟩ := gb_eq2 h
  exact W.iret (v := r_8) hx hb hr (fun t ht hW => gb_ri ht ⟨e2, by rw [← e1]; exact hP⟩ hS) hS.2.2 dX11_deed_24
theorem dX11_term_0 : decode cX11_term 0 = .ok (.aload_n 0, 1) := by decide +kernel
theorem dX11_term_1 : decode cX11_term 1 = .ok (.iload_n 1, 1) := by decide +kernel
theorem dX11_term_2 : decode cX11_term 2 = .ok (.invokevirtual 156, 3) := by decide +kernel
theorem dX11_lawAt_0 : decode cX11_lawAt 0 = .ok (.iload_n 1, 1) := by decide +kernel
theorem dX11_lawAt_1 : decode cX11_lawAt 1 = .ok (.ifCond .lt 28, 3) := by decide +kernel
theorem dX11_lawAt_29 : decode cX11_lawAt 29 = .ok (.aconst_null, 1) := by decide +kernel
theorem dX11_lawAt_30 : decode cX11_lawAt 30 = .ok (.areturn, 1) := by decide +kernel
theorem dX11_lawAt_4 : decode cX11_lawAt 4 = .ok (.iload_n 1, 1) := by decide +kernel
theorem dX11_lawAt_5 : decode cX11_lawAt 5 = .ok (.aload_n 0, 1) := by decide +kernel
theorem dX11_lawAt_6 : decode cX11_lawAt 6 = .ok (.getfield 12, 3) := by decide +kernel
theorem dX11_lawAt_9 : decode cX11_lawAt 9 = .ok (.getfield 88, 3) := by decide +kernel
theorem dX11_lawAt_12 : decode cX11_lawAt 12 = .ok (.iconst 2, 1) := by decide +kernel
theorem dX11_lawAt_13 : decode cX11_lawAt 13 = .ok (.iaload, 1) := by decide +kernel
theorem dX11_lawAt_14 : decode cX11_lawAt 14 = .ok (.if_icmp .ge 15, 3) := by decide +kernel
theorem dX11_lawAt_17 : decode cX11_lawAt 17 = .ok (.aload_n 0, 1) := by decide +kernel
theorem dX11_lawAt_18 : decode cX11_lawAt 18 = .ok (.getfield 12, 3) := by decide +kernel
theorem dX11_lawAt_21 : decode cX11_lawAt 21 = .ok (.getfield 187, 3) := by decide +kernel
theorem w_117 : (Cond.fieldLink "GooseBorder" (187 : Nat) "GooseBorder$Told" "laws" "[LGooseBorder$Law;") ∈ gb_wA := gb_t1 117 rfl rfl
theorem dX11_lawAt_24 : decode cX11_lawAt 24 = .ok (.iload_n 1, 1) := by decide +kernel
theorem dX11_lawAt_25 : decode cX11_lawAt 25 = .ok (.aaload, 1) := by decide +kernel
theorem dX11_lawAt_26 : decode cX11_lawAt 26 = .ok (.goto 4, 3) := by decide +kernel
def cs_Face_lawAt (n : Nat) (σ : gb_S) (p1 : Int32) : gb_CR Nat := (if p1 < 0 then some (σ, 0) else gb_lt ((σ.1 22) (Int32.toNatClampNeg 2)) (fun x_2 => (if x_2 ≤ p1 then some (σ, 0) else gb_ck p1 2 (gb_lt (([13, 15] : List Nat).getD (Int32.toNatClampNeg p1) 0) (fun a_5 => gb_kk (gb_kL a_5) (some (σ, a_5)))))))
set_option maxHeartbeats 8000000 in
set_option maxRecDepth 100000 in
theorem cc_Face_lawAt (l : Launch) (D : va_G) (cT : Nat → ClassId) (tt : Nat → Nat) (b1 b : Nat) (hb1 : b1 ≤ b) (n : Nat) (σ : gb_S) (p1 : Int32) (σE : gb_S) (rE : Nat) (h : cs_Face_lawAt n σ p1 = some (σE, rE)) : Met l yX11_lawAt (.code yX11_lawAt cX11_lawAt 2 (some (FieldType.object "GooseBorder$Law")) :: gb_wA) ({ frames := 0, cells := 0, slots := 0, locals := 0 }) (gb_Pc D cT tt b1 [.ref (b + 0), .int p1] (fun h => va_P D vwCl (gb_wl b (gb_CW cT b σ)) h)) (gb_Qq (fun r h => r = gb_on b rE ∧ va_P D vwCl (gb_wl b (gb_CW cT b σE)) h) (gb_fr b 135)) 0 0 (gb_fr b 135) := by
  refine Met.ofW (cc := cX11_lawAt) (maxL := 2) (ret := (some (FieldType.object "GooseBorder$Law"))) (by decide) rfl ?_
  intro p e s m args below meth c s₁ B hml hv
  obtain ⟨rfl, hSt, hP⟩ := hv
  have hx := B.exec
  have hb := B.bytes
  have hr := B.returns
  have hts := atoms_spec (ws := .code yX11_lawAt cX11_lawAt 2 (some (FieldType.object "GooseBorder$Law")) :: gb_wA) B.pre
  have hq : ∀ w ∈ gb_wA, w.before _ s = true := fun w h => hts w (List.mem_cons_of_mem _ h)
  have hown : s.vm.findClass RX11 = some m.cls := findClass_of_methodNamed B.named
  have hlocks := B.notSynchronized
  clear B hts
  have hK := hSt.1
  have hS : va_S (gb_fr b 135) s.heap s.heap [] := va_S.rf
  have hl := lv_entry ([.ref (b + 0), .int p1]) (n := 2) (Nat.le_of_ble_eq_true rfl)
  rw [lg_entry_eq]
  generalize (lg_sl ([.ref (b + 0), .int p1]) ++ List.replicate (2 - (lg_sl ([.ref (b + 0), .int p1])).length) Slot.unset).toArray = ls at hl ⊢
  replace hl : lv_has ls 2 [(0, .ref (b + 0)), (1, .int p1)] := hl
  unfold cs_Face_lawAt at h
  refine lv_iload_n hx hb dX11_lawAt_0 rfl (lv_at hl 1 rfl) ?_
  refine lv_if_lt (tgt := 29) hx hb dX11_lawAt_1 (by decide) (fun c_1 => ?_) (fun c_1 => ?_)
  · rw [if_pos c_1] at h
    refine lv_null hx hb dX11_lawAt_29 ?_
    obtain ⟨e1, e2⟩ := gb_eq2 h
    exact W.aret (v := .null) hx hb hr (Or.inl ⟨_, rfl⟩) (Or.inl rfl) (fun t ht hW => gb_rq none ht ⟨by rw [← e2]; rfl, by rw [← e1]; exact hP⟩ hS) hS.2.2 dX11_lawAt_30
  · rw [if_neg c_1] at h
    refine lv_iload_n hx hb dX11_lawAt_4 rfl (lv_at hl 1 rfl) ?_
    refine lv_aload_n hx hb dX11_lawAt_5 rfl (lv_at hl 0 rfl) ?_
    refine va_get (ci := 9) (v := (.ref (b + 1))) (C := RX11) (T := TX11) (N := 10) hx hb hq i_X11 hown hK hP 0 (gb_at b rfl) rfl 0 (by decide) (hq _ w_315) (fun _ h9 => h9) rfl dX11_lawAt_6 ?_
    refine va_get (ci := 8) (v := (.ref (b + 22))) (C := RX10) (T := TX10) (N := 9) hx hb hq i_X10 hown hK hP 1 (gb_at b rfl) rfl 4 (by decide) (hq _ w_121) (fun _ h9 => h9) rfl dX11_lawAt_9 ?_
    refine lv_iconst (v := 2) hx hb dX11_lawAt_12 (by decide) ?_
    refine va_iald hx hb hK hP 22 0 (gb_at b rfl) rfl (gb_in rfl) dX11_lawAt_13 ?_
    refine lv_topi (fun x_2 ex_2 => ?_)
    replace h := gb_lt_s ex_2 h
    refine lv_icmp_ge (tgt := 29) hx hb dX11_lawAt_14 (by decide) (fun c_3 => ?_) (fun c_3 => ?_)
    · rw [if_pos c_3] at h
      refine lv_null hx hb dX11_lawAt_29 ?_
      obtain ⟨e1, e2⟩ := gb_eq2 h
      exact W.aret (v := .null) hx hb hr (Or.inl ⟨_, rfl⟩) (Or.inl rfl) (fun t ht hW => gb_rq none ht ⟨by rw [← e2]; rfl, by rw [← e1]; exact hP⟩ hS) hS.2.2 dX11_lawAt_30
    · rw [if_neg c_3] at h
      refine lv_aload_n hx hb dX11_lawAt_17 rfl (lv_at hl 0 rfl) ?_
      refine va_get (ci := 9) (v := (.ref (b + 1))) (C := RX11) (T := TX11) (N := 10) hx hb hq i_X11 hown hK hP 0 (gb_at b rfl) rfl 0 (by decide) (hq _ w_315) (fun _ h9 => h9) rfl dX11_lawAt_18 ?_
      refine va_get (ci := 8) (v := (.ref (b + 12))) (C := RX10) (T := TX10) (N := 9) hx hb hq i_X10 hown hK hP 1 (gb_at b rfl) rfl 2 (by decide) (hq _ w_117) (fun _ h9 => h9) rfl dX11_lawAt_21 ?_
      refine lv_iload_n hx hb dX11_lawAt_24 rfl (lv_at hl 1 rfl) ?_
      obtain ⟨z_4, h⟩ := gb_ck_s h
      refine gb_aald (v := .ref (b + (([13, 15] : List Nat).getD (Int32.toNatClampNeg p1) 0))) hx hb hK hP 12 6 (gb_at b rfl) rfl z_4 (gb_ra_at (L := ([13, 15] : List Nat)) z_4) dX11_lawAt_25 ?_
      obtain ⟨a_5, ea_5⟩ : ∃ q, q = (([13, 15] : List Nat).getD (Int32.toNatClampNeg p1) 0) := ⟨_, rfl⟩
      rw [← ea_5]
      replace h := gb_lt_s ea_5 h
      obtain ⟨z_6, h⟩ := gb_kk_s h
      refine lv_goto (tgt := 30) hx hb dX11_lawAt_26 (by decide) ?_
      obtain ⟨e1, e2⟩ := gb_eq2 h
      exact W.aret (v := (.ref (b + a_5))) hx hb hr (Or.inl ⟨_, rfl⟩) (Or.inr ⟨_, rfl⟩) (fun t ht hW => gb_rq (some (b + a_5)) ht ⟨by rw [← e2]; exact (gb_on1 (gb_nzL z_6)), by rw [← e1]; exact hP⟩ hS) hS.2.2 dX11_lawAt_30
theorem w_662 : (Cond.code ({ cls := "GooseBorder", name := "lawAt", desc := "(I)LGooseBorder$Law;" } : MethodName) prog_1_method_18_code (2 : Nat) (Option.some (FieldType.object "GooseBorder$Law"))) ∈ gb_wA := gb_t3 182 rfl rfl
theorem w_659 : (Cond.methodLink "GooseBorder" (156 : Nat) ({ cls := "GooseBorder", name := "lawAt", desc := "(I)LGooseBorder$Law;" } : MethodName)) ∈ gb_wA := gb_t3 179 rfl rfl
theorem w_661 : (Cond.instanceMethod ({ cls := "GooseBorder", name := "lawAt", desc := "(I)LGooseBorder$Law;" } : MethodName)) ∈ gb_wA := gb_t3 181 rfl rfl
theorem s_1_9 : Cond.selects "GooseBorder" (⟨"GooseBorder", "lawAt", "(I)LGooseBorder$Law;"⟩ : MethodName) (⟨"GooseBorder", "lawAt", "(I)LGooseBorder$Law;"⟩ : MethodName) ∈ gb_wA := gb_s1 9 rfl rfl
theorem dX11_term_5 : decode cX11_term 5 = .ok (.astore 4, 2) := by decide +kernel
theorem dX11_term_7 : decode cX11_term 7 = .ok (.aload 4, 2) := by decide +kernel
theorem dX11_term_9 : decode cX11_term 9 = .ok (.ifnonnull 8, 3) := by decide +kernel
theorem dX11_term_12 : decode cX11_term 12 = .ok (.bipush (-2), 2) := by decide +kernel
theorem dX11_term_14 : decode cX11_term 14 = .ok (.goto 10, 3) := by decide +kernel
theorem dX11_term_24 : decode cX11_term 24 = .ok (.ireturn, 1) := by decide +kernel
theorem dX11_term_17 : decode cX11_term 17 = .ok (.aload 4, 2) := by decide +kernel
theorem dX11_term_19 : decode cX11_term 19 = .ok (.iload_n 2, 1) := by decide +kernel
theorem dX11_term_20 : decode cX11_term 20 = .ok (.iload_n 3, 1) := by decide +kernel
theorem dX11_term_21 : decode cX11_term 21 = .ok (.invokestatic 152, 3) := by decide +kernel
def cs_Lines_size_L (n : Nat) (σ : gb_S) (k0 : Nat) : gb_CR Int32 := gb_kk (gb_kL k0) (gb_lt ((σ.1 (k0 + 1)) (Int32.toNatClampNeg 0)) (fun x_2 => some (σ, x_2)))
set_option maxHeartbeats 8000000 in
set_option maxRecDepth 100000 in
theorem cc_Lines_size_L (l : Launch) (D : va_G) (cT : Nat → ClassId) (tt : Nat → Nat) (b1 b : Nat) (hb1 : b1 ≤ b) (n : Nat) (σ : gb_S) (k0 : Nat) (σE : gb_S) (rE : Int32) (h : cs_Lines_size_L n σ k0 = some (σE, rE)) : Met l yX4_size (.code yX4_size cX4_size 1 (some FieldType.int) :: gb_wA) ({ frames := 0, cells := 0, slots := 0, locals := 0 }) (gb_Pc D cT tt b1 [.ref (b + k0)] (fun h => va_P D vwCl (gb_wl b (gb_CW cT b σ)) h)) (gb_Qi (fun r h => r = rE ∧ va_P D vwCl (gb_wl b (gb_CW cT b σE)) h) (gb_fr b 135)) 0 0 (gb_fr b 135) := by
  refine Met.ofW (cc := cX4_size) (maxL := 1) (ret := (some FieldType.int)) (by decide) rfl ?_
  intro p e s m args below meth c s₁ B hml hv
  obtain ⟨rfl, hSt, hP⟩ := hv
  have hx := B.exec
  have hb := B.bytes
  have hr := B.returns
  have hts := atoms_spec (ws := .code yX4_size cX4_size 1 (some FieldType.int) :: gb_wA) B.pre
  have hq : ∀ w ∈ gb_wA, w.before _ s = true := fun w h => hts w (List.mem_cons_of_mem _ h)
  have hown : s.vm.findClass RX4 = some m.cls := findClass_of_methodNamed B.named
  have hlocks := B.notSynchronized
  clear B hts
  have hK := hSt.1
  have hS : va_S (gb_fr b 135) s.heap s.heap [] := va_S.rf
  have hl := lv_entry ([.ref (b + k0)]) (n := 1) (Nat.le_of_ble_eq_true rfl)
  rw [lg_entry_eq]
  generalize (lg_sl ([.ref (b + k0)]) ++ List.replicate (1 - (lg_sl ([.ref (b + k0)])).length) Slot.unset).toArray = ls at hl ⊢
  replace hl : lv_has ls 1 [(0, .ref (b + k0))] := hl
  unfold cs_Lines_size_L at h
  obtain ⟨z_1, h⟩ := gb_kk_s h
  refine lv_aload_n hx hb dX4_size_0 rfl (lv_at hl 0 rfl) ?_
  refine va_get (ci := 3) (v := (.ref (b + (k0 + 1)))) (C := RX3) (T := TX3) (N := 4) hx hb hq i_X3 hown hK hP k0 (gb_at b (gb_cL z_1).1) rfl 3 (by decide) (hq _ w_52) (fun x9 h9 => u_same (hq _ w_53) x9 h9) rfl dX4_size_1 ?_
  refine lv_iconst (v := 0) hx hb dX4_size_4 (by decide) ?_
  refine va_iald hx hb hK hP (k0 + 1) 0 (gb_at b (gb_cL z_1).2) rfl (gb_in rfl) dX4_size_5 ?_
  refine lv_topi (fun x_2 ex_2 => ?_)
  replace h := gb_lt_s ex_2 h
  obtain ⟨e1, e2⟩ := gb_eq2 h
  exact W.iret (v := x_2) hx hb hr (fun t ht hW => gb_ri ht ⟨e2, by rw [← e1]; exact hP⟩ hS) hS.2.2 dX4_size_6
theorem w_487 : (Cond.selects "GooseBorder$Law" ({ cls := "GooseBorder$Lines", name := "size", desc := "()I" } : MethodName) ({ cls := "GooseBorder$Lines", name := "size", desc := "()I" } : MethodName)) ∈ gb_wA := gb_t3 7 rfl rfl
def cs_Lines_cell_L (n : Nat) (σ : gb_S) (k0 : Nat) (p1 : Int32) (p2 : Int32) : gb_CR Int32 := gb_kk (gb_kL k0) (gb_ck (((1 : Int32) + (p1 * ((2 : Int32) + 1))) + p2) 25 (gb_lt ((σ.1 (k0 + 1)) (Int32.toNatClampNeg (((1 : Int32) + (p1 * ((2 : Int32) + 1))) + p2))) (fun x_3 => some (σ, x_3))))
set_option maxHeartbeats 8000000 in
set_option maxRecDepth 100000 in
theorem cc_Lines_cell_L (l : Launch) (D : va_G) (cT : Nat → ClassId) (tt : Nat → Nat) (b1 b : Nat) (hb1 : b1 ≤ b) (n : Nat) (σ : gb_S) (k0 : Nat) (p1 : Int32) (p2 : Int32) (σE : gb_S) (rE : Int32) (h : cs_Lines_cell_L n σ k0 p1 p2 = some (σE, rE)) : Met l yX4_cell (.code yX4_cell cX4_cell 3 (some FieldType.int) :: gb_wA) ({ frames := 0, cells := 0, slots := 0, locals := 0 }) (gb_Pc D cT tt b1 [.ref (b + k0), .int p1, .int p2] (fun h => va_P D vwCl (gb_wl b (gb_CW cT b σ)) h)) (gb_Qi (fun r h => r = rE ∧ va_P D vwCl (gb_wl b (gb_CW cT b σE)) h) (gb_fr b 135)) 0 0 (gb_fr b 135) := by
  refine Met.ofW (cc := cX4_cell) (maxL := 3) (ret := (some FieldType.int)) (by decide) rfl ?_
  intro p e s m args below meth c s₁ B hml hv
  obtain ⟨rfl, hSt, hP⟩ := hv
  have hx := B.exec
  have hb := B.bytes
  have hr := B.returns
  have hts := atoms_spec (ws := .code yX4_cell cX4_cell 3 (some FieldType.int) :: gb_wA) B.pre
  have hq : ∀ w ∈ gb_wA, w.before _ s = true := fun w h => hts w (List.mem_cons_of_mem _ h)
  have hown : s.vm.findClass RX4 = some m.cls := findClass_of_methodNamed B.named
  have hlocks := B.notSynchronized
  clear B hts
  have hK := hSt.1
  have hS : va_S (gb_fr b 135) s.heap s.heap [] := va_S.rf
  have hl := lv_entry ([.ref (b + k0), .int p1, .int p2]) (n := 3) (Nat.le_of_ble_eq_true rfl)
  rw [lg_entry_eq]
  generalize (lg_sl ([.ref (b + k0), .int p1, .int p2]) ++ List.replicate (3 - (lg_sl ([.ref (b + k0), .int p1, .int p2])).length) Slot.unset).toArray = ls at hl ⊢
  replace hl : lv_has ls 3 [(0, .ref (b + k0)), (1, .int p1), (2, .int p2)] := hl
  unfold cs_Lines_cell_L at h
  obtain ⟨z_1, h⟩ := gb_kk_s h
  refine lv_aload_n hx hb dX4_cell_0 rfl (lv_at hl 0 rfl) ?_
  refine va_get (ci := 3) (v := (.ref (b + (k0 + 1)))) (C := RX3) (T := TX3) (N := 4) hx hb hq i_X3 hown hK hP k0 (gb_at b (gb_cL z_1).1) rfl 3 (by decide) (hq _ w_52) (fun x9 h9 => u_same (hq _ w_53) x9 h9) rfl dX4_cell_1 ?_
  refine lv_iconst (v := 1) hx hb dX4_cell_4 (by decide) ?_
  refine lv_iload_n hx hb dX4_cell_5 rfl (lv_at hl 1 rfl) ?_
  refine lv_aload_n hx hb dX4_cell_6 rfl (lv_at hl 0 rfl) ?_
  refine va_get (ci := 3) (v := (.int 2)) (C := RX3) (T := TX3) (N := 4) hx hb hq i_X3 hown hK hP k0 (gb_at b (gb_cL z_1).1) rfl 1 (by decide) (hq _ w_73) (fun _ h9 => h9) rfl dX4_cell_7 ?_
  refine lv_iconst (v := 1) hx hb dX4_cell_10 (by decide) ?_
  refine lv_iadd hx hb dX4_cell_11 ?_
  refine lv_imul hx hb dX4_cell_12 ?_
  refine lv_iadd hx hb dX4_cell_13 ?_
  refine lv_iload_n hx hb dX4_cell_14 rfl (lv_at hl 2 rfl) ?_
  refine lv_iadd hx hb dX4_cell_15 ?_
  obtain ⟨z_2, h⟩ := gb_ck_s h
  refine va_iald hx hb hK hP (k0 + 1) 0 (gb_at b (gb_cL z_1).2) rfl z_2 dX4_cell_16 ?_
  refine lv_topi (fun x_3 ex_3 => ?_)
  replace h := gb_lt_s ex_3 h
  obtain ⟨e1, e2⟩ := gb_eq2 h
  exact W.iret (v := x_3) hx hb hr (fun t ht hW => gb_ri ht ⟨e2, by rw [← e1]; exact hP⟩ hS) hS.2.2 dX4_cell_17
theorem w_1732 : (Cond.selects "GooseBorder$Law" ({ cls := "GooseBorder$Lines", name := "cell", desc := "(II)I" } : MethodName) ({ cls := "GooseBorder$Lines", name := "cell", desc := "(II)I" } : MethodName)) ∈ gb_wA := gb_t8 52 rfl rfl
def cs_Face_lineOf_L (n : Nat) (σ : gb_S) (p1 : Nat) (p2 : Int32) (p3 : Int32) : gb_CR Int32 := gb_kk (gb_kL p1) ((if p2 = (-1) then (if p3 = 0 then gb_cd (cs_Lines_size_L n σ p1) (fun s_16 r_17 => some (s_16, r_17)) else some (σ, (-2))) else (if p2 < 0 then some (σ, (-2)) else gb_cd (cs_Lines_size_L n σ p1) (fun s_4 r_5 => (if r_5 ≤ p2 then some (s_4, (-2)) else (if p3 < 0 then some (s_4, (-2)) else (if p3 ≤ 2 then gb_cd (cs_Lines_cell_L n s_4 p1 p2 p3) (fun s_11 r_12 => some (s_11, r_12)) else some (s_4, (-2)))))))))
set_option maxHeartbeats 8000000 in
set_option maxRecDepth 100000 in
theorem cc_Face_lineOf_L (l : Launch) (D : va_G) (cT : Nat → ClassId) (tt : Nat → Nat) (b1 b : Nat) (hb1 : b1 ≤ b) (n : Nat) (σ : gb_S) (p1 : Nat) (p2 : Int32) (p3 : Int32) (σE : gb_S) (rE : Int32) (h : cs_Face_lineOf_L n σ p1 p2 p3 = some (σE, rE)) : Met l yX11_lineOf (.code yX11_lineOf cX11_lineOf 3 (some FieldType.int) :: gb_wA) ({ frames := 1, cells := 0, slots := 0, locals := 22 }) (gb_Pc D cT tt b1 [.ref (b + p1), .int p2, .int p3] (fun h => va_P D vwCl (gb_wl b (gb_CW cT b σ)) h)) (gb_Qi (fun r h => r = rE ∧ va_P D vwCl (gb_wl b (gb_CW cT b σE)) h) (gb_fr b 135)) 0 0 (gb_fr b 135) := by
  refine Met.ofW (cc := cX11_lineOf) (maxL := 3) (ret := (some FieldType.int)) (by decide) rfl ?_
  intro p e s m args below meth c s₁ B hml hv
  obtain ⟨rfl, hSt, hP⟩ := hv
  have hx := B.exec
  have hb := B.bytes
  have hr := B.returns
  have hts := atoms_spec (ws := .code yX11_lineOf cX11_lineOf 3 (some FieldType.int) :: gb_wA) B.pre
  have hq : ∀ w ∈ gb_wA, w.before _ s = true := fun w h => hts w (List.mem_cons_of_mem _ h)
  have hown : s.vm.findClass RX11 = some m.cls := findClass_of_methodNamed B.named
  have hlocks := B.notSynchronized
  clear B hts
  have hK := hSt.1
  have hS : va_S (gb_fr b 135) s.heap s.heap [] := va_S.rf
  have hl := lv_entry ([.ref (b + p1), .int p2, .int p3]) (n := 3) (Nat.le_of_ble_eq_true rfl)
  rw [lg_entry_eq]
  generalize (lg_sl ([.ref (b + p1), .int p2, .int p3]) ++ List.replicate (3 - (lg_sl ([.ref (b + p1), .int p2, .int p3])).length) Slot.unset).toArray = ls at hl ⊢
  replace hl : lv_has ls 3 [(0, .ref (b + p1)), (1, .int p2), (2, .int p3)] := hl
  unfold cs_Face_lineOf_L at h
  obtain ⟨z_1, h⟩ := gb_kk_s h
  refine lv_iload_n hx hb dX11_lineOf_0 rfl (lv_at hl 1 rfl) ?_
  refine lv_iconst (v := (-1)) hx hb dX11_lineOf_1 (by decide) ?_
  refine lv_icmp_ne (tgt := 19) hx hb dX11_lineOf_2 (by decide) (fun c_2 => ?_) (fun c_2 => ?_)
  · rw [if_neg c_2] at h
    refine lv_iload_n hx hb dX11_lineOf_19 rfl (lv_at hl 1 rfl) ?_
    refine lv_if_lt (tgt := 43) hx hb dX11_lineOf_20 (by decide) (fun c_3 => ?_) (fun c_3 => ?_)
    · rw [if_pos c_3] at h
      refine lv_bipush (v := (-2)) hx hb dX11_lineOf_43 (by decide) ?_
      obtain ⟨e1, e2⟩ := gb_eq2 h
      exact W.iret (v := (-2)) hx hb hr (fun t ht hW => gb_ri ht ⟨e2, by rw [← e1]; exact hP⟩ hS) hS.2.2 dX11_lineOf_45
    · rw [if_neg c_3] at h
      refine lv_iload_n hx hb dX11_lineOf_23 rfl (lv_at hl 1 rfl) ?_
      refine lv_aload_n hx hb dX11_lineOf_24 rfl (lv_at hl 0 rfl) ?_
      obtain ⟨s_4, r_5, z_6, h⟩ := gb_cd_s h
      refine gb_calli (va_runU (x := yX4_size) (C := RX3) (owner := "GooseBorder$Lines") (As := []) (rest := [.int p2]) ⟨hx, hb, hml, hown, hq⟩ (cc_Lines_size_L l D cT tt b1 b hb1 n σ p1 s_4 r_5 z_6) (va_cwU (owner := "GooseBorder$Lines") (C := RX3) 0 hq (gb_gU w_653 w_485 w_487 w_484 w_6 w_489) rfl rfl rfl rfl (by decide +kernel) ⟨Nat.le_of_ble_eq_true rfl, Nat.le_of_ble_eq_true rfl⟩) (gb_preV (r := (RX3, TX3, 4)) (ci := 3) (q0 := p1) hSt hP rfl (gb_at b (gb_cL z_1).1) hS (fun q h => Nat.le_trans hb1 h.1) hP) rfl rfl hl.1 rfl (lv_room (Nat.le_of_ble_eq_true rfl)) dX11_lineOf_25 ⟨Nat.le_of_ble_eq_true rfl, Nat.le_of_ble_eq_true rfl⟩) hS (fun _ h => h) (fun _ h => h) (fun q_7 H locs hY hk hS => ?_)
      obtain ⟨hq_7, hP⟩ := hY
      replace hq_7 := hq_7.symm
      subst hq_7
      refine lv_icmp_ge (tgt := 43) hx hb dX11_lineOf_28 (by decide) (fun c_8 => ?_) (fun c_8 => ?_)
      · rw [if_pos c_8] at h
        refine lv_bipush (v := (-2)) hx hb dX11_lineOf_43 (by decide) ?_
        obtain ⟨e1, e2⟩ := gb_eq2 h
        exact W.iret (v := (-2)) hx hb hr (fun t ht hW => gb_ri ht ⟨e2, by rw [← e1]; exact hP⟩ hS) hS.2.2 dX11_lineOf_45
      · rw [if_neg c_8] at h
        refine lv_iload_n hx hb dX11_lineOf_31 rfl (lv_at hl 2 rfl) ?_
        refine lv_if_lt (tgt := 43) hx hb dX11_lineOf_32 (by decide) (fun c_9 => ?_) (fun c_9 => ?_)
        · rw [if_pos c_9] at h
          refine lv_bipush (v := (-2)) hx hb dX11_lineOf_43 (by decide) ?_
          obtain ⟨e1, e2⟩ := gb_eq2 h
          exact W.iret (v := (-2)) hx hb hr (fun t ht hW => gb_ri ht ⟨e2, by rw [← e1]; exact hP⟩ hS) hS.2.2 dX11_lineOf_45
        · rw [if_neg c_9] at h
          refine lv_iload_n hx hb dX11_lineOf_35 rfl (lv_at hl 2 rfl) ?_
          refine lv_aload_n hx hb dX11_lineOf_36 rfl (lv_at hl 0 rfl) ?_
          refine va_get (ci := 3) (v := (.int 2)) (C := RX3) (T := TX3) (N := 4) hx hb hq i_X3 hown hK hP p1 (gb_at b (gb_cL z_1).1) rfl 1 (by decide) (hq _ w_76) (fun _ h9 => h9) rfl dX11_lineOf_37 ?_
          refine lv_icmp_le (tgt := 46) hx hb dX11_lineOf_40 (by decide) (fun c_10 => ?_) (fun c_10 => ?_)
          · rw [if_pos c_10] at h
            refine lv_aload_n hx hb dX11_lineOf_46 rfl (lv_at hl 0 rfl) ?_
            refine lv_iload_n hx hb dX11_lineOf_47 rfl (lv_at hl 1 rfl) ?_
            refine lv_iload_n hx hb dX11_lineOf_48 rfl (lv_at hl 2 rfl) ?_
            obtain ⟨s_11, r_12, z_13, h⟩ := gb_cd_s h
            refine gb_calli (va_runU (x := yX4_cell) (C := RX3) (owner := "GooseBorder$Lines") (As := [.int p2, .int p3]) (rest := []) ⟨hx, hb, hml, hown, hq⟩ (cc_Lines_cell_L l D cT tt b1 b hb1 n s_4 p1 p2 p3 s_11 r_12 z_13) (va_cwU (owner := "GooseBorder$Lines") (C := RX3) 2 hq (gb_gU w_654 w_1730 w_1732 w_546 w_6 w_547) rfl rfl rfl rfl (by decide +kernel) ⟨Nat.le_of_ble_eq_true rfl, Nat.le_of_ble_eq_true rfl⟩) (gb_preV (r := (RX3, TX3, 4)) (ci := 3) (q0 := p1) hSt hP rfl (gb_at b (gb_cL z_1).1) hS (fun q h => Nat.le_trans hb1 h.1) hP) rfl rfl hl.1 rfl (lv_room (Nat.le_of_ble_eq_true rfl)) dX11_lineOf_49 ⟨Nat.le_of_ble_eq_true rfl, Nat.le_of_ble_eq_true rfl⟩) hS (fun _ h => h) (fun _ h => h) (fun q_14 H locs hY hk hS => ?_)
            obtain ⟨hq_14, hP⟩ := hY
            replace hq_14 := hq_14.symm
            subst hq_14
            obtain ⟨e1, e2⟩ := gb_eq2 h
            exact W.iret (v := r_12) hx hb hr (fun t ht hW => gb_ri ht ⟨e2, by rw [← e1]; exact hP⟩ hS) hS.2.2 dX11_lineOf_52
          · rw [if_neg c_10] at h
            refine lv_bipush (v := (-2)) hx hb dX11_lineOf_43 (by decide) ?_
            obtain ⟨e1, e2⟩ := gb_eq2 h
            exact W.iret (v := (-2)) hx hb hr (fun t ht hW => gb_ri ht ⟨e2, by rw [← e1]; exact hP⟩ hS) hS.2.2 dX11_lineOf_45
  · rw [if_pos c_2] at h
    refine lv_iload_n hx hb dX11_lineOf_5 rfl (lv_at hl 2 rfl) ?_
    refine lv_if_ne (tgt := 16) hx hb dX11_lineOf_6 (by decide) (fun c_15 => ?_) (fun c_15 => ?_)
    · rw [if_neg c_15] at h
      refine lv_bipush (v := (-2)) hx hb dX11_lineOf_16 (by decide) ?_
      obtain ⟨e1, e2⟩ := gb_eq2 h
      exact W.iret (v := (-2)) hx hb hr (fun t ht hW => gb_ri ht ⟨e2, by rw [← e1]; exact hP⟩ hS) hS.2.2 dX11_lineOf_18
    · rw [if_pos c_15] at h
      refine lv_aload_n hx hb dX11_lineOf_9 rfl (lv_at hl 0 rfl) ?_
      obtain ⟨s_16, r_17, z_18, h⟩ := gb_cd_s h
      refine gb_calli (va_runU (x := yX4_size) (C := RX3) (owner := "GooseBorder$Lines") (As := []) (rest := []) ⟨hx, hb, hml, hown, hq⟩ (cc_Lines_size_L l D cT tt b1 b hb1 n σ p1 s_16 r_17 z_18) (va_cwU (owner := "GooseBorder$Lines") (C := RX3) 0 hq (gb_gU w_653 w_485 w_487 w_484 w_6 w_489) rfl rfl rfl rfl (by decide +kernel) ⟨Nat.le_of_ble_eq_true rfl, Nat.le_of_ble_eq_true rfl⟩) (gb_preV (r := (RX3, TX3, 4)) (ci := 3) (q0 := p1) hSt hP rfl (gb_at b (gb_cL z_1).1) hS (fun q h => Nat.le_trans hb1 h.1) hP) rfl rfl hl.1 rfl (lv_room (Nat.le_of_ble_eq_true rfl)) dX11_lineOf_10 ⟨Nat.le_of_ble_eq_true rfl, Nat.le_of_ble_eq_true rfl⟩) hS (fun _ h => h) (fun _ h => h) (fun q_19 H locs hY hk hS => ?_)
      obtain ⟨hq_19, hP⟩ := hY
      replace hq_19 := hq_19.symm
      subst hq_19
      refine lv_goto (tgt := 18) hx hb dX11_lineOf_13 (by decide) ?_
      obtain ⟨e1, e2⟩ := gb_eq2 h
      exact W.iret (v := r_17) hx hb hr (fun t ht hW => gb_ri ht ⟨e2, by rw [← e1]; exact hP⟩ hS) hS.2.2 dX11_lineOf_18
def cs_Face_term (n : Nat) (σ : gb_S) (p1 : Int32) (p2 : Int32) (p3 : Int32) : gb_CR Int32 := gb_cd (cs_Face_lawAt n σ p1) (fun s_1 r_2 => (if r_2 = 0 then some (s_1, (-2)) else gb_kk (gb_kL r_2) (gb_cd (cs_Face_lineOf_L n s_1 r_2 p2 p3) (fun s_7 r_8 => some (s_7, r_8)))))
set_option maxHeartbeats 8000000 in
set_option maxRecDepth 100000 in
theorem cc_Face_term (l : Launch) (D : va_G) (cT : Nat → ClassId) (tt : Nat → Nat) (b1 b : Nat) (hb1 : b1 ≤ b) (n : Nat) (σ : gb_S) (p1 : Int32) (p2 : Int32) (p3 : Int32) (σE : gb_S) (rE : Int32) (h : cs_Face_term n σ p1 p2 p3 = some (σE, rE)) : Met l yX11_term (.code yX11_term cX11_term 5 (some FieldType.int) :: gb_wA) ({ frames := 2, cells := 0, slots := 0, locals := 44 }) (gb_Pc D cT tt b1 [.ref (b + 0), .int p1, .int p2, .int p3] (fun h => va_P D vwCl (gb_wl b (gb_CW cT b σ)) h)) (gb_Qi (fun r h => r = rE ∧ va_P D vwCl (gb_wl b (gb_CW cT b σE)) h) (gb_fr b 135)) 0 0 (gb_fr b 135) := by
  refine Met.ofW (cc := cX11_term) (maxL := 5) (ret := (some FieldType.int)) (by decide) rfl ?_
  intro p e s m args below meth c s₁ B hml hv
  obtain ⟨rfl, hSt, hP⟩ := hv
  have hx := B.exec
  have hb := B.bytes
  have hr := B.returns
  have hts := atoms_spec (ws := .code yX11_term cX11_term 5 (some FieldType.int) :: gb_wA) B.pre
  have hq : ∀ w ∈ gb_wA, w.before _ s = true := fun w h => hts w (List.mem_cons_of_mem _ h)
  have hown : s.vm.findClass RX11 = some m.cls := findClass_of_methodNamed B.named
  have hlocks := B.notSynchronized
  clear B hts
  have hK := hSt.1
  have hS : va_S (gb_fr b 135) s.heap s.heap [] := va_S.rf
  have hl := lv_entry ([.ref (b + 0), .int p1, .int p2, .int p3]) (n := 5) (Nat.le_of_ble_eq_true rfl)
  rw [lg_entry_eq]
  generalize (lg_sl ([.ref (b + 0), .int p1, .int p2, .int p3]) ++ List.replicate (5 - (lg_sl ([.ref (b + 0), .int p1, .int p2, .int p3])).length) Slot.unset).toArray = ls at hl ⊢
  replace hl : lv_has ls 5 [(0, .ref (b + 0)), (1, .int p1), (2, .int p2), (3, .int p3)] := hl
  unfold cs_Face_term at h
  refine lv_aload_n hx hb dX11_term_0 rfl (lv_at hl 0 rfl) ?_
  refine lv_iload_n hx hb dX11_term_1 rfl (lv_at hl 1 rfl) ?_
  obtain ⟨s_1, r_2, z_3, h⟩ := gb_cd_s h
  refine gb_callq (va_runV (C := RX11) (As := [.int p1]) (rest := []) ⟨hx, hb, hml, hown, hq⟩ (cc_Face_lawAt l D cT tt b1 b hb1 n σ p1 s_1 r_2 z_3) (cwV 1 hq (gb_gV w_659 w_661 s_1_9 w_1 w_662) rfl rfl rfl (by decide +kernel) ⟨Nat.le_of_ble_eq_true rfl, Nat.le_of_ble_eq_true rfl⟩) (gb_preV (r := (RX11, TX11, 10)) (ci := 9) (q0 := 0) hSt hP rfl (gb_at b rfl) hS (fun q h => Nat.le_trans hb1 h.1) hP) rfl rfl hl.1 rfl (lv_room (Nat.le_of_ble_eq_true rfl)) dX11_term_2 ⟨Nat.le_of_ble_eq_true rfl, Nat.le_of_ble_eq_true rfl⟩) hS (fun _ h => h) (fun _ h => h) (fun q_4 H locs hY hk hS => ?_)
  obtain ⟨hq_4, hP⟩ := hY
  subst hq_4
  rw [gb_onv]
  by_cases c_5 : r_2 = 0
  · rw [if_pos c_5] at h
    rw [gb_nv0 c_5]
    refine lv_astoreN (lv' := [(4, .null), (0, .ref (b + 0)), (1, .int p1), (2, .int p2), (3, .int p3)]) hx hb dX11_term_5 hl (by decide) rfl (fun ls hl => ?_)
    refine lv_aloadN hx hb dX11_term_7 (lv_at hl 0 rfl) ?_
    refine lv_ifnonnullN hx hb dX11_term_9 ?_
    refine lv_bipush (v := (-2)) hx hb dX11_term_12 (by decide) ?_
    refine lv_goto (tgt := 24) hx hb dX11_term_14 (by decide) ?_
    obtain ⟨e1, e2⟩ := gb_eq2 h
    exact W.iret (v := (-2)) hx hb hr (fun t ht hW => gb_ri ht ⟨e2, by rw [← e1]; exact hP⟩ hS) hS.2.2 dX11_term_24
  rw [if_neg c_5] at h
  rw [gb_nv1 c_5]
  obtain ⟨z_6, h⟩ := gb_kk_s h
  refine lv_astore (lv' := [(4, .ref (b + r_2)), (0, .ref (b + 0)), (1, .int p1), (2, .int p2), (3, .int p3)]) hx hb dX11_term_5 hl (by decide) rfl (fun ls hl => ?_)
  refine lv_aload hx hb dX11_term_7 (lv_at hl 0 rfl) ?_
  refine lv_ifnonnull (tgt := 17) hx hb dX11_term_9 (by decide) ?_
  refine lv_aload hx hb dX11_term_17 (lv_at hl 0 rfl) ?_
  refine lv_iload_n hx hb dX11_term_19 rfl (lv_at hl 3 rfl) ?_
  refine lv_iload_n hx hb dX11_term_20 rfl (lv_at hl 4 rfl) ?_
  obtain ⟨s_7, r_8, z_9, h⟩ := gb_cd_s h
  refine gb_calli (va_runS (As := [.ref (b + r_2), .int p2, .int p3]) (rest := []) ⟨hx, hb, hml, hown, hq⟩ (cc_Face_lineOf_L l D cT tt b1 b hb1 n s_1 r_2 p2 p3 s_7 r_8 z_9) (va_cwS 3 hq (gb_gS w_650 w_651 w_1 w_652) rfl rfl rfl (by decide +kernel) ⟨Nat.le_of_ble_eq_true rfl, Nat.le_of_ble_eq_true rfl⟩) (gb_preS hSt hS (fun q h => Nat.le_trans hb1 h.1) hP) rfl rfl hl.1 rfl (lv_room (Nat.le_of_ble_eq_true rfl)) dX11_term_21 ⟨Nat.le_of_ble_eq_true rfl, Nat.le_of_ble_eq_true rfl⟩) hS (fun _ h => h) (fun _ h => h) (fun q_10 H locs hY hk hS => ?_)
  obtain ⟨hq_10, hP⟩ := hY
  replace hq_10 := hq_10.symm
  subst hq_10
  obtain ⟨e1, e2⟩ := gb_eq2 h
  exact W.iret (v := r_8) hx hb hr (fun t ht hW => gb_ri ht ⟨e2, by rw [← e1]; exact hP⟩ hS) hS.2.2 dX11_term_24
theorem dX11_seen_0 : decode cX11_seen 0 = .ok (.aload_n 0, 1) := by decide +kernel
theorem dX11_seen_1 : decode cX11_seen 1 = .ok (.iload_n 1, 1) := by decide +kernel
theorem dX11_seen_2 : decode cX11_seen 2 = .ok (.invokevirtual 160, 3) := by decide +kernel
theorem dX11_dawnAt_0 : decode cX11_dawnAt 0 = .ok (.iload_n 1, 1) := by decide +kernel
theorem dX11_dawnAt_1 : decode cX11_dawnAt 1 = .ok (.ifCond .lt 28, 3) := by decide +kernel
theorem dX11_dawnAt_29 : decode cX11_dawnAt 29 = .ok (.aconst_null, 1) := by decide +kernel
theorem dX11_dawnAt_30 : decode cX11_dawnAt 30 = .ok (.areturn, 1) := by decide +kernel
theorem dX11_dawnAt_4 : decode cX11_dawnAt 4 = .ok (.iload_n 1, 1) := by decide +kernel
theorem dX11_dawnAt_5 : decode cX11_dawnAt 5 = .ok (.aload_n 0, 1) := by decide +kernel
theorem dX11_dawnAt_6 : decode cX11_dawnAt 6 = .ok (.getfield 12, 3) := by decide +kernel
theorem dX11_dawnAt_9 : decode cX11_dawnAt 9 = .ok (.getfield 88, 3) := by decide +kernel
theorem dX11_dawnAt_12 : decode cX11_dawnAt 12 = .ok (.iconst 3, 1) := by decide +kernel
theorem dX11_dawnAt_13 : decode cX11_dawnAt 13 = .ok (.iaload, 1) := by decide +kernel
theorem dX11_dawnAt_14 : decode cX11_dawnAt 14 = .ok (.if_icmp .ge 15, 3) := by decide +kernel
theorem dX11_dawnAt_17 : decode cX11_dawnAt 17 = .ok (.aload_n 0, 1) := by decide +kernel
theorem dX11_dawnAt_18 : decode cX11_dawnAt 18 = .ok (.getfield 12, 3) := by decide +kernel
theorem dX11_dawnAt_21 : decode cX11_dawnAt 21 = .ok (.getfield 191, 3) := by decide +kernel
theorem w_119 : (Cond.fieldLink "GooseBorder" (191 : Nat) "GooseBorder$Told" "dawns" "[LGooseBorder$Dawn;") ∈ gb_wA := gb_t1 119 rfl rfl
theorem dX11_dawnAt_24 : decode cX11_dawnAt 24 = .ok (.iload_n 1, 1) := by decide +kernel
theorem dX11_dawnAt_25 : decode cX11_dawnAt 25 = .ok (.aaload, 1) := by decide +kernel
theorem dX11_dawnAt_26 : decode cX11_dawnAt 26 = .ok (.goto 4, 3) := by decide +kernel
def cs_Face_dawnAt (n : Nat) (σ : gb_S) (p1 : Int32) : gb_CR Nat := (if p1 < 0 then some (σ, 0) else gb_lt ((σ.1 22) (Int32.toNatClampNeg 3)) (fun x_2 => (if x_2 ≤ p1 then some (σ, 0) else gb_ck p1 2 (gb_lt (([18, 20] : List Nat).getD (Int32.toNatClampNeg p1) 0) (fun a_5 => gb_kk (gb_kD a_5) (some (σ, a_5)))))))
set_option maxHeartbeats 8000000 in
set_option maxRecDepth 100000 in
theorem cc_Face_dawnAt (l : Launch) (D : va_G) (cT : Nat → ClassId) (tt : Nat → Nat) (b1 b : Nat) (hb1 : b1 ≤ b) (n : Nat) (σ : gb_S) (p1 : Int32) (σE : gb_S) (rE : Nat) (h : cs_Face_dawnAt n σ p1 = some (σE, rE)) : Met l yX11_dawnAt (.code yX11_dawnAt cX11_dawnAt 2 (some (FieldType.object "GooseBorder$Dawn")) :: gb_wA) ({ frames := 0, cells := 0, slots := 0, locals := 0 }) (gb_Pc D cT tt b1 [.ref (b + 0), .int p1] (fun h => va_P D vwCl (gb_wl b (gb_CW cT b σ)) h)) (gb_Qq (fun r h => r = gb_on b rE ∧ va_P D vwCl (gb_wl b (gb_CW cT b σE)) h) (gb_fr b 135)) 0 0 (gb_fr b 135) := by
  refine Met.ofW (cc := cX11_dawnAt) (maxL := 2) (ret := (some (FieldType.object "GooseBorder$Dawn"))) (by decide) rfl ?_
  intro p e s m args below meth c s₁ B hml hv
  obtain ⟨rfl, hSt, hP⟩ := hv
  have hx := B.exec
  have hb := B.bytes
  have hr := B.returns
  have hts := atoms_spec (ws := .code yX11_dawnAt cX11_dawnAt 2 (some (FieldType.object "GooseBorder$Dawn")) :: gb_wA) B.pre
  have hq : ∀ w ∈ gb_wA, w.before _ s = true := fun w h => hts w (List.mem_cons_of_mem _ h)
  have hown : s.vm.findClass RX11 = some m.cls := findClass_of_methodNamed B.named
  have hlocks := B.notSynchronized
  clear B hts
  have hK := hSt.1
  have hS : va_S (gb_fr b 135) s.heap s.heap [] := va_S.rf
  have hl := lv_entry ([.ref (b + 0), .int p1]) (n := 2) (Nat.le_of_ble_eq_true rfl)
  rw [lg_entry_eq]
  generalize (lg_sl ([.ref (b + 0), .int p1]) ++ List.replicate (2 - (lg_sl ([.ref (b + 0), .int p1])).length) Slot.unset).toArray = ls at hl ⊢
  replace hl : lv_has ls 2 [(0, .ref (b + 0)), (1, .int p1)] := hl
  unfold cs_Face_dawnAt at h
  refine lv_iload_n hx hb dX11_dawnAt_0 rfl (lv_at hl 1 rfl) ?_
  refine lv_if_lt (tgt := 29) hx hb dX11_dawnAt_1 (by decide) (fun c_1 => ?_) (fun c_1 => ?_)
  · rw [if_pos c_1] at h
    refine lv_null hx hb dX11_dawnAt_29 ?_
    obtain ⟨e1, e2⟩ := gb_eq2 h
    exact W.aret (v := .null) hx hb hr (Or.inl ⟨_, rfl⟩) (Or.inl rfl) (fun t ht hW => gb_rq none ht ⟨by rw [← e2]; rfl, by rw [← e1]; exact hP⟩ hS) hS.2.2 dX11_dawnAt_30
  · rw [if_neg c_1] at h
    refine lv_iload_n hx hb dX11_dawnAt_4 rfl (lv_at hl 1 rfl) ?_
    refine lv_aload_n hx hb dX11_dawnAt_5 rfl (lv_at hl 0 rfl) ?_
    refine va_get (ci := 9) (v := (.ref (b + 1))) (C := RX11) (T := TX11) (N := 10) hx hb hq i_X11 hown hK hP 0 (gb_at b rfl) rfl 0 (by decide) (hq _ w_315) (fun _ h9 => h9) rfl dX11_dawnAt_6 ?_
    refine va_get (ci := 8) (v := (.ref (b + 22))) (C := RX10) (T := TX10) (N := 9) hx hb hq i_X10 hown hK hP 1 (gb_at b rfl) rfl 4 (by decide) (hq _ w_121) (fun _ h9 => h9) rfl dX11_dawnAt_9 ?_
    refine lv_iconst (v := 3) hx hb dX11_dawnAt_12 (by decide) ?_
    refine va_iald hx hb hK hP 22 0 (gb_at b rfl) rfl (gb_in rfl) dX11_dawnAt_13 ?_
    refine lv_topi (fun x_2 ex_2 => ?_)
    replace h := gb_lt_s ex_2 h
    refine lv_icmp_ge (tgt := 29) hx hb dX11_dawnAt_14 (by decide) (fun c_3 => ?_) (fun c_3 => ?_)
    · rw [if_pos c_3] at h
      refine lv_null hx hb dX11_dawnAt_29 ?_
      obtain ⟨e1, e2⟩ := gb_eq2 h
      exact W.aret (v := .null) hx hb hr (Or.inl ⟨_, rfl⟩) (Or.inl rfl) (fun t ht hW => gb_rq none ht ⟨by rw [← e2]; rfl, by rw [← e1]; exact hP⟩ hS) hS.2.2 dX11_dawnAt_30
    · rw [if_neg c_3] at h
      refine lv_aload_n hx hb dX11_dawnAt_17 rfl (lv_at hl 0 rfl) ?_
      refine va_get (ci := 9) (v := (.ref (b + 1))) (C := RX11) (T := TX11) (N := 10) hx hb hq i_X11 hown hK hP 0 (gb_at b rfl) rfl 0 (by decide) (hq _ w_315) (fun _ h9 => h9) rfl dX11_dawnAt_18 ?_
      refine va_get (ci := 8) (v := (.ref (b + 17))) (C := RX10) (T := TX10) (N := 9) hx hb hq i_X10 hown hK hP 1 (gb_at b rfl) rfl 3 (by decide) (hq _ w_119) (fun _ h9 => h9) rfl dX11_dawnAt_21 ?_
      refine lv_iload_n hx hb dX11_dawnAt_24 rfl (lv_at hl 1 rfl) ?_
      obtain ⟨z_4, h⟩ := gb_ck_s h
      refine gb_aald (v := .ref (b + (([18, 20] : List Nat).getD (Int32.toNatClampNeg p1) 0))) hx hb hK hP 17 7 (gb_at b rfl) rfl z_4 (gb_ra_at (L := ([18, 20] : List Nat)) z_4) dX11_dawnAt_25 ?_
      obtain ⟨a_5, ea_5⟩ : ∃ q, q = (([18, 20] : List Nat).getD (Int32.toNatClampNeg p1) 0) := ⟨_, rfl⟩
      rw [← ea_5]
      replace h := gb_lt_s ea_5 h
      obtain ⟨z_6, h⟩ := gb_kk_s h
      refine lv_goto (tgt := 30) hx hb dX11_dawnAt_26 (by decide) ?_
      obtain ⟨e1, e2⟩ := gb_eq2 h
      exact W.aret (v := (.ref (b + a_5))) hx hb hr (Or.inl ⟨_, rfl⟩) (Or.inr ⟨_, rfl⟩) (fun t ht hW => gb_rq (some (b + a_5)) ht ⟨by rw [← e2]; exact (gb_on1 (gb_nzD z_6)), by rw [← e1]; exact hP⟩ hS) hS.2.2 dX11_dawnAt_30
theorem w_670 : (Cond.code ({ cls := "GooseBorder", name := "dawnAt", desc := "(I)LGooseBorder$Dawn;" } : MethodName) prog_1_method_19_code (2 : Nat) (Option.some (FieldType.object "GooseBorder$Dawn"))) ∈ gb_wA := gb_t3 190 rfl rfl
theorem w_667 : (Cond.methodLink "GooseBorder" (160 : Nat) ({ cls := "GooseBorder", name := "dawnAt", desc := "(I)LGooseBorder$Dawn;" } : MethodName)) ∈ gb_wA := gb_t3 187 rfl rfl
theorem w_669 : (Cond.instanceMethod ({ cls := "GooseBorder", name := "dawnAt", desc := "(I)LGooseBorder$Dawn;" } : MethodName)) ∈ gb_wA := gb_t3 189 rfl rfl
theorem s_1_10 : Cond.selects "GooseBorder" (⟨"GooseBorder", "dawnAt", "(I)LGooseBorder$Dawn;"⟩ : MethodName) (⟨"GooseBorder", "dawnAt", "(I)LGooseBorder$Dawn;"⟩ : MethodName) ∈ gb_wA := gb_s1 10 rfl rfl
theorem dX11_seen_5 : decode cX11_seen 5 = .ok (.astore 4, 2) := by decide +kernel
theorem dX11_seen_7 : decode cX11_seen 7 = .ok (.aload 4, 2) := by decide +kernel
theorem dX11_seen_9 : decode cX11_seen 9 = .ok (.ifnull 12, 3) := by decide +kernel
theorem dX11_seen_21 : decode cX11_seen 21 = .ok (.bipush (-2), 2) := by decide +kernel
theorem dX11_seen_23 : decode cX11_seen 23 = .ok (.ireturn, 1) := by decide +kernel
theorem dX11_seen_12 : decode cX11_seen 12 = .ok (.iload_n 3, 1) := by decide +kernel
theorem dX11_seen_13 : decode cX11_seen 13 = .ok (.ifCond .lt 8, 3) := by decide +kernel
theorem dX11_seen_16 : decode cX11_seen 16 = .ok (.iload_n 3, 1) := by decide +kernel
theorem dX11_seen_17 : decode cX11_seen 17 = .ok (.iconst 1, 1) := by decide +kernel
theorem dX11_seen_18 : decode cX11_seen 18 = .ok (.if_icmp .le 6, 3) := by decide +kernel
theorem dX11_seen_24 : decode cX11_seen 24 = .ok (.aload 4, 2) := by decide +kernel
theorem dX11_seen_26 : decode cX11_seen 26 = .ok (.iload_n 2, 1) := by decide +kernel
theorem dX11_seen_27 : decode cX11_seen 27 = .ok (.iload_n 2, 1) := by decide +kernel
theorem dX11_seen_28 : decode cX11_seen 28 = .ok (.iconst (-1), 1) := by decide +kernel
theorem dX11_seen_29 : decode cX11_seen 29 = .ok (.if_icmp .ne 7, 3) := by decide +kernel
theorem dX11_seen_36 : decode cX11_seen 36 = .ok (.iload_n 3, 1) := by decide +kernel
theorem dX11_seen_37 : decode cX11_seen 37 = .ok (.iconst 1, 1) := by decide +kernel
theorem dX11_seen_38 : decode cX11_seen 38 = .ok (.iadd, 1) := by decide +kernel
theorem dX11_seen_39 : decode cX11_seen 39 = .ok (.invokestatic 152, 3) := by decide +kernel
def cs_Lines_size_D (n : Nat) (σ : gb_S) (k0 : Nat) : gb_CR Int32 := gb_kk (gb_kD k0) (gb_lt ((σ.1 (k0 + 1)) (Int32.toNatClampNeg 0)) (fun x_2 => some (σ, x_2)))
set_option maxHeartbeats 8000000 in
set_option maxRecDepth 100000 in
theorem cc_Lines_size_D (l : Launch) (D : va_G) (cT : Nat → ClassId) (tt : Nat → Nat) (b1 b : Nat) (hb1 : b1 ≤ b) (n : Nat) (σ : gb_S) (k0 : Nat) (σE : gb_S) (rE : Int32) (h : cs_Lines_size_D n σ k0 = some (σE, rE)) : Met l yX4_size (.code yX4_size cX4_size 1 (some FieldType.int) :: gb_wA) ({ frames := 0, cells := 0, slots := 0, locals := 0 }) (gb_Pc D cT tt b1 [.ref (b + k0)] (fun h => va_P D vwCl (gb_wl b (gb_CW cT b σ)) h)) (gb_Qi (fun r h => r = rE ∧ va_P D vwCl (gb_wl b (gb_CW cT b σE)) h) (gb_fr b 135)) 0 0 (gb_fr b 135) := by
  refine Met.ofW (cc := cX4_size) (maxL := 1) (ret := (some FieldType.int)) (by decide) rfl ?_
  intro p e s m args below meth c s₁ B hml hv
  obtain ⟨rfl, hSt, hP⟩ := hv
  have hx := B.exec
  have hb := B.bytes
  have hr := B.returns
  have hts := atoms_spec (ws := .code yX4_size cX4_size 1 (some FieldType.int) :: gb_wA) B.pre
  have hq : ∀ w ∈ gb_wA, w.before _ s = true := fun w h => hts w (List.mem_cons_of_mem _ h)
  have hown : s.vm.findClass RX4 = some m.cls := findClass_of_methodNamed B.named
  have hlocks := B.notSynchronized
  clear B hts
  have hK := hSt.1
  have hS : va_S (gb_fr b 135) s.heap s.heap [] := va_S.rf
  have hl := lv_entry ([.ref (b + k0)]) (n := 1) (Nat.le_of_ble_eq_true rfl)
  rw [lg_entry_eq]
  generalize (lg_sl ([.ref (b + k0)]) ++ List.replicate (1 - (lg_sl ([.ref (b + k0)])).length) Slot.unset).toArray = ls at hl ⊢
  replace hl : lv_has ls 1 [(0, .ref (b + k0))] := hl
  unfold cs_Lines_size_D at h
  obtain ⟨z_1, h⟩ := gb_kk_s h
  refine lv_aload_n hx hb dX4_size_0 rfl (lv_at hl 0 rfl) ?_
  refine va_get (ci := 1) (v := (.ref (b + (k0 + 1)))) (C := RX1) (T := TX1) (N := 4) hx hb hq i_X1 hown hK hP k0 (gb_at b (gb_cD z_1).1) rfl 3 (by decide) (hq _ w_52) (fun x9 h9 => u_same (hq _ w_53) x9 h9) rfl dX4_size_1 ?_
  refine lv_iconst (v := 0) hx hb dX4_size_4 (by decide) ?_
  refine va_iald hx hb hK hP (k0 + 1) 0 (gb_at b (gb_cD z_1).2) rfl (gb_in rfl) dX4_size_5 ?_
  refine lv_topi (fun x_2 ex_2 => ?_)
  replace h := gb_lt_s ex_2 h
  obtain ⟨e1, e2⟩ := gb_eq2 h
  exact W.iret (v := x_2) hx hb hr (fun t ht hW => gb_ri ht ⟨e2, by rw [← e1]; exact hP⟩ hS) hS.2.2 dX4_size_6
theorem w_486 : (Cond.selects "GooseBorder$Dawn" ({ cls := "GooseBorder$Lines", name := "size", desc := "()I" } : MethodName) ({ cls := "GooseBorder$Lines", name := "size", desc := "()I" } : MethodName)) ∈ gb_wA := gb_t3 6 rfl rfl
def cs_Lines_cell_D (n : Nat) (σ : gb_S) (k0 : Nat) (p1 : Int32) (p2 : Int32) : gb_CR Int32 := gb_kk (gb_kD k0) (gb_ck (((1 : Int32) + (p1 * ((2 : Int32) + 1))) + p2) 16 (gb_lt ((σ.1 (k0 + 1)) (Int32.toNatClampNeg (((1 : Int32) + (p1 * ((2 : Int32) + 1))) + p2))) (fun x_3 => some (σ, x_3))))
set_option maxHeartbeats 8000000 in
set_option maxRecDepth 100000 in
theorem cc_Lines_cell_D (l : Launch) (D : va_G) (cT : Nat → ClassId) (tt : Nat → Nat) (b1 b : Nat) (hb1 : b1 ≤ b) (n : Nat) (σ : gb_S) (k0 : Nat) (p1 : Int32) (p2 : Int32) (σE : gb_S) (rE : Int32) (h : cs_Lines_cell_D n σ k0 p1 p2 = some (σE, rE)) : Met l yX4_cell (.code yX4_cell cX4_cell 3 (some FieldType.int) :: gb_wA) ({ frames := 0, cells := 0, slots := 0, locals := 0 }) (gb_Pc D cT tt b1 [.ref (b + k0), .int p1, .int p2] (fun h => va_P D vwCl (gb_wl b (gb_CW cT b σ)) h)) (gb_Qi (fun r h => r = rE ∧ va_P D vwCl (gb_wl b (gb_CW cT b σE)) h) (gb_fr b 135)) 0 0 (gb_fr b 135) := by
  refine Met.ofW (cc := cX4_cell) (maxL := 3) (ret := (some FieldType.int)) (by decide) rfl ?_
  intro p e s m args below meth c s₁ B hml hv
  obtain ⟨rfl, hSt, hP⟩ := hv
  have hx := B.exec
  have hb := B.bytes
  have hr := B.returns
  have hts := atoms_spec (ws := .code yX4_cell cX4_cell 3 (some FieldType.int) :: gb_wA) B.pre
  have hq : ∀ w ∈ gb_wA, w.before _ s = true := fun w h => hts w (List.mem_cons_of_mem _ h)
  have hown : s.vm.findClass RX4 = some m.cls := findClass_of_methodNamed B.named
  have hlocks := B.notSynchronized
  clear B hts
  have hK := hSt.1
  have hS : va_S (gb_fr b 135) s.heap s.heap [] := va_S.rf
  have hl := lv_entry ([.ref (b + k0), .int p1, .int p2]) (n := 3) (Nat.le_of_ble_eq_true rfl)
  rw [lg_entry_eq]
  generalize (lg_sl ([.ref (b + k0), .int p1, .int p2]) ++ List.replicate (3 - (lg_sl ([.ref (b + k0), .int p1, .int p2])).length) Slot.unset).toArray = ls at hl ⊢
  replace hl : lv_has ls 3 [(0, .ref (b + k0)), (1, .int p1), (2, .int p2)] := hl
  unfold cs_Lines_cell_D at h
  obtain ⟨z_1, h⟩ := gb_kk_s h
  refine lv_aload_n hx hb dX4_cell_0 rfl (lv_at hl 0 rfl) ?_
  refine va_get (ci := 1) (v := (.ref (b + (k0 + 1)))) (C := RX1) (T := TX1) (N := 4) hx hb hq i_X1 hown hK hP k0 (gb_at b (gb_cD z_1).1) rfl 3 (by decide) (hq _ w_52) (fun x9 h9 => u_same (hq _ w_53) x9 h9) rfl dX4_cell_1 ?_
  refine lv_iconst (v := 1) hx hb dX4_cell_4 (by decide) ?_
  refine lv_iload_n hx hb dX4_cell_5 rfl (lv_at hl 1 rfl) ?_
  refine lv_aload_n hx hb dX4_cell_6 rfl (lv_at hl 0 rfl) ?_
  refine va_get (ci := 1) (v := (.int 2)) (C := RX1) (T := TX1) (N := 4) hx hb hq i_X1 hown hK hP k0 (gb_at b (gb_cD z_1).1) rfl 1 (by decide) (hq _ w_73) (fun _ h9 => h9) rfl dX4_cell_7 ?_
  refine lv_iconst (v := 1) hx hb dX4_cell_10 (by decide) ?_
  refine lv_iadd hx hb dX4_cell_11 ?_
  refine lv_imul hx hb dX4_cell_12 ?_
  refine lv_iadd hx hb dX4_cell_13 ?_
  refine lv_iload_n hx hb dX4_cell_14 rfl (lv_at hl 2 rfl) ?_
  refine lv_iadd hx hb dX4_cell_15 ?_
  obtain ⟨z_2, h⟩ := gb_ck_s h
  refine va_iald hx hb hK hP (k0 + 1) 0 (gb_at b (gb_cD z_1).2) rfl z_2 dX4_cell_16 ?_
  refine lv_topi (fun x_3 ex_3 => ?_)
  replace h := gb_lt_s ex_3 h
  obtain ⟨e1, e2⟩ := gb_eq2 h
  exact W.iret (v := x_3) hx hb hr (fun t ht hW => gb_ri ht ⟨e2, by rw [← e1]; exact hP⟩ hS) hS.2.2 dX4_cell_17
theorem w_1731 : (Cond.selects "GooseBorder$Dawn" ({ cls := "GooseBorder$Lines", name := "cell", desc := "(II)I" } : MethodName) ({ cls := "GooseBorder$Lines", name := "cell", desc := "(II)I" } : MethodName)) ∈ gb_wA := gb_t8 51 rfl rfl
def cs_Face_lineOf_D (n : Nat) (σ : gb_S) (p1 : Nat) (p2 : Int32) (p3 : Int32) : gb_CR Int32 := gb_kk (gb_kD p1) ((if p2 = (-1) then (if p3 = 0 then gb_cd (cs_Lines_size_D n σ p1) (fun s_16 r_17 => some (s_16, r_17)) else some (σ, (-2))) else (if p2 < 0 then some (σ, (-2)) else gb_cd (cs_Lines_size_D n σ p1) (fun s_4 r_5 => (if r_5 ≤ p2 then some (s_4, (-2)) else (if p3 < 0 then some (s_4, (-2)) else (if p3 ≤ 2 then gb_cd (cs_Lines_cell_D n s_4 p1 p2 p3) (fun s_11 r_12 => some (s_11, r_12)) else some (s_4, (-2)))))))))
set_option maxHeartbeats 8000000 in
set_option maxRecDepth 100000 in
theorem cc_Face_lineOf_D (l : Launch) (D : va_G) (cT : Nat → ClassId) (tt : Nat → Nat) (b1 b : Nat) (hb1 : b1 ≤ b) (n : Nat) (σ : gb_S) (p1 : Nat) (p2 : Int32) (p3 : Int32) (σE : gb_S) (rE : Int32) (h : cs_Face_lineOf_D n σ p1 p2 p3 = some (σE, rE)) : Met l yX11_lineOf (.code yX11_lineOf cX11_lineOf 3 (some FieldType.int) :: gb_wA) ({ frames := 1, cells := 0, slots := 0, locals := 22 }) (gb_Pc D cT tt b1 [.ref (b + p1), .int p2, .int p3] (fun h => va_P D vwCl (gb_wl b (gb_CW cT b σ)) h)) (gb_Qi (fun r h => r = rE ∧ va_P D vwCl (gb_wl b (gb_CW cT b σE)) h) (gb_fr b 135)) 0 0 (gb_fr b 135) := by
  refine Met.ofW (cc := cX11_lineOf) (maxL := 3) (ret := (some FieldType.int)) (by decide) rfl ?_
  intro p e s m args below meth c s₁ B hml hv
  obtain ⟨rfl, hSt, hP⟩ := hv
  have hx := B.exec
  have hb := B.bytes
  have hr := B.returns
  have hts := atoms_spec (ws := .code yX11_lineOf cX11_lineOf 3 (some FieldType.int) :: gb_wA) B.pre
  have hq : ∀ w ∈ gb_wA, w.before _ s = true := fun w h => hts w (List.mem_cons_of_mem _ h)
  have hown : s.vm.findClass RX11 = some m.cls := findClass_of_methodNamed B.named
  have hlocks := B.notSynchronized
  clear B hts
  have hK := hSt.1
  have hS : va_S (gb_fr b 135) s.heap s.heap [] := va_S.rf
  have hl := lv_entry ([.ref (b + p1), .int p2, .int p3]) (n := 3) (Nat.le_of_ble_eq_true rfl)
  rw [lg_entry_eq]
  generalize (lg_sl ([.ref (b + p1), .int p2, .int p3]) ++ List.replicate (3 - (lg_sl ([.ref (b + p1), .int p2, .int p3])).length) Slot.unset).toArray = ls at hl ⊢
  replace hl : lv_has ls 3 [(0, .ref (b + p1)), (1, .int p2), (2, .int p3)] := hl
  unfold cs_Face_lineOf_D at h
  obtain ⟨z_1, h⟩ := gb_kk_s h
  refine lv_iload_n hx hb dX11_lineOf_0 rfl (lv_at hl 1 rfl) ?_
  refine lv_iconst (v := (-1)) hx hb dX11_lineOf_1 (by decide) ?_
  refine lv_icmp_ne (tgt := 19) hx hb dX11_lineOf_2 (by decide) (fun c_2 => ?_) (fun c_2 => ?_)
  · rw [if_neg c_2] at h
    refine lv_iload_n hx hb dX11_lineOf_19 rfl (lv_at hl 1 rfl) ?_
    refine lv_if_lt (tgt := 43) hx hb dX11_lineOf_20 (by decide) (fun c_3 => ?_) (fun c_3 => ?_)
    · rw [if_pos c_3] at h
      refine lv_bipush (v := (-2)) hx hb dX11_lineOf_43 (by decide) ?_
      obtain ⟨e1, e2⟩ := gb_eq2 h
      exact W.iret (v := (-2)) hx hb hr (fun t ht hW => gb_ri ht ⟨e2, by rw [← e1]; exact hP⟩ hS) hS.2.2 dX11_lineOf_45
    · rw [if_neg c_3] at h
      refine lv_iload_n hx hb dX11_lineOf_23 rfl (lv_at hl 1 rfl) ?_
      refine lv_aload_n hx hb dX11_lineOf_24 rfl (lv_at hl 0 rfl) ?_
      obtain ⟨s_4, r_5, z_6, h⟩ := gb_cd_s h
      refine gb_calli (va_runU (x := yX4_size) (C := RX1) (owner := "GooseBorder$Lines") (As := []) (rest := [.int p2]) ⟨hx, hb, hml, hown, hq⟩ (cc_Lines_size_D l D cT tt b1 b hb1 n σ p1 s_4 r_5 z_6) (va_cwU (owner := "GooseBorder$Lines") (C := RX1) 0 hq (gb_gU w_653 w_485 w_486 w_484 w_6 w_489) rfl rfl rfl rfl (by decide +kernel) ⟨Nat.le_of_ble_eq_true rfl, Nat.le_of_ble_eq_true rfl⟩) (gb_preV (r := (RX1, TX1, 4)) (ci := 1) (q0 := p1) hSt hP rfl (gb_at b (gb_cD z_1).1) hS (fun q h => Nat.le_trans hb1 h.1) hP) rfl rfl hl.1 rfl (lv_room (Nat.le_of_ble_eq_true rfl)) dX11_lineOf_25 ⟨Nat.le_of_ble_eq_true rfl, Nat.le_of_ble_eq_true rfl⟩) hS (fun _ h => h) (fun _ h => h) (fun q_7 H locs hY hk hS => ?_)
      obtain ⟨hq_7, hP⟩ := hY
      replace hq_7 := hq_7.symm
      subst hq_7
      refine lv_icmp_ge (tgt := 43) hx hb dX11_lineOf_28 (by decide) (fun c_8 => ?_) (fun c_8 => ?_)
      · rw [if_pos c_8] at h
        refine lv_bipush (v := (-2)) hx hb dX11_lineOf_43 (by decide) ?_
        obtain ⟨e1, e2⟩ := gb_eq2 h
        exact W.iret (v := (-2)) hx hb hr (fun t ht hW => gb_ri ht ⟨e2, by rw [← e1]; exact hP⟩ hS) hS.2.2 dX11_lineOf_45
      · rw [if_neg c_8] at h
        refine lv_iload_n hx hb dX11_lineOf_31 rfl (lv_at hl 2 rfl) ?_
        refine lv_if_lt (tgt := 43) hx hb dX11_lineOf_32 (by decide) (fun c_9 => ?_) (fun c_9 => ?_)
        · rw [if_pos c_9] at h
          refine lv_bipush (v := (-2)) hx hb dX11_lineOf_43 (by decide) ?_
          obtain ⟨e1, e2⟩ := gb_eq2 h
          exact W.iret (v := (-2)) hx hb hr (fun t ht hW => gb_ri ht ⟨e2, by rw [← e1]; exact hP⟩ hS) hS.2.2 dX11_lineOf_45
        · rw [if_neg c_9] at h
          refine lv_iload_n hx hb dX11_lineOf_35 rfl (lv_at hl 2 rfl) ?_
          refine lv_aload_n hx hb dX11_lineOf_36 rfl (lv_at hl 0 rfl) ?_
          refine va_get (ci := 1) (v := (.int 2)) (C := RX1) (T := TX1) (N := 4) hx hb hq i_X1 hown hK hP p1 (gb_at b (gb_cD z_1).1) rfl 1 (by decide) (hq _ w_76) (fun _ h9 => h9) rfl dX11_lineOf_37 ?_
          refine lv_icmp_le (tgt := 46) hx hb dX11_lineOf_40 (by decide) (fun c_10 => ?_) (fun c_10 => ?_)
          · rw [if_pos c_10] at h
            refine lv_aload_n hx hb dX11_lineOf_46 rfl (lv_at hl 0 rfl) ?_
            refine lv_iload_n hx hb dX11_lineOf_47 rfl (lv_at hl 1 rfl) ?_
            refine lv_iload_n hx hb dX11_lineOf_48 rfl (lv_at hl 2 rfl) ?_
            obtain ⟨s_11, r_12, z_13, h⟩ := gb_cd_s h
            refine gb_calli (va_runU (x := yX4_cell) (C := RX1) (owner := "GooseBorder$Lines") (As := [.int p2, .int p3]) (rest := []) ⟨hx, hb, hml, hown, hq⟩ (cc_Lines_cell_D l D cT tt b1 b hb1 n s_4 p1 p2 p3 s_11 r_12 z_13) (va_cwU (owner := "GooseBorder$Lines") (C := RX1) 2 hq (gb_gU w_654 w_1730 w_1731 w_546 w_6 w_547) rfl rfl rfl rfl (by decide +kernel) ⟨Nat.le_of_ble_eq_true rfl, Nat.le_of_ble_eq_true rfl⟩) (gb_preV (r := (RX1, TX1, 4)) (ci := 1) (q0 := p1) hSt hP rfl (gb_at b (gb_cD z_1).1) hS (fun q h => Nat.le_trans hb1 h.1) hP) rfl rfl hl.1 rfl (lv_room (Nat.le_of_ble_eq_true rfl)) dX11_lineOf_49 ⟨Nat.le_of_ble_eq_true rfl, Nat.le_of_ble_eq_true rfl⟩) hS (fun _ h => h) (fun _ h => h) (fun q_14 H locs hY hk hS => ?_)
            obtain ⟨hq_14, hP⟩ := hY
            replace hq_14 := hq_14.symm
            subst hq_14
            obtain ⟨e1, e2⟩ := gb_eq2 h
            exact W.iret (v := r_12) hx hb hr (fun t ht hW => gb_ri ht ⟨e2, by rw [← e1]; exact hP⟩ hS) hS.2.2 dX11_lineOf_52
          · rw [if_neg c_10] at h
            refine lv_bipush (v := (-2)) hx hb dX11_lineOf_43 (by decide) ?_
            obtain ⟨e1, e2⟩ := gb_eq2 h
            exact W.iret (v := (-2)) hx hb hr (fun t ht hW => gb_ri ht ⟨e2, by rw [← e1]; exact hP⟩ hS) hS.2.2 dX11_lineOf_45
  · rw [if_pos c_2] at h
    refine lv_iload_n hx hb dX11_lineOf_5 rfl (lv_at hl 2 rfl) ?_
    refine lv_if_ne (tgt := 16) hx hb dX11_lineOf_6 (by decide) (fun c_15 => ?_) (fun c_15 => ?_)
    · rw [if_neg c_15] at h
      refine lv_bipush (v := (-2)) hx hb dX11_lineOf_16 (by decide) ?_
      obtain ⟨e1, e2⟩ := gb_eq2 h
      exact W.iret (v := (-2)) hx hb hr (fun t ht hW => gb_ri ht ⟨e2, by rw [← e1]; exact hP⟩ hS) hS.2.2 dX11_lineOf_18
    · rw [if_pos c_15] at h
      refine lv_aload_n hx hb dX11_lineOf_9 rfl (lv_at hl 0 rfl) ?_
      obtain ⟨s_16, r_17, z_18, h⟩ := gb_cd_s h
      refine gb_calli (va_runU (x := yX4_size) (C := RX1) (owner := "GooseBorder$Lines") (As := []) (rest := []) ⟨hx, hb, hml, hown, hq⟩ (cc_Lines_size_D l D cT tt b1 b hb1 n σ p1 s_16 r_17 z_18) (va_cwU (owner := "GooseBorder$Lines") (C := RX1) 0 hq (gb_gU w_653 w_485 w_486 w_484 w_6 w_489) rfl rfl rfl rfl (by decide +kernel) ⟨Nat.le_of_ble_eq_true rfl, Nat.le_of_ble_eq_true rfl⟩) (gb_preV (r := (RX1, TX1, 4)) (ci := 1) (q0 := p1) hSt hP rfl (gb_at b (gb_cD z_1).1) hS (fun q h => Nat.le_trans hb1 h.1) hP) rfl rfl hl.1 rfl (lv_room (Nat.le_of_ble_eq_true rfl)) dX11_lineOf_10 ⟨Nat.le_of_ble_eq_true rfl, Nat.le_of_ble_eq_true rfl⟩) hS (fun _ h => h) (fun _ h => h) (fun q_19 H locs hY hk hS => ?_)
      obtain ⟨hq_19, hP⟩ := hY
      replace hq_19 := hq_19.symm
      subst hq_19
      refine lv_goto (tgt := 18) hx hb dX11_lineOf_13 (by decide) ?_
      obtain ⟨e1, e2⟩ := gb_eq2 h
      exact W.iret (v := r_17) hx hb hr (fun t ht hW => gb_ri ht ⟨e2, by rw [← e1]; exact hP⟩ hS) hS.2.2 dX11_lineOf_18
theorem dX11_seen_42 : decode cX11_seen 42 = .ok (.ireturn, 1) := by decide +kernel
theorem dX11_seen_32 : decode cX11_seen 32 = .ok (.iload_n 3, 1) := by decide +kernel
theorem dX11_seen_33 : decode cX11_seen 33 = .ok (.goto 6, 3) := by decide +kernel
def cs_Face_seen (n : Nat) (σ : gb_S) (p1 : Int32) (p2 : Int32) (p3 : Int32) : gb_CR Int32 := gb_cd (cs_Face_dawnAt n σ p1) (fun s_1 r_2 => (if r_2 = 0 then some (s_1, (-2)) else gb_kk (gb_kD r_2) ((if p3 < 0 then some (s_1, (-2)) else (if p3 ≤ 1 then (if p2 = (-1) then gb_cd (cs_Face_lineOf_D n s_1 r_2 p2 p3) (fun s_14 r_15 => some (s_14, r_15)) else gb_cd (cs_Face_lineOf_D n s_1 r_2 p2 (p3 + 1)) (fun s_10 r_11 => some (s_10, r_11))) else some (s_1, (-2)))))))
set_option maxHeartbeats 8000000 in
set_option maxRecDepth 100000 in
theorem cc_Face_seen (l : Launch) (D : va_G) (cT : Nat → ClassId) (tt : Nat → Nat) (b1 b : Nat) (hb1 : b1 ≤ b) (n : Nat) (σ : gb_S) (p1 : Int32) (p2 : Int32) (p3 : Int32) (σE : gb_S) (rE : Int32) (h : cs_Face_seen n σ p1 p2 p3 = some (σE, rE)) : Met l yX11_seen (.code yX11_seen cX11_seen 5 (some FieldType.int) :: gb_wA) ({ frames := 2, cells := 0, slots := 0, locals := 44 }) (gb_Pc D cT tt b1 [.ref (b + 0), .int p1, .int p2, .int p3] (fun h => va_P D vwCl (gb_wl b (gb_CW cT b σ)) h)) (gb_Qi (fun r h => r = rE ∧ va_P D vwCl (gb_wl b (gb_CW cT b σE)) h) (gb_fr b 135)) 0 0 (gb_fr b 135) := by
  refine Met.ofW (cc := cX11_seen) (maxL := 5) (ret := (some FieldType.int)) (by decide) rfl ?_
  intro p e s m args below meth c s₁ B hml hv
  obtain ⟨rfl, hSt, hP⟩ := hv
  have hx := B.exec
  have hb := B.bytes
  have hr := B.returns
  have hts := atoms_spec (ws := .code yX11_seen cX11_seen 5 (some FieldType.int) :: gb_wA) B.pre
  have hq : ∀ w ∈ gb_wA, w.before _ s = true := fun w h => hts w (List.mem_cons_of_mem _ h)
  have hown : s.vm.findClass RX11 = some m.cls := findClass_of_methodNamed B.named
  have hlocks := B.notSynchronized
  clear B hts
  have hK := hSt.1
  have hS : va_S (gb_fr b 135) s.heap s.heap [] := va_S.rf
  have hl := lv_entry ([.ref (b + 0), .int p1, .int p2, .int p3]) (n := 5) (Nat.le_of_ble_eq_true rfl)
  rw [lg_entry_eq]
  generalize (lg_sl ([.ref (b + 0), .int p1, .int p2, .int p3]) ++ List.replicate (5 - (lg_sl ([.ref (b + 0), .int p1, .int p2, .int p3])).length) Slot.unset).toArray = ls at hl ⊢
  replace hl : lv_has ls 5 [(0, .ref (b + 0)), (1, .int p1), (2, .int p2), (3, .int p3)] := hl
  unfold cs_Face_seen at h
  refine lv_aload_n hx hb dX11_seen_0 rfl (lv_at hl 0 rfl) ?_
  refine lv_iload_n hx hb dX11_seen_1 rfl (lv_at hl 1 rfl) ?_
  obtain ⟨s_1, r_2, z_3, h⟩ := gb_cd_s h
  refine gb_callq (va_runV (C := RX11) (As := [.int p1]) (rest := []) ⟨hx, hb, hml, hown, hq⟩ (cc_Face_dawnAt l D cT tt b1 b hb1 n σ p1 s_1 r_2 z_3) (cwV 1 hq (gb_gV w_667 w_669 s_1_10 w_1 w_670) rfl rfl rfl (by decide +kernel) ⟨Nat.le_of_ble_eq_true rfl, Nat.le_of_ble_eq_true rfl⟩) (gb_preV (r := (RX11, TX11, 10)) (ci := 9) (q0 := 0) hSt hP rfl (gb_at b rfl) hS (fun q h => Nat.le_trans hb1 h.1) hP) rfl rfl hl.1 rfl (lv_room (Nat.le_of_ble_eq_true rfl)) dX11_seen_2 ⟨Nat.le_of_ble_eq_true rfl, Nat.le_of_ble_eq_true rfl⟩) hS (fun _ h => h) (fun _ h => h) (fun q_4 H locs hY hk hS => ?_)
  obtain ⟨hq_4, hP⟩ := hY
  subst hq_4
  rw [gb_onv]
  by_cases c_5 : r_2 = 0
  · rw [if_pos c_5] at h
    rw [gb_nv0 c_5]
    refine lv_astoreN (lv' := [(4, .null), (0, .ref (b + 0)), (1, .int p1), (2, .int p2), (3, .int p3)]) hx hb dX11_seen_5 hl (by decide) rfl (fun ls hl => ?_)
    refine lv_aloadN hx hb dX11_seen_7 (lv_at hl 0 rfl) ?_
    refine lv_ifnullN (tgt := 21) hx hb dX11_seen_9 (by decide) ?_
    refine lv_bipush (v := (-2)) hx hb dX11_seen_21 (by decide) ?_
    obtain ⟨e1, e2⟩ := gb_eq2 h
    exact W.iret (v := (-2)) hx hb hr (fun t ht hW => gb_ri ht ⟨e2, by rw [← e1]; exact hP⟩ hS) hS.2.2 dX11_seen_23
  rw [if_neg c_5] at h
  rw [gb_nv1 c_5]
  obtain ⟨z_6, h⟩ := gb_kk_s h
  refine lv_astore (lv' := [(4, .ref (b + r_2)), (0, .ref (b + 0)), (1, .int p1), (2, .int p2), (3, .int p3)]) hx hb dX11_seen_5 hl (by decide) rfl (fun ls hl => ?_)
  refine lv_aload hx hb dX11_seen_7 (lv_at hl 0 rfl) ?_
  refine lv_ifnull hx hb dX11_seen_9 ?_
  refine lv_iload_n hx hb dX11_seen_12 rfl (lv_at hl 4 rfl) ?_
  refine lv_if_lt (tgt := 21) hx hb dX11_seen_13 (by decide) (fun c_7 => ?_) (fun c_7 => ?_)
  · rw [if_pos c_7] at h
    refine lv_bipush (v := (-2)) hx hb dX11_seen_21 (by decide) ?_
    obtain ⟨e1, e2⟩ := gb_eq2 h
    exact W.iret (v := (-2)) hx hb hr (fun t ht hW => gb_ri ht ⟨e2, by rw [← e1]; exact hP⟩ hS) hS.2.2 dX11_seen_23
  · rw [if_neg c_7] at h
    refine lv_iload_n hx hb dX11_seen_16 rfl (lv_at hl 4 rfl) ?_
    refine lv_iconst (v := 1) hx hb dX11_seen_17 (by decide) ?_
    refine lv_icmp_le (tgt := 24) hx hb dX11_seen_18 (by decide) (fun c_8 => ?_) (fun c_8 => ?_)
    · rw [if_pos c_8] at h
      refine lv_aload hx hb dX11_seen_24 (lv_at hl 0 rfl) ?_
      refine lv_iload_n hx hb dX11_seen_26 rfl (lv_at hl 3 rfl) ?_
      refine lv_iload_n hx hb dX11_seen_27 rfl (lv_at hl 3 rfl) ?_
      refine lv_iconst (v := (-1)) hx hb dX11_seen_28 (by decide) ?_
      refine lv_icmp_ne (tgt := 36) hx hb dX11_seen_29 (by decide) (fun c_9 => ?_) (fun c_9 => ?_)
      · rw [if_neg c_9] at h
        refine lv_iload_n hx hb dX11_seen_36 rfl (lv_at hl 4 rfl) ?_
        refine lv_iconst (v := 1) hx hb dX11_seen_37 (by decide) ?_
        refine lv_iadd hx hb dX11_seen_38 ?_
        obtain ⟨s_10, r_11, z_12, h⟩ := gb_cd_s h
        refine gb_calli (va_runS (As := [.ref (b + r_2), .int p2, .int (p3 + 1)]) (rest := []) ⟨hx, hb, hml, hown, hq⟩ (cc_Face_lineOf_D l D cT tt b1 b hb1 n s_1 r_2 p2 (p3 + 1) s_10 r_11 z_12) (va_cwS 3 hq (gb_gS w_650 w_651 w_1 w_652) rfl rfl rfl (by decide +kernel) ⟨Nat.le_of_ble_eq_true rfl, Nat.le_of_ble_eq_true rfl⟩) (gb_preS hSt hS (fun q h => Nat.le_trans hb1 h.1) hP) rfl rfl hl.1 rfl (lv_room (Nat.le_of_ble_eq_true rfl)) dX11_seen_39 ⟨Nat.le_of_ble_eq_true rfl, Nat.le_of_ble_eq_true rfl⟩) hS (fun _ h => h) (fun _ h => h) (fun q_13 H locs hY hk hS => ?_)
        obtain ⟨hq_13, hP⟩ := hY
        replace hq_13 := hq_13.symm
        subst hq_13
        obtain ⟨e1, e2⟩ := gb_eq2 h
        exact W.iret (v := r_11) hx hb hr (fun t ht hW => gb_ri ht ⟨e2, by rw [← e1]; exact hP⟩ hS) hS.2.2 dX11_seen_42
      · rw [if_pos c_9] at h
        refine lv_iload_n hx hb dX11_seen_32 rfl (lv_at hl 4 rfl) ?_
        refine lv_goto (tgt := 39) hx hb dX11_seen_33 (by decide) ?_
        obtain ⟨s_14, r_15, z_16, h⟩ := gb_cd_s h
        refine gb_calli (va_runS (As := [.ref (b + r_2), .int p2, .int p3]) (rest := []) ⟨hx, hb, hml, hown, hq⟩ (cc_Face_lineOf_D l D cT tt b1 b hb1 n s_1 r_2 p2 p3 s_14 r_15 z_16) (va_cwS 3 hq (gb_gS w_650 w_651 w_1 w_652) rfl rfl rfl (by decide +kernel) ⟨Nat.le_of_ble_eq_true rfl, Nat.le_of_ble_eq_true rfl⟩) (gb_preS hSt hS (fun q h => Nat.le_trans hb1 h.1) hP) rfl rfl hl.1 rfl (lv_room (Nat.le_of_ble_eq_true rfl)) dX11_seen_39 ⟨Nat.le_of_ble_eq_true rfl, Nat.le_of_ble_eq_true rfl⟩) hS (fun _ h => h) (fun _ h => h) (fun q_17 H locs hY hk hS => ?_)
        obtain ⟨hq_17, hP⟩ := hY
        replace hq_17 := hq_17.symm
        subst hq_17
        obtain ⟨e1, e2⟩ := gb_eq2 h
        exact W.iret (v := r_15) hx hb hr (fun t ht hW => gb_ri ht ⟨e2, by rw [← e1]; exact hP⟩ hS) hS.2.2 dX11_seen_42
    · rw [if_neg c_8] at h
      refine lv_bipush (v := (-2)) hx hb dX11_seen_21 (by decide) ?_
      obtain ⟨e1, e2⟩ := gb_eq2 h
      exact W.iret (v := (-2)) hx hb hr (fun t ht hW => gb_ri ht ⟨e2, by rw [← e1]; exact hP⟩ hS) hS.2.2 dX11_seen_23
theorem dX11_pays_0 : decode cX11_pays 0 = .ok (.aload_n 0, 1) := by decide +kernel
theorem dX11_pays_1 : decode cX11_pays 1 = .ok (.iload_n 1, 1) := by decide +kernel
theorem dX11_pays_2 : decode cX11_pays 2 = .ok (.invokevirtual 156, 3) := by decide +kernel
theorem dX11_pays_5 : decode cX11_pays 5 = .ok (.astore_n 3, 1) := by decide +kernel
theorem dX11_pays_6 : decode cX11_pays 6 = .ok (.aload_n 3, 1) := by decide +kernel
theorem dX11_pays_7 : decode cX11_pays 7 = .ok (.ifnull 14, 3) := by decide +kernel
theorem dX11_pays_21 : decode cX11_pays 21 = .ok (.iconst (-1), 1) := by decide +kernel
theorem dX11_pays_22 : decode cX11_pays 22 = .ok (.ireturn, 1) := by decide +kernel
theorem dX11_pays_10 : decode cX11_pays 10 = .ok (.iload_n 2, 1) := by decide +kernel
theorem dX11_pays_11 : decode cX11_pays 11 = .ok (.ifCond .lt 10, 3) := by decide +kernel
theorem dX11_pays_14 : decode cX11_pays 14 = .ok (.iload_n 2, 1) := by decide +kernel
theorem dX11_pays_15 : decode cX11_pays 15 = .ok (.sipush 9999, 3) := by decide +kernel
theorem dX11_pays_18 : decode cX11_pays 18 = .ok (.if_icmp .le 5, 3) := by decide +kernel
theorem dX11_pays_23 : decode cX11_pays 23 = .ok (.aload_n 3, 1) := by decide +kernel
theorem dX11_pays_24 : decode cX11_pays 24 = .ok (.iload_n 2, 1) := by decide +kernel
theorem dX11_pays_25 : decode cX11_pays 25 = .ok (.invokevirtual 164, 3) := by decide +kernel
theorem dX3_payFor_0 : decode cX3_payFor 0 = .ok (.iconst 0, 1) := by decide +kernel
theorem dX3_payFor_1 : decode cX3_payFor 1 = .ok (.istore_n 2, 1) := by decide +kernel
theorem dX3_payFor_2 : decode cX3_payFor 2 = .ok (.iconst 0, 1) := by decide +kernel
theorem dX3_payFor_3 : decode cX3_payFor 3 = .ok (.istore_n 3, 1) := by decide +kernel
theorem dX3_payFor_4 : decode cX3_payFor 4 = .ok (.iload_n 3, 1) := by decide +kernel
theorem dX3_payFor_5 : decode cX3_payFor 5 = .ok (.aload_n 0, 1) := by decide +kernel
theorem dX3_payFor_6 : decode cX3_payFor 6 = .ok (.invokevirtual 13, 3) := by decide +kernel
theorem w_679 : (Cond.methodLink "GooseBorder$Law" (13 : Nat) ({ cls := "GooseBorder$Law", name := "size", desc := "()I" } : MethodName)) ∈ gb_wA := gb_t3 199 rfl rfl
theorem w_680 : (Cond.sameMethod "GooseBorder$Law" "GooseBorder$Lines" "size" "()I") ∈ gb_wA := gb_t3 200 rfl rfl
theorem w_681 : (Cond.selects "GooseBorder$Law" ({ cls := "GooseBorder$Law", name := "size", desc := "()I" } : MethodName) ({ cls := "GooseBorder$Lines", name := "size", desc := "()I" } : MethodName)) ∈ gb_wA := gb_t3 201 rfl rfl
theorem dX3_payFor_9 : decode cX3_payFor 9 = .ok (.if_icmp .ge 140, 3) := by decide +kernel
theorem dX3_payFor_149 : decode cX3_payFor 149 = .ok (.iload_n 2, 1) := by decide +kernel
theorem dX3_payFor_150 : decode cX3_payFor 150 = .ok (.ireturn, 1) := by decide +kernel
theorem dX3_payFor_12 : decode cX3_payFor 12 = .ok (.aload_n 0, 1) := by decide +kernel
theorem dX3_payFor_13 : decode cX3_payFor 13 = .ok (.iload_n 3, 1) := by decide +kernel
theorem dX3_payFor_14 : decode cX3_payFor 14 = .ok (.iconst 1, 1) := by decide +kernel
theorem dX3_payFor_15 : decode cX3_payFor 15 = .ok (.invokevirtual 19, 3) := by decide +kernel
theorem w_682 : (Cond.methodLink "GooseBorder$Law" (19 : Nat) ({ cls := "GooseBorder$Law", name := "cell", desc := "(II)I" } : MethodName)) ∈ gb_wA := gb_t3 202 rfl rfl
theorem w_683 : (Cond.sameMethod "GooseBorder$Law" "GooseBorder$Lines" "cell" "(II)I") ∈ gb_wA := gb_t3 203 rfl rfl
theorem w_684 : (Cond.selects "GooseBorder$Law" ({ cls := "GooseBorder$Law", name := "cell", desc := "(II)I" } : MethodName) ({ cls := "GooseBorder$Lines", name := "cell", desc := "(II)I" } : MethodName)) ∈ gb_wA := gb_t3 204 rfl rfl
theorem dX3_payFor_18 : decode cX3_payFor 18 = .ok (.istore 4, 2) := by decide +kernel
theorem dX3_payFor_20 : decode cX3_payFor 20 = .ok (.aload_n 0, 1) := by decide +kernel
theorem dX3_payFor_21 : decode cX3_payFor 21 = .ok (.iload_n 3, 1) := by decide +kernel
theorem dX3_payFor_22 : decode cX3_payFor 22 = .ok (.iconst 2, 1) := by decide +kernel
theorem dX3_payFor_23 : decode cX3_payFor 23 = .ok (.invokevirtual 19, 3) := by decide +kernel
theorem dX3_payFor_26 : decode cX3_payFor 26 = .ok (.istore 5, 2) := by decide +kernel
theorem dX3_payFor_28 : decode cX3_payFor 28 = .ok (.aload_n 0, 1) := by decide +kernel
theorem dX3_payFor_29 : decode cX3_payFor 29 = .ok (.iload_n 3, 1) := by decide +kernel
theorem dX3_payFor_30 : decode cX3_payFor 30 = .ok (.invokevirtual 23, 3) := by decide +kernel
theorem dX4_kind_0 : decode cX4_kind 0 = .ok (.aload_n 0, 1) := by decide +kernel
theorem dX4_kind_1 : decode cX4_kind 1 = .ok (.iload_n 1, 1) := by decide +kernel
theorem dX4_kind_2 : decode cX4_kind 2 = .ok (.iconst 0, 1) := by decide +kernel
theorem dX4_kind_3 : decode cX4_kind 3 = .ok (.invokevirtual 36, 3) := by decide +kernel
theorem w_691 : (Cond.methodLink "GooseBorder$Lines" (36 : Nat) ({ cls := "GooseBorder$Lines", name := "cell", desc := "(II)I" } : MethodName)) ∈ gb_wA := gb_t3 211 rfl rfl
theorem dX4_kind_6 : decode cX4_kind 6 = .ok (.ireturn, 1) := by decide +kernel
def cs_Lines_kind_L (n : Nat) (σ : gb_S) (k0 : Nat) (p1 : Int32) : gb_CR Int32 := gb_kk (gb_kL k0) (gb_cd (cs_Lines_cell_L n σ k0 p1 0) (fun s_2 r_3 => some (s_2, r_3)))
set_option maxHeartbeats 8000000 in
set_option maxRecDepth 100000 in
theorem cc_Lines_kind_L (l : Launch) (D : va_G) (cT : Nat → ClassId) (tt : Nat → Nat) (b1 b : Nat) (hb1 : b1 ≤ b) (n : Nat) (σ : gb_S) (k0 : Nat) (p1 : Int32) (σE : gb_S) (rE : Int32) (h : cs_Lines_kind_L n σ k0 p1 = some (σE, rE)) : Met l yX4_kind (.code yX4_kind cX4_kind 2 (some FieldType.int) :: gb_wA) ({ frames := 1, cells := 0, slots := 0, locals := 22 }) (gb_Pc D cT tt b1 [.ref (b + k0), .int p1] (fun h => va_P D vwCl (gb_wl b (gb_CW cT b σ)) h)) (gb_Qi (fun r h => r = rE ∧ va_P D vwCl (gb_wl b (gb_CW cT b σE)) h) (gb_fr b 135)) 0 0 (gb_fr b 135) := by
  refine Met.ofW (cc := cX4_kind) (maxL := 2) (ret := (some FieldType.int)) (by decide) rfl ?_
  intro p e s m args below meth c s₁ B hml hv
  obtain ⟨rfl, hSt, hP⟩ := hv
  have hx := B.exec
  have hb := B.bytes
  have hr := B.returns
  have hts := atoms_spec (ws := .code yX4_kind cX4_kind 2 (some FieldType.int) :: gb_wA) B.pre
  have hq : ∀ w ∈ gb_wA, w.before _ s = true := fun w h => hts w (List.mem_cons_of_mem _ h)
  have hown : s.vm.findClass RX4 = some m.cls := findClass_of_methodNamed B.named
  have hlocks := B.notSynchronized
  clear B hts
  have hK := hSt.1
  have hS : va_S (gb_fr b 135) s.heap s.heap [] := va_S.rf
  have hl := lv_entry ([.ref (b + k0), .int p1]) (n := 2) (Nat.le_of_ble_eq_true rfl)
  rw [lg_entry_eq]
  generalize (lg_sl ([.ref (b + k0), .int p1]) ++ List.replicate (2 - (lg_sl ([.ref (b + k0), .int p1])).length) Slot.unset).toArray = ls at hl ⊢
  replace hl : lv_has ls 2 [(0, .ref (b + k0)), (1, .int p1)] := hl
  unfold cs_Lines_kind_L at h
  obtain ⟨z_1, h⟩ := gb_kk_s h
  refine lv_aload_n hx hb dX4_kind_0 rfl (lv_at hl 0 rfl) ?_
  refine lv_iload_n hx hb dX4_kind_1 rfl (lv_at hl 1 rfl) ?_
  refine lv_iconst (v := 0) hx hb dX4_kind_2 (by decide) ?_
  obtain ⟨s_2, r_3, z_4, h⟩ := gb_cd_s h
  refine gb_calli (va_runU (x := yX4_cell) (C := RX3) (owner := "GooseBorder$Lines") (As := [.int p1, .int 0]) (rest := []) ⟨hx, hb, hml, hown, hq⟩ (cc_Lines_cell_L l D cT tt b1 b hb1 n σ k0 p1 0 s_2 r_3 z_4) (va_cwU (owner := "GooseBorder$Lines") (C := RX3) 2 hq (gb_gU w_691 w_1730 w_1732 w_546 w_6 w_547) rfl rfl rfl rfl (by decide +kernel) ⟨Nat.le_of_ble_eq_true rfl, Nat.le_of_ble_eq_true rfl⟩) (gb_preV (r := (RX3, TX3, 4)) (ci := 3) (q0 := k0) hSt hP rfl (gb_at b (gb_cL z_1).1) hS (fun q h => Nat.le_trans hb1 h.1) hP) rfl rfl hl.1 rfl (lv_room (Nat.le_of_ble_eq_true rfl)) dX4_kind_3 ⟨Nat.le_of_ble_eq_true rfl, Nat.le_of_ble_eq_true rfl⟩) hS (fun _ h => h) (fun _ h => h) (fun q_5 H locs hY hk hS => ?_)
  obtain ⟨hq_5, hP⟩ := hY
  replace hq_5 := hq_5.symm
  subst hq_5
  obtain ⟨e1, e2⟩ := gb_eq2 h
  exact W.iret (v := r_3) hx hb hr (fun t ht hW => gb_ri ht ⟨e2, by rw [← e1]; exact hP⟩ hS) hS.2.2 dX4_kind_6
theorem w_690 : (Cond.code ({ cls := "GooseBorder$Lines", name := "kind", desc := "(I)I" } : MethodName) prog_6_method_7_code (2 : Nat) (Option.some FieldType.int)) ∈ gb_wA := gb_t3 210 rfl rfl
theorem w_685 : (Cond.methodLink "GooseBorder$Law" (23 : Nat) ({ cls := "GooseBorder$Law", name := "kind", desc := "(I)I" } : MethodName)) ∈ gb_wA := gb_t3 205 rfl rfl
theorem w_686 : (Cond.sameMethod "GooseBorder$Law" "GooseBorder$Lines" "kind" "(I)I") ∈ gb_wA := gb_t3 206 rfl rfl
theorem w_688 : (Cond.selects "GooseBorder$Law" ({ cls := "GooseBorder$Law", name := "kind", desc := "(I)I" } : MethodName) ({ cls := "GooseBorder$Lines", name := "kind", desc := "(I)I" } : MethodName)) ∈ gb_wA := gb_t3 208 rfl rfl
theorem w_689 : (Cond.instanceMethod ({ cls := "GooseBorder$Lines", name := "kind", desc := "(I)I" } : MethodName)) ∈ gb_wA := gb_t3 209 rfl rfl
theorem dX3_payFor_33 : decode cX3_payFor 33 = .ok (.tableswitch 110 0 4 #[35, 45, 63, 81, 100], 35) := by decide +kernel
theorem dX3_payFor_68 : decode cX3_payFor 68 = .ok (.iload_n 2, 1) := by decide +kernel
theorem dX3_payFor_69 : decode cX3_payFor 69 = .ok (.iload 4, 2) := by decide +kernel
theorem dX3_payFor_71 : decode cX3_payFor 71 = .ok (.iload_n 1, 1) := by decide +kernel
theorem dX3_payFor_72 : decode cX3_payFor 72 = .ok (.imul, 1) := by decide +kernel
theorem dX3_payFor_73 : decode cX3_payFor 73 = .ok (.iadd, 1) := by decide +kernel
theorem dX3_payFor_74 : decode cX3_payFor 74 = .ok (.istore_n 2, 1) := by decide +kernel
theorem dX3_payFor_75 : decode cX3_payFor 75 = .ok (.goto 68, 3) := by decide +kernel
theorem dX3_payFor_143 : decode cX3_payFor 143 = .ok (.iinc 3 1, 3) := by decide +kernel
theorem dX3_payFor_146 : decode cX3_payFor 146 = .ok (.goto (-142), 3) := by decide +kernel
theorem dX3_payFor_78 : decode cX3_payFor 78 = .ok (.iload_n 2, 1) := by decide +kernel
theorem dX3_payFor_79 : decode cX3_payFor 79 = .ok (.iload_n 1, 1) := by decide +kernel
theorem dX3_payFor_80 : decode cX3_payFor 80 = .ok (.iload 4, 2) := by decide +kernel
theorem dX3_payFor_82 : decode cX3_payFor 82 = .ok (.if_icmp .le 8, 3) := by decide +kernel
theorem dX3_payFor_90 : decode cX3_payFor 90 = .ok (.iconst 0, 1) := by decide +kernel
theorem dX3_payFor_91 : decode cX3_payFor 91 = .ok (.iadd, 1) := by decide +kernel
theorem dX3_payFor_92 : decode cX3_payFor 92 = .ok (.istore_n 2, 1) := by decide +kernel
theorem dX3_payFor_93 : decode cX3_payFor 93 = .ok (.goto 50, 3) := by decide +kernel
theorem dX3_payFor_85 : decode cX3_payFor 85 = .ok (.iload 5, 2) := by decide +kernel
theorem dX3_payFor_87 : decode cX3_payFor 87 = .ok (.goto 4, 3) := by decide +kernel
theorem dX3_payFor_96 : decode cX3_payFor 96 = .ok (.iload_n 2, 1) := by decide +kernel
theorem dX3_payFor_97 : decode cX3_payFor 97 = .ok (.iload_n 1, 1) := by decide +kernel
theorem dX3_payFor_98 : decode cX3_payFor 98 = .ok (.iload 4, 2) := by decide +kernel
theorem dX3_payFor_100 : decode cX3_payFor 100 = .ok (.if_icmp .ge 8, 3) := by decide +kernel
theorem dX3_payFor_108 : decode cX3_payFor 108 = .ok (.iconst 0, 1) := by decide +kernel
theorem dX3_payFor_109 : decode cX3_payFor 109 = .ok (.iadd, 1) := by decide +kernel
theorem dX3_payFor_110 : decode cX3_payFor 110 = .ok (.istore_n 2, 1) := by decide +kernel
theorem dX3_payFor_111 : decode cX3_payFor 111 = .ok (.goto 32, 3) := by decide +kernel
theorem dX3_payFor_103 : decode cX3_payFor 103 = .ok (.iload 5, 2) := by decide +kernel
theorem dX3_payFor_105 : decode cX3_payFor 105 = .ok (.goto 4, 3) := by decide +kernel
theorem dX3_payFor_114 : decode cX3_payFor 114 = .ok (.iload_n 2, 1) := by decide +kernel
theorem dX3_payFor_115 : decode cX3_payFor 115 = .ok (.iload_n 1, 1) := by decide +kernel
theorem dX3_payFor_116 : decode cX3_payFor 116 = .ok (.iconst 2, 1) := by decide +kernel
theorem dX3_payFor_117 : decode cX3_payFor 117 = .ok (.irem, 1) := by decide +kernel
theorem dX3_payFor_118 : decode cX3_payFor 118 = .ok (.iconst 1, 1) := by decide +kernel
theorem dX3_payFor_119 : decode cX3_payFor 119 = .ok (.if_icmp .ne 8, 3) := by decide +kernel
theorem dX3_payFor_127 : decode cX3_payFor 127 = .ok (.iconst 0, 1) := by decide +kernel
theorem dX3_payFor_128 : decode cX3_payFor 128 = .ok (.iadd, 1) := by decide +kernel
theorem dX3_payFor_129 : decode cX3_payFor 129 = .ok (.istore_n 2, 1) := by decide +kernel
theorem dX3_payFor_130 : decode cX3_payFor 130 = .ok (.goto 13, 3) := by decide +kernel
theorem dX3_payFor_122 : decode cX3_payFor 122 = .ok (.iload 4, 2) := by decide +kernel
theorem dX3_payFor_124 : decode cX3_payFor 124 = .ok (.goto 4, 3) := by decide +kernel
theorem dX3_payFor_133 : decode cX3_payFor 133 = .ok (.iload_n 2, 1) := by decide +kernel
theorem dX3_payFor_134 : decode cX3_payFor 134 = .ok (.iload 4, 2) := by decide +kernel
theorem dX3_payFor_136 : decode cX3_payFor 136 = .ok (.invokestatic 27, 3) := by decide +kernel
theorem w_692 : (Cond.methodLink "GooseBorder$Law" (27 : Nat) ({ cls := "java/lang/Math", name := "min", desc := "(II)I" } : MethodName)) ∈ gb_wA := gb_t3 212 rfl rfl
theorem dX3_payFor_139 : decode cX3_payFor 139 = .ok (.istore_n 2, 1) := by decide +kernel
theorem dX3_payFor_140 : decode cX3_payFor 140 = .ok (.goto 3, 3) := by decide +kernel
def cs_Law_payFor_L_4 (n : Nat) : Nat → gb_S → Nat → Int32 → Int32 → Int32 → gb_CR Int32
  | 0, _, _, _, _, _ => none
  | mm + 1, σ, v0, v1, v2, v3 => gb_kk (gb_kL v0) (gb_cd (cs_Lines_size_L n σ v0) (fun s_3 r_4 => (if r_4 ≤ v3 then some (s_3, v2) else gb_cd (cs_Lines_cell_L n s_3 v0 v3 1) (fun s_8 r_9 => gb_cd (cs_Lines_cell_L n s_8 v0 v3 2) (fun s_12 r_13 => gb_cd (cs_Lines_kind_L n s_12 v0 v3) (fun s_16 r_17 => (if r_17 = (0 : Int32) then gb_lt (v2 + (r_9 * v1)) (fun x_21 => gb_lt (v3 + 1) (fun x_22 => cs_Law_payFor_L_4 n mm s_16 v0 v1 x_21 x_22)) else (if r_17 = (1 : Int32) then (if v1 ≤ r_9 then gb_lt (v2 + 0) (fun x_25 => gb_lt (v3 + 1) (fun x_26 => cs_Law_payFor_L_4 n mm s_16 v0 v1 x_25 x_26)) else gb_lt (v2 + r_13) (fun x_27 => gb_lt (v3 + 1) (fun x_28 => cs_Law_payFor_L_4 n mm s_16 v0 v1 x_27 x_28))) else (if r_17 = (2 : Int32) then (if r_9 ≤ v1 then gb_lt (v2 + 0) (fun x_31 => gb_lt (v3 + 1) (fun x_32 => cs_Law_payFor_L_4 n mm s_16 v0 v1 x_31 x_32)) else gb_lt (v2 + r_13) (fun x_33 => gb_lt (v3 + 1) (fun x_34 => cs_Law_payFor_L_4 n mm s_16 v0 v1 x_33 x_34))) else (if r_17 = (3 : Int32) then gb_lt (v1 - v1 / 2 * 2) (fun x_36 => (if x_36 = 1 then gb_lt (v2 + r_9) (fun x_40 => gb_lt (v3 + 1) (fun x_41 => cs_Law_payFor_L_4 n mm s_16 v0 v1 x_40 x_41)) else gb_lt (v2 + 0) (fun x_38 => gb_lt (v3 + 1) (fun x_39 => cs_Law_payFor_L_4 n mm s_16 v0 v1 x_38 x_39)))) else (if r_17 = (4 : Int32) then gb_lt (if r_9 < v2 then r_9 else v2) (fun x_43 => gb_lt (v3 + 1) (fun x_44 => cs_Law_payFor_L_4 n mm s_16 v0 v1 x_43 x_44)) else gb_lt (v3 + 1) (fun x_45 => cs_Law_payFor_L_4 n mm s_16 v0 v1 v2 x_45))))))))))))
def cs_Law_payFor_L (n : Nat) (σ : gb_S) (k0 : Nat) (p1 : Int32) : gb_CR Int32 := gb_kk (gb_kL k0) (cs_Law_payFor_L_4 n n σ k0 p1 0 0)
set_option maxHeartbeats 8000000 in
set_option maxRecDepth 100000 in
theorem cc_Law_payFor_L (l : Launch) (D : va_G) (cT : Nat → ClassId) (tt : Nat → Nat) (b1 b : Nat) (hb1 : b1 ≤ b) (n : Nat) (σ : gb_S) (k0 : Nat) (p1 : Int32) (σE : gb_S) (rE : Int32) (h : cs_Law_payFor_L n σ k0 p1 = some (σE, rE)) : Met l yX3_payFor (.code yX3_payFor cX3_payFor 6 (some FieldType.int) :: gb_wA) ({ frames := 2, cells := 0, slots := 0, locals := 43 }) (gb_Pc D cT tt b1 [.ref (b + k0), .int p1] (fun h => va_P D vwCl (gb_wl b (gb_CW cT b σ)) h)) (gb_Qi (fun r h => r = rE ∧ va_P D vwCl (gb_wl b (gb_CW cT b σE)) h) (gb_fr b 135)) 0 0 (gb_fr b 135) := by
  refine Met.ofW (cc := cX3_payFor) (maxL := 6) (ret := (some FieldType.int)) (by decide) rfl ?_
  intro p e s m args below meth c s₁ B hml hv
  obtain ⟨rfl, hSt, hP⟩ := hv
  have hx := B.exec
  have hb := B.bytes
  have hr := B.returns
  have hts := atoms_spec (ws := .code yX3_payFor cX3_payFor 6 (some FieldType.int) :: gb_wA) B.pre
  have hq : ∀ w ∈ gb_wA, w.before _ s = true := fun w h => hts w (List.mem_cons_of_mem _ h)
  have hown : s.vm.findClass RX3 = some m.cls := findClass_of_methodNamed B.named
  have hlocks := B.notSynchronized
  clear B hts
  have hK := hSt.1
  have hS : va_S (gb_fr b 135) s.heap s.heap [] := va_S.rf
  have hl := lv_entry ([.ref (b + k0), .int p1]) (n := 6) (Nat.le_of_ble_eq_true rfl)
  rw [lg_entry_eq]
  generalize (lg_sl ([.ref (b + k0), .int p1]) ++ List.replicate (6 - (lg_sl ([.ref (b + k0), .int p1])).length) Slot.unset).toArray = ls at hl ⊢
  replace hl : lv_has ls 6 [(0, .ref (b + k0)), (1, .int p1)] := hl
  have L4_1 : ∀ (mm : Nat) (σ : gb_S) (v0 : Nat) (v1 : Int32) (v2 : Int32) (v3 : Int32) (H : Heap) (locs : List Loc) (ls : Array Slot), cs_Law_payFor_L_4 n mm σ v0 v1 v2 v3 = some (σE, rE) → va_P D vwCl (gb_wl b (gb_CW cT b σ)) H → va_S (gb_fr b 135) s.heap H locs → lv_has ls 6 [(0, .ref (b + v0)), (1, .int v1), (2, .int v2), (3, .int v3)] → W p l e (headSpec (.code yX3_payFor cX3_payFor 6 (some FieldType.int) :: gb_wA) ({ frames := 2, cells := 0, slots := 0, locals := 43 })).room s m ([.ref (b + k0), .int p1]).toArray below meth c H locs 0 0 (MQ below (gb_Qi (fun r h => r = rE ∧ va_P D vwCl (gb_wl b (gb_CW cT b σE)) h) (gb_fr b 135)) ([.ref (b + k0), .int p1]).toArray s 0 0 (gb_fr b 135)) (F0 m 4 ls []) := by
    clear h hP hS hl ls
    intro mm
    induction mm with
    | zero =>
      intro σ v0 v1 v2 v3 H locs ls h
      cases h
    | succ mm ih =>
      intro σ v0 v1 v2 v3 H locs ls h hP hS hl
      rw [cs_Law_payFor_L_4] at h
      obtain ⟨z_2, h⟩ := gb_kk_s h
      refine lv_iload_n hx hb dX3_payFor_4 rfl (lv_at hl 3 rfl) ?_
      refine lv_aload_n hx hb dX3_payFor_5 rfl (lv_at hl 0 rfl) ?_
      obtain ⟨s_3, r_4, z_5, h⟩ := gb_cd_s h
      refine gb_calli (va_runU (x := ⟨"GooseBorder$Law", "size", "()I"⟩) (C := RX3) (owner := "GooseBorder$Lines") (As := []) (rest := [.int v3]) ⟨hx, hb, hml, hown, hq⟩ (cc_Lines_size_L l D cT tt b1 b hb1 n σ v0 s_3 r_4 z_5) (va_cwU (owner := "GooseBorder$Lines") (C := RX3) 0 hq (gb_gU w_679 w_680 w_681 w_484 w_6 w_489) rfl rfl rfl rfl (by decide +kernel) ⟨Nat.le_of_ble_eq_true rfl, Nat.le_of_ble_eq_true rfl⟩) (gb_preV (r := (RX3, TX3, 4)) (ci := 3) (q0 := v0) hSt hP rfl (gb_at b (gb_cL z_2).1) hS (fun q h => Nat.le_trans hb1 h.1) hP) rfl rfl hl.1 rfl (lv_room (Nat.le_of_ble_eq_true rfl)) dX3_payFor_6 ⟨Nat.le_of_ble_eq_true rfl, Nat.le_of_ble_eq_true rfl⟩) hS (fun _ h => h) (fun _ h => h) (fun q_6 H locs hY hk hS => ?_)
      obtain ⟨hq_6, hP⟩ := hY
      replace hq_6 := hq_6.symm
      subst hq_6
      refine lv_icmp_ge (tgt := 149) hx hb dX3_payFor_9 (by decide) (fun c_7 => ?_) (fun c_7 => ?_)
      · rw [if_pos c_7] at h
        refine lv_iload_n hx hb dX3_payFor_149 rfl (lv_at hl 2 rfl) ?_
        obtain ⟨e1, e2⟩ := gb_eq2 h
        exact W.iret (v := v2) hx hb hr (fun t ht hW => gb_ri ht ⟨e2, by rw [← e1]; exact hP⟩ hS) hS.2.2 dX3_payFor_150
      · rw [if_neg c_7] at h
        refine lv_aload_n hx hb dX3_payFor_12 rfl (lv_at hl 0 rfl) ?_
        refine lv_iload_n hx hb dX3_payFor_13 rfl (lv_at hl 3 rfl) ?_
        refine lv_iconst (v := 1) hx hb dX3_payFor_14 (by decide) ?_
        obtain ⟨s_8, r_9, z_10, h⟩ := gb_cd_s h
        refine gb_calli (va_runU (x := ⟨"GooseBorder$Law", "cell", "(II)I"⟩) (C := RX3) (owner := "GooseBorder$Lines") (As := [.int v3, .int 1]) (rest := []) ⟨hx, hb, hml, hown, hq⟩ (cc_Lines_cell_L l D cT tt b1 b hb1 n s_3 v0 v3 1 s_8 r_9 z_10) (va_cwU (owner := "GooseBorder$Lines") (C := RX3) 2 hq (gb_gU w_682 w_683 w_684 w_546 w_6 w_547) rfl rfl rfl rfl (by decide +kernel) ⟨Nat.le_of_ble_eq_true rfl, Nat.le_of_ble_eq_true rfl⟩) (gb_preV (r := (RX3, TX3, 4)) (ci := 3) (q0 := v0) hSt hP rfl (gb_at b (gb_cL z_2).1) hS (fun q h => Nat.le_trans hb1 h.1) hP) rfl rfl hl.1 rfl (lv_room (Nat.le_of_ble_eq_true rfl)) dX3_payFor_15 ⟨Nat.le_of_ble_eq_true rfl, Nat.le_of_ble_eq_true rfl⟩) hS (fun _ h => h) (fun _ h => h) (fun q_11 H locs hY hk hS => ?_)
        obtain ⟨hq_11, hP⟩ := hY
        replace hq_11 := hq_11.symm
        subst hq_11
        refine lv_istore (lv' := [(4, .int r_9), (0, .ref (b + v0)), (1, .int v1), (2, .int v2), (3, .int v3)]) hx hb dX3_payFor_18 hl (by decide) rfl (fun ls hl => ?_)
        refine lv_aload_n hx hb dX3_payFor_20 rfl (lv_at hl 1 rfl) ?_
        refine lv_iload_n hx hb dX3_payFor_21 rfl (lv_at hl 4 rfl) ?_
        refine lv_iconst (v := 2) hx hb dX3_payFor_22 (by decide) ?_
        obtain ⟨s_12, r_13, z_14, h⟩ := gb_cd_s h
        refine gb_calli (va_runU (x := ⟨"GooseBorder$Law", "cell", "(II)I"⟩) (C := RX3) (owner := "GooseBorder$Lines") (As := [.int v3, .int 2]) (rest := []) ⟨hx, hb, hml, hown, hq⟩ (cc_Lines_cell_L l D cT tt b1 b hb1 n s_8 v0 v3 2 s_12 r_13 z_14) (va_cwU (owner := "GooseBorder$Lines") (C := RX3) 2 hq (gb_gU w_682 w_683 w_684 w_546 w_6 w_547) rfl rfl rfl rfl (by decide +kernel) ⟨Nat.le_of_ble_eq_true rfl, Nat.le_of_ble_eq_true rfl⟩) (gb_preV (r := (RX3, TX3, 4)) (ci := 3) (q0 := v0) hSt hP rfl (gb_at b (gb_cL z_2).1) hS (fun q h => Nat.le_trans hb1 h.1) hP) rfl rfl hl.1 rfl (lv_room (Nat.le_of_ble_eq_true rfl)) dX3_payFor_23 ⟨Nat.le_of_ble_eq_true rfl, Nat.le_of_ble_eq_true rfl⟩) hS (fun _ h => h) (fun _ h => h) (fun q_15 H locs hY hk hS => ?_)
        obtain ⟨hq_15, hP⟩ := hY
        replace hq_15 := hq_15.symm
        subst hq_15
        refine lv_istore (lv' := [(5, .int r_13), (4, .int r_9), (0, .ref (b + v0)), (1, .int v1), (2, .int v2), (3, .int v3)]) hx hb dX3_payFor_26 hl (by decide) rfl (fun ls hl => ?_)
        refine lv_aload_n hx hb dX3_payFor_28 rfl (lv_at hl 2 rfl) ?_
        refine lv_iload_n hx hb dX3_payFor_29 rfl (lv_at hl 5 rfl) ?_
        obtain ⟨s_16, r_17, z_18, h⟩ := gb_cd_s h
        refine gb_calli (va_runU (x := ⟨"GooseBorder$Law", "kind", "(I)I"⟩) (C := RX3) (owner := "GooseBorder$Lines") (As := [.int v3]) (rest := []) ⟨hx, hb, hml, hown, hq⟩ (cc_Lines_kind_L l D cT tt b1 b hb1 n s_12 v0 v3 s_16 r_17 z_18) (va_cwU (owner := "GooseBorder$Lines") (C := RX3) 1 hq (gb_gU w_685 w_686 w_688 w_689 w_6 w_690) rfl rfl rfl rfl (by decide +kernel) ⟨Nat.le_of_ble_eq_true rfl, Nat.le_of_ble_eq_true rfl⟩) (gb_preV (r := (RX3, TX3, 4)) (ci := 3) (q0 := v0) hSt hP rfl (gb_at b (gb_cL z_2).1) hS (fun q h => Nat.le_trans hb1 h.1) hP) rfl rfl hl.1 rfl (lv_room (Nat.le_of_ble_eq_true rfl)) dX3_payFor_30 ⟨Nat.le_of_ble_eq_true rfl, Nat.le_of_ble_eq_true rfl⟩) hS (fun _ h => h) (fun _ h => h) (fun q_19 H locs hY hk hS => ?_)
        obtain ⟨hq_19, hP⟩ := hY
        replace hq_19 := hq_19.symm
        subst hq_19
        by_cases c_20 : r_17 = (0 : Int32)
        · rw [if_pos c_20] at h
          refine lv_tableIn (off := 35) (tgt := 68) hx hb dX3_payFor_33 (by rw [c_20]; decide) (by rw [c_20]; decide) (by rw [c_20]; decide) (by decide) ?_
          refine lv_iload_n hx hb dX3_payFor_68 rfl (lv_at hl 4 rfl) ?_
          refine lv_iload hx hb dX3_payFor_69 (lv_at hl 1 rfl) ?_
          refine lv_iload_n hx hb dX3_payFor_71 rfl (lv_at hl 3 rfl) ?_
          refine lv_imul hx hb dX3_payFor_72 ?_
          refine lv_iadd hx hb dX3_payFor_73 ?_
          refine lv_topi (fun x_21 ex_21 => ?_)
          replace h := gb_lt_s ex_21 h
          refine lv_istore_n (lv' := [(2, .int x_21), (5, .int r_13), (4, .int r_9), (0, .ref (b + v0)), (1, .int v1), (3, .int v3)]) hx hb dX3_payFor_74 rfl hl (by decide) rfl (fun ls hl => ?_)
          refine lv_goto (tgt := 143) hx hb dX3_payFor_75 (by decide) ?_
          obtain ⟨x_22, ex_22⟩ : ∃ q, q = (v3 + 1) := ⟨_, rfl⟩
          replace h := gb_lt_s ex_22 h
          refine lv_iinc (v := x_22) (lv' := [(3, .int x_22), (2, .int x_21), (5, .int r_13), (4, .int r_9), (0, .ref (b + v0)), (1, .int v1)]) hx hb dX3_payFor_143 hl (k := 5) rfl (by rw [ex_22]; rfl) (by decide) rfl (fun ls hl => ?_)
          refine lv_goto (tgt := 4) hx hb dX3_payFor_146 (by decide) ?_
          exact ih _ _ _ _ _ _ _ _ h hP hS (lv_sub hl [4, 5, 1, 0] rfl)
        rw [if_neg c_20] at h
        by_cases c_23 : r_17 = (1 : Int32)
        · rw [if_pos c_23] at h
          refine lv_tableIn (off := 45) (tgt := 78) hx hb dX3_payFor_33 (by rw [c_23]; decide) (by rw [c_23]; decide) (by rw [c_23]; decide) (by decide) ?_
          refine lv_iload_n hx hb dX3_payFor_78 rfl (lv_at hl 4 rfl) ?_
          refine lv_iload_n hx hb dX3_payFor_79 rfl (lv_at hl 3 rfl) ?_
          refine lv_iload hx hb dX3_payFor_80 (lv_at hl 1 rfl) ?_
          refine lv_icmp_le (tgt := 90) hx hb dX3_payFor_82 (by decide) (fun c_24 => ?_) (fun c_24 => ?_)
          · rw [if_pos c_24] at h
            refine lv_iconst (v := 0) hx hb dX3_payFor_90 (by decide) ?_
            refine lv_iadd hx hb dX3_payFor_91 ?_
            refine lv_topi (fun x_25 ex_25 => ?_)
            replace h := gb_lt_s ex_25 h
            refine lv_istore_n (lv' := [(2, .int x_25), (5, .int r_13), (4, .int r_9), (0, .ref (b + v0)), (1, .int v1), (3, .int v3)]) hx hb dX3_payFor_92 rfl hl (by decide) rfl (fun ls hl => ?_)
            refine lv_goto (tgt := 143) hx hb dX3_payFor_93 (by decide) ?_
            obtain ⟨x_26, ex_26⟩ : ∃ q, q = (v3 + 1) := ⟨_, rfl⟩
            replace h := gb_lt_s ex_26 h
            refine lv_iinc (v := x_26) (lv' := [(3, .int x_26), (2, .int x_25), (5, .int r_13), (4, .int r_9), (0, .ref (b + v0)), (1, .int v1)]) hx hb dX3_payFor_143 hl (k := 5) rfl (by rw [ex_26]; rfl) (by decide) rfl (fun ls hl => ?_)
            refine lv_goto (tgt := 4) hx hb dX3_payFor_146 (by decide) ?_
            exact ih _ _ _ _ _ _ _ _ h hP hS (lv_sub hl [4, 5, 1, 0] rfl)
          · rw [if_neg c_24] at h
            refine lv_iload hx hb dX3_payFor_85 (lv_at hl 0 rfl) ?_
            refine lv_goto (tgt := 91) hx hb dX3_payFor_87 (by decide) ?_
            refine lv_iadd hx hb dX3_payFor_91 ?_
            refine lv_topi (fun x_27 ex_27 => ?_)
            replace h := gb_lt_s ex_27 h
            refine lv_istore_n (lv' := [(2, .int x_27), (5, .int r_13), (4, .int r_9), (0, .ref (b + v0)), (1, .int v1), (3, .int v3)]) hx hb dX3_payFor_92 rfl hl (by decide) rfl (fun ls hl => ?_)
            refine lv_goto (tgt := 143) hx hb dX3_payFor_93 (by decide) ?_
            obtain ⟨x_28, ex_28⟩ : ∃ q, q = (v3 + 1) := ⟨_, rfl⟩
            replace h := gb_lt_s ex_28 h
            refine lv_iinc (v := x_28) (lv' := [(3, .int x_28), (2, .int x_27), (5, .int r_13), (4, .int r_9), (0, .ref (b + v0)), (1, .int v1)]) hx hb dX3_payFor_143 hl (k := 5) rfl (by rw [ex_28]; rfl) (by decide) rfl (fun ls hl => ?_)
            refine lv_goto (tgt := 4) hx hb dX3_payFor_146 (by decide) ?_
            exact ih _ _ _ _ _ _ _ _ h hP hS (lv_sub hl [4, 5, 1, 0] rfl)
        rw [if_neg c_23] at h
        by_cases c_29 : r_17 = (2 : Int32)
        · rw [if_pos c_29] at h
          refine lv_tableIn (off := 63) (tgt := 96) hx hb dX3_payFor_33 (by rw [c_29]; decide) (by rw [c_29]; decide) (by rw [c_29]; decide) (by decide) ?_
          refine lv_iload_n hx hb dX3_payFor_96 rfl (lv_at hl 4 rfl) ?_
          refine lv_iload_n hx hb dX3_payFor_97 rfl (lv_at hl 3 rfl) ?_
          refine lv_iload hx hb dX3_payFor_98 (lv_at hl 1 rfl) ?_
          refine lv_icmp_ge (tgt := 108) hx hb dX3_payFor_100 (by decide) (fun c_30 => ?_) (fun c_30 => ?_)
          · rw [if_pos c_30] at h
            refine lv_iconst (v := 0) hx hb dX3_payFor_108 (by decide) ?_
            refine lv_iadd hx hb dX3_payFor_109 ?_
            refine lv_topi (fun x_31 ex_31 => ?_)
            replace h := gb_lt_s ex_31 h
            refine lv_istore_n (lv' := [(2, .int x_31), (5, .int r_13), (4, .int r_9), (0, .ref (b + v0)), (1, .int v1), (3, .int v3)]) hx hb dX3_payFor_110 rfl hl (by decide) rfl (fun ls hl => ?_)
            refine lv_goto (tgt := 143) hx hb dX3_payFor_111 (by decide) ?_
            obtain ⟨x_32, ex_32⟩ : ∃ q, q = (v3 + 1) := ⟨_, rfl⟩
            replace h := gb_lt_s ex_32 h
            refine lv_iinc (v := x_32) (lv' := [(3, .int x_32), (2, .int x_31), (5, .int r_13), (4, .int r_9), (0, .ref (b + v0)), (1, .int v1)]) hx hb dX3_payFor_143 hl (k := 5) rfl (by rw [ex_32]; rfl) (by decide) rfl (fun ls hl => ?_)
            refine lv_goto (tgt := 4) hx hb dX3_payFor_146 (by decide) ?_
            exact ih _ _ _ _ _ _ _ _ h hP hS (lv_sub hl [4, 5, 1, 0] rfl)
          · rw [if_neg c_30] at h
            refine lv_iload hx hb dX3_payFor_103 (lv_at hl 0 rfl) ?_
            refine lv_goto (tgt := 109) hx hb dX3_payFor_105 (by decide) ?_
            refine lv_iadd hx hb dX3_payFor_109 ?_
            refine lv_topi (fun x_33 ex_33 => ?_)
            replace h := gb_lt_s ex_33 h
            refine lv_istore_n (lv' := [(2, .int x_33), (5, .int r_13), (4, .int r_9), (0, .ref (b + v0)), (1, .int v1), (3, .int v3)]) hx hb dX3_payFor_110 rfl hl (by decide) rfl (fun ls hl => ?_)
            refine lv_goto (tgt := 143) hx hb dX3_payFor_111 (by decide) ?_
            obtain ⟨x_34, ex_34⟩ : ∃ q, q = (v3 + 1) := ⟨_, rfl⟩
            replace h := gb_lt_s ex_34 h
            refine lv_iinc (v := x_34) (lv' := [(3, .int x_34), (2, .int x_33), (5, .int r_13), (4, .int r_9), (0, .ref (b + v0)), (1, .int v1)]) hx hb dX3_payFor_143 hl (k := 5) rfl (by rw [ex_34]; rfl) (by decide) rfl (fun ls hl => ?_)
            refine lv_goto (tgt := 4) hx hb dX3_payFor_146 (by decide) ?_
            exact ih _ _ _ _ _ _ _ _ h hP hS (lv_sub hl [4, 5, 1, 0] rfl)
        rw [if_neg c_29] at h
        by_cases c_35 : r_17 = (3 : Int32)
        · rw [if_pos c_35] at h
          refine lv_tableIn (off := 81) (tgt := 114) hx hb dX3_payFor_33 (by rw [c_35]; decide) (by rw [c_35]; decide) (by rw [c_35]; decide) (by decide) ?_
          refine lv_iload_n hx hb dX3_payFor_114 rfl (lv_at hl 4 rfl) ?_
          refine lv_iload_n hx hb dX3_payFor_115 rfl (lv_at hl 3 rfl) ?_
          refine lv_iconst (v := 2) hx hb dX3_payFor_116 (by decide) ?_
          refine lv_irem hx hb dX3_payFor_117 (by decide) ?_
          refine lv_topi (fun x_36 ex_36 => ?_)
          replace h := gb_lt_s ex_36 h
          refine lv_iconst (v := 1) hx hb dX3_payFor_118 (by decide) ?_
          refine lv_icmp_ne (tgt := 127) hx hb dX3_payFor_119 (by decide) (fun c_37 => ?_) (fun c_37 => ?_)
          · rw [if_neg c_37] at h
            refine lv_iconst (v := 0) hx hb dX3_payFor_127 (by decide) ?_
            refine lv_iadd hx hb dX3_payFor_128 ?_
            refine lv_topi (fun x_38 ex_38 => ?_)
            replace h := gb_lt_s ex_38 h
            refine lv_istore_n (lv' := [(2, .int x_38), (5, .int r_13), (4, .int r_9), (0, .ref (b + v0)), (1, .int v1), (3, .int v3)]) hx hb dX3_payFor_129 rfl hl (by decide) rfl (fun ls hl => ?_)
            refine lv_goto (tgt := 143) hx hb dX3_payFor_130 (by decide) ?_
            obtain ⟨x_39, ex_39⟩ : ∃ q, q = (v3 + 1) := ⟨_, rfl⟩
            replace h := gb_lt_s ex_39 h
            refine lv_iinc (v := x_39) (lv' := [(3, .int x_39), (2, .int x_38), (5, .int r_13), (4, .int r_9), (0, .ref (b + v0)), (1, .int v1)]) hx hb dX3_payFor_143 hl (k := 5) rfl (by rw [ex_39]; rfl) (by decide) rfl (fun ls hl => ?_)
            refine lv_goto (tgt := 4) hx hb dX3_payFor_146 (by decide) ?_
            exact ih _ _ _ _ _ _ _ _ h hP hS (lv_sub hl [4, 5, 1, 0] rfl)
          · rw [if_pos c_37] at h
            refine lv_iload hx hb dX3_payFor_122 (lv_at hl 1 rfl) ?_
            refine lv_goto (tgt := 128) hx hb dX3_payFor_124 (by decide) ?_
            refine lv_iadd hx hb dX3_payFor_128 ?_
            refine lv_topi (fun x_40 ex_40 => ?_)
            replace h := gb_lt_s ex_40 h
            refine lv_istore_n (lv' := [(2, .int x_40), (5, .int r_13), (4, .int r_9), (0, .ref (b + v0)), (1, .int v1), (3, .int v3)]) hx hb dX3_payFor_129 rfl hl (by decide) rfl (fun ls hl => ?_)
            refine lv_goto (tgt := 143) hx hb dX3_payFor_130 (by decide) ?_
            obtain ⟨x_41, ex_41⟩ : ∃ q, q = (v3 + 1) := ⟨_, rfl⟩
            replace h := gb_lt_s ex_41 h
            refine lv_iinc (v := x_41) (lv' := [(3, .int x_41), (2, .int x_40), (5, .int r_13), (4, .int r_9), (0, .ref (b + v0)), (1, .int v1)]) hx hb dX3_payFor_143 hl (k := 5) rfl (by rw [ex_41]; rfl) (by decide) rfl (fun ls hl => ?_)
            refine lv_goto (tgt := 4) hx hb dX3_payFor_146 (by decide) ?_
            exact ih _ _ _ _ _ _ _ _ h hP hS (lv_sub hl [4, 5, 1, 0] rfl)
        rw [if_neg c_35] at h
        by_cases c_42 : r_17 = (4 : Int32)
        · rw [if_pos c_42] at h
          refine lv_tableIn (off := 100) (tgt := 133) hx hb dX3_payFor_33 (by rw [c_42]; decide) (by rw [c_42]; decide) (by rw [c_42]; decide) (by decide) ?_
          refine lv_iload_n hx hb dX3_payFor_133 rfl (lv_at hl 4 rfl) ?_
          refine lv_iload hx hb dX3_payFor_134 (lv_at hl 1 rfl) ?_
          refine va_mmin hx hb (hml.trans hl.1.symm) hown (hq _ w_692) (hq _ w_367) (hq _ w_5) (hq _ w_368) (Nat.le_of_ble_eq_true rfl) (Nat.le_of_ble_eq_true rfl) (Nat.le_of_ble_eq_true rfl) (Nat.le_of_ble_eq_true rfl) dX3_payFor_136 ?_
          refine lv_topi (fun x_43 ex_43 => ?_)
          replace h := gb_lt_s ex_43 h
          refine lv_istore_n (lv' := [(2, .int x_43), (5, .int r_13), (4, .int r_9), (0, .ref (b + v0)), (1, .int v1), (3, .int v3)]) hx hb dX3_payFor_139 rfl hl (by decide) rfl (fun ls hl => ?_)
          refine lv_goto (tgt := 143) hx hb dX3_payFor_140 (by decide) ?_
          obtain ⟨x_44, ex_44⟩ : ∃ q, q = (v3 + 1) := ⟨_, rfl⟩
          replace h := gb_lt_s ex_44 h
          refine lv_iinc (v := x_44) (lv' := [(3, .int x_44), (2, .int x_43), (5, .int r_13), (4, .int r_9), (0, .ref (b + v0)), (1, .int v1)]) hx hb dX3_payFor_143 hl (k := 5) rfl (by rw [ex_44]; rfl) (by decide) rfl (fun ls hl => ?_)
          refine lv_goto (tgt := 4) hx hb dX3_payFor_146 (by decide) ?_
          exact ih _ _ _ _ _ _ _ _ h hP hS (lv_sub hl [4, 5, 1, 0] rfl)
        rw [if_neg c_42] at h
        refine lv_tableOut (tgt := 143) hx hb dX3_payFor_33 (by have := lv_neT c_20 (a := 0) rfl; have := lv_neT c_23 (a := 1) rfl; have := lv_neT c_29 (a := 2) rfl; have := lv_neT c_35 (a := 3) rfl; have := lv_neT c_42 (a := 4) rfl; omega) (by decide) ?_
        obtain ⟨x_45, ex_45⟩ : ∃ q, q = (v3 + 1) := ⟨_, rfl⟩
        replace h := gb_lt_s ex_45 h
        refine lv_iinc (v := x_45) (lv' := [(3, .int x_45), (5, .int r_13), (4, .int r_9), (0, .ref (b + v0)), (1, .int v1), (2, .int v2)]) hx hb dX3_payFor_143 hl (k := 5) rfl (by rw [ex_45]; rfl) (by decide) rfl (fun ls hl => ?_)
        refine lv_goto (tgt := 4) hx hb dX3_payFor_146 (by decide) ?_
        exact ih _ _ _ _ _ _ _ _ h hP hS (lv_sub hl [3, 4, 5, 0] rfl)
  unfold cs_Law_payFor_L at h
  obtain ⟨z_1, h⟩ := gb_kk_s h
  refine lv_iconst (v := 0) hx hb dX3_payFor_0 (by decide) ?_
  refine lv_istore_n (lv' := [(2, .int 0), (0, .ref (b + k0)), (1, .int p1)]) hx hb dX3_payFor_1 rfl hl (by decide) rfl (fun ls hl => ?_)
  refine lv_iconst (v := 0) hx hb dX3_payFor_2 (by decide) ?_
  refine lv_istore_n (lv' := [(3, .int 0), (2, .int 0), (0, .ref (b + k0)), (1, .int p1)]) hx hb dX3_payFor_3 rfl hl (by decide) rfl (fun ls hl => ?_)
  exact L4_1 n _ _ _ _ _ _ _ _ h hP hS (lv_sub hl [2, 3, 1, 0] rfl)
theorem w_678 : (Cond.code ({ cls := "GooseBorder$Law", name := "payFor", desc := "(I)I" } : MethodName) prog_5_method_2_code (6 : Nat) (Option.some FieldType.int)) ∈ gb_wA := gb_t3 198 rfl rfl
theorem w_675 : (Cond.methodLink "GooseBorder" (164 : Nat) ({ cls := "GooseBorder$Law", name := "payFor", desc := "(I)I" } : MethodName)) ∈ gb_wA := gb_t3 195 rfl rfl
theorem w_676 : (Cond.instanceMethod ({ cls := "GooseBorder$Law", name := "payFor", desc := "(I)I" } : MethodName)) ∈ gb_wA := gb_t3 196 rfl rfl
theorem w_677 : (Cond.selects "GooseBorder$Law" ({ cls := "GooseBorder$Law", name := "payFor", desc := "(I)I" } : MethodName) ({ cls := "GooseBorder$Law", name := "payFor", desc := "(I)I" } : MethodName)) ∈ gb_wA := gb_t3 197 rfl rfl
theorem dX11_pays_28 : decode cX11_pays 28 = .ok (.ireturn, 1) := by decide +kernel
def cs_Face_pays (n : Nat) (σ : gb_S) (p1 : Int32) (p2 : Int32) : gb_CR Int32 := gb_cd (cs_Face_lawAt n σ p1) (fun s_1 r_2 => (if r_2 = 0 then some (s_1, (-1)) else gb_kk (gb_kL r_2) ((if p2 < 0 then some (s_1, (-1)) else (if p2 ≤ 9999 then gb_cd (cs_Law_payFor_L n s_1 r_2 p2) (fun s_9 r_10 => some (s_9, r_10)) else some (s_1, (-1)))))))
set_option maxHeartbeats 8000000 in
set_option maxRecDepth 100000 in
theorem cc_Face_pays (l : Launch) (D : va_G) (cT : Nat → ClassId) (tt : Nat → Nat) (b1 b : Nat) (hb1 : b1 ≤ b) (n : Nat) (σ : gb_S) (p1 : Int32) (p2 : Int32) (σE : gb_S) (rE : Int32) (h : cs_Face_pays n σ p1 p2 = some (σE, rE)) : Met l yX11_pays (.code yX11_pays cX11_pays 4 (some FieldType.int) :: gb_wA) ({ frames := 3, cells := 0, slots := 0, locals := 68 }) (gb_Pc D cT tt b1 [.ref (b + 0), .int p1, .int p2] (fun h => va_P D vwCl (gb_wl b (gb_CW cT b σ)) h)) (gb_Qi (fun r h => r = rE ∧ va_P D vwCl (gb_wl b (gb_CW cT b σE)) h) (gb_fr b 135)) 0 0 (gb_fr b 135) := by
  refine Met.ofW (cc := cX11_pays) (maxL := 4) (ret := (some FieldType.int)) (by decide) rfl ?_
  intro p e s m args below meth c s₁ B hml hv
  obtain ⟨rfl, hSt, hP⟩ := hv
  have hx := B.exec
  have hb := B.bytes
  have hr := B.returns
  have hts := atoms_spec (ws := .code yX11_pays cX11_pays 4 (some FieldType.int) :: gb_wA) B.pre
  have hq : ∀ w ∈ gb_wA, w.before _ s = true := fun w h => hts w (List.mem_cons_of_mem _ h)
  have hown : s.vm.findClass RX11 = some m.cls := findClass_of_methodNamed B.named
  have hlocks := B.notSynchronized
  clear B hts
  have hK := hSt.1
  have hS : va_S (gb_fr b 135) s.heap s.heap [] := va_S.rf
  have hl := lv_entry ([.ref (b + 0), .int p1, .int p2]) (n := 4) (Nat.le_of_ble_eq_true rfl)
  rw [lg_entry_eq]
  generalize (lg_sl ([.ref (b + 0), .int p1, .int p2]) ++ List.replicate (4 - (lg_sl ([.ref (b + 0), .int p1, .int p2])).length) Slot.unset).toArray = ls at hl ⊢
  replace hl : lv_has ls 4 [(0, .ref (b + 0)), (1, .int p1), (2, .int p2)] := hl
  unfold cs_Face_pays at h
  refine lv_aload_n hx hb dX11_pays_0 rfl (lv_at hl 0 rfl) ?_
  refine lv_iload_n hx hb dX11_pays_1 rfl (lv_at hl 1 rfl) ?_
  obtain ⟨s_1, r_2, z_3, h⟩ := gb_cd_s h
  refine gb_callq (va_runV (C := RX11) (As := [.int p1]) (rest := []) ⟨hx, hb, hml, hown, hq⟩ (cc_Face_lawAt l D cT tt b1 b hb1 n σ p1 s_1 r_2 z_3) (cwV 1 hq (gb_gV w_659 w_661 s_1_9 w_1 w_662) rfl rfl rfl (by decide +kernel) ⟨Nat.le_of_ble_eq_true rfl, Nat.le_of_ble_eq_true rfl⟩) (gb_preV (r := (RX11, TX11, 10)) (ci := 9) (q0 := 0) hSt hP rfl (gb_at b rfl) hS (fun q h => Nat.le_trans hb1 h.1) hP) rfl rfl hl.1 rfl (lv_room (Nat.le_of_ble_eq_true rfl)) dX11_pays_2 ⟨Nat.le_of_ble_eq_true rfl, Nat.le_of_ble_eq_true rfl⟩) hS (fun _ h => h) (fun _ h => h) (fun q_4 H locs hY hk hS => ?_)
  obtain ⟨hq_4, hP⟩ := hY
  subst hq_4
  rw [gb_onv]
  by_cases c_5 : r_2 = 0
  · rw [if_pos c_5] at h
    rw [gb_nv0 c_5]
    refine lv_astore_nN (lv' := [(3, .null), (0, .ref (b + 0)), (1, .int p1), (2, .int p2)]) hx hb dX11_pays_5 rfl hl (by decide) rfl (fun ls hl => ?_)
    refine lv_aload_nN hx hb dX11_pays_6 rfl (lv_at hl 0 rfl) ?_
    refine lv_ifnullN (tgt := 21) hx hb dX11_pays_7 (by decide) ?_
    refine lv_iconst (v := (-1)) hx hb dX11_pays_21 (by decide) ?_
    obtain ⟨e1, e2⟩ := gb_eq2 h
    exact W.iret (v := (-1)) hx hb hr (fun t ht hW => gb_ri ht ⟨e2, by rw [← e1]; exact hP⟩ hS) hS.2.2 dX11_pays_22
  rw [if_neg c_5] at h
  rw [gb_nv1 c_5]
  obtain ⟨z_6, h⟩ := gb_kk_s h
  refine lv_astore_n (lv' := [(3, .ref (b + r_2)), (0, .ref (b + 0)), (1, .int p1), (2, .int p2)]) hx hb dX11_pays_5 rfl hl (by decide) rfl (fun ls hl => ?_)
  refine lv_aload_n hx hb dX11_pays_6 rfl (lv_at hl 0 rfl) ?_
  refine lv_ifnull hx hb dX11_pays_7 ?_
  refine lv_iload_n hx hb dX11_pays_10 rfl (lv_at hl 3 rfl) ?_
  refine lv_if_lt (tgt := 21) hx hb dX11_pays_11 (by decide) (fun c_7 => ?_) (fun c_7 => ?_)
  · rw [if_pos c_7] at h
    refine lv_iconst (v := (-1)) hx hb dX11_pays_21 (by decide) ?_
    obtain ⟨e1, e2⟩ := gb_eq2 h
    exact W.iret (v := (-1)) hx hb hr (fun t ht hW => gb_ri ht ⟨e2, by rw [← e1]; exact hP⟩ hS) hS.2.2 dX11_pays_22
  · rw [if_neg c_7] at h
    refine lv_iload_n hx hb dX11_pays_14 rfl (lv_at hl 3 rfl) ?_
    refine lv_sipush (v := 9999) hx hb dX11_pays_15 (by decide) ?_
    refine lv_icmp_le (tgt := 23) hx hb dX11_pays_18 (by decide) (fun c_8 => ?_) (fun c_8 => ?_)
    · rw [if_pos c_8] at h
      refine lv_aload_n hx hb dX11_pays_23 rfl (lv_at hl 0 rfl) ?_
      refine lv_iload_n hx hb dX11_pays_24 rfl (lv_at hl 3 rfl) ?_
      obtain ⟨s_9, r_10, z_11, h⟩ := gb_cd_s h
      refine gb_calli (va_runV (C := RX3) (As := [.int p2]) (rest := []) ⟨hx, hb, hml, hown, hq⟩ (cc_Law_payFor_L l D cT tt b1 b hb1 n s_1 r_2 p2 s_9 r_10 z_11) (cwV 1 hq (gb_gV w_675 w_676 w_677 w_8 w_678) rfl rfl rfl (by decide +kernel) ⟨Nat.le_of_ble_eq_true rfl, Nat.le_of_ble_eq_true rfl⟩) (gb_preV (r := (RX3, TX3, 4)) (ci := 3) (q0 := r_2) hSt hP rfl (gb_at b (gb_cL z_6).1) hS (fun q h => Nat.le_trans hb1 h.1) hP) rfl rfl hl.1 rfl (lv_room (Nat.le_of_ble_eq_true rfl)) dX11_pays_25 ⟨Nat.le_of_ble_eq_true rfl, Nat.le_of_ble_eq_true rfl⟩) hS (fun _ h => h) (fun _ h => h) (fun q_12 H locs hY hk hS => ?_)
      obtain ⟨hq_12, hP⟩ := hY
      replace hq_12 := hq_12.symm
      subst hq_12
      obtain ⟨e1, e2⟩ := gb_eq2 h
      exact W.iret (v := r_10) hx hb hr (fun t ht hW => gb_ri ht ⟨e2, by rw [← e1]; exact hP⟩ hS) hS.2.2 dX11_pays_28
    · rw [if_neg c_8] at h
      refine lv_iconst (v := (-1)) hx hb dX11_pays_21 (by decide) ?_
      obtain ⟨e1, e2⟩ := gb_eq2 h
      exact W.iret (v := (-1)) hx hb hr (fun t ht hW => gb_ri ht ⟨e2, by rw [← e1]; exact hP⟩ hS) hS.2.2 dX11_pays_22
