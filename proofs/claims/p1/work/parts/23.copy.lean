theorem gb_3c {x : Int32} (h0 : ¬ x < 0) (h1 : x < 3) : x = 0 ∨ x = 1 ∨ x = 2 := by
  have h2 := Int32.le_iff_toInt_le.mp (Int32.not_lt.mp h0)
  have h3 := Int32.lt_iff_toInt_lt.mp h1
  have h4 : (0 : Int32).toInt = 0 := by decide
  have h5 : (3 : Int32).toInt = 3 := by decide
  have h6 : (1 : Int32).toInt = 1 := by decide
  have h7 : (2 : Int32).toInt = 2 := by decide
  rcases (show x.toInt = 0 ∨ x.toInt = 1 ∨ x.toInt = 2 by omega) with h | h | h
  · exact Or.inl (Int32.toInt_inj.mp (h.trans h4.symm))
  · exact Or.inr (Or.inl (Int32.toInt_inj.mp (h.trans h6.symm)))
  · exact Or.inr (Or.inr (Int32.toInt_inj.mp (h.trans h7.symm)))
theorem dX9_copyFrom_0 : decode cX9_copyFrom 0 = .ok (.aload_n 1, 1) := by decide +kernel
theorem dX9_copyFrom_1 : decode cX9_copyFrom 1 = .ok (.getfield 13, 3) := by decide +kernel
theorem dX9_copyFrom_4 : decode cX9_copyFrom 4 = .ok (.iconst 0, 1) := by decide +kernel
theorem dX9_copyFrom_5 : decode cX9_copyFrom 5 = .ok (.aload_n 0, 1) := by decide +kernel
theorem dX9_copyFrom_6 : decode cX9_copyFrom 6 = .ok (.getfield 13, 3) := by decide +kernel
theorem dX9_copyFrom_9 : decode cX9_copyFrom 9 = .ok (.iconst 0, 1) := by decide +kernel
theorem dX9_copyFrom_10 : decode cX9_copyFrom 10 = .ok (.aload_n 0, 1) := by decide +kernel
theorem dX9_copyFrom_11 : decode cX9_copyFrom 11 = .ok (.getfield 13, 3) := by decide +kernel
theorem dX9_copyFrom_14 : decode cX9_copyFrom 14 = .ok (.arraylength, 1) := by decide +kernel
theorem dX9_copyFrom_15 : decode cX9_copyFrom 15 = .ok (.aload_n 1, 1) := by decide +kernel
theorem dX9_copyFrom_16 : decode cX9_copyFrom 16 = .ok (.getfield 13, 3) := by decide +kernel
theorem dX9_copyFrom_19 : decode cX9_copyFrom 19 = .ok (.arraylength, 1) := by decide +kernel
theorem dX9_copyFrom_20 : decode cX9_copyFrom 20 = .ok (.invokestatic 19, 3) := by decide +kernel
theorem w_564 : (Cond.methodLink "GooseBorder$Sheet" (19 : Nat) ({ cls := "java/lang/Math", name := "min", desc := "(II)I" } : MethodName)) ∈ gb_wA := gb_t3 84 rfl rfl
theorem w_367 : (Cond.static ({ cls := "java/lang/Math", name := "min", desc := "(II)I" } : MethodName)) ∈ gb_wA := gb_t2 127 rfl rfl
theorem w_368 : (Cond.code ({ cls := "java/lang/Math", name := "min", desc := "(II)I" } : MethodName) prog_16_method_69_code (2 : Nat) (Option.some FieldType.int)) ∈ gb_wA := gb_t2 128 rfl rfl
theorem dX9_copyFrom_23 : decode cX9_copyFrom 23 = .ok (.invokestatic 22, 3) := by decide +kernel
theorem w_565 : (Cond.methodLink "GooseBorder$Sheet" (22 : Nat) ({ cls := "java/lang/System", name := "arraycopy", desc := "(Ljava/lang/Object;ILjava/lang/Object;II)V" } : MethodName)) ∈ gb_wA := gb_t3 85 rfl rfl
theorem w_517 : (Cond.native ({ cls := "java/lang/System", name := "arraycopy", desc := "(Ljava/lang/Object;ILjava/lang/Object;II)V" } : MethodName)) ∈ gb_wA := gb_t3 37 rfl rfl
theorem w_516 : (Cond.static ({ cls := "java/lang/System", name := "arraycopy", desc := "(Ljava/lang/Object;ILjava/lang/Object;II)V" } : MethodName)) ∈ gb_wA := gb_t3 36 rfl rfl
theorem w_19 : (Cond.initialized "java/lang/System") ∈ gb_wA := gb_t1 19 rfl rfl
theorem dX9_copyFrom_26 : decode cX9_copyFrom 26 = .ok (.return_, 1) := by decide +kernel
set_option maxHeartbeats 4000000 in
set_option maxRecDepth 100000 in
theorem m_copy_0 (l : Launch) (D : va_G) (cT : Nat → ClassId) (tt : Nat → Nat) (b1 b : Nat) (hb1 : b1 ≤ b) (cs : List va_E) (k0 j0 k1 j1 : Nat) (fs0 fs1 : List Value) (f g : Nat → Int32) (h0 : cs[k0]? = some (.inr (0, fs0))) (e0 : fs0[0]? = some (.ref (b + j0))) (h1 : cs[j0]? = some (.inl (cT 0, 58, .inl g))) (h2 : cs[k1]? = some (.inr (0, fs1))) (e1 : fs1[0]? = some (.ref (b + j1))) (h3 : cs[j1]? = some (.inl (cT 0, 58, .inl f))) : Met l yX9_copyFrom (.code yX9_copyFrom cX9_copyFrom 2 none :: gb_wA) ({ frames := 1, cells := 0, slots := 0, locals := 40 }) (gb_Pc D cT tt b1 [.ref (b + k0), .ref (b + k1)] (fun h => va_P D vwCl (gb_wl b cs) h)) (gb_Qv (fun h => va_P D vwCl (gb_wl b (cs.set j0 (.inl (cT 0, 58, .inl (va_cpy f g 0 0 58))))) h) (gb_fr b cs.length)) 0 0 (gb_fr b cs.length) := by
  refine Met.ofW (cc := cX9_copyFrom) (maxL := 2) (ret := none) (by decide) rfl ?_
  intro p e s m args below meth c s₁ B hml hv
  obtain ⟨rfl, hSt, hP⟩ := hv
  have hx := B.exec
  have hb := B.bytes
  have hr := B.returns
  have hts := atoms_spec (ws := .code yX9_copyFrom cX9_copyFrom 2 none :: gb_wA) B.pre
  have hq : ∀ w ∈ gb_wA, w.before _ s = true := fun w h => hts w (List.mem_cons_of_mem _ h)
  have hown : s.vm.findClass RX9 = some m.cls := findClass_of_methodNamed B.named
  have hlocks := B.notSynchronized
  have hK := hSt.1
  have hS : va_S (gb_fr b cs.length) s.heap s.heap [] := va_S.rf
  have hl := lv_entry ([.ref (b + k0), .ref (b + k1)]) (n := 2) (Nat.le_of_ble_eq_true rfl)
  rw [lg_entry_eq]
  generalize (lg_sl ([.ref (b + k0), .ref (b + k1)]) ++ List.replicate (2 - (lg_sl ([.ref (b + k0), .ref (b + k1)])).length) Slot.unset).toArray = ls at hl ⊢
  have hl : lv_has ls 2 [(0, .ref (b + k0)), (1, .ref (b + k1))] := hl
  refine lv_aload_n hx hb dX9_copyFrom_0 rfl (lv_at hl 1 rfl) ?_
  refine va_get (ci := 0) (v := (.ref (b + j1))) (C := RX0) (T := TX0) (N := 1) hx hb hq i_X0 hown hK hP k1 (gb_at b h2) rfl 0 (by decide) (hq _ w_51) (fun _ h9 => h9) e1 dX9_copyFrom_1 ?_
  refine lv_iconst (v := 0) hx hb dX9_copyFrom_4 (by decide) ?_
  refine lv_aload_n hx hb dX9_copyFrom_5 rfl (lv_at hl 0 rfl) ?_
  refine va_get (ci := 0) (v := (.ref (b + j0))) (C := RX0) (T := TX0) (N := 1) hx hb hq i_X0 hown hK hP k0 (gb_at b h0) rfl 0 (by decide) (hq _ w_51) (fun _ h9 => h9) e0 dX9_copyFrom_6 ?_
  refine lv_iconst (v := 0) hx hb dX9_copyFrom_9 (by decide) ?_
  refine lv_aload_n hx hb dX9_copyFrom_10 rfl (lv_at hl 0 rfl) ?_
  refine va_get (ci := 0) (v := (.ref (b + j0))) (C := RX0) (T := TX0) (N := 1) hx hb hq i_X0 hown hK hP k0 (gb_at b h0) rfl 0 (by decide) (hq _ w_51) (fun _ h9 => h9) e0 dX9_copyFrom_11 ?_
  refine va_alen (v := 58) hx hb hK hP j0 0 (gb_at b h1) rfl (by first | rfl | decide) dX9_copyFrom_14 ?_
  refine lv_aload_n hx hb dX9_copyFrom_15 rfl (lv_at hl 1 rfl) ?_
  refine va_get (ci := 0) (v := (.ref (b + j1))) (C := RX0) (T := TX0) (N := 1) hx hb hq i_X0 hown hK hP k1 (gb_at b h2) rfl 0 (by decide) (hq _ w_51) (fun _ h9 => h9) e1 dX9_copyFrom_16 ?_
  refine va_alen (v := 58) hx hb hK hP j1 0 (gb_at b h3) rfl (by first | rfl | decide) dX9_copyFrom_19 ?_
  refine va_mmin hx hb (hml.trans hl.1.symm) hown (hq _ w_564) (hq _ w_367) (hq _ w_5) (hq _ w_368) (Nat.le_of_ble_eq_true rfl) (Nat.le_of_ble_eq_true rfl) (Nat.le_of_ble_eq_true rfl) (Nat.le_of_ble_eq_true rfl) dX9_copyFrom_20 ?_
  refine W.eq (g2 := F0 m 23 ls [.int 58, .int 0, .ref (b + j0), .int 0, .ref (b + j1)]) (congrArg (fun v => F0 m 23 ls (Value.int v :: [.int 0, .ref (b + j0), .int 0, .ref (b + j1)])) (by decide)) ?_
  refine va_copyi (ty := .int) hx hb (hml.trans hl.1.symm) hown (hq _ w_565) (hq _ w_517) (hq _ w_516) (hq _ w_19) hK hP (gb_D (fun k h => ⟨Nat.le_add_right b k, Nat.add_lt_add_left h b⟩)) hS j1 j0 0 0 (gb_at b h3) (gb_at b h1) rfl rfl rfl (by decide) (by decide) (by decide) (by decide) (by decide) (fun _ _ => rfl) (Nat.le_of_ble_eq_true rfl) (Nat.le_of_ble_eq_true rfl) dX9_copyFrom_23 (fun H locs hP hD hS => ?_)
  rw [gb_set] at hP
  have hP : va_P D vwCl (gb_wl b (cs.set j0 (.inl (cT 0, 58, .inl (va_cpy f g 0 0 58))))) H := hP
  exact W.vret hx hb hr (fun t ht hW => gb_rv ht hP hS) hS.2.2 dX9_copyFrom_26
set_option maxHeartbeats 4000000 in
set_option maxRecDepth 100000 in
theorem m_copy_4 (l : Launch) (D : va_G) (cT : Nat → ClassId) (tt : Nat → Nat) (b1 b : Nat) (hb1 : b1 ≤ b) (cs : List va_E) (k0 j0 k1 j1 : Nat) (fs0 fs1 : List Value) (f g : Nat → Int32) (h0 : cs[k0]? = some (.inr (4, fs0))) (e0 : fs0[3]? = some (.ref (b + j0))) (h1 : cs[j0]? = some (.inl (cT 0, 97, .inl g))) (h2 : cs[k1]? = some (.inr (4, fs1))) (e1 : fs1[3]? = some (.ref (b + j1))) (h3 : cs[j1]? = some (.inl (cT 0, 97, .inl f))) : Met l yX9_copyFrom (.code yX9_copyFrom cX9_copyFrom 2 none :: gb_wA) ({ frames := 1, cells := 0, slots := 0, locals := 40 }) (gb_Pc D cT tt b1 [.ref (b + k0), .ref (b + k1)] (fun h => va_P D vwCl (gb_wl b cs) h)) (gb_Qv (fun h => va_P D vwCl (gb_wl b (cs.set j0 (.inl (cT 0, 97, .inl (va_cpy f g 0 0 97))))) h) (gb_fr b cs.length)) 0 0 (gb_fr b cs.length) := by
  refine Met.ofW (cc := cX9_copyFrom) (maxL := 2) (ret := none) (by decide) rfl ?_
  intro p e s m args below meth c s₁ B hml hv
  obtain ⟨rfl, hSt, hP⟩ := hv
  have hx := B.exec
  have hb := B.bytes
  have hr := B.returns
  have hts := atoms_spec (ws := .code yX9_copyFrom cX9_copyFrom 2 none :: gb_wA) B.pre
  have hq : ∀ w ∈ gb_wA, w.before _ s = true := fun w h => hts w (List.mem_cons_of_mem _ h)
  have hown : s.vm.findClass RX9 = some m.cls := findClass_of_methodNamed B.named
  have hlocks := B.notSynchronized
  have hK := hSt.1
  have hS : va_S (gb_fr b cs.length) s.heap s.heap [] := va_S.rf
  have hl := lv_entry ([.ref (b + k0), .ref (b + k1)]) (n := 2) (Nat.le_of_ble_eq_true rfl)
  rw [lg_entry_eq]
  generalize (lg_sl ([.ref (b + k0), .ref (b + k1)]) ++ List.replicate (2 - (lg_sl ([.ref (b + k0), .ref (b + k1)])).length) Slot.unset).toArray = ls at hl ⊢
  have hl : lv_has ls 2 [(0, .ref (b + k0)), (1, .ref (b + k1))] := hl
  refine lv_aload_n hx hb dX9_copyFrom_0 rfl (lv_at hl 1 rfl) ?_
  refine va_get (ci := 4) (v := (.ref (b + j1))) (C := RX5) (T := TX5) (N := 4) hx hb hq i_X5 hown hK hP k1 (gb_at b h2) rfl 3 (by decide) (hq _ w_51) (fun _ h9 => h9) e1 dX9_copyFrom_1 ?_
  refine lv_iconst (v := 0) hx hb dX9_copyFrom_4 (by decide) ?_
  refine lv_aload_n hx hb dX9_copyFrom_5 rfl (lv_at hl 0 rfl) ?_
  refine va_get (ci := 4) (v := (.ref (b + j0))) (C := RX5) (T := TX5) (N := 4) hx hb hq i_X5 hown hK hP k0 (gb_at b h0) rfl 3 (by decide) (hq _ w_51) (fun _ h9 => h9) e0 dX9_copyFrom_6 ?_
  refine lv_iconst (v := 0) hx hb dX9_copyFrom_9 (by decide) ?_
  refine lv_aload_n hx hb dX9_copyFrom_10 rfl (lv_at hl 0 rfl) ?_
  refine va_get (ci := 4) (v := (.ref (b + j0))) (C := RX5) (T := TX5) (N := 4) hx hb hq i_X5 hown hK hP k0 (gb_at b h0) rfl 3 (by decide) (hq _ w_51) (fun _ h9 => h9) e0 dX9_copyFrom_11 ?_
  refine va_alen (v := 97) hx hb hK hP j0 0 (gb_at b h1) rfl (by first | rfl | decide) dX9_copyFrom_14 ?_
  refine lv_aload_n hx hb dX9_copyFrom_15 rfl (lv_at hl 1 rfl) ?_
  refine va_get (ci := 4) (v := (.ref (b + j1))) (C := RX5) (T := TX5) (N := 4) hx hb hq i_X5 hown hK hP k1 (gb_at b h2) rfl 3 (by decide) (hq _ w_51) (fun _ h9 => h9) e1 dX9_copyFrom_16 ?_
  refine va_alen (v := 97) hx hb hK hP j1 0 (gb_at b h3) rfl (by first | rfl | decide) dX9_copyFrom_19 ?_
  refine va_mmin hx hb (hml.trans hl.1.symm) hown (hq _ w_564) (hq _ w_367) (hq _ w_5) (hq _ w_368) (Nat.le_of_ble_eq_true rfl) (Nat.le_of_ble_eq_true rfl) (Nat.le_of_ble_eq_true rfl) (Nat.le_of_ble_eq_true rfl) dX9_copyFrom_20 ?_
  refine W.eq (g2 := F0 m 23 ls [.int 97, .int 0, .ref (b + j0), .int 0, .ref (b + j1)]) (congrArg (fun v => F0 m 23 ls (Value.int v :: [.int 0, .ref (b + j0), .int 0, .ref (b + j1)])) (by decide)) ?_
  refine va_copyi (ty := .int) hx hb (hml.trans hl.1.symm) hown (hq _ w_565) (hq _ w_517) (hq _ w_516) (hq _ w_19) hK hP (gb_D (fun k h => ⟨Nat.le_add_right b k, Nat.add_lt_add_left h b⟩)) hS j1 j0 0 0 (gb_at b h3) (gb_at b h1) rfl rfl rfl (by decide) (by decide) (by decide) (by decide) (by decide) (fun _ _ => rfl) (Nat.le_of_ble_eq_true rfl) (Nat.le_of_ble_eq_true rfl) dX9_copyFrom_23 (fun H locs hP hD hS => ?_)
  rw [gb_set] at hP
  have hP : va_P D vwCl (gb_wl b (cs.set j0 (.inl (cT 0, 97, .inl (va_cpy f g 0 0 97))))) H := hP
  exact W.vret hx hb hr (fun t ht hW => gb_rv ht hP hS) hS.2.2 dX9_copyFrom_26
set_option maxHeartbeats 4000000 in
set_option maxRecDepth 100000 in
theorem m_copy_3 (l : Launch) (D : va_G) (cT : Nat → ClassId) (tt : Nat → Nat) (b1 b : Nat) (hb1 : b1 ≤ b) (cs : List va_E) (k0 j0 k1 j1 : Nat) (fs0 fs1 : List Value) (f g : Nat → Int32) (h0 : cs[k0]? = some (.inr (3, fs0))) (e0 : fs0[3]? = some (.ref (b + j0))) (h1 : cs[j0]? = some (.inl (cT 0, 25, .inl g))) (h2 : cs[k1]? = some (.inr (3, fs1))) (e1 : fs1[3]? = some (.ref (b + j1))) (h3 : cs[j1]? = some (.inl (cT 0, 25, .inl f))) : Met l yX9_copyFrom (.code yX9_copyFrom cX9_copyFrom 2 none :: gb_wA) ({ frames := 1, cells := 0, slots := 0, locals := 40 }) (gb_Pc D cT tt b1 [.ref (b + k0), .ref (b + k1)] (fun h => va_P D vwCl (gb_wl b cs) h)) (gb_Qv (fun h => va_P D vwCl (gb_wl b (cs.set j0 (.inl (cT 0, 25, .inl (va_cpy f g 0 0 25))))) h) (gb_fr b cs.length)) 0 0 (gb_fr b cs.length) := by
  refine Met.ofW (cc := cX9_copyFrom) (maxL := 2) (ret := none) (by decide) rfl ?_
  intro p e s m args below meth c s₁ B hml hv
  obtain ⟨rfl, hSt, hP⟩ := hv
  have hx := B.exec
  have hb := B.bytes
  have hr := B.returns
  have hts := atoms_spec (ws := .code yX9_copyFrom cX9_copyFrom 2 none :: gb_wA) B.pre
  have hq : ∀ w ∈ gb_wA, w.before _ s = true := fun w h => hts w (List.mem_cons_of_mem _ h)
  have hown : s.vm.findClass RX9 = some m.cls := findClass_of_methodNamed B.named
  have hlocks := B.notSynchronized
  have hK := hSt.1
  have hS : va_S (gb_fr b cs.length) s.heap s.heap [] := va_S.rf
  have hl := lv_entry ([.ref (b + k0), .ref (b + k1)]) (n := 2) (Nat.le_of_ble_eq_true rfl)
  rw [lg_entry_eq]
  generalize (lg_sl ([.ref (b + k0), .ref (b + k1)]) ++ List.replicate (2 - (lg_sl ([.ref (b + k0), .ref (b + k1)])).length) Slot.unset).toArray = ls at hl ⊢
  have hl : lv_has ls 2 [(0, .ref (b + k0)), (1, .ref (b + k1))] := hl
  refine lv_aload_n hx hb dX9_copyFrom_0 rfl (lv_at hl 1 rfl) ?_
  refine va_get (ci := 3) (v := (.ref (b + j1))) (C := RX3) (T := TX3) (N := 4) hx hb hq i_X3 hown hK hP k1 (gb_at b h2) rfl 3 (by decide) (hq _ w_51) (fun _ h9 => h9) e1 dX9_copyFrom_1 ?_
  refine lv_iconst (v := 0) hx hb dX9_copyFrom_4 (by decide) ?_
  refine lv_aload_n hx hb dX9_copyFrom_5 rfl (lv_at hl 0 rfl) ?_
  refine va_get (ci := 3) (v := (.ref (b + j0))) (C := RX3) (T := TX3) (N := 4) hx hb hq i_X3 hown hK hP k0 (gb_at b h0) rfl 3 (by decide) (hq _ w_51) (fun _ h9 => h9) e0 dX9_copyFrom_6 ?_
  refine lv_iconst (v := 0) hx hb dX9_copyFrom_9 (by decide) ?_
  refine lv_aload_n hx hb dX9_copyFrom_10 rfl (lv_at hl 0 rfl) ?_
  refine va_get (ci := 3) (v := (.ref (b + j0))) (C := RX3) (T := TX3) (N := 4) hx hb hq i_X3 hown hK hP k0 (gb_at b h0) rfl 3 (by decide) (hq _ w_51) (fun _ h9 => h9) e0 dX9_copyFrom_11 ?_
  refine va_alen (v := 25) hx hb hK hP j0 0 (gb_at b h1) rfl (by first | rfl | decide) dX9_copyFrom_14 ?_
  refine lv_aload_n hx hb dX9_copyFrom_15 rfl (lv_at hl 1 rfl) ?_
  refine va_get (ci := 3) (v := (.ref (b + j1))) (C := RX3) (T := TX3) (N := 4) hx hb hq i_X3 hown hK hP k1 (gb_at b h2) rfl 3 (by decide) (hq _ w_51) (fun _ h9 => h9) e1 dX9_copyFrom_16 ?_
  refine va_alen (v := 25) hx hb hK hP j1 0 (gb_at b h3) rfl (by first | rfl | decide) dX9_copyFrom_19 ?_
  refine va_mmin hx hb (hml.trans hl.1.symm) hown (hq _ w_564) (hq _ w_367) (hq _ w_5) (hq _ w_368) (Nat.le_of_ble_eq_true rfl) (Nat.le_of_ble_eq_true rfl) (Nat.le_of_ble_eq_true rfl) (Nat.le_of_ble_eq_true rfl) dX9_copyFrom_20 ?_
  refine W.eq (g2 := F0 m 23 ls [.int 25, .int 0, .ref (b + j0), .int 0, .ref (b + j1)]) (congrArg (fun v => F0 m 23 ls (Value.int v :: [.int 0, .ref (b + j0), .int 0, .ref (b + j1)])) (by decide)) ?_
  refine va_copyi (ty := .int) hx hb (hml.trans hl.1.symm) hown (hq _ w_565) (hq _ w_517) (hq _ w_516) (hq _ w_19) hK hP (gb_D (fun k h => ⟨Nat.le_add_right b k, Nat.add_lt_add_left h b⟩)) hS j1 j0 0 0 (gb_at b h3) (gb_at b h1) rfl rfl rfl (by decide) (by decide) (by decide) (by decide) (by decide) (fun _ _ => rfl) (Nat.le_of_ble_eq_true rfl) (Nat.le_of_ble_eq_true rfl) dX9_copyFrom_23 (fun H locs hP hD hS => ?_)
  rw [gb_set] at hP
  have hP : va_P D vwCl (gb_wl b (cs.set j0 (.inl (cT 0, 25, .inl (va_cpy f g 0 0 25))))) H := hP
  exact W.vret hx hb hr (fun t ht hW => gb_rv ht hP hS) hS.2.2 dX9_copyFrom_26
set_option maxHeartbeats 4000000 in
set_option maxRecDepth 100000 in
theorem m_copy_1 (l : Launch) (D : va_G) (cT : Nat → ClassId) (tt : Nat → Nat) (b1 b : Nat) (hb1 : b1 ≤ b) (cs : List va_E) (k0 j0 k1 j1 : Nat) (fs0 fs1 : List Value) (f g : Nat → Int32) (h0 : cs[k0]? = some (.inr (1, fs0))) (e0 : fs0[3]? = some (.ref (b + j0))) (h1 : cs[j0]? = some (.inl (cT 0, 16, .inl g))) (h2 : cs[k1]? = some (.inr (1, fs1))) (e1 : fs1[3]? = some (.ref (b + j1))) (h3 : cs[j1]? = some (.inl (cT 0, 16, .inl f))) : Met l yX9_copyFrom (.code yX9_copyFrom cX9_copyFrom 2 none :: gb_wA) ({ frames := 1, cells := 0, slots := 0, locals := 40 }) (gb_Pc D cT tt b1 [.ref (b + k0), .ref (b + k1)] (fun h => va_P D vwCl (gb_wl b cs) h)) (gb_Qv (fun h => va_P D vwCl (gb_wl b (cs.set j0 (.inl (cT 0, 16, .inl (va_cpy f g 0 0 16))))) h) (gb_fr b cs.length)) 0 0 (gb_fr b cs.length) := by
  refine Met.ofW (cc := cX9_copyFrom) (maxL := 2) (ret := none) (by decide) rfl ?_
  intro p e s m args below meth c s₁ B hml hv
  obtain ⟨rfl, hSt, hP⟩ := hv
  have hx := B.exec
  have hb := B.bytes
  have hr := B.returns
  have hts := atoms_spec (ws := .code yX9_copyFrom cX9_copyFrom 2 none :: gb_wA) B.pre
  have hq : ∀ w ∈ gb_wA, w.before _ s = true := fun w h => hts w (List.mem_cons_of_mem _ h)
  have hown : s.vm.findClass RX9 = some m.cls := findClass_of_methodNamed B.named
  have hlocks := B.notSynchronized
  have hK := hSt.1
  have hS : va_S (gb_fr b cs.length) s.heap s.heap [] := va_S.rf
  have hl := lv_entry ([.ref (b + k0), .ref (b + k1)]) (n := 2) (Nat.le_of_ble_eq_true rfl)
  rw [lg_entry_eq]
  generalize (lg_sl ([.ref (b + k0), .ref (b + k1)]) ++ List.replicate (2 - (lg_sl ([.ref (b + k0), .ref (b + k1)])).length) Slot.unset).toArray = ls at hl ⊢
  have hl : lv_has ls 2 [(0, .ref (b + k0)), (1, .ref (b + k1))] := hl
  refine lv_aload_n hx hb dX9_copyFrom_0 rfl (lv_at hl 1 rfl) ?_
  refine va_get (ci := 1) (v := (.ref (b + j1))) (C := RX1) (T := TX1) (N := 4) hx hb hq i_X1 hown hK hP k1 (gb_at b h2) rfl 3 (by decide) (hq _ w_51) (fun _ h9 => h9) e1 dX9_copyFrom_1 ?_
  refine lv_iconst (v := 0) hx hb dX9_copyFrom_4 (by decide) ?_
  refine lv_aload_n hx hb dX9_copyFrom_5 rfl (lv_at hl 0 rfl) ?_
  refine va_get (ci := 1) (v := (.ref (b + j0))) (C := RX1) (T := TX1) (N := 4) hx hb hq i_X1 hown hK hP k0 (gb_at b h0) rfl 3 (by decide) (hq _ w_51) (fun _ h9 => h9) e0 dX9_copyFrom_6 ?_
  refine lv_iconst (v := 0) hx hb dX9_copyFrom_9 (by decide) ?_
  refine lv_aload_n hx hb dX9_copyFrom_10 rfl (lv_at hl 0 rfl) ?_
  refine va_get (ci := 1) (v := (.ref (b + j0))) (C := RX1) (T := TX1) (N := 4) hx hb hq i_X1 hown hK hP k0 (gb_at b h0) rfl 3 (by decide) (hq _ w_51) (fun _ h9 => h9) e0 dX9_copyFrom_11 ?_
  refine va_alen (v := 16) hx hb hK hP j0 0 (gb_at b h1) rfl (by first | rfl | decide) dX9_copyFrom_14 ?_
  refine lv_aload_n hx hb dX9_copyFrom_15 rfl (lv_at hl 1 rfl) ?_
  refine va_get (ci := 1) (v := (.ref (b + j1))) (C := RX1) (T := TX1) (N := 4) hx hb hq i_X1 hown hK hP k1 (gb_at b h2) rfl 3 (by decide) (hq _ w_51) (fun _ h9 => h9) e1 dX9_copyFrom_16 ?_
  refine va_alen (v := 16) hx hb hK hP j1 0 (gb_at b h3) rfl (by first | rfl | decide) dX9_copyFrom_19 ?_
  refine va_mmin hx hb (hml.trans hl.1.symm) hown (hq _ w_564) (hq _ w_367) (hq _ w_5) (hq _ w_368) (Nat.le_of_ble_eq_true rfl) (Nat.le_of_ble_eq_true rfl) (Nat.le_of_ble_eq_true rfl) (Nat.le_of_ble_eq_true rfl) dX9_copyFrom_20 ?_
  refine W.eq (g2 := F0 m 23 ls [.int 16, .int 0, .ref (b + j0), .int 0, .ref (b + j1)]) (congrArg (fun v => F0 m 23 ls (Value.int v :: [.int 0, .ref (b + j0), .int 0, .ref (b + j1)])) (by decide)) ?_
  refine va_copyi (ty := .int) hx hb (hml.trans hl.1.symm) hown (hq _ w_565) (hq _ w_517) (hq _ w_516) (hq _ w_19) hK hP (gb_D (fun k h => ⟨Nat.le_add_right b k, Nat.add_lt_add_left h b⟩)) hS j1 j0 0 0 (gb_at b h3) (gb_at b h1) rfl rfl rfl (by decide) (by decide) (by decide) (by decide) (by decide) (fun _ _ => rfl) (Nat.le_of_ble_eq_true rfl) (Nat.le_of_ble_eq_true rfl) dX9_copyFrom_23 (fun H locs hP hD hS => ?_)
  rw [gb_set] at hP
  have hP : va_P D vwCl (gb_wl b (cs.set j0 (.inl (cT 0, 16, .inl (va_cpy f g 0 0 16))))) H := hP
  exact W.vret hx hb hr (fun t ht hW => gb_rv ht hP hS) hS.2.2 dX9_copyFrom_26
theorem dX10_sheetOf_0 : decode cX10_sheetOf 0 = .ok (.iload_n 1, 1) := by decide +kernel
theorem dX10_sheetOf_1 : decode cX10_sheetOf 1 = .ok (.tableswitch 48 0 2 #[27, 34, 41], 27) := by decide +kernel
theorem dX10_sheetOf_28 : decode cX10_sheetOf 28 = .ok (.aload_n 0, 1) := by decide +kernel
theorem dX10_sheetOf_29 : decode cX10_sheetOf 29 = .ok (.getfield 12, 3) := by decide +kernel
theorem dX10_sheetOf_32 : decode cX10_sheetOf 32 = .ok (.iload_n 2, 1) := by decide +kernel
theorem dX10_sheetOf_33 : decode cX10_sheetOf 33 = .ok (.aaload, 1) := by decide +kernel
theorem dX10_sheetOf_34 : decode cX10_sheetOf 34 = .ok (.areturn, 1) := by decide +kernel
set_option maxHeartbeats 4000000 in
set_option maxRecDepth 100000 in
theorem m_sheetOf_0 (l : Launch) (D : va_G) (cT : Nat → ClassId) (tt : Nat → Nat) (b1 b : Nat) (hb1 : b1 ≤ b) (cs : List va_E) (k ja ra : Nat) (fs : List Value) (qq : Nat → Option Nat) (h0 : cs[k]? = some (.inr (8, fs))) (e0 : fs[0]? = some (.ref (b + ja))) (h1 : cs[ja]? = some (.inl (cT 4, 2, .inr (.inr (.inr (.inr qq)))))) (p2 : Int32) (hin : vp_in p2 2) (hv : va_rf (qq p2.toNatClampNeg) = .ref (b + ra)) : Met l yX10_sheetOf (.code yX10_sheetOf cX10_sheetOf 3 (some (FieldType.object "GooseBorder$Sheet")) :: gb_wA) ({ frames := 0, cells := 0, slots := 0, locals := 0 }) (gb_Pc D cT tt b1 [.ref (b + k), .int 0, .int p2] (fun h => va_P D vwCl (gb_wl b cs) h)) (gb_Qq (fun r h => r = some (b + ra) ∧ va_P D vwCl (gb_wl b cs) h) (gb_fr b cs.length)) 0 0 (gb_fr b cs.length) := by
  refine Met.ofW (cc := cX10_sheetOf) (maxL := 3) (ret := (some (FieldType.object "GooseBorder$Sheet"))) (by decide) rfl ?_
  intro p e s m args below meth c s₁ B hml hv
  obtain ⟨rfl, hSt, hP⟩ := hv
  have hx := B.exec
  have hb := B.bytes
  have hr := B.returns
  have hts := atoms_spec (ws := .code yX10_sheetOf cX10_sheetOf 3 (some (FieldType.object "GooseBorder$Sheet")) :: gb_wA) B.pre
  have hq : ∀ w ∈ gb_wA, w.before _ s = true := fun w h => hts w (List.mem_cons_of_mem _ h)
  have hown : s.vm.findClass RX10 = some m.cls := findClass_of_methodNamed B.named
  have hlocks := B.notSynchronized
  have hK := hSt.1
  have hS : va_S (gb_fr b cs.length) s.heap s.heap [] := va_S.rf
  have hl := lv_entry ([.ref (b + k), .int 0, .int p2]) (n := 3) (Nat.le_of_ble_eq_true rfl)
  rw [lg_entry_eq]
  generalize (lg_sl ([.ref (b + k), .int 0, .int p2]) ++ List.replicate (3 - (lg_sl ([.ref (b + k), .int 0, .int p2])).length) Slot.unset).toArray = ls at hl ⊢
  have hl : lv_has ls 3 [(0, .ref (b + k)), (1, .int 0), (2, .int p2)] := hl
  refine lv_iload_n hx hb dX10_sheetOf_0 rfl (lv_at hl 1 rfl) ?_
  refine lv_tableIn (off := 27) (tgt := 28) hx hb dX10_sheetOf_1 (by decide) (by decide) (by decide) (by decide) ?_
  refine lv_aload_n hx hb dX10_sheetOf_28 rfl (lv_at hl 0 rfl) ?_
  refine va_get (ci := 8) (v := (.ref (b + ja))) (C := RX10) (T := TX10) (N := 9) hx hb hq i_X10 hown hK hP k (gb_at b h0) rfl 0 (by decide) (hq _ w_112) (fun _ h9 => h9) e0 dX10_sheetOf_29 ?_
  refine lv_iload_n hx hb dX10_sheetOf_32 rfl (lv_at hl 2 rfl) ?_
  refine gb_aald (v := (.ref (b + ra))) hx hb hK hP ja 4 (gb_at b h1) rfl hin hv dX10_sheetOf_33 ?_
  exact W.aret (v := (.ref (b + ra))) hx hb hr (Or.inl ⟨_, rfl⟩) (Or.inr ⟨_, rfl⟩) (fun t ht hW => gb_rq (some (b + ra)) ht ⟨rfl, hP⟩ hS) hS.2.2 dX10_sheetOf_34
theorem dX10_sheetOf_35 : decode cX10_sheetOf 35 = .ok (.aload_n 0, 1) := by decide +kernel
theorem dX10_sheetOf_36 : decode cX10_sheetOf 36 = .ok (.getfield 21, 3) := by decide +kernel
theorem dX10_sheetOf_39 : decode cX10_sheetOf 39 = .ok (.iload_n 2, 1) := by decide +kernel
theorem dX10_sheetOf_40 : decode cX10_sheetOf 40 = .ok (.aaload, 1) := by decide +kernel
theorem dX10_sheetOf_41 : decode cX10_sheetOf 41 = .ok (.areturn, 1) := by decide +kernel
set_option maxHeartbeats 4000000 in
set_option maxRecDepth 100000 in
theorem m_sheetOf_1 (l : Launch) (D : va_G) (cT : Nat → ClassId) (tt : Nat → Nat) (b1 b : Nat) (hb1 : b1 ≤ b) (cs : List va_E) (k ja ra : Nat) (fs : List Value) (qq : Nat → Option Nat) (h0 : cs[k]? = some (.inr (8, fs))) (e0 : fs[1]? = some (.ref (b + ja))) (h1 : cs[ja]? = some (.inl (cT 5, 2, .inr (.inr (.inr (.inr qq)))))) (p2 : Int32) (hin : vp_in p2 2) (hv : va_rf (qq p2.toNatClampNeg) = .ref (b + ra)) : Met l yX10_sheetOf (.code yX10_sheetOf cX10_sheetOf 3 (some (FieldType.object "GooseBorder$Sheet")) :: gb_wA) ({ frames := 0, cells := 0, slots := 0, locals := 0 }) (gb_Pc D cT tt b1 [.ref (b + k), .int 1, .int p2] (fun h => va_P D vwCl (gb_wl b cs) h)) (gb_Qq (fun r h => r = some (b + ra) ∧ va_P D vwCl (gb_wl b cs) h) (gb_fr b cs.length)) 0 0 (gb_fr b cs.length) := by
  refine Met.ofW (cc := cX10_sheetOf) (maxL := 3) (ret := (some (FieldType.object "GooseBorder$Sheet"))) (by decide) rfl ?_
  intro p e s m args below meth c s₁ B hml hv
  obtain ⟨rfl, hSt, hP⟩ := hv
  have hx := B.exec
  have hb := B.bytes
  have hr := B.returns
  have hts := atoms_spec (ws := .code yX10_sheetOf cX10_sheetOf 3 (some (FieldType.object "GooseBorder$Sheet")) :: gb_wA) B.pre
  have hq : ∀ w ∈ gb_wA, w.before _ s = true := fun w h => hts w (List.mem_cons_of_mem _ h)
  have hown : s.vm.findClass RX10 = some m.cls := findClass_of_methodNamed B.named
  have hlocks := B.notSynchronized
  have hK := hSt.1
  have hS : va_S (gb_fr b cs.length) s.heap s.heap [] := va_S.rf
  have hl := lv_entry ([.ref (b + k), .int 1, .int p2]) (n := 3) (Nat.le_of_ble_eq_true rfl)
  rw [lg_entry_eq]
  generalize (lg_sl ([.ref (b + k), .int 1, .int p2]) ++ List.replicate (3 - (lg_sl ([.ref (b + k), .int 1, .int p2])).length) Slot.unset).toArray = ls at hl ⊢
  have hl : lv_has ls 3 [(0, .ref (b + k)), (1, .int 1), (2, .int p2)] := hl
  refine lv_iload_n hx hb dX10_sheetOf_0 rfl (lv_at hl 1 rfl) ?_
  refine lv_tableIn (off := 34) (tgt := 35) hx hb dX10_sheetOf_1 (by decide) (by decide) (by decide) (by decide) ?_
  refine lv_aload_n hx hb dX10_sheetOf_35 rfl (lv_at hl 0 rfl) ?_
  refine va_get (ci := 8) (v := (.ref (b + ja))) (C := RX10) (T := TX10) (N := 9) hx hb hq i_X10 hown hK hP k (gb_at b h0) rfl 1 (by decide) (hq _ w_114) (fun _ h9 => h9) e0 dX10_sheetOf_36 ?_
  refine lv_iload_n hx hb dX10_sheetOf_39 rfl (lv_at hl 2 rfl) ?_
  refine gb_aald (v := (.ref (b + ra))) hx hb hK hP ja 5 (gb_at b h1) rfl hin hv dX10_sheetOf_40 ?_
  exact W.aret (v := (.ref (b + ra))) hx hb hr (Or.inl ⟨_, rfl⟩) (Or.inr ⟨_, rfl⟩) (fun t ht hW => gb_rq (some (b + ra)) ht ⟨rfl, hP⟩ hS) hS.2.2 dX10_sheetOf_41
theorem dX10_sheetOf_42 : decode cX10_sheetOf 42 = .ok (.aload_n 0, 1) := by decide +kernel
theorem dX10_sheetOf_43 : decode cX10_sheetOf 43 = .ok (.getfield 28, 3) := by decide +kernel
theorem dX10_sheetOf_46 : decode cX10_sheetOf 46 = .ok (.iload_n 2, 1) := by decide +kernel
theorem dX10_sheetOf_47 : decode cX10_sheetOf 47 = .ok (.aaload, 1) := by decide +kernel
theorem dX10_sheetOf_48 : decode cX10_sheetOf 48 = .ok (.areturn, 1) := by decide +kernel
set_option maxHeartbeats 4000000 in
set_option maxRecDepth 100000 in
theorem m_sheetOf_2 (l : Launch) (D : va_G) (cT : Nat → ClassId) (tt : Nat → Nat) (b1 b : Nat) (hb1 : b1 ≤ b) (cs : List va_E) (k ja ra : Nat) (fs : List Value) (qq : Nat → Option Nat) (h0 : cs[k]? = some (.inr (8, fs))) (e0 : fs[2]? = some (.ref (b + ja))) (h1 : cs[ja]? = some (.inl (cT 6, 2, .inr (.inr (.inr (.inr qq)))))) (p2 : Int32) (hin : vp_in p2 2) (hv : va_rf (qq p2.toNatClampNeg) = .ref (b + ra)) : Met l yX10_sheetOf (.code yX10_sheetOf cX10_sheetOf 3 (some (FieldType.object "GooseBorder$Sheet")) :: gb_wA) ({ frames := 0, cells := 0, slots := 0, locals := 0 }) (gb_Pc D cT tt b1 [.ref (b + k), .int 2, .int p2] (fun h => va_P D vwCl (gb_wl b cs) h)) (gb_Qq (fun r h => r = some (b + ra) ∧ va_P D vwCl (gb_wl b cs) h) (gb_fr b cs.length)) 0 0 (gb_fr b cs.length) := by
  refine Met.ofW (cc := cX10_sheetOf) (maxL := 3) (ret := (some (FieldType.object "GooseBorder$Sheet"))) (by decide) rfl ?_
  intro p e s m args below meth c s₁ B hml hv
  obtain ⟨rfl, hSt, hP⟩ := hv
  have hx := B.exec
  have hb := B.bytes
  have hr := B.returns
  have hts := atoms_spec (ws := .code yX10_sheetOf cX10_sheetOf 3 (some (FieldType.object "GooseBorder$Sheet")) :: gb_wA) B.pre
  have hq : ∀ w ∈ gb_wA, w.before _ s = true := fun w h => hts w (List.mem_cons_of_mem _ h)
  have hown : s.vm.findClass RX10 = some m.cls := findClass_of_methodNamed B.named
  have hlocks := B.notSynchronized
  have hK := hSt.1
  have hS : va_S (gb_fr b cs.length) s.heap s.heap [] := va_S.rf
  have hl := lv_entry ([.ref (b + k), .int 2, .int p2]) (n := 3) (Nat.le_of_ble_eq_true rfl)
  rw [lg_entry_eq]
  generalize (lg_sl ([.ref (b + k), .int 2, .int p2]) ++ List.replicate (3 - (lg_sl ([.ref (b + k), .int 2, .int p2])).length) Slot.unset).toArray = ls at hl ⊢
  have hl : lv_has ls 3 [(0, .ref (b + k)), (1, .int 2), (2, .int p2)] := hl
  refine lv_iload_n hx hb dX10_sheetOf_0 rfl (lv_at hl 1 rfl) ?_
  refine lv_tableIn (off := 41) (tgt := 42) hx hb dX10_sheetOf_1 (by decide) (by decide) (by decide) (by decide) ?_
  refine lv_aload_n hx hb dX10_sheetOf_42 rfl (lv_at hl 0 rfl) ?_
  refine va_get (ci := 8) (v := (.ref (b + ja))) (C := RX10) (T := TX10) (N := 9) hx hb hq i_X10 hown hK hP k (gb_at b h0) rfl 2 (by decide) (hq _ w_116) (fun _ h9 => h9) e0 dX10_sheetOf_43 ?_
  refine lv_iload_n hx hb dX10_sheetOf_46 rfl (lv_at hl 2 rfl) ?_
  refine gb_aald (v := (.ref (b + ra))) hx hb hK hP ja 6 (gb_at b h1) rfl hin hv dX10_sheetOf_47 ?_
  exact W.aret (v := (.ref (b + ra))) hx hb hr (Or.inl ⟨_, rfl⟩) (Or.inr ⟨_, rfl⟩) (fun t ht hW => gb_rq (some (b + ra)) ht ⟨rfl, hP⟩ hS) hS.2.2 dX10_sheetOf_48
theorem dX10_sheetOf_49 : decode cX10_sheetOf 49 = .ok (.aload_n 0, 1) := by decide +kernel
theorem dX10_sheetOf_50 : decode cX10_sheetOf 50 = .ok (.getfield 35, 3) := by decide +kernel
theorem dX10_sheetOf_53 : decode cX10_sheetOf 53 = .ok (.iload_n 2, 1) := by decide +kernel
theorem dX10_sheetOf_54 : decode cX10_sheetOf 54 = .ok (.aaload, 1) := by decide +kernel
theorem dX10_sheetOf_55 : decode cX10_sheetOf 55 = .ok (.areturn, 1) := by decide +kernel
set_option maxHeartbeats 4000000 in
set_option maxRecDepth 100000 in
theorem m_sheetOf_3 (l : Launch) (D : va_G) (cT : Nat → ClassId) (tt : Nat → Nat) (b1 b : Nat) (hb1 : b1 ≤ b) (cs : List va_E) (k ja ra : Nat) (fs : List Value) (qq : Nat → Option Nat) (h0 : cs[k]? = some (.inr (8, fs))) (e0 : fs[3]? = some (.ref (b + ja))) (h1 : cs[ja]? = some (.inl (cT 7, 2, .inr (.inr (.inr (.inr qq)))))) (p2 : Int32) (hin : vp_in p2 2) (hv : va_rf (qq p2.toNatClampNeg) = .ref (b + ra)) : Met l yX10_sheetOf (.code yX10_sheetOf cX10_sheetOf 3 (some (FieldType.object "GooseBorder$Sheet")) :: gb_wA) ({ frames := 0, cells := 0, slots := 0, locals := 0 }) (gb_Pc D cT tt b1 [.ref (b + k), .int 3, .int p2] (fun h => va_P D vwCl (gb_wl b cs) h)) (gb_Qq (fun r h => r = some (b + ra) ∧ va_P D vwCl (gb_wl b cs) h) (gb_fr b cs.length)) 0 0 (gb_fr b cs.length) := by
  refine Met.ofW (cc := cX10_sheetOf) (maxL := 3) (ret := (some (FieldType.object "GooseBorder$Sheet"))) (by decide) rfl ?_
  intro p e s m args below meth c s₁ B hml hv
  obtain ⟨rfl, hSt, hP⟩ := hv
  have hx := B.exec
  have hb := B.bytes
  have hr := B.returns
  have hts := atoms_spec (ws := .code yX10_sheetOf cX10_sheetOf 3 (some (FieldType.object "GooseBorder$Sheet")) :: gb_wA) B.pre
  have hq : ∀ w ∈ gb_wA, w.before _ s = true := fun w h => hts w (List.mem_cons_of_mem _ h)
  have hown : s.vm.findClass RX10 = some m.cls := findClass_of_methodNamed B.named
  have hlocks := B.notSynchronized
  have hK := hSt.1
  have hS : va_S (gb_fr b cs.length) s.heap s.heap [] := va_S.rf
  have hl := lv_entry ([.ref (b + k), .int 3, .int p2]) (n := 3) (Nat.le_of_ble_eq_true rfl)
  rw [lg_entry_eq]
  generalize (lg_sl ([.ref (b + k), .int 3, .int p2]) ++ List.replicate (3 - (lg_sl ([.ref (b + k), .int 3, .int p2])).length) Slot.unset).toArray = ls at hl ⊢
  have hl : lv_has ls 3 [(0, .ref (b + k)), (1, .int 3), (2, .int p2)] := hl
  refine lv_iload_n hx hb dX10_sheetOf_0 rfl (lv_at hl 1 rfl) ?_
  refine lv_tableOut (tgt := 49) hx hb dX10_sheetOf_1 (by decide) (by decide) ?_
  refine lv_aload_n hx hb dX10_sheetOf_49 rfl (lv_at hl 0 rfl) ?_
  refine va_get (ci := 8) (v := (.ref (b + ja))) (C := RX10) (T := TX10) (N := 9) hx hb hq i_X10 hown hK hP k (gb_at b h0) rfl 3 (by decide) (hq _ w_118) (fun _ h9 => h9) e0 dX10_sheetOf_50 ?_
  refine lv_iload_n hx hb dX10_sheetOf_53 rfl (lv_at hl 2 rfl) ?_
  refine gb_aald (v := (.ref (b + ra))) hx hb hK hP ja 7 (gb_at b h1) rfl hin hv dX10_sheetOf_54 ?_
  exact W.aret (v := (.ref (b + ra))) hx hb hr (Or.inl ⟨_, rfl⟩) (Or.inr ⟨_, rfl⟩) (fun t ht hW => gb_rq (some (b + ra)) ht ⟨rfl, hP⟩ hS) hS.2.2 dX10_sheetOf_55
