theorem gb_nzB {k : Nat} (h : gb_kB k = true) : ¬ k = 0 := fun e => by rw [e] at h; cases h
theorem gb_nzN {k : Nat} (h : gb_kN k = true) : ¬ k = 0 := fun e => by rw [e] at h; cases h
theorem gb_nzL {k : Nat} (h : gb_kL k = true) : ¬ k = 0 := fun e => by rw [e] at h; cases h
theorem gb_nzD {k : Nat} (h : gb_kD k = true) : ¬ k = 0 := fun e => by rw [e] at h; cases h
theorem gb_on1 {b k : Nat} (h : ¬ k = 0) : some (b + k) = gb_on b k := by
  cases k with
  | zero => exact absurd rfl h
  | succ k => rfl
def gb_kY (k : Nat) : Bool := k == 23
theorem gb_kY_eq {k : Nat} (h : gb_kY k = true) : k = 23 := by
  unfold gb_kY at h
  simpa using h
theorem gb_cY {cT : Nat → ClassId} {b : Nat} {σ : gb_S} {k : Nat} (h : gb_kY k = true) : (gb_CW cT b σ)[k]? = some (.inl (cT 1, 600, .inl (σ.1 k))) := by
  rw [gb_kY_eq h]
  rfl
def gb_tb0 (k : Nat) : Int32 := ([0, 3, 12, 17, 18] : List Int32).getD k 0
def gb_tb1 (k : Nat) : Int32 := ([3, 5, 1, 2, 2, 2, 3, 2, 1, 0, 0, 1, 1, 2, 2, 1, 1, 2] : List Int32).getD k 0
def gb_tb2 (k : Nat) : Int32 := ([20, 9, 9, 0, 0, 4, 4, 60, 1, 99, 999, 0, 0, 0, 0, 7, 4, 0, 0, 0, 7, 4, 0, 0, 0, 7, 4, 0, 0, 0, 7, 7, 4, 0, 0, 7, 60, 0, 0, 0, 10, 0, 0, 0, 0, 0, 0, 0, 0, 0, 0, 0, 0, 0, 0, 4, 0, 0, 0, 0, 9, 0, 0, 0, 0, 999, 99, 0, 0, 0, 999, 99, 0, 0, 0, 99, 0, 0, 0, 0, 999, 0, 0, 0, 0, 4, 999, 0, 0, 0] : List Int32).getD k 0
def gb_ac {β : Type} (sp dp m : Int32) (n0 n1 : Nat) (k : Option β) : Option β := if 0 ≤ sp.toInt ∧ 0 ≤ dp.toInt ∧ 0 ≤ m.toInt ∧ sp.toInt + m.toInt ≤ n0 ∧ dp.toInt + m.toInt ≤ n1 then k else none
theorem gb_nng {x : Int32} (h : 0 ≤ x.toInt) : ¬ x < 0 := fun q => by
  have := Int32.lt_iff_toInt_lt.mp q
  have h0 : (0 : Int32).toInt = 0 := by decide
  omega
theorem gb_ac_s {β : Type} {sp dp m : Int32} {n0 n1 : Nat} {k : Option β} {y : β} (h : gb_ac sp dp m n0 n1 k = some y) : (¬ sp < 0 ∧ ¬ dp < 0 ∧ ¬ m < 0 ∧ sp.toNatClampNeg + m.toNatClampNeg ≤ n0 ∧ dp.toNatClampNeg + m.toNatClampNeg ≤ n1) ∧ k = some y := by
  unfold gb_ac at h
  by_cases c : 0 ≤ sp.toInt ∧ 0 ≤ dp.toInt ∧ 0 ≤ m.toInt ∧ sp.toInt + m.toInt ≤ n0 ∧ dp.toInt + m.toInt ≤ n1
  · rw [if_pos c] at h
    obtain ⟨c1, c2, c3, c4, c5⟩ := c
    refine ⟨⟨gb_nng c1, gb_nng c2, gb_nng c3, ?_, ?_⟩, h⟩
    · unfold Int32.toNatClampNeg; omega
    · unfold Int32.toNatClampNeg; omega
  · rw [if_neg c] at h
    cases h
theorem gb_fitb {F : Nat → Int32} {a m : Nat} (h : (List.range 600).all (fun i => fits .byte (.int (F i))) = true) (h1 : a = 0) (h2 : m = 600) : ∀ i, i < m → fits .byte (.int (F (a + i))) = true := by
  intro i hi
  subst h1; subst h2
  have := List.all_eq_true.mp h i (List.mem_range.mpr hi)
  rw [Nat.zero_add]
  exact this
theorem gb_wTo6 {cT : Nat → ClassId} {b : Nat} {σ : gb_S} {k : Nat} {v : Int32} (h : gb_kT k = true) : (gb_CW cT b σ).set k (.inr (8, [.ref (b + (k + 1)), .ref (b + (k + 6)), .ref (b + (k + 11)), .ref (b + (k + 16)), .ref (b + (k + 21)), .ref (b + (k + 22)), .int v, .int (σ.1 k 7), .int (σ.1 k 8)])) = gb_CW cT b (gb_su σ k (upd (σ.1 k) 6 v)) := by
  rcases gb_kT_or h with rfl | rfl | rfl | rfl <;> rfl
theorem gb_wTo7 {cT : Nat → ClassId} {b : Nat} {σ : gb_S} {k : Nat} {v : Int32} (h : gb_kT k = true) : (gb_CW cT b σ).set k (.inr (8, [.ref (b + (k + 1)), .ref (b + (k + 6)), .ref (b + (k + 11)), .ref (b + (k + 16)), .ref (b + (k + 21)), .ref (b + (k + 22)), .int (σ.1 k 6), .int v, .int (σ.1 k 8)])) = gb_CW cT b (gb_su σ k (upd (σ.1 k) 7 v)) := by
  rcases gb_kT_or h with rfl | rfl | rfl | rfl <;> rfl
theorem gb_wTo8 {cT : Nat → ClassId} {b : Nat} {σ : gb_S} {k : Nat} {v : Int32} (h : gb_kT k = true) : (gb_CW cT b σ).set k (.inr (8, [.ref (b + (k + 1)), .ref (b + (k + 6)), .ref (b + (k + 11)), .ref (b + (k + 16)), .ref (b + (k + 21)), .ref (b + (k + 22)), .int (σ.1 k 6), .int (σ.1 k 7), .int v])) = gb_CW cT b (gb_su σ k (upd (σ.1 k) 8 v)) := by
  rcases gb_kT_or h with rfl | rfl | rfl | rfl <;> rfl

theorem dX0_clear_0 : decode cX0_clear 0 = .ok (.aload_n 0, 1) := dc_42 (show ((cX0_clear.data.toList.drop 0).take 1).map UInt8.toNat = [42] by decide +kernel)
theorem dX0_clear_1 : decode cX0_clear 1 = .ok (.getfield 11, 3) := dc_180 (show ((cX0_clear.data.toList.drop 1).take 3).map UInt8.toNat = [180, 0, 11] by decide +kernel) rfl
theorem dX0_clear_4 : decode cX0_clear 4 = .ok (.iconst 0, 1) := dc_3 (show ((cX0_clear.data.toList.drop 4).take 1).map UInt8.toNat = [3] by decide +kernel)
theorem dX0_clear_5 : decode cX0_clear 5 = .ok (.iconst 0, 1) := dc_3 (show ((cX0_clear.data.toList.drop 5).take 1).map UInt8.toNat = [3] by decide +kernel)
theorem dX0_clear_6 : decode cX0_clear 6 = .ok (.iastore, 1) := dc_79 (show ((cX0_clear.data.toList.drop 6).take 1).map UInt8.toNat = [79] by decide +kernel)
theorem dX0_clear_7 : decode cX0_clear 7 = .ok (.aload_n 0, 1) := dc_42 (show ((cX0_clear.data.toList.drop 7).take 1).map UInt8.toNat = [42] by decide +kernel)
theorem dX0_clear_8 : decode cX0_clear 8 = .ok (.getfield 11, 3) := dc_180 (show ((cX0_clear.data.toList.drop 8).take 3).map UInt8.toNat = [180, 0, 11] by decide +kernel) rfl
theorem dX0_clear_11 : decode cX0_clear 11 = .ok (.iconst 1, 1) := dc_4 (show ((cX0_clear.data.toList.drop 11).take 1).map UInt8.toNat = [4] by decide +kernel)
theorem dX0_clear_12 : decode cX0_clear 12 = .ok (.iconst 0, 1) := dc_3 (show ((cX0_clear.data.toList.drop 12).take 1).map UInt8.toNat = [3] by decide +kernel)
theorem dX0_clear_13 : decode cX0_clear 13 = .ok (.iastore, 1) := dc_79 (show ((cX0_clear.data.toList.drop 13).take 1).map UInt8.toNat = [79] by decide +kernel)
theorem dX0_clear_14 : decode cX0_clear 14 = .ok (.aload_n 0, 1) := dc_42 (show ((cX0_clear.data.toList.drop 14).take 1).map UInt8.toNat = [42] by decide +kernel)
theorem dX0_clear_15 : decode cX0_clear 15 = .ok (.getfield 11, 3) := dc_180 (show ((cX0_clear.data.toList.drop 15).take 3).map UInt8.toNat = [180, 0, 11] by decide +kernel) rfl
theorem dX0_clear_18 : decode cX0_clear 18 = .ok (.iconst 2, 1) := dc_5 (show ((cX0_clear.data.toList.drop 18).take 1).map UInt8.toNat = [5] by decide +kernel)
theorem dX0_clear_19 : decode cX0_clear 19 = .ok (.iconst (-1), 1) := dc_2 (show ((cX0_clear.data.toList.drop 19).take 1).map UInt8.toNat = [2] by decide +kernel)
theorem dX0_clear_20 : decode cX0_clear 20 = .ok (.iastore, 1) := dc_79 (show ((cX0_clear.data.toList.drop 20).take 1).map UInt8.toNat = [79] by decide +kernel)
theorem dX0_clear_21 : decode cX0_clear 21 = .ok (.return_, 1) := dc_177 (show ((cX0_clear.data.toList.drop 21).take 1).map UInt8.toNat = [177] by decide +kernel)
def cs_Border_clear_B (n : Nat) (σ : gb_S) (k0 : Nat) : gb_CR Unit := gb_kk (gb_kB k0) (gb_lt (gb_su σ (k0 + 1) (upd (σ.1 (k0 + 1)) (Int32.toNatClampNeg 0) 0)) (fun s_2 => gb_lt (gb_su s_2 (k0 + 1) (upd (s_2.1 (k0 + 1)) (Int32.toNatClampNeg 1) 0)) (fun s_3 => gb_lt (gb_su s_3 (k0 + 1) (upd (s_3.1 (k0 + 1)) (Int32.toNatClampNeg 2) (-1))) (fun s_4 => some (s_4, ())))))
set_option maxHeartbeats 8000000 in
set_option maxRecDepth 100000 in
theorem cc_Border_clear_B (l : Launch) (D : va_G) (cT : Nat → ClassId) (tt : Nat → Nat) (b1 b : Nat) (hb1 : b1 ≤ b) (n : Nat) (σ : gb_S) (k0 : Nat) (σE : gb_S) (rE : Unit) (h : cs_Border_clear_B n σ k0 = some (σE, rE)) : Met l yX0_clear (.code yX0_clear cX0_clear 1 none :: gb_wA) ({ frames := 0, cells := 0, slots := 0, locals := 0 }) (gb_Pc D cT tt b1 [.ref (b + k0)] (fun h => va_P D vwCl (gb_wl b (gb_CW cT b σ)) h)) (gb_Qv (fun h => va_P D vwCl (gb_wl b (gb_CW cT b σE)) h) (gb_fr b 135)) 0 0 (gb_fr b 135) := by
  refine Met.ofW (cc := cX0_clear) (maxL := 1) (ret := none) (by decide) rfl ?_
  intro p e s m args below meth c s₁ B hml hv
  obtain ⟨rfl, hSt, hP⟩ := hv
  have hx := B.exec
  have hb := B.bytes
  have hr := B.returns
  have hts := atoms_spec (ws := .code yX0_clear cX0_clear 1 none :: gb_wA) B.pre
  have hq : ∀ w ∈ gb_wA, w.before _ s = true := fun w h => hts w (List.mem_cons_of_mem _ h)
  have hown : s.vm.findClass RX0 = some m.cls := findClass_of_methodNamed B.named
  have hlocks := B.notSynchronized
  clear B hts
  have hK := hSt.1
  have hS : va_S (gb_fr b 135) s.heap s.heap [] := va_S.rf
  have hl := lv_entry ([.ref (b + k0)]) (n := 1) (Nat.le_of_ble_eq_true rfl)
  rw [lg_entry_eq]
  generalize (lg_sl ([.ref (b + k0)]) ++ List.replicate (1 - (lg_sl ([.ref (b + k0)])).length) Slot.unset).toArray = ls at hl ⊢
  replace hl : lv_has ls 1 [(0, .ref (b + k0))] := hl
  unfold cs_Border_clear_B at h
  obtain ⟨z_1, h⟩ := gb_kk_s h
  refine lv_aload_n hx hb dX0_clear_0 rfl (lv_at hl 0 rfl) ?_
  refine va_get (ci := 0) (v := (.ref (b + (k0 + 1)))) (C := RX0) (T := TX0) (N := 1) hx hb hq i_X0 hown hK hP k0 (gb_at b (gb_cB z_1).1) rfl 0 (by decide) (hq _ w_49) (fun x9 h9 => u_same (hq _ w_50) x9 h9) rfl dX0_clear_1 ?_
  refine lv_iconst (v := 0) hx hb dX0_clear_4 (by decide) ?_
  refine lv_iconst (v := 0) hx hb dX0_clear_5 (by decide) ?_
  refine va_iast (x := 0) hx hb hK hP (gb_D (fun k h => ⟨Nat.le_add_right b k, Nat.add_lt_add_left h b⟩)) hS (k0 + 1) 0 (gb_at b (gb_cB z_1).2) rfl (gb_in rfl) dX0_clear_6 (fun H locs hP hD hS => ?_)
  rw [gb_set] at hP
  obtain ⟨s_2, es_2⟩ : ∃ q, q = (gb_su σ (k0 + 1) (upd (σ.1 (k0 + 1)) (Int32.toNatClampNeg 0) 0)) := ⟨_, rfl⟩
  replace hP : va_P D vwCl (gb_wl b (gb_CW cT b s_2)) H := by rw [es_2, ← gb_wB z_1]; exact hP
  replace h := gb_lt_s es_2 h
  refine lv_aload_n hx hb dX0_clear_7 rfl (lv_at hl 0 rfl) ?_
  refine va_get (ci := 0) (v := (.ref (b + (k0 + 1)))) (C := RX0) (T := TX0) (N := 1) hx hb hq i_X0 hown hK hP k0 (gb_at b (gb_cB z_1).1) rfl 0 (by decide) (hq _ w_49) (fun x9 h9 => u_same (hq _ w_50) x9 h9) rfl dX0_clear_8 ?_
  refine lv_iconst (v := 1) hx hb dX0_clear_11 (by decide) ?_
  refine lv_iconst (v := 0) hx hb dX0_clear_12 (by decide) ?_
  refine va_iast (x := 0) hx hb hK hP (gb_D (fun k h => ⟨Nat.le_add_right b k, Nat.add_lt_add_left h b⟩)) hS (k0 + 1) 0 (gb_at b (gb_cB z_1).2) rfl (gb_in rfl) dX0_clear_13 (fun H locs hP hD hS => ?_)
  rw [gb_set] at hP
  obtain ⟨s_3, es_3⟩ : ∃ q, q = (gb_su s_2 (k0 + 1) (upd (s_2.1 (k0 + 1)) (Int32.toNatClampNeg 1) 0)) := ⟨_, rfl⟩
  replace hP : va_P D vwCl (gb_wl b (gb_CW cT b s_3)) H := by rw [es_3, ← gb_wB z_1]; exact hP
  replace h := gb_lt_s es_3 h
  refine lv_aload_n hx hb dX0_clear_14 rfl (lv_at hl 0 rfl) ?_
  refine va_get (ci := 0) (v := (.ref (b + (k0 + 1)))) (C := RX0) (T := TX0) (N := 1) hx hb hq i_X0 hown hK hP k0 (gb_at b (gb_cB z_1).1) rfl 0 (by decide) (hq _ w_49) (fun x9 h9 => u_same (hq _ w_50) x9 h9) rfl dX0_clear_15 ?_
  refine lv_iconst (v := 2) hx hb dX0_clear_18 (by decide) ?_
  refine lv_iconst (v := (-1)) hx hb dX0_clear_19 (by decide) ?_
  refine va_iast (x := (-1)) hx hb hK hP (gb_D (fun k h => ⟨Nat.le_add_right b k, Nat.add_lt_add_left h b⟩)) hS (k0 + 1) 0 (gb_at b (gb_cB z_1).2) rfl (gb_in rfl) dX0_clear_20 (fun H locs hP hD hS => ?_)
  rw [gb_set] at hP
  obtain ⟨s_4, es_4⟩ : ∃ q, q = (gb_su s_3 (k0 + 1) (upd (s_3.1 (k0 + 1)) (Int32.toNatClampNeg 2) (-1))) := ⟨_, rfl⟩
  replace hP : va_P D vwCl (gb_wl b (gb_CW cT b s_4)) H := by rw [es_4, ← gb_wB z_1]; exact hP
  replace h := gb_lt_s es_4 h
  obtain ⟨e1, -⟩ := gb_eq2 h
  exact W.vret hx hb hr (fun t ht hW => gb_rv ht (by rw [← e1]; exact hP) hS) hS.2.2 dX0_clear_21
theorem dX0_hasRoomFor_0 : decode cX0_hasRoomFor 0 = .ok (.iload_n 1, 1) := dc_27 (show ((cX0_hasRoomFor.data.toList.drop 0).take 1).map UInt8.toNat = [27] by decide +kernel)
theorem dX0_hasRoomFor_1 : decode cX0_hasRoomFor 1 = .ok (.iconst 2, 1) := dc_5 (show ((cX0_hasRoomFor.data.toList.drop 1).take 1).map UInt8.toNat = [5] by decide +kernel)
theorem dX0_hasRoomFor_2 : decode cX0_hasRoomFor 2 = .ok (.if_icmp .eq 27, 3) := dc_159 (show ((cX0_hasRoomFor.data.toList.drop 2).take 3).map UInt8.toNat = [159, 0, 27] by decide +kernel) rfl
theorem dX0_hasRoomFor_29 : decode cX0_hasRoomFor 29 = .ok (.iconst 1, 1) := dc_4 (show ((cX0_hasRoomFor.data.toList.drop 29).take 1).map UInt8.toNat = [4] by decide +kernel)
theorem dX0_hasRoomFor_30 : decode cX0_hasRoomFor 30 = .ok (.goto 4, 3) := dc_167 (show ((cX0_hasRoomFor.data.toList.drop 30).take 3).map UInt8.toNat = [167, 0, 4] by decide +kernel) rfl
theorem dX0_hasRoomFor_34 : decode cX0_hasRoomFor 34 = .ok (.ireturn, 1) := dc_172 (show ((cX0_hasRoomFor.data.toList.drop 34).take 1).map UInt8.toNat = [172] by decide +kernel)
theorem dX0_hasRoomFor_5 : decode cX0_hasRoomFor 5 = .ok (.iload_n 1, 1) := dc_27 (show ((cX0_hasRoomFor.data.toList.drop 5).take 1).map UInt8.toNat = [27] by decide +kernel)
theorem dX0_hasRoomFor_6 : decode cX0_hasRoomFor 6 = .ok (.ifCond .ne 14, 3) := dc_154 (show ((cX0_hasRoomFor.data.toList.drop 6).take 3).map UInt8.toNat = [154, 0, 14] by decide +kernel) rfl
theorem dX0_hasRoomFor_20 : decode cX0_hasRoomFor 20 = .ok (.aload_n 0, 1) := dc_42 (show ((cX0_hasRoomFor.data.toList.drop 20).take 1).map UInt8.toNat = [42] by decide +kernel)
theorem dX0_hasRoomFor_21 : decode cX0_hasRoomFor 21 = .ok (.invokevirtual 19, 3) := dc_182 (show ((cX0_hasRoomFor.data.toList.drop 21).take 3).map UInt8.toNat = [182, 0, 19] by decide +kernel) rfl
theorem dX0_geese_0 : decode cX0_geese 0 = .ok (.aload_n 0, 1) := dc_42 (show ((cX0_geese.data.toList.drop 0).take 1).map UInt8.toNat = [42] by decide +kernel)
theorem dX0_geese_1 : decode cX0_geese 1 = .ok (.getfield 11, 3) := dc_180 (show ((cX0_geese.data.toList.drop 1).take 3).map UInt8.toNat = [180, 0, 11] by decide +kernel) rfl
theorem dX0_geese_4 : decode cX0_geese 4 = .ok (.iconst 1, 1) := dc_4 (show ((cX0_geese.data.toList.drop 4).take 1).map UInt8.toNat = [4] by decide +kernel)
theorem dX0_geese_5 : decode cX0_geese 5 = .ok (.iaload, 1) := dc_46 (show ((cX0_geese.data.toList.drop 5).take 1).map UInt8.toNat = [46] by decide +kernel)
theorem dX0_geese_6 : decode cX0_geese 6 = .ok (.ireturn, 1) := dc_172 (show ((cX0_geese.data.toList.drop 6).take 1).map UInt8.toNat = [172] by decide +kernel)
def cs_Border_geese_B (n : Nat) (σ : gb_S) (k0 : Nat) : gb_CR Int32 := gb_kk (gb_kB k0) (gb_lt ((σ.1 (k0 + 1)) (Int32.toNatClampNeg 1)) (fun x_2 => some (σ, x_2)))
set_option maxHeartbeats 8000000 in
set_option maxRecDepth 100000 in
theorem cc_Border_geese_B (l : Launch) (D : va_G) (cT : Nat → ClassId) (tt : Nat → Nat) (b1 b : Nat) (hb1 : b1 ≤ b) (n : Nat) (σ : gb_S) (k0 : Nat) (σE : gb_S) (rE : Int32) (h : cs_Border_geese_B n σ k0 = some (σE, rE)) : Met l yX0_geese (.code yX0_geese cX0_geese 1 (some FieldType.int) :: gb_wA) ({ frames := 0, cells := 0, slots := 0, locals := 0 }) (gb_Pc D cT tt b1 [.ref (b + k0)] (fun h => va_P D vwCl (gb_wl b (gb_CW cT b σ)) h)) (gb_Qi (fun r h => r = rE ∧ va_P D vwCl (gb_wl b (gb_CW cT b σE)) h) (gb_fr b 135)) 0 0 (gb_fr b 135) := by
  refine Met.ofW (cc := cX0_geese) (maxL := 1) (ret := (some FieldType.int)) (by decide) rfl ?_
  intro p e s m args below meth c s₁ B hml hv
  obtain ⟨rfl, hSt, hP⟩ := hv
  have hx := B.exec
  have hb := B.bytes
  have hr := B.returns
  have hts := atoms_spec (ws := .code yX0_geese cX0_geese 1 (some FieldType.int) :: gb_wA) B.pre
  have hq : ∀ w ∈ gb_wA, w.before _ s = true := fun w h => hts w (List.mem_cons_of_mem _ h)
  have hown : s.vm.findClass RX0 = some m.cls := findClass_of_methodNamed B.named
  have hlocks := B.notSynchronized
  clear B hts
  have hK := hSt.1
  have hS : va_S (gb_fr b 135) s.heap s.heap [] := va_S.rf
  have hl := lv_entry ([.ref (b + k0)]) (n := 1) (Nat.le_of_ble_eq_true rfl)
  rw [lg_entry_eq]
  generalize (lg_sl ([.ref (b + k0)]) ++ List.replicate (1 - (lg_sl ([.ref (b + k0)])).length) Slot.unset).toArray = ls at hl ⊢
  replace hl : lv_has ls 1 [(0, .ref (b + k0))] := hl
  unfold cs_Border_geese_B at h
  obtain ⟨z_1, h⟩ := gb_kk_s h
  refine lv_aload_n hx hb dX0_geese_0 rfl (lv_at hl 0 rfl) ?_
  refine va_get (ci := 0) (v := (.ref (b + (k0 + 1)))) (C := RX0) (T := TX0) (N := 1) hx hb hq i_X0 hown hK hP k0 (gb_at b (gb_cB z_1).1) rfl 0 (by decide) (hq _ w_49) (fun x9 h9 => u_same (hq _ w_50) x9 h9) rfl dX0_geese_1 ?_
  refine lv_iconst (v := 1) hx hb dX0_geese_4 (by decide) ?_
  refine va_iald hx hb hK hP (k0 + 1) 0 (gb_at b (gb_cB z_1).2) rfl (gb_in rfl) dX0_geese_5 ?_
  refine lv_topi (fun x_2 ex_2 => ?_)
  replace h := gb_lt_s ex_2 h
  obtain ⟨e1, e2⟩ := gb_eq2 h
  exact W.iret (v := x_2) hx hb hr (fun t ht hW => gb_ri ht ⟨e2, by rw [← e1]; exact hP⟩ hS) hS.2.2 dX0_geese_6
theorem w_479 : (Cond.code ({ cls := "GooseBorder$Border", name := "geese", desc := "()I" } : MethodName) prog_2_method_7_code (1 : Nat) (Option.some FieldType.int)) ∈ gb_wA := gb_t2 239 rfl rfl
theorem w_476 : (Cond.methodLink "GooseBorder$Border" (19 : Nat) ({ cls := "GooseBorder$Border", name := "geese", desc := "()I" } : MethodName)) ∈ gb_wA := gb_t2 236 rfl rfl
theorem w_477 : (Cond.instanceMethod ({ cls := "GooseBorder$Border", name := "geese", desc := "()I" } : MethodName)) ∈ gb_wA := gb_t2 237 rfl rfl
theorem w_478 : (Cond.selects "GooseBorder$Border" ({ cls := "GooseBorder$Border", name := "geese", desc := "()I" } : MethodName) ({ cls := "GooseBorder$Border", name := "geese", desc := "()I" } : MethodName)) ∈ gb_wA := gb_t2 238 rfl rfl
theorem dX0_hasRoomFor_24 : decode cX0_hasRoomFor 24 = .ok (.bipush 8, 2) := dc_16 (show ((cX0_hasRoomFor.data.toList.drop 24).take 2).map UInt8.toNat = [16, 8] by decide +kernel) rfl
theorem dX0_hasRoomFor_26 : decode cX0_hasRoomFor 26 = .ok (.if_icmp .ge 7, 3) := dc_162 (show ((cX0_hasRoomFor.data.toList.drop 26).take 3).map UInt8.toNat = [162, 0, 7] by decide +kernel) rfl
theorem dX0_hasRoomFor_33 : decode cX0_hasRoomFor 33 = .ok (.iconst 0, 1) := dc_3 (show ((cX0_hasRoomFor.data.toList.drop 33).take 1).map UInt8.toNat = [3] by decide +kernel)
theorem dX0_hasRoomFor_9 : decode cX0_hasRoomFor 9 = .ok (.aload_n 0, 1) := dc_42 (show ((cX0_hasRoomFor.data.toList.drop 9).take 1).map UInt8.toNat = [42] by decide +kernel)
theorem dX0_hasRoomFor_10 : decode cX0_hasRoomFor 10 = .ok (.invokevirtual 15, 3) := dc_182 (show ((cX0_hasRoomFor.data.toList.drop 10).take 3).map UInt8.toNat = [182, 0, 15] by decide +kernel) rfl
theorem dX0_paths_0 : decode cX0_paths 0 = .ok (.aload_n 0, 1) := dc_42 (show ((cX0_paths.data.toList.drop 0).take 1).map UInt8.toNat = [42] by decide +kernel)
theorem dX0_paths_1 : decode cX0_paths 1 = .ok (.getfield 11, 3) := dc_180 (show ((cX0_paths.data.toList.drop 1).take 3).map UInt8.toNat = [180, 0, 11] by decide +kernel) rfl
theorem dX0_paths_4 : decode cX0_paths 4 = .ok (.iconst 0, 1) := dc_3 (show ((cX0_paths.data.toList.drop 4).take 1).map UInt8.toNat = [3] by decide +kernel)
theorem dX0_paths_5 : decode cX0_paths 5 = .ok (.iaload, 1) := dc_46 (show ((cX0_paths.data.toList.drop 5).take 1).map UInt8.toNat = [46] by decide +kernel)
theorem dX0_paths_6 : decode cX0_paths 6 = .ok (.ireturn, 1) := dc_172 (show ((cX0_paths.data.toList.drop 6).take 1).map UInt8.toNat = [172] by decide +kernel)
def cs_Border_paths_B (n : Nat) (σ : gb_S) (k0 : Nat) : gb_CR Int32 := gb_kk (gb_kB k0) (gb_lt ((σ.1 (k0 + 1)) (Int32.toNatClampNeg 0)) (fun x_2 => some (σ, x_2)))
set_option maxHeartbeats 8000000 in
set_option maxRecDepth 100000 in
theorem cc_Border_paths_B (l : Launch) (D : va_G) (cT : Nat → ClassId) (tt : Nat → Nat) (b1 b : Nat) (hb1 : b1 ≤ b) (n : Nat) (σ : gb_S) (k0 : Nat) (σE : gb_S) (rE : Int32) (h : cs_Border_paths_B n σ k0 = some (σE, rE)) : Met l yX0_paths (.code yX0_paths cX0_paths 1 (some FieldType.int) :: gb_wA) ({ frames := 0, cells := 0, slots := 0, locals := 0 }) (gb_Pc D cT tt b1 [.ref (b + k0)] (fun h => va_P D vwCl (gb_wl b (gb_CW cT b σ)) h)) (gb_Qi (fun r h => r = rE ∧ va_P D vwCl (gb_wl b (gb_CW cT b σE)) h) (gb_fr b 135)) 0 0 (gb_fr b 135) := by
  refine Met.ofW (cc := cX0_paths) (maxL := 1) (ret := (some FieldType.int)) (by decide) rfl ?_
  intro p e s m args below meth c s₁ B hml hv
  obtain ⟨rfl, hSt, hP⟩ := hv
  have hx := B.exec
  have hb := B.bytes
  have hr := B.returns
  have hts := atoms_spec (ws := .code yX0_paths cX0_paths 1 (some FieldType.int) :: gb_wA) B.pre
  have hq : ∀ w ∈ gb_wA, w.before _ s = true := fun w h => hts w (List.mem_cons_of_mem _ h)
  have hown : s.vm.findClass RX0 = some m.cls := findClass_of_methodNamed B.named
  have hlocks := B.notSynchronized
  clear B hts
  have hK := hSt.1
  have hS : va_S (gb_fr b 135) s.heap s.heap [] := va_S.rf
  have hl := lv_entry ([.ref (b + k0)]) (n := 1) (Nat.le_of_ble_eq_true rfl)
  rw [lg_entry_eq]
  generalize (lg_sl ([.ref (b + k0)]) ++ List.replicate (1 - (lg_sl ([.ref (b + k0)])).length) Slot.unset).toArray = ls at hl ⊢
  replace hl : lv_has ls 1 [(0, .ref (b + k0))] := hl
  unfold cs_Border_paths_B at h
  obtain ⟨z_1, h⟩ := gb_kk_s h
  refine lv_aload_n hx hb dX0_paths_0 rfl (lv_at hl 0 rfl) ?_
  refine va_get (ci := 0) (v := (.ref (b + (k0 + 1)))) (C := RX0) (T := TX0) (N := 1) hx hb hq i_X0 hown hK hP k0 (gb_at b (gb_cB z_1).1) rfl 0 (by decide) (hq _ w_49) (fun x9 h9 => u_same (hq _ w_50) x9 h9) rfl dX0_paths_1 ?_
  refine lv_iconst (v := 0) hx hb dX0_paths_4 (by decide) ?_
  refine va_iald hx hb hK hP (k0 + 1) 0 (gb_at b (gb_cB z_1).2) rfl (gb_in rfl) dX0_paths_5 ?_
  refine lv_topi (fun x_2 ex_2 => ?_)
  replace h := gb_lt_s ex_2 h
  obtain ⟨e1, e2⟩ := gb_eq2 h
  exact W.iret (v := x_2) hx hb hr (fun t ht hW => gb_ri ht ⟨e2, by rw [← e1]; exact hP⟩ hS) hS.2.2 dX0_paths_6
theorem w_475 : (Cond.code ({ cls := "GooseBorder$Border", name := "paths", desc := "()I" } : MethodName) prog_2_method_6_code (1 : Nat) (Option.some FieldType.int)) ∈ gb_wA := gb_t2 235 rfl rfl
theorem w_472 : (Cond.methodLink "GooseBorder$Border" (15 : Nat) ({ cls := "GooseBorder$Border", name := "paths", desc := "()I" } : MethodName)) ∈ gb_wA := gb_t2 232 rfl rfl
theorem w_473 : (Cond.instanceMethod ({ cls := "GooseBorder$Border", name := "paths", desc := "()I" } : MethodName)) ∈ gb_wA := gb_t2 233 rfl rfl
theorem w_474 : (Cond.selects "GooseBorder$Border" ({ cls := "GooseBorder$Border", name := "paths", desc := "()I" } : MethodName) ({ cls := "GooseBorder$Border", name := "paths", desc := "()I" } : MethodName)) ∈ gb_wA := gb_t2 234 rfl rfl
theorem dX0_hasRoomFor_13 : decode cX0_hasRoomFor 13 = .ok (.iconst 5, 1) := dc_8 (show ((cX0_hasRoomFor.data.toList.drop 13).take 1).map UInt8.toNat = [8] by decide +kernel)
theorem dX0_hasRoomFor_14 : decode cX0_hasRoomFor 14 = .ok (.if_icmp .ge 19, 3) := dc_162 (show ((cX0_hasRoomFor.data.toList.drop 14).take 3).map UInt8.toNat = [162, 0, 19] by decide +kernel) rfl
theorem dX0_hasRoomFor_17 : decode cX0_hasRoomFor 17 = .ok (.goto 12, 3) := dc_167 (show ((cX0_hasRoomFor.data.toList.drop 17).take 3).map UInt8.toNat = [167, 0, 12] by decide +kernel) rfl
def cs_Border_hasRoomFor_B (n : Nat) (σ : gb_S) (k0 : Nat) (p1 : Int32) : gb_CR Int32 := gb_kk (gb_kB k0) ((if p1 = 2 then some (σ, 1) else (if p1 = 0 then gb_cd (cs_Border_paths_B n σ k0) (fun s_9 r_10 => (if (5 : Int32) ≤ r_10 then some (s_9, 0) else some (s_9, 1))) else gb_cd (cs_Border_geese_B n σ k0) (fun s_4 r_5 => (if (8 : Int32) ≤ r_5 then some (s_4, 0) else some (s_4, 1))))))
set_option maxHeartbeats 8000000 in
set_option maxRecDepth 100000 in
theorem cc_Border_hasRoomFor_B (l : Launch) (D : va_G) (cT : Nat → ClassId) (tt : Nat → Nat) (b1 b : Nat) (hb1 : b1 ≤ b) (n : Nat) (σ : gb_S) (k0 : Nat) (p1 : Int32) (σE : gb_S) (rE : Int32) (h : cs_Border_hasRoomFor_B n σ k0 p1 = some (σE, rE)) : Met l yX0_hasRoomFor (.code yX0_hasRoomFor cX0_hasRoomFor 2 (some FieldType.boolean) :: gb_wA) ({ frames := 1, cells := 0, slots := 0, locals := 20 }) (gb_Pc D cT tt b1 [.ref (b + k0), .int p1] (fun h => va_P D vwCl (gb_wl b (gb_CW cT b σ)) h)) (gb_Qi (fun r h => r = rE ∧ va_P D vwCl (gb_wl b (gb_CW cT b σE)) h) (gb_fr b 135)) 0 0 (gb_fr b 135) := by
  refine Met.ofW (cc := cX0_hasRoomFor) (maxL := 2) (ret := (some FieldType.boolean)) (by decide) rfl ?_
  intro p e s m args below meth c s₁ B hml hv
  obtain ⟨rfl, hSt, hP⟩ := hv
  have hx := B.exec
  have hb := B.bytes
  have hr := B.returns
  have hts := atoms_spec (ws := .code yX0_hasRoomFor cX0_hasRoomFor 2 (some FieldType.boolean) :: gb_wA) B.pre
  have hq : ∀ w ∈ gb_wA, w.before _ s = true := fun w h => hts w (List.mem_cons_of_mem _ h)
  have hown : s.vm.findClass RX0 = some m.cls := findClass_of_methodNamed B.named
  have hlocks := B.notSynchronized
  clear B hts
  have hK := hSt.1
  have hS : va_S (gb_fr b 135) s.heap s.heap [] := va_S.rf
  have hl := lv_entry ([.ref (b + k0), .int p1]) (n := 2) (Nat.le_of_ble_eq_true rfl)
  rw [lg_entry_eq]
  generalize (lg_sl ([.ref (b + k0), .int p1]) ++ List.replicate (2 - (lg_sl ([.ref (b + k0), .int p1])).length) Slot.unset).toArray = ls at hl ⊢
  replace hl : lv_has ls 2 [(0, .ref (b + k0)), (1, .int p1)] := hl
  unfold cs_Border_hasRoomFor_B at h
  obtain ⟨z_1, h⟩ := gb_kk_s h
  refine lv_iload_n hx hb dX0_hasRoomFor_0 rfl (lv_at hl 1 rfl) ?_
  refine lv_iconst (v := 2) hx hb dX0_hasRoomFor_1 (by decide) ?_
  refine lv_icmp_eq (tgt := 29) hx hb dX0_hasRoomFor_2 (by decide) (fun c_2 => ?_) (fun c_2 => ?_)
  · rw [if_pos c_2] at h
    refine lv_iconst (v := 1) hx hb dX0_hasRoomFor_29 (by decide) ?_
    refine lv_goto (tgt := 34) hx hb dX0_hasRoomFor_30 (by decide) ?_
    obtain ⟨e1, e2⟩ := gb_eq2 h
    exact W.zret (v := 1) hx hb hr (by decide) (fun t ht hW => gb_ri ht ⟨e2, by rw [← e1]; exact hP⟩ hS) hS.2.2 dX0_hasRoomFor_34
  · rw [if_neg c_2] at h
    refine lv_iload_n hx hb dX0_hasRoomFor_5 rfl (lv_at hl 1 rfl) ?_
    refine lv_if_ne (tgt := 20) hx hb dX0_hasRoomFor_6 (by decide) (fun c_3 => ?_) (fun c_3 => ?_)
    · rw [if_neg c_3] at h
      refine lv_aload_n hx hb dX0_hasRoomFor_20 rfl (lv_at hl 0 rfl) ?_
      obtain ⟨s_4, r_5, z_6, h⟩ := gb_cd_s h
      refine gb_calli (va_runV (C := RX0) (As := []) (rest := []) ⟨hx, hb, hml, hown, hq⟩ (cc_Border_geese_B l D cT tt b1 b hb1 n σ k0 s_4 r_5 z_6) (cwV 0 hq (gb_gV w_476 w_477 w_478 w_4 w_479) rfl rfl rfl (by decide +kernel) ⟨Nat.le_of_ble_eq_true rfl, Nat.le_of_ble_eq_true rfl⟩) (gb_preV (r := (RX0, TX0, 1)) (ci := 0) (q0 := k0) hSt hP rfl (gb_at b (gb_cB z_1).1) hS (fun q h => Nat.le_trans hb1 h.1) hP) rfl rfl hl.1 rfl (lv_room (Nat.le_of_ble_eq_true rfl)) dX0_hasRoomFor_21 ⟨Nat.le_of_ble_eq_true rfl, Nat.le_of_ble_eq_true rfl⟩) hS (fun _ h => h) (fun _ h => h) (fun q_7 H locs hY hk hS => ?_)
      obtain ⟨hq_7, hP⟩ := hY
      replace hq_7 := hq_7.symm
      subst hq_7
      refine lv_bipush (v := 8) hx hb dX0_hasRoomFor_24 (by decide) ?_
      refine lv_icmp_ge (tgt := 33) hx hb dX0_hasRoomFor_26 (by decide) (fun c_8 => ?_) (fun c_8 => ?_)
      · rw [if_pos c_8] at h
        refine lv_iconst (v := 0) hx hb dX0_hasRoomFor_33 (by decide) ?_
        obtain ⟨e1, e2⟩ := gb_eq2 h
        exact W.zret (v := 0) hx hb hr (by decide) (fun t ht hW => gb_ri ht ⟨e2, by rw [← e1]; exact hP⟩ hS) hS.2.2 dX0_hasRoomFor_34
      · rw [if_neg c_8] at h
        refine lv_iconst (v := 1) hx hb dX0_hasRoomFor_29 (by decide) ?_
        refine lv_goto (tgt := 34) hx hb dX0_hasRoomFor_30 (by decide) ?_
        obtain ⟨e1, e2⟩ := gb_eq2 h
        exact W.zret (v := 1) hx hb hr (by decide) (fun t ht hW => gb_ri ht ⟨e2, by rw [← e1]; exact hP⟩ hS) hS.2.2 dX0_hasRoomFor_34
    · rw [if_pos c_3] at h
      refine lv_aload_n hx hb dX0_hasRoomFor_9 rfl (lv_at hl 0 rfl) ?_
      obtain ⟨s_9, r_10, z_11, h⟩ := gb_cd_s h
      refine gb_calli (va_runV (C := RX0) (As := []) (rest := []) ⟨hx, hb, hml, hown, hq⟩ (cc_Border_paths_B l D cT tt b1 b hb1 n σ k0 s_9 r_10 z_11) (cwV 0 hq (gb_gV w_472 w_473 w_474 w_4 w_475) rfl rfl rfl (by decide +kernel) ⟨Nat.le_of_ble_eq_true rfl, Nat.le_of_ble_eq_true rfl⟩) (gb_preV (r := (RX0, TX0, 1)) (ci := 0) (q0 := k0) hSt hP rfl (gb_at b (gb_cB z_1).1) hS (fun q h => Nat.le_trans hb1 h.1) hP) rfl rfl hl.1 rfl (lv_room (Nat.le_of_ble_eq_true rfl)) dX0_hasRoomFor_10 ⟨Nat.le_of_ble_eq_true rfl, Nat.le_of_ble_eq_true rfl⟩) hS (fun _ h => h) (fun _ h => h) (fun q_12 H locs hY hk hS => ?_)
      obtain ⟨hq_12, hP⟩ := hY
      replace hq_12 := hq_12.symm
      subst hq_12
      refine lv_iconst (v := 5) hx hb dX0_hasRoomFor_13 (by decide) ?_
      refine lv_icmp_ge (tgt := 33) hx hb dX0_hasRoomFor_14 (by decide) (fun c_13 => ?_) (fun c_13 => ?_)
      · rw [if_pos c_13] at h
        refine lv_iconst (v := 0) hx hb dX0_hasRoomFor_33 (by decide) ?_
        obtain ⟨e1, e2⟩ := gb_eq2 h
        exact W.zret (v := 0) hx hb hr (by decide) (fun t ht hW => gb_ri ht ⟨e2, by rw [← e1]; exact hP⟩ hS) hS.2.2 dX0_hasRoomFor_34
      · rw [if_neg c_13] at h
        refine lv_goto (tgt := 29) hx hb dX0_hasRoomFor_17 (by decide) ?_
        refine lv_iconst (v := 1) hx hb dX0_hasRoomFor_29 (by decide) ?_
        refine lv_goto (tgt := 34) hx hb dX0_hasRoomFor_30 (by decide) ?_
        obtain ⟨e1, e2⟩ := gb_eq2 h
        exact W.zret (v := 1) hx hb hr (by decide) (fun t ht hW => gb_ri ht ⟨e2, by rw [← e1]; exact hP⟩ hS) hS.2.2 dX0_hasRoomFor_34
theorem dX0_clashes_0 : decode cX0_clashes 0 = .ok (.iconst 0, 1) := dc_3 (show ((cX0_clashes.data.toList.drop 0).take 1).map UInt8.toNat = [3] by decide +kernel)
theorem dX0_clashes_1 : decode cX0_clashes 1 = .ok (.ireturn, 1) := dc_172 (show ((cX0_clashes.data.toList.drop 1).take 1).map UInt8.toNat = [172] by decide +kernel)
def cs_Border_clashes_B (n : Nat) (σ : gb_S) (k0 : Nat) : gb_CR Int32 := gb_kk (gb_kB k0) (some (σ, 0))
set_option maxHeartbeats 8000000 in
set_option maxRecDepth 100000 in
theorem cc_Border_clashes_B (l : Launch) (D : va_G) (cT : Nat → ClassId) (tt : Nat → Nat) (b1 b : Nat) (hb1 : b1 ≤ b) (n : Nat) (σ : gb_S) (k0 : Nat) (σE : gb_S) (rE : Int32) (h : cs_Border_clashes_B n σ k0 = some (σE, rE)) : Met l yX0_clashes (.code yX0_clashes cX0_clashes 1 (some FieldType.boolean) :: gb_wA) ({ frames := 0, cells := 0, slots := 0, locals := 0 }) (gb_Pc D cT tt b1 [.ref (b + k0)] (fun h => va_P D vwCl (gb_wl b (gb_CW cT b σ)) h)) (gb_Qi (fun r h => r = rE ∧ va_P D vwCl (gb_wl b (gb_CW cT b σE)) h) (gb_fr b 135)) 0 0 (gb_fr b 135) := by
  refine Met.ofW (cc := cX0_clashes) (maxL := 1) (ret := (some FieldType.boolean)) (by decide) rfl ?_
  intro p e s m args below meth c s₁ B hml hv
  obtain ⟨rfl, hSt, hP⟩ := hv
  have hx := B.exec
  have hb := B.bytes
  have hr := B.returns
  have hts := atoms_spec (ws := .code yX0_clashes cX0_clashes 1 (some FieldType.boolean) :: gb_wA) B.pre
  have hq : ∀ w ∈ gb_wA, w.before _ s = true := fun w h => hts w (List.mem_cons_of_mem _ h)
  have hown : s.vm.findClass RX0 = some m.cls := findClass_of_methodNamed B.named
  have hlocks := B.notSynchronized
  clear B hts
  have hK := hSt.1
  have hS : va_S (gb_fr b 135) s.heap s.heap [] := va_S.rf
  have hl := lv_entry ([.ref (b + k0)]) (n := 1) (Nat.le_of_ble_eq_true rfl)
  rw [lg_entry_eq]
  generalize (lg_sl ([.ref (b + k0)]) ++ List.replicate (1 - (lg_sl ([.ref (b + k0)])).length) Slot.unset).toArray = ls at hl ⊢
  replace hl : lv_has ls 1 [(0, .ref (b + k0))] := hl
  unfold cs_Border_clashes_B at h
  obtain ⟨z_1, h⟩ := gb_kk_s h
  refine lv_iconst (v := 0) hx hb dX0_clashes_0 (by decide) ?_
  obtain ⟨e1, e2⟩ := gb_eq2 h
  exact W.zret (v := 0) hx hb hr (by decide) (fun t ht hW => gb_ri ht ⟨e2, by rw [← e1]; exact hP⟩ hS) hS.2.2 dX0_clashes_1
theorem dX0_cap_0 : decode cX0_cap 0 = .ok (.aload_n 0, 1) := dc_42 (show ((cX0_cap.data.toList.drop 0).take 1).map UInt8.toNat = [42] by decide +kernel)
theorem dX0_cap_1 : decode cX0_cap 1 = .ok (.getfield 11, 3) := dc_180 (show ((cX0_cap.data.toList.drop 1).take 3).map UInt8.toNat = [180, 0, 11] by decide +kernel) rfl
theorem dX0_cap_4 : decode cX0_cap 4 = .ok (.iconst 2, 1) := dc_5 (show ((cX0_cap.data.toList.drop 4).take 1).map UInt8.toNat = [5] by decide +kernel)
theorem dX0_cap_5 : decode cX0_cap 5 = .ok (.iaload, 1) := dc_46 (show ((cX0_cap.data.toList.drop 5).take 1).map UInt8.toNat = [46] by decide +kernel)
theorem dX0_cap_6 : decode cX0_cap 6 = .ok (.ireturn, 1) := dc_172 (show ((cX0_cap.data.toList.drop 6).take 1).map UInt8.toNat = [172] by decide +kernel)
def cs_Border_cap_B (n : Nat) (σ : gb_S) (k0 : Nat) : gb_CR Int32 := gb_kk (gb_kB k0) (gb_lt ((σ.1 (k0 + 1)) (Int32.toNatClampNeg 2)) (fun x_2 => some (σ, x_2)))
set_option maxHeartbeats 8000000 in
set_option maxRecDepth 100000 in
theorem cc_Border_cap_B (l : Launch) (D : va_G) (cT : Nat → ClassId) (tt : Nat → Nat) (b1 b : Nat) (hb1 : b1 ≤ b) (n : Nat) (σ : gb_S) (k0 : Nat) (σE : gb_S) (rE : Int32) (h : cs_Border_cap_B n σ k0 = some (σE, rE)) : Met l yX0_cap (.code yX0_cap cX0_cap 1 (some FieldType.int) :: gb_wA) ({ frames := 0, cells := 0, slots := 0, locals := 0 }) (gb_Pc D cT tt b1 [.ref (b + k0)] (fun h => va_P D vwCl (gb_wl b (gb_CW cT b σ)) h)) (gb_Qi (fun r h => r = rE ∧ va_P D vwCl (gb_wl b (gb_CW cT b σE)) h) (gb_fr b 135)) 0 0 (gb_fr b 135) := by
  refine Met.ofW (cc := cX0_cap) (maxL := 1) (ret := (some FieldType.int)) (by decide) rfl ?_
  intro p e s m args below meth c s₁ B hml hv
  obtain ⟨rfl, hSt, hP⟩ := hv
  have hx := B.exec
  have hb := B.bytes
  have hr := B.returns
  have hts := atoms_spec (ws := .code yX0_cap cX0_cap 1 (some FieldType.int) :: gb_wA) B.pre
  have hq : ∀ w ∈ gb_wA, w.before _ s = true := fun w h => hts w (List.mem_cons_of_mem _ h)
  have hown : s.vm.findClass RX0 = some m.cls := findClass_of_methodNamed B.named
  have hlocks := B.notSynchronized
  clear B hts
  have hK := hSt.1
  have hS : va_S (gb_fr b 135) s.heap s.heap [] := va_S.rf
  have hl := lv_entry ([.ref (b + k0)]) (n := 1) (Nat.le_of_ble_eq_true rfl)
  rw [lg_entry_eq]
  generalize (lg_sl ([.ref (b + k0)]) ++ List.replicate (1 - (lg_sl ([.ref (b + k0)])).length) Slot.unset).toArray = ls at hl ⊢
  replace hl : lv_has ls 1 [(0, .ref (b + k0))] := hl
  unfold cs_Border_cap_B at h
  obtain ⟨z_1, h⟩ := gb_kk_s h
  refine lv_aload_n hx hb dX0_cap_0 rfl (lv_at hl 0 rfl) ?_
  refine va_get (ci := 0) (v := (.ref (b + (k0 + 1)))) (C := RX0) (T := TX0) (N := 1) hx hb hq i_X0 hown hK hP k0 (gb_at b (gb_cB z_1).1) rfl 0 (by decide) (hq _ w_49) (fun x9 h9 => u_same (hq _ w_50) x9 h9) rfl dX0_cap_1 ?_
  refine lv_iconst (v := 2) hx hb dX0_cap_4 (by decide) ?_
  refine va_iald hx hb hK hP (k0 + 1) 0 (gb_at b (gb_cB z_1).2) rfl (gb_in rfl) dX0_cap_5 ?_
  refine lv_topi (fun x_2 ex_2 => ?_)
  replace h := gb_lt_s ex_2 h
  obtain ⟨e1, e2⟩ := gb_eq2 h
  exact W.iret (v := x_2) hx hb hr (fun t ht hW => gb_ri ht ⟨e2, by rw [← e1]; exact hP⟩ hS) hS.2.2 dX0_cap_6
theorem dX0_hasPath_0 : decode cX0_hasPath 0 = .ok (.iload_n 1, 1) := dc_27 (show ((cX0_hasPath.data.toList.drop 0).take 1).map UInt8.toNat = [27] by decide +kernel)
theorem dX0_hasPath_1 : decode cX0_hasPath 1 = .ok (.ifCond .lt 15, 3) := dc_155 (show ((cX0_hasPath.data.toList.drop 1).take 3).map UInt8.toNat = [155, 0, 15] by decide +kernel) rfl
theorem dX0_hasPath_16 : decode cX0_hasPath 16 = .ok (.iconst 0, 1) := dc_3 (show ((cX0_hasPath.data.toList.drop 16).take 1).map UInt8.toNat = [3] by decide +kernel)
theorem dX0_hasPath_17 : decode cX0_hasPath 17 = .ok (.ireturn, 1) := dc_172 (show ((cX0_hasPath.data.toList.drop 17).take 1).map UInt8.toNat = [172] by decide +kernel)
theorem dX0_hasPath_4 : decode cX0_hasPath 4 = .ok (.iload_n 1, 1) := dc_27 (show ((cX0_hasPath.data.toList.drop 4).take 1).map UInt8.toNat = [27] by decide +kernel)
theorem dX0_hasPath_5 : decode cX0_hasPath 5 = .ok (.aload_n 0, 1) := dc_42 (show ((cX0_hasPath.data.toList.drop 5).take 1).map UInt8.toNat = [42] by decide +kernel)
theorem dX0_hasPath_6 : decode cX0_hasPath 6 = .ok (.invokevirtual 15, 3) := dc_182 (show ((cX0_hasPath.data.toList.drop 6).take 3).map UInt8.toNat = [182, 0, 15] by decide +kernel) rfl
theorem dX0_hasPath_9 : decode cX0_hasPath 9 = .ok (.if_icmp .ge 7, 3) := dc_162 (show ((cX0_hasPath.data.toList.drop 9).take 3).map UInt8.toNat = [162, 0, 7] by decide +kernel) rfl
theorem dX0_hasPath_12 : decode cX0_hasPath 12 = .ok (.iconst 1, 1) := dc_4 (show ((cX0_hasPath.data.toList.drop 12).take 1).map UInt8.toNat = [4] by decide +kernel)
theorem dX0_hasPath_13 : decode cX0_hasPath 13 = .ok (.goto 4, 3) := dc_167 (show ((cX0_hasPath.data.toList.drop 13).take 3).map UInt8.toNat = [167, 0, 4] by decide +kernel) rfl
def cs_Border_hasPath_B (n : Nat) (σ : gb_S) (k0 : Nat) (p1 : Int32) : gb_CR Int32 := gb_kk (gb_kB k0) ((if p1 < 0 then some (σ, 0) else gb_cd (cs_Border_paths_B n σ k0) (fun s_3 r_4 => (if r_4 ≤ p1 then some (s_3, 0) else some (s_3, 1)))))
set_option maxHeartbeats 8000000 in
set_option maxRecDepth 100000 in
theorem cc_Border_hasPath_B (l : Launch) (D : va_G) (cT : Nat → ClassId) (tt : Nat → Nat) (b1 b : Nat) (hb1 : b1 ≤ b) (n : Nat) (σ : gb_S) (k0 : Nat) (p1 : Int32) (σE : gb_S) (rE : Int32) (h : cs_Border_hasPath_B n σ k0 p1 = some (σE, rE)) : Met l yX0_hasPath (.code yX0_hasPath cX0_hasPath 2 (some FieldType.boolean) :: gb_wA) ({ frames := 1, cells := 0, slots := 0, locals := 20 }) (gb_Pc D cT tt b1 [.ref (b + k0), .int p1] (fun h => va_P D vwCl (gb_wl b (gb_CW cT b σ)) h)) (gb_Qi (fun r h => r = rE ∧ va_P D vwCl (gb_wl b (gb_CW cT b σE)) h) (gb_fr b 135)) 0 0 (gb_fr b 135) := by
  refine Met.ofW (cc := cX0_hasPath) (maxL := 2) (ret := (some FieldType.boolean)) (by decide) rfl ?_
  intro p e s m args below meth c s₁ B hml hv
  obtain ⟨rfl, hSt, hP⟩ := hv
  have hx := B.exec
  have hb := B.bytes
  have hr := B.returns
  have hts := atoms_spec (ws := .code yX0_hasPath cX0_hasPath 2 (some FieldType.boolean) :: gb_wA) B.pre
  have hq : ∀ w ∈ gb_wA, w.before _ s = true := fun w h => hts w (List.mem_cons_of_mem _ h)
  have hown : s.vm.findClass RX0 = some m.cls := findClass_of_methodNamed B.named
  have hlocks := B.notSynchronized
  clear B hts
  have hK := hSt.1
  have hS : va_S (gb_fr b 135) s.heap s.heap [] := va_S.rf
  have hl := lv_entry ([.ref (b + k0), .int p1]) (n := 2) (Nat.le_of_ble_eq_true rfl)
  rw [lg_entry_eq]
  generalize (lg_sl ([.ref (b + k0), .int p1]) ++ List.replicate (2 - (lg_sl ([.ref (b + k0), .int p1])).length) Slot.unset).toArray = ls at hl ⊢
  replace hl : lv_has ls 2 [(0, .ref (b + k0)), (1, .int p1)] := hl
  unfold cs_Border_hasPath_B at h
  obtain ⟨z_1, h⟩ := gb_kk_s h
  refine lv_iload_n hx hb dX0_hasPath_0 rfl (lv_at hl 1 rfl) ?_
  refine lv_if_lt (tgt := 16) hx hb dX0_hasPath_1 (by decide) (fun c_2 => ?_) (fun c_2 => ?_)
  · rw [if_pos c_2] at h
    refine lv_iconst (v := 0) hx hb dX0_hasPath_16 (by decide) ?_
    obtain ⟨e1, e2⟩ := gb_eq2 h
    exact W.zret (v := 0) hx hb hr (by decide) (fun t ht hW => gb_ri ht ⟨e2, by rw [← e1]; exact hP⟩ hS) hS.2.2 dX0_hasPath_17
  · rw [if_neg c_2] at h
    refine lv_iload_n hx hb dX0_hasPath_4 rfl (lv_at hl 1 rfl) ?_
    refine lv_aload_n hx hb dX0_hasPath_5 rfl (lv_at hl 0 rfl) ?_
    obtain ⟨s_3, r_4, z_5, h⟩ := gb_cd_s h
    refine gb_calli (va_runV (C := RX0) (As := []) (rest := [.int p1]) ⟨hx, hb, hml, hown, hq⟩ (cc_Border_paths_B l D cT tt b1 b hb1 n σ k0 s_3 r_4 z_5) (cwV 0 hq (gb_gV w_472 w_473 w_474 w_4 w_475) rfl rfl rfl (by decide +kernel) ⟨Nat.le_of_ble_eq_true rfl, Nat.le_of_ble_eq_true rfl⟩) (gb_preV (r := (RX0, TX0, 1)) (ci := 0) (q0 := k0) hSt hP rfl (gb_at b (gb_cB z_1).1) hS (fun q h => Nat.le_trans hb1 h.1) hP) rfl rfl hl.1 rfl (lv_room (Nat.le_of_ble_eq_true rfl)) dX0_hasPath_6 ⟨Nat.le_of_ble_eq_true rfl, Nat.le_of_ble_eq_true rfl⟩) hS (fun _ h => h) (fun _ h => h) (fun q_6 H locs hY hk hS => ?_)
    obtain ⟨hq_6, hP⟩ := hY
    replace hq_6 := hq_6.symm
    subst hq_6
    refine lv_icmp_ge (tgt := 16) hx hb dX0_hasPath_9 (by decide) (fun c_7 => ?_) (fun c_7 => ?_)
    · rw [if_pos c_7] at h
      refine lv_iconst (v := 0) hx hb dX0_hasPath_16 (by decide) ?_
      obtain ⟨e1, e2⟩ := gb_eq2 h
      exact W.zret (v := 0) hx hb hr (by decide) (fun t ht hW => gb_ri ht ⟨e2, by rw [← e1]; exact hP⟩ hS) hS.2.2 dX0_hasPath_17
    · rw [if_neg c_7] at h
      refine lv_iconst (v := 1) hx hb dX0_hasPath_12 (by decide) ?_
      refine lv_goto (tgt := 17) hx hb dX0_hasPath_13 (by decide) ?_
      obtain ⟨e1, e2⟩ := gb_eq2 h
      exact W.zret (v := 1) hx hb hr (by decide) (fun t ht hW => gb_ri ht ⟨e2, by rw [← e1]; exact hP⟩ hS) hS.2.2 dX0_hasPath_17
theorem dX0_hasGoose_0 : decode cX0_hasGoose 0 = .ok (.iload_n 1, 1) := dc_27 (show ((cX0_hasGoose.data.toList.drop 0).take 1).map UInt8.toNat = [27] by decide +kernel)
theorem dX0_hasGoose_1 : decode cX0_hasGoose 1 = .ok (.ifCond .lt 15, 3) := dc_155 (show ((cX0_hasGoose.data.toList.drop 1).take 3).map UInt8.toNat = [155, 0, 15] by decide +kernel) rfl
theorem dX0_hasGoose_16 : decode cX0_hasGoose 16 = .ok (.iconst 0, 1) := dc_3 (show ((cX0_hasGoose.data.toList.drop 16).take 1).map UInt8.toNat = [3] by decide +kernel)
theorem dX0_hasGoose_17 : decode cX0_hasGoose 17 = .ok (.ireturn, 1) := dc_172 (show ((cX0_hasGoose.data.toList.drop 17).take 1).map UInt8.toNat = [172] by decide +kernel)
theorem dX0_hasGoose_4 : decode cX0_hasGoose 4 = .ok (.iload_n 1, 1) := dc_27 (show ((cX0_hasGoose.data.toList.drop 4).take 1).map UInt8.toNat = [27] by decide +kernel)
theorem dX0_hasGoose_5 : decode cX0_hasGoose 5 = .ok (.aload_n 0, 1) := dc_42 (show ((cX0_hasGoose.data.toList.drop 5).take 1).map UInt8.toNat = [42] by decide +kernel)
theorem dX0_hasGoose_6 : decode cX0_hasGoose 6 = .ok (.invokevirtual 19, 3) := dc_182 (show ((cX0_hasGoose.data.toList.drop 6).take 3).map UInt8.toNat = [182, 0, 19] by decide +kernel) rfl
theorem dX0_hasGoose_9 : decode cX0_hasGoose 9 = .ok (.if_icmp .ge 7, 3) := dc_162 (show ((cX0_hasGoose.data.toList.drop 9).take 3).map UInt8.toNat = [162, 0, 7] by decide +kernel) rfl
theorem dX0_hasGoose_12 : decode cX0_hasGoose 12 = .ok (.iconst 1, 1) := dc_4 (show ((cX0_hasGoose.data.toList.drop 12).take 1).map UInt8.toNat = [4] by decide +kernel)
theorem dX0_hasGoose_13 : decode cX0_hasGoose 13 = .ok (.goto 4, 3) := dc_167 (show ((cX0_hasGoose.data.toList.drop 13).take 3).map UInt8.toNat = [167, 0, 4] by decide +kernel) rfl
def cs_Border_hasGoose_B (n : Nat) (σ : gb_S) (k0 : Nat) (p1 : Int32) : gb_CR Int32 := gb_kk (gb_kB k0) ((if p1 < 0 then some (σ, 0) else gb_cd (cs_Border_geese_B n σ k0) (fun s_3 r_4 => (if r_4 ≤ p1 then some (s_3, 0) else some (s_3, 1)))))
set_option maxHeartbeats 8000000 in
set_option maxRecDepth 100000 in
theorem cc_Border_hasGoose_B (l : Launch) (D : va_G) (cT : Nat → ClassId) (tt : Nat → Nat) (b1 b : Nat) (hb1 : b1 ≤ b) (n : Nat) (σ : gb_S) (k0 : Nat) (p1 : Int32) (σE : gb_S) (rE : Int32) (h : cs_Border_hasGoose_B n σ k0 p1 = some (σE, rE)) : Met l yX0_hasGoose (.code yX0_hasGoose cX0_hasGoose 2 (some FieldType.boolean) :: gb_wA) ({ frames := 1, cells := 0, slots := 0, locals := 20 }) (gb_Pc D cT tt b1 [.ref (b + k0), .int p1] (fun h => va_P D vwCl (gb_wl b (gb_CW cT b σ)) h)) (gb_Qi (fun r h => r = rE ∧ va_P D vwCl (gb_wl b (gb_CW cT b σE)) h) (gb_fr b 135)) 0 0 (gb_fr b 135) := by
  refine Met.ofW (cc := cX0_hasGoose) (maxL := 2) (ret := (some FieldType.boolean)) (by decide) rfl ?_
  intro p e s m args below meth c s₁ B hml hv
  obtain ⟨rfl, hSt, hP⟩ := hv
  have hx := B.exec
  have hb := B.bytes
  have hr := B.returns
  have hts := atoms_spec (ws := .code yX0_hasGoose cX0_hasGoose 2 (some FieldType.boolean) :: gb_wA) B.pre
  have hq : ∀ w ∈ gb_wA, w.before _ s = true := fun w h => hts w (List.mem_cons_of_mem _ h)
  have hown : s.vm.findClass RX0 = some m.cls := findClass_of_methodNamed B.named
  have hlocks := B.notSynchronized
  clear B hts
  have hK := hSt.1
  have hS : va_S (gb_fr b 135) s.heap s.heap [] := va_S.rf
  have hl := lv_entry ([.ref (b + k0), .int p1]) (n := 2) (Nat.le_of_ble_eq_true rfl)
  rw [lg_entry_eq]
  generalize (lg_sl ([.ref (b + k0), .int p1]) ++ List.replicate (2 - (lg_sl ([.ref (b + k0), .int p1])).length) Slot.unset).toArray = ls at hl ⊢
  replace hl : lv_has ls 2 [(0, .ref (b + k0)), (1, .int p1)] := hl
  unfold cs_Border_hasGoose_B at h
  obtain ⟨z_1, h⟩ := gb_kk_s h
  refine lv_iload_n hx hb dX0_hasGoose_0 rfl (lv_at hl 1 rfl) ?_
  refine lv_if_lt (tgt := 16) hx hb dX0_hasGoose_1 (by decide) (fun c_2 => ?_) (fun c_2 => ?_)
  · rw [if_pos c_2] at h
    refine lv_iconst (v := 0) hx hb dX0_hasGoose_16 (by decide) ?_
    obtain ⟨e1, e2⟩ := gb_eq2 h
    exact W.zret (v := 0) hx hb hr (by decide) (fun t ht hW => gb_ri ht ⟨e2, by rw [← e1]; exact hP⟩ hS) hS.2.2 dX0_hasGoose_17
  · rw [if_neg c_2] at h
    refine lv_iload_n hx hb dX0_hasGoose_4 rfl (lv_at hl 1 rfl) ?_
    refine lv_aload_n hx hb dX0_hasGoose_5 rfl (lv_at hl 0 rfl) ?_
    obtain ⟨s_3, r_4, z_5, h⟩ := gb_cd_s h
    refine gb_calli (va_runV (C := RX0) (As := []) (rest := [.int p1]) ⟨hx, hb, hml, hown, hq⟩ (cc_Border_geese_B l D cT tt b1 b hb1 n σ k0 s_3 r_4 z_5) (cwV 0 hq (gb_gV w_476 w_477 w_478 w_4 w_479) rfl rfl rfl (by decide +kernel) ⟨Nat.le_of_ble_eq_true rfl, Nat.le_of_ble_eq_true rfl⟩) (gb_preV (r := (RX0, TX0, 1)) (ci := 0) (q0 := k0) hSt hP rfl (gb_at b (gb_cB z_1).1) hS (fun q h => Nat.le_trans hb1 h.1) hP) rfl rfl hl.1 rfl (lv_room (Nat.le_of_ble_eq_true rfl)) dX0_hasGoose_6 ⟨Nat.le_of_ble_eq_true rfl, Nat.le_of_ble_eq_true rfl⟩) hS (fun _ h => h) (fun _ h => h) (fun q_6 H locs hY hk hS => ?_)
    obtain ⟨hq_6, hP⟩ := hY
    replace hq_6 := hq_6.symm
    subst hq_6
    refine lv_icmp_ge (tgt := 16) hx hb dX0_hasGoose_9 (by decide) (fun c_7 => ?_) (fun c_7 => ?_)
    · rw [if_pos c_7] at h
      refine lv_iconst (v := 0) hx hb dX0_hasGoose_16 (by decide) ?_
      obtain ⟨e1, e2⟩ := gb_eq2 h
      exact W.zret (v := 0) hx hb hr (by decide) (fun t ht hW => gb_ri ht ⟨e2, by rw [← e1]; exact hP⟩ hS) hS.2.2 dX0_hasGoose_17
    · rw [if_neg c_7] at h
      refine lv_iconst (v := 1) hx hb dX0_hasGoose_12 (by decide) ?_
      refine lv_goto (tgt := 17) hx hb dX0_hasGoose_13 (by decide) ?_
      obtain ⟨e1, e2⟩ := gb_eq2 h
      exact W.zret (v := 1) hx hb hr (by decide) (fun t ht hW => gb_ri ht ⟨e2, by rw [← e1]; exact hP⟩ hS) hS.2.2 dX0_hasGoose_17
theorem dX0_numberTold_0 : decode cX0_numberTold 0 = .ok (.iload_n 1, 1) := dc_27 (show ((cX0_numberTold.data.toList.drop 0).take 1).map UInt8.toNat = [27] by decide +kernel)
theorem dX0_numberTold_1 : decode cX0_numberTold 1 = .ok (.bipush 10, 2) := dc_16 (show ((cX0_numberTold.data.toList.drop 1).take 2).map UInt8.toNat = [16, 10] by decide +kernel) rfl
theorem dX0_numberTold_3 : decode cX0_numberTold 3 = .ok (.if_icmp .lt 9, 3) := dc_161 (show ((cX0_numberTold.data.toList.drop 3).take 3).map UInt8.toNat = [161, 0, 9] by decide +kernel) rfl
theorem dX0_numberTold_12 : decode cX0_numberTold 12 = .ok (.bipush (-2), 2) := dc_16 (show ((cX0_numberTold.data.toList.drop 12).take 2).map UInt8.toNat = [16, 254] by decide +kernel) rfl
theorem dX0_numberTold_14 : decode cX0_numberTold 14 = .ok (.ireturn, 1) := dc_172 (show ((cX0_numberTold.data.toList.drop 14).take 1).map UInt8.toNat = [172] by decide +kernel)
theorem dX0_numberTold_6 : decode cX0_numberTold 6 = .ok (.iload_n 1, 1) := dc_27 (show ((cX0_numberTold.data.toList.drop 6).take 1).map UInt8.toNat = [27] by decide +kernel)
theorem dX0_numberTold_7 : decode cX0_numberTold 7 = .ok (.bipush 89, 2) := dc_16 (show ((cX0_numberTold.data.toList.drop 7).take 2).map UInt8.toNat = [16, 89] by decide +kernel) rfl
theorem dX0_numberTold_9 : decode cX0_numberTold 9 = .ok (.if_icmp .le 6, 3) := dc_164 (show ((cX0_numberTold.data.toList.drop 9).take 3).map UInt8.toNat = [164, 0, 6] by decide +kernel) rfl
theorem dX0_numberTold_15 : decode cX0_numberTold 15 = .ok (.iload_n 1, 1) := dc_27 (show ((cX0_numberTold.data.toList.drop 15).take 1).map UInt8.toNat = [27] by decide +kernel)
theorem dX0_numberTold_16 : decode cX0_numberTold 16 = .ok (.bipush 10, 2) := dc_16 (show ((cX0_numberTold.data.toList.drop 16).take 2).map UInt8.toNat = [16, 10] by decide +kernel) rfl
theorem dX0_numberTold_18 : decode cX0_numberTold 18 = .ok (.idiv, 1) := dc_108 (show ((cX0_numberTold.data.toList.drop 18).take 1).map UInt8.toNat = [108] by decide +kernel)
theorem dX0_numberTold_19 : decode cX0_numberTold 19 = .ok (.istore_n 2, 1) := dc_61 (show ((cX0_numberTold.data.toList.drop 19).take 1).map UInt8.toNat = [61] by decide +kernel)
theorem dX0_numberTold_20 : decode cX0_numberTold 20 = .ok (.iload_n 1, 1) := dc_27 (show ((cX0_numberTold.data.toList.drop 20).take 1).map UInt8.toNat = [27] by decide +kernel)
theorem dX0_numberTold_21 : decode cX0_numberTold 21 = .ok (.bipush 10, 2) := dc_16 (show ((cX0_numberTold.data.toList.drop 21).take 2).map UInt8.toNat = [16, 10] by decide +kernel) rfl
theorem dX0_numberTold_23 : decode cX0_numberTold 23 = .ok (.irem, 1) := dc_112 (show ((cX0_numberTold.data.toList.drop 23).take 1).map UInt8.toNat = [112] by decide +kernel)
theorem dX0_numberTold_24 : decode cX0_numberTold 24 = .ok (.istore_n 3, 1) := dc_62 (show ((cX0_numberTold.data.toList.drop 24).take 1).map UInt8.toNat = [62] by decide +kernel)
theorem dX0_numberTold_25 : decode cX0_numberTold 25 = .ok (.iload_n 2, 1) := dc_28 (show ((cX0_numberTold.data.toList.drop 25).take 1).map UInt8.toNat = [28] by decide +kernel)
theorem dX0_numberTold_26 : decode cX0_numberTold 26 = .ok (.iconst 3, 1) := dc_6 (show ((cX0_numberTold.data.toList.drop 26).take 1).map UInt8.toNat = [6] by decide +kernel)
theorem dX0_numberTold_27 : decode cX0_numberTold 27 = .ok (.if_icmp .gt 31, 3) := dc_163 (show ((cX0_numberTold.data.toList.drop 27).take 3).map UInt8.toNat = [163, 0, 31] by decide +kernel) rfl
theorem dX0_numberTold_58 : decode cX0_numberTold 58 = .ok (.iload_n 2, 1) := dc_28 (show ((cX0_numberTold.data.toList.drop 58).take 1).map UInt8.toNat = [28] by decide +kernel)
theorem dX0_numberTold_59 : decode cX0_numberTold 59 = .ok (.iconst 1, 1) := dc_4 (show ((cX0_numberTold.data.toList.drop 59).take 1).map UInt8.toNat = [4] by decide +kernel)
theorem dX0_numberTold_60 : decode cX0_numberTold 60 = .ok (.isub, 1) := dc_100 (show ((cX0_numberTold.data.toList.drop 60).take 1).map UInt8.toNat = [100] by decide +kernel)
theorem dX0_numberTold_61 : decode cX0_numberTold 61 = .ok (.iconst 3, 1) := dc_6 (show ((cX0_numberTold.data.toList.drop 61).take 1).map UInt8.toNat = [6] by decide +kernel)
theorem dX0_numberTold_62 : decode cX0_numberTold 62 = .ok (.isub, 1) := dc_100 (show ((cX0_numberTold.data.toList.drop 62).take 1).map UInt8.toNat = [100] by decide +kernel)
theorem dX0_numberTold_63 : decode cX0_numberTold 63 = .ok (.istore 4, 2) := dc_54 (show ((cX0_numberTold.data.toList.drop 63).take 2).map UInt8.toNat = [54, 4] by decide +kernel) rfl
theorem dX0_numberTold_65 : decode cX0_numberTold 65 = .ok (.aload_n 0, 1) := dc_42 (show ((cX0_numberTold.data.toList.drop 65).take 1).map UInt8.toNat = [42] by decide +kernel)
theorem dX0_numberTold_66 : decode cX0_numberTold 66 = .ok (.iload_n 3, 1) := dc_29 (show ((cX0_numberTold.data.toList.drop 66).take 1).map UInt8.toNat = [29] by decide +kernel)
theorem dX0_numberTold_67 : decode cX0_numberTold 67 = .ok (.invokevirtual 35, 3) := dc_182 (show ((cX0_numberTold.data.toList.drop 67).take 3).map UInt8.toNat = [182, 0, 35] by decide +kernel) rfl
theorem w_614 : (Cond.code ({ cls := "GooseBorder$Border", name := "hasGoose", desc := "(I)Z" } : MethodName) prog_2_method_10_code (2 : Nat) (Option.some FieldType.boolean)) ∈ gb_wA := gb_t3 134 rfl rfl
theorem w_611 : (Cond.methodLink "GooseBorder$Border" (35 : Nat) ({ cls := "GooseBorder$Border", name := "hasGoose", desc := "(I)Z" } : MethodName)) ∈ gb_wA := gb_t3 131 rfl rfl
theorem w_612 : (Cond.instanceMethod ({ cls := "GooseBorder$Border", name := "hasGoose", desc := "(I)Z" } : MethodName)) ∈ gb_wA := gb_t3 132 rfl rfl
theorem w_613 : (Cond.selects "GooseBorder$Border" ({ cls := "GooseBorder$Border", name := "hasGoose", desc := "(I)Z" } : MethodName) ({ cls := "GooseBorder$Border", name := "hasGoose", desc := "(I)Z" } : MethodName)) ∈ gb_wA := gb_t3 133 rfl rfl
theorem dX0_numberTold_70 : decode cX0_numberTold 70 = .ok (.ifCond .eq 20, 3) := dc_153 (show ((cX0_numberTold.data.toList.drop 70).take 3).map UInt8.toNat = [153, 0, 20] by decide +kernel) rfl
theorem dX0_numberTold_90 : decode cX0_numberTold 90 = .ok (.bipush (-2), 2) := dc_16 (show ((cX0_numberTold.data.toList.drop 90).take 2).map UInt8.toNat = [16, 254] by decide +kernel) rfl
theorem dX0_numberTold_92 : decode cX0_numberTold 92 = .ok (.ireturn, 1) := dc_172 (show ((cX0_numberTold.data.toList.drop 92).take 1).map UInt8.toNat = [172] by decide +kernel)
theorem dX0_numberTold_73 : decode cX0_numberTold 73 = .ok (.aload_n 0, 1) := dc_42 (show ((cX0_numberTold.data.toList.drop 73).take 1).map UInt8.toNat = [42] by decide +kernel)
theorem dX0_numberTold_74 : decode cX0_numberTold 74 = .ok (.getfield 11, 3) := dc_180 (show ((cX0_numberTold.data.toList.drop 74).take 3).map UInt8.toNat = [180, 0, 11] by decide +kernel) rfl
theorem dX0_numberTold_77 : decode cX0_numberTold 77 = .ok (.bipush 18, 2) := dc_16 (show ((cX0_numberTold.data.toList.drop 77).take 2).map UInt8.toNat = [16, 18] by decide +kernel) rfl
theorem dX0_numberTold_79 : decode cX0_numberTold 79 = .ok (.iload_n 3, 1) := dc_29 (show ((cX0_numberTold.data.toList.drop 79).take 1).map UInt8.toNat = [29] by decide +kernel)
theorem dX0_numberTold_80 : decode cX0_numberTold 80 = .ok (.iconst 5, 1) := dc_8 (show ((cX0_numberTold.data.toList.drop 80).take 1).map UInt8.toNat = [8] by decide +kernel)
theorem dX0_numberTold_81 : decode cX0_numberTold 81 = .ok (.imul, 1) := dc_104 (show ((cX0_numberTold.data.toList.drop 81).take 1).map UInt8.toNat = [104] by decide +kernel)
theorem dX0_numberTold_82 : decode cX0_numberTold 82 = .ok (.iadd, 1) := dc_96 (show ((cX0_numberTold.data.toList.drop 82).take 1).map UInt8.toNat = [96] by decide +kernel)
theorem dX0_numberTold_83 : decode cX0_numberTold 83 = .ok (.iload 4, 2) := dc_21 (show ((cX0_numberTold.data.toList.drop 83).take 2).map UInt8.toNat = [21, 4] by decide +kernel) rfl
theorem dX0_numberTold_85 : decode cX0_numberTold 85 = .ok (.iadd, 1) := dc_96 (show ((cX0_numberTold.data.toList.drop 85).take 1).map UInt8.toNat = [96] by decide +kernel)
theorem dX0_numberTold_86 : decode cX0_numberTold 86 = .ok (.iaload, 1) := dc_46 (show ((cX0_numberTold.data.toList.drop 86).take 1).map UInt8.toNat = [46] by decide +kernel)
theorem dX0_numberTold_87 : decode cX0_numberTold 87 = .ok (.goto 5, 3) := dc_167 (show ((cX0_numberTold.data.toList.drop 87).take 3).map UInt8.toNat = [167, 0, 5] by decide +kernel) rfl
theorem dX0_numberTold_30 : decode cX0_numberTold 30 = .ok (.aload_n 0, 1) := dc_42 (show ((cX0_numberTold.data.toList.drop 30).take 1).map UInt8.toNat = [42] by decide +kernel)
theorem dX0_numberTold_31 : decode cX0_numberTold 31 = .ok (.iload_n 3, 1) := dc_29 (show ((cX0_numberTold.data.toList.drop 31).take 1).map UInt8.toNat = [29] by decide +kernel)
theorem dX0_numberTold_32 : decode cX0_numberTold 32 = .ok (.invokevirtual 32, 3) := dc_182 (show ((cX0_numberTold.data.toList.drop 32).take 3).map UInt8.toNat = [182, 0, 32] by decide +kernel) rfl
theorem w_610 : (Cond.code ({ cls := "GooseBorder$Border", name := "hasPath", desc := "(I)Z" } : MethodName) prog_2_method_9_code (2 : Nat) (Option.some FieldType.boolean)) ∈ gb_wA := gb_t3 130 rfl rfl
theorem w_607 : (Cond.methodLink "GooseBorder$Border" (32 : Nat) ({ cls := "GooseBorder$Border", name := "hasPath", desc := "(I)Z" } : MethodName)) ∈ gb_wA := gb_t3 127 rfl rfl
theorem w_608 : (Cond.instanceMethod ({ cls := "GooseBorder$Border", name := "hasPath", desc := "(I)Z" } : MethodName)) ∈ gb_wA := gb_t3 128 rfl rfl
theorem w_609 : (Cond.selects "GooseBorder$Border" ({ cls := "GooseBorder$Border", name := "hasPath", desc := "(I)Z" } : MethodName) ({ cls := "GooseBorder$Border", name := "hasPath", desc := "(I)Z" } : MethodName)) ∈ gb_wA := gb_t3 129 rfl rfl
theorem dX0_numberTold_35 : decode cX0_numberTold 35 = .ok (.ifCond .eq 20, 3) := dc_153 (show ((cX0_numberTold.data.toList.drop 35).take 3).map UInt8.toNat = [153, 0, 20] by decide +kernel) rfl
theorem dX0_numberTold_55 : decode cX0_numberTold 55 = .ok (.bipush (-2), 2) := dc_16 (show ((cX0_numberTold.data.toList.drop 55).take 2).map UInt8.toNat = [16, 254] by decide +kernel) rfl
theorem dX0_numberTold_57 : decode cX0_numberTold 57 = .ok (.ireturn, 1) := dc_172 (show ((cX0_numberTold.data.toList.drop 57).take 1).map UInt8.toNat = [172] by decide +kernel)
theorem dX0_numberTold_38 : decode cX0_numberTold 38 = .ok (.aload_n 0, 1) := dc_42 (show ((cX0_numberTold.data.toList.drop 38).take 1).map UInt8.toNat = [42] by decide +kernel)
theorem dX0_numberTold_39 : decode cX0_numberTold 39 = .ok (.getfield 11, 3) := dc_180 (show ((cX0_numberTold.data.toList.drop 39).take 3).map UInt8.toNat = [180, 0, 11] by decide +kernel) rfl
theorem dX0_numberTold_42 : decode cX0_numberTold 42 = .ok (.iconst 3, 1) := dc_6 (show ((cX0_numberTold.data.toList.drop 42).take 1).map UInt8.toNat = [6] by decide +kernel)
theorem dX0_numberTold_43 : decode cX0_numberTold 43 = .ok (.iload_n 3, 1) := dc_29 (show ((cX0_numberTold.data.toList.drop 43).take 1).map UInt8.toNat = [29] by decide +kernel)
theorem dX0_numberTold_44 : decode cX0_numberTold 44 = .ok (.iconst 3, 1) := dc_6 (show ((cX0_numberTold.data.toList.drop 44).take 1).map UInt8.toNat = [6] by decide +kernel)
theorem dX0_numberTold_45 : decode cX0_numberTold 45 = .ok (.imul, 1) := dc_104 (show ((cX0_numberTold.data.toList.drop 45).take 1).map UInt8.toNat = [104] by decide +kernel)
theorem dX0_numberTold_46 : decode cX0_numberTold 46 = .ok (.iadd, 1) := dc_96 (show ((cX0_numberTold.data.toList.drop 46).take 1).map UInt8.toNat = [96] by decide +kernel)
theorem dX0_numberTold_47 : decode cX0_numberTold 47 = .ok (.iload_n 2, 1) := dc_28 (show ((cX0_numberTold.data.toList.drop 47).take 1).map UInt8.toNat = [28] by decide +kernel)
theorem dX0_numberTold_48 : decode cX0_numberTold 48 = .ok (.iadd, 1) := dc_96 (show ((cX0_numberTold.data.toList.drop 48).take 1).map UInt8.toNat = [96] by decide +kernel)
theorem dX0_numberTold_49 : decode cX0_numberTold 49 = .ok (.iconst 1, 1) := dc_4 (show ((cX0_numberTold.data.toList.drop 49).take 1).map UInt8.toNat = [4] by decide +kernel)
theorem dX0_numberTold_50 : decode cX0_numberTold 50 = .ok (.isub, 1) := dc_100 (show ((cX0_numberTold.data.toList.drop 50).take 1).map UInt8.toNat = [100] by decide +kernel)
theorem dX0_numberTold_51 : decode cX0_numberTold 51 = .ok (.iaload, 1) := dc_46 (show ((cX0_numberTold.data.toList.drop 51).take 1).map UInt8.toNat = [46] by decide +kernel)
theorem dX0_numberTold_52 : decode cX0_numberTold 52 = .ok (.goto 5, 3) := dc_167 (show ((cX0_numberTold.data.toList.drop 52).take 3).map UInt8.toNat = [167, 0, 5] by decide +kernel) rfl
def cs_Border_numberTold_B (n : Nat) (σ : gb_S) (k0 : Nat) (p1 : Int32) : gb_CR Int32 := gb_kk (gb_kB k0) ((if p1 < 10 then some (σ, (-2)) else (if p1 ≤ 89 then gb_lt (p1 / 10) (fun x_4 => gb_lt (p1 - p1 / 10 * 10) (fun x_5 => (if (3 : Int32) < x_4 then gb_lt ((x_4 - 1) - 3) (fun x_7 => gb_cd (cs_Border_hasGoose_B n σ k0 x_5) (fun s_8 r_9 => (if r_9 = 0 then some (s_8, (-2)) else gb_ck (((18 : Int32) + (x_5 * 5)) + x_7) 58 (gb_lt ((s_8.1 (k0 + 1)) (Int32.toNatClampNeg (((18 : Int32) + (x_5 * 5)) + x_7))) (fun x_14 => some (s_8, x_14)))))) else gb_cd (cs_Border_hasPath_B n σ k0 x_5) (fun s_15 r_16 => (if r_16 = 0 then some (s_15, (-2)) else gb_ck ((((3 : Int32) + (x_5 * 3)) + x_4) - 1) 58 (gb_lt ((s_15.1 (k0 + 1)) (Int32.toNatClampNeg ((((3 : Int32) + (x_5 * 3)) + x_4) - 1))) (fun x_21 => some (s_15, x_21)))))))) else some (σ, (-2)))))
set_option maxHeartbeats 8000000 in
set_option maxRecDepth 100000 in
theorem cc_Border_numberTold_B (l : Launch) (D : va_G) (cT : Nat → ClassId) (tt : Nat → Nat) (b1 b : Nat) (hb1 : b1 ≤ b) (n : Nat) (σ : gb_S) (k0 : Nat) (p1 : Int32) (σE : gb_S) (rE : Int32) (h : cs_Border_numberTold_B n σ k0 p1 = some (σE, rE)) : Met l yX0_numberTold (.code yX0_numberTold cX0_numberTold 5 (some FieldType.int) :: gb_wA) ({ frames := 2, cells := 0, slots := 0, locals := 41 }) (gb_Pc D cT tt b1 [.ref (b + k0), .int p1] (fun h => va_P D vwCl (gb_wl b (gb_CW cT b σ)) h)) (gb_Qi (fun r h => r = rE ∧ va_P D vwCl (gb_wl b (gb_CW cT b σE)) h) (gb_fr b 135)) 0 0 (gb_fr b 135) := by
  refine Met.ofW (cc := cX0_numberTold) (maxL := 5) (ret := (some FieldType.int)) (by decide) rfl ?_
  intro p e s m args below meth c s₁ B hml hv
  obtain ⟨rfl, hSt, hP⟩ := hv
  have hx := B.exec
  have hb := B.bytes
  have hr := B.returns
  have hts := atoms_spec (ws := .code yX0_numberTold cX0_numberTold 5 (some FieldType.int) :: gb_wA) B.pre
  have hq : ∀ w ∈ gb_wA, w.before _ s = true := fun w h => hts w (List.mem_cons_of_mem _ h)
  have hown : s.vm.findClass RX0 = some m.cls := findClass_of_methodNamed B.named
  have hlocks := B.notSynchronized
  clear B hts
  have hK := hSt.1
  have hS : va_S (gb_fr b 135) s.heap s.heap [] := va_S.rf
  have hl := lv_entry ([.ref (b + k0), .int p1]) (n := 5) (Nat.le_of_ble_eq_true rfl)
  rw [lg_entry_eq]
  generalize (lg_sl ([.ref (b + k0), .int p1]) ++ List.replicate (5 - (lg_sl ([.ref (b + k0), .int p1])).length) Slot.unset).toArray = ls at hl ⊢
  replace hl : lv_has ls 5 [(0, .ref (b + k0)), (1, .int p1)] := hl
  unfold cs_Border_numberTold_B at h
  obtain ⟨z_1, h⟩ := gb_kk_s h
  refine lv_iload_n hx hb dX0_numberTold_0 rfl (lv_at hl 1 rfl) ?_
  refine lv_bipush (v := 10) hx hb dX0_numberTold_1 (by decide) ?_
  refine lv_icmp_lt (tgt := 12) hx hb dX0_numberTold_3 (by decide) (fun c_2 => ?_) (fun c_2 => ?_)
  · rw [if_pos c_2] at h
    refine lv_bipush (v := (-2)) hx hb dX0_numberTold_12 (by decide) ?_
    obtain ⟨e1, e2⟩ := gb_eq2 h
    exact W.iret (v := (-2)) hx hb hr (fun t ht hW => gb_ri ht ⟨e2, by rw [← e1]; exact hP⟩ hS) hS.2.2 dX0_numberTold_14
  · rw [if_neg c_2] at h
    refine lv_iload_n hx hb dX0_numberTold_6 rfl (lv_at hl 1 rfl) ?_
    refine lv_bipush (v := 89) hx hb dX0_numberTold_7 (by decide) ?_
    refine lv_icmp_le (tgt := 15) hx hb dX0_numberTold_9 (by decide) (fun c_3 => ?_) (fun c_3 => ?_)
    · rw [if_pos c_3] at h
      refine lv_iload_n hx hb dX0_numberTold_15 rfl (lv_at hl 1 rfl) ?_
      refine lv_bipush (v := 10) hx hb dX0_numberTold_16 (by decide) ?_
      refine lv_idiv hx hb dX0_numberTold_18 (by decide) ?_
      refine lv_topi (fun x_4 ex_4 => ?_)
      replace h := gb_lt_s ex_4 h
      refine lv_istore_n (lv' := [(2, .int x_4), (0, .ref (b + k0)), (1, .int p1)]) hx hb dX0_numberTold_19 rfl hl (by decide) rfl (fun ls hl => ?_)
      refine lv_iload_n hx hb dX0_numberTold_20 rfl (lv_at hl 2 rfl) ?_
      refine lv_bipush (v := 10) hx hb dX0_numberTold_21 (by decide) ?_
      refine lv_irem hx hb dX0_numberTold_23 (by decide) ?_
      refine lv_topi (fun x_5 ex_5 => ?_)
      replace h := gb_lt_s ex_5 h
      refine lv_istore_n (lv' := [(3, .int x_5), (2, .int x_4), (0, .ref (b + k0)), (1, .int p1)]) hx hb dX0_numberTold_24 rfl hl (by decide) rfl (fun ls hl => ?_)
      refine lv_iload_n hx hb dX0_numberTold_25 rfl (lv_at hl 1 rfl) ?_
      refine lv_iconst (v := 3) hx hb dX0_numberTold_26 (by decide) ?_
      refine lv_icmp_gt (tgt := 58) hx hb dX0_numberTold_27 (by decide) (fun c_6 => ?_) (fun c_6 => ?_)
      · rw [if_pos c_6] at h
        refine lv_iload_n hx hb dX0_numberTold_58 rfl (lv_at hl 1 rfl) ?_
        refine lv_iconst (v := 1) hx hb dX0_numberTold_59 (by decide) ?_
        refine lv_isub hx hb dX0_numberTold_60 ?_
        refine lv_iconst (v := 3) hx hb dX0_numberTold_61 (by decide) ?_
        refine lv_isub hx hb dX0_numberTold_62 ?_
        refine lv_topi (fun x_7 ex_7 => ?_)
        replace h := gb_lt_s ex_7 h
        refine lv_istore (lv' := [(4, .int x_7), (3, .int x_5), (2, .int x_4), (0, .ref (b + k0)), (1, .int p1)]) hx hb dX0_numberTold_63 hl (by decide) rfl (fun ls hl => ?_)
        refine lv_aload_n hx hb dX0_numberTold_65 rfl (lv_at hl 3 rfl) ?_
        refine lv_iload_n hx hb dX0_numberTold_66 rfl (lv_at hl 1 rfl) ?_
        obtain ⟨s_8, r_9, z_10, h⟩ := gb_cd_s h
        refine gb_calli (va_runV (C := RX0) (As := [.int x_5]) (rest := []) ⟨hx, hb, hml, hown, hq⟩ (cc_Border_hasGoose_B l D cT tt b1 b hb1 n σ k0 x_5 s_8 r_9 z_10) (cwV 1 hq (gb_gV w_611 w_612 w_613 w_4 w_614) rfl rfl rfl (by decide +kernel) ⟨Nat.le_of_ble_eq_true rfl, Nat.le_of_ble_eq_true rfl⟩) (gb_preV (r := (RX0, TX0, 1)) (ci := 0) (q0 := k0) hSt hP rfl (gb_at b (gb_cB z_1).1) hS (fun q h => Nat.le_trans hb1 h.1) hP) rfl rfl hl.1 rfl (lv_room (Nat.le_of_ble_eq_true rfl)) dX0_numberTold_67 ⟨Nat.le_of_ble_eq_true rfl, Nat.le_of_ble_eq_true rfl⟩) hS (fun _ h => h) (fun _ h => h) (fun q_11 H locs hY hk hS => ?_)
        obtain ⟨hq_11, hP⟩ := hY
        replace hq_11 := hq_11.symm
        subst hq_11
        refine lv_if_eq (tgt := 90) hx hb dX0_numberTold_70 (by decide) (fun c_12 => ?_) (fun c_12 => ?_)
        · rw [if_pos c_12] at h
          refine lv_bipush (v := (-2)) hx hb dX0_numberTold_90 (by decide) ?_
          obtain ⟨e1, e2⟩ := gb_eq2 h
          exact W.iret (v := (-2)) hx hb hr (fun t ht hW => gb_ri ht ⟨e2, by rw [← e1]; exact hP⟩ hS) hS.2.2 dX0_numberTold_92
        · rw [if_neg c_12] at h
          refine lv_aload_n hx hb dX0_numberTold_73 rfl (lv_at hl 3 rfl) ?_
          refine va_get (ci := 0) (v := (.ref (b + (k0 + 1)))) (C := RX0) (T := TX0) (N := 1) hx hb hq i_X0 hown hK hP k0 (gb_at b (gb_cB z_1).1) rfl 0 (by decide) (hq _ w_49) (fun x9 h9 => u_same (hq _ w_50) x9 h9) rfl dX0_numberTold_74 ?_
          refine lv_bipush (v := 18) hx hb dX0_numberTold_77 (by decide) ?_
          refine lv_iload_n hx hb dX0_numberTold_79 rfl (lv_at hl 1 rfl) ?_
          refine lv_iconst (v := 5) hx hb dX0_numberTold_80 (by decide) ?_
          refine lv_imul hx hb dX0_numberTold_81 ?_
          refine lv_iadd hx hb dX0_numberTold_82 ?_
          refine lv_iload hx hb dX0_numberTold_83 (lv_at hl 0 rfl) ?_
          refine lv_iadd hx hb dX0_numberTold_85 ?_
          obtain ⟨z_13, h⟩ := gb_ck_s h
          refine va_iald hx hb hK hP (k0 + 1) 0 (gb_at b (gb_cB z_1).2) rfl z_13 dX0_numberTold_86 ?_
          refine lv_topi (fun x_14 ex_14 => ?_)
          replace h := gb_lt_s ex_14 h
          refine lv_goto (tgt := 92) hx hb dX0_numberTold_87 (by decide) ?_
          obtain ⟨e1, e2⟩ := gb_eq2 h
          exact W.iret (v := x_14) hx hb hr (fun t ht hW => gb_ri ht ⟨e2, by rw [← e1]; exact hP⟩ hS) hS.2.2 dX0_numberTold_92
      · rw [if_neg c_6] at h
        refine lv_aload_n hx hb dX0_numberTold_30 rfl (lv_at hl 2 rfl) ?_
        refine lv_iload_n hx hb dX0_numberTold_31 rfl (lv_at hl 0 rfl) ?_
        obtain ⟨s_15, r_16, z_17, h⟩ := gb_cd_s h
        refine gb_calli (va_runV (C := RX0) (As := [.int x_5]) (rest := []) ⟨hx, hb, hml, hown, hq⟩ (cc_Border_hasPath_B l D cT tt b1 b hb1 n σ k0 x_5 s_15 r_16 z_17) (cwV 1 hq (gb_gV w_607 w_608 w_609 w_4 w_610) rfl rfl rfl (by decide +kernel) ⟨Nat.le_of_ble_eq_true rfl, Nat.le_of_ble_eq_true rfl⟩) (gb_preV (r := (RX0, TX0, 1)) (ci := 0) (q0 := k0) hSt hP rfl (gb_at b (gb_cB z_1).1) hS (fun q h => Nat.le_trans hb1 h.1) hP) rfl rfl hl.1 rfl (lv_room (Nat.le_of_ble_eq_true rfl)) dX0_numberTold_32 ⟨Nat.le_of_ble_eq_true rfl, Nat.le_of_ble_eq_true rfl⟩) hS (fun _ h => h) (fun _ h => h) (fun q_18 H locs hY hk hS => ?_)
        obtain ⟨hq_18, hP⟩ := hY
        replace hq_18 := hq_18.symm
        subst hq_18
        refine lv_if_eq (tgt := 55) hx hb dX0_numberTold_35 (by decide) (fun c_19 => ?_) (fun c_19 => ?_)
        · rw [if_pos c_19] at h
          refine lv_bipush (v := (-2)) hx hb dX0_numberTold_55 (by decide) ?_
          obtain ⟨e1, e2⟩ := gb_eq2 h
          exact W.iret (v := (-2)) hx hb hr (fun t ht hW => gb_ri ht ⟨e2, by rw [← e1]; exact hP⟩ hS) hS.2.2 dX0_numberTold_57
        · rw [if_neg c_19] at h
          refine lv_aload_n hx hb dX0_numberTold_38 rfl (lv_at hl 2 rfl) ?_
          refine va_get (ci := 0) (v := (.ref (b + (k0 + 1)))) (C := RX0) (T := TX0) (N := 1) hx hb hq i_X0 hown hK hP k0 (gb_at b (gb_cB z_1).1) rfl 0 (by decide) (hq _ w_49) (fun x9 h9 => u_same (hq _ w_50) x9 h9) rfl dX0_numberTold_39 ?_
          refine lv_iconst (v := 3) hx hb dX0_numberTold_42 (by decide) ?_
          refine lv_iload_n hx hb dX0_numberTold_43 rfl (lv_at hl 0 rfl) ?_
          refine lv_iconst (v := 3) hx hb dX0_numberTold_44 (by decide) ?_
          refine lv_imul hx hb dX0_numberTold_45 ?_
          refine lv_iadd hx hb dX0_numberTold_46 ?_
          refine lv_iload_n hx hb dX0_numberTold_47 rfl (lv_at hl 1 rfl) ?_
          refine lv_iadd hx hb dX0_numberTold_48 ?_
          refine lv_iconst (v := 1) hx hb dX0_numberTold_49 (by decide) ?_
          refine lv_isub hx hb dX0_numberTold_50 ?_
          obtain ⟨z_20, h⟩ := gb_ck_s h
          refine va_iald hx hb hK hP (k0 + 1) 0 (gb_at b (gb_cB z_1).2) rfl z_20 dX0_numberTold_51 ?_
          refine lv_topi (fun x_21 ex_21 => ?_)
          replace h := gb_lt_s ex_21 h
          refine lv_goto (tgt := 57) hx hb dX0_numberTold_52 (by decide) ?_
          obtain ⟨e1, e2⟩ := gb_eq2 h
          exact W.iret (v := x_21) hx hb hr (fun t ht hW => gb_ri ht ⟨e2, by rw [← e1]; exact hP⟩ hS) hS.2.2 dX0_numberTold_57
    · rw [if_neg c_3] at h
      refine lv_bipush (v := (-2)) hx hb dX0_numberTold_12 (by decide) ?_
      obtain ⟨e1, e2⟩ := gb_eq2 h
      exact W.iret (v := (-2)) hx hb hr (fun t ht hW => gb_ri ht ⟨e2, by rw [← e1]; exact hP⟩ hS) hS.2.2 dX0_numberTold_14
theorem dX0_miles_0 : decode cX0_miles 0 = .ok (.aload_n 0, 1) := dc_42 (show ((cX0_miles.data.toList.drop 0).take 1).map UInt8.toNat = [42] by decide +kernel)
theorem dX0_miles_1 : decode cX0_miles 1 = .ok (.getfield 11, 3) := dc_180 (show ((cX0_miles.data.toList.drop 1).take 3).map UInt8.toNat = [180, 0, 11] by decide +kernel) rfl
theorem dX0_miles_4 : decode cX0_miles 4 = .ok (.iconst 3, 1) := dc_6 (show ((cX0_miles.data.toList.drop 4).take 1).map UInt8.toNat = [6] by decide +kernel)
theorem dX0_miles_5 : decode cX0_miles 5 = .ok (.iload_n 1, 1) := dc_27 (show ((cX0_miles.data.toList.drop 5).take 1).map UInt8.toNat = [27] by decide +kernel)
theorem dX0_miles_6 : decode cX0_miles 6 = .ok (.iconst 3, 1) := dc_6 (show ((cX0_miles.data.toList.drop 6).take 1).map UInt8.toNat = [6] by decide +kernel)
theorem dX0_miles_7 : decode cX0_miles 7 = .ok (.imul, 1) := dc_104 (show ((cX0_miles.data.toList.drop 7).take 1).map UInt8.toNat = [104] by decide +kernel)
theorem dX0_miles_8 : decode cX0_miles 8 = .ok (.iadd, 1) := dc_96 (show ((cX0_miles.data.toList.drop 8).take 1).map UInt8.toNat = [96] by decide +kernel)
theorem dX0_miles_9 : decode cX0_miles 9 = .ok (.iaload, 1) := dc_46 (show ((cX0_miles.data.toList.drop 9).take 1).map UInt8.toNat = [46] by decide +kernel)
theorem dX0_miles_10 : decode cX0_miles 10 = .ok (.ireturn, 1) := dc_172 (show ((cX0_miles.data.toList.drop 10).take 1).map UInt8.toNat = [172] by decide +kernel)
def cs_Border_miles_B (n : Nat) (σ : gb_S) (k0 : Nat) (p1 : Int32) : gb_CR Int32 := gb_kk (gb_kB k0) (gb_ck ((3 : Int32) + (p1 * 3)) 58 (gb_lt ((σ.1 (k0 + 1)) (Int32.toNatClampNeg ((3 : Int32) + (p1 * 3)))) (fun x_3 => some (σ, x_3))))
set_option maxHeartbeats 8000000 in
set_option maxRecDepth 100000 in
theorem cc_Border_miles_B (l : Launch) (D : va_G) (cT : Nat → ClassId) (tt : Nat → Nat) (b1 b : Nat) (hb1 : b1 ≤ b) (n : Nat) (σ : gb_S) (k0 : Nat) (p1 : Int32) (σE : gb_S) (rE : Int32) (h : cs_Border_miles_B n σ k0 p1 = some (σE, rE)) : Met l yX0_miles (.code yX0_miles cX0_miles 2 (some FieldType.int) :: gb_wA) ({ frames := 0, cells := 0, slots := 0, locals := 0 }) (gb_Pc D cT tt b1 [.ref (b + k0), .int p1] (fun h => va_P D vwCl (gb_wl b (gb_CW cT b σ)) h)) (gb_Qi (fun r h => r = rE ∧ va_P D vwCl (gb_wl b (gb_CW cT b σE)) h) (gb_fr b 135)) 0 0 (gb_fr b 135) := by
  refine Met.ofW (cc := cX0_miles) (maxL := 2) (ret := (some FieldType.int)) (by decide) rfl ?_
  intro p e s m args below meth c s₁ B hml hv
  obtain ⟨rfl, hSt, hP⟩ := hv
  have hx := B.exec
  have hb := B.bytes
  have hr := B.returns
  have hts := atoms_spec (ws := .code yX0_miles cX0_miles 2 (some FieldType.int) :: gb_wA) B.pre
  have hq : ∀ w ∈ gb_wA, w.before _ s = true := fun w h => hts w (List.mem_cons_of_mem _ h)
  have hown : s.vm.findClass RX0 = some m.cls := findClass_of_methodNamed B.named
  have hlocks := B.notSynchronized
  clear B hts
  have hK := hSt.1
  have hS : va_S (gb_fr b 135) s.heap s.heap [] := va_S.rf
  have hl := lv_entry ([.ref (b + k0), .int p1]) (n := 2) (Nat.le_of_ble_eq_true rfl)
  rw [lg_entry_eq]
  generalize (lg_sl ([.ref (b + k0), .int p1]) ++ List.replicate (2 - (lg_sl ([.ref (b + k0), .int p1])).length) Slot.unset).toArray = ls at hl ⊢
  replace hl : lv_has ls 2 [(0, .ref (b + k0)), (1, .int p1)] := hl
  unfold cs_Border_miles_B at h
  obtain ⟨z_1, h⟩ := gb_kk_s h
  refine lv_aload_n hx hb dX0_miles_0 rfl (lv_at hl 0 rfl) ?_
  refine va_get (ci := 0) (v := (.ref (b + (k0 + 1)))) (C := RX0) (T := TX0) (N := 1) hx hb hq i_X0 hown hK hP k0 (gb_at b (gb_cB z_1).1) rfl 0 (by decide) (hq _ w_49) (fun x9 h9 => u_same (hq _ w_50) x9 h9) rfl dX0_miles_1 ?_
  refine lv_iconst (v := 3) hx hb dX0_miles_4 (by decide) ?_
  refine lv_iload_n hx hb dX0_miles_5 rfl (lv_at hl 1 rfl) ?_
  refine lv_iconst (v := 3) hx hb dX0_miles_6 (by decide) ?_
  refine lv_imul hx hb dX0_miles_7 ?_
  refine lv_iadd hx hb dX0_miles_8 ?_
  obtain ⟨z_2, h⟩ := gb_ck_s h
  refine va_iald hx hb hK hP (k0 + 1) 0 (gb_at b (gb_cB z_1).2) rfl z_2 dX0_miles_9 ?_
  refine lv_topi (fun x_3 ex_3 => ?_)
  replace h := gb_lt_s ex_3 h
  obtain ⟨e1, e2⟩ := gb_eq2 h
  exact W.iret (v := x_3) hx hb hr (fun t ht hW => gb_ri ht ⟨e2, by rw [← e1]; exact hP⟩ hS) hS.2.2 dX0_miles_10
theorem dX0_rate_0 : decode cX0_rate 0 = .ok (.aload_n 0, 1) := dc_42 (show ((cX0_rate.data.toList.drop 0).take 1).map UInt8.toNat = [42] by decide +kernel)
theorem dX0_rate_1 : decode cX0_rate 1 = .ok (.getfield 11, 3) := dc_180 (show ((cX0_rate.data.toList.drop 1).take 3).map UInt8.toNat = [180, 0, 11] by decide +kernel) rfl
theorem dX0_rate_4 : decode cX0_rate 4 = .ok (.iconst 3, 1) := dc_6 (show ((cX0_rate.data.toList.drop 4).take 1).map UInt8.toNat = [6] by decide +kernel)
theorem dX0_rate_5 : decode cX0_rate 5 = .ok (.iload_n 1, 1) := dc_27 (show ((cX0_rate.data.toList.drop 5).take 1).map UInt8.toNat = [27] by decide +kernel)
theorem dX0_rate_6 : decode cX0_rate 6 = .ok (.iconst 3, 1) := dc_6 (show ((cX0_rate.data.toList.drop 6).take 1).map UInt8.toNat = [6] by decide +kernel)
theorem dX0_rate_7 : decode cX0_rate 7 = .ok (.imul, 1) := dc_104 (show ((cX0_rate.data.toList.drop 7).take 1).map UInt8.toNat = [104] by decide +kernel)
theorem dX0_rate_8 : decode cX0_rate 8 = .ok (.iadd, 1) := dc_96 (show ((cX0_rate.data.toList.drop 8).take 1).map UInt8.toNat = [96] by decide +kernel)
theorem dX0_rate_9 : decode cX0_rate 9 = .ok (.iconst 1, 1) := dc_4 (show ((cX0_rate.data.toList.drop 9).take 1).map UInt8.toNat = [4] by decide +kernel)
theorem dX0_rate_10 : decode cX0_rate 10 = .ok (.iadd, 1) := dc_96 (show ((cX0_rate.data.toList.drop 10).take 1).map UInt8.toNat = [96] by decide +kernel)
theorem dX0_rate_11 : decode cX0_rate 11 = .ok (.iaload, 1) := dc_46 (show ((cX0_rate.data.toList.drop 11).take 1).map UInt8.toNat = [46] by decide +kernel)
theorem dX0_rate_12 : decode cX0_rate 12 = .ok (.ireturn, 1) := dc_172 (show ((cX0_rate.data.toList.drop 12).take 1).map UInt8.toNat = [172] by decide +kernel)
def cs_Border_rate_B (n : Nat) (σ : gb_S) (k0 : Nat) (p1 : Int32) : gb_CR Int32 := gb_kk (gb_kB k0) (gb_ck (((3 : Int32) + (p1 * 3)) + 1) 58 (gb_lt ((σ.1 (k0 + 1)) (Int32.toNatClampNeg (((3 : Int32) + (p1 * 3)) + 1))) (fun x_3 => some (σ, x_3))))
set_option maxHeartbeats 8000000 in
set_option maxRecDepth 100000 in
theorem cc_Border_rate_B (l : Launch) (D : va_G) (cT : Nat → ClassId) (tt : Nat → Nat) (b1 b : Nat) (hb1 : b1 ≤ b) (n : Nat) (σ : gb_S) (k0 : Nat) (p1 : Int32) (σE : gb_S) (rE : Int32) (h : cs_Border_rate_B n σ k0 p1 = some (σE, rE)) : Met l yX0_rate (.code yX0_rate cX0_rate 2 (some FieldType.int) :: gb_wA) ({ frames := 0, cells := 0, slots := 0, locals := 0 }) (gb_Pc D cT tt b1 [.ref (b + k0), .int p1] (fun h => va_P D vwCl (gb_wl b (gb_CW cT b σ)) h)) (gb_Qi (fun r h => r = rE ∧ va_P D vwCl (gb_wl b (gb_CW cT b σE)) h) (gb_fr b 135)) 0 0 (gb_fr b 135) := by
  refine Met.ofW (cc := cX0_rate) (maxL := 2) (ret := (some FieldType.int)) (by decide) rfl ?_
  intro p e s m args below meth c s₁ B hml hv
  obtain ⟨rfl, hSt, hP⟩ := hv
  have hx := B.exec
  have hb := B.bytes
  have hr := B.returns
  have hts := atoms_spec (ws := .code yX0_rate cX0_rate 2 (some FieldType.int) :: gb_wA) B.pre
  have hq : ∀ w ∈ gb_wA, w.before _ s = true := fun w h => hts w (List.mem_cons_of_mem _ h)
  have hown : s.vm.findClass RX0 = some m.cls := findClass_of_methodNamed B.named
  have hlocks := B.notSynchronized
  clear B hts
  have hK := hSt.1
  have hS : va_S (gb_fr b 135) s.heap s.heap [] := va_S.rf
  have hl := lv_entry ([.ref (b + k0), .int p1]) (n := 2) (Nat.le_of_ble_eq_true rfl)
  rw [lg_entry_eq]
  generalize (lg_sl ([.ref (b + k0), .int p1]) ++ List.replicate (2 - (lg_sl ([.ref (b + k0), .int p1])).length) Slot.unset).toArray = ls at hl ⊢
  replace hl : lv_has ls 2 [(0, .ref (b + k0)), (1, .int p1)] := hl
  unfold cs_Border_rate_B at h
  obtain ⟨z_1, h⟩ := gb_kk_s h
  refine lv_aload_n hx hb dX0_rate_0 rfl (lv_at hl 0 rfl) ?_
  refine va_get (ci := 0) (v := (.ref (b + (k0 + 1)))) (C := RX0) (T := TX0) (N := 1) hx hb hq i_X0 hown hK hP k0 (gb_at b (gb_cB z_1).1) rfl 0 (by decide) (hq _ w_49) (fun x9 h9 => u_same (hq _ w_50) x9 h9) rfl dX0_rate_1 ?_
  refine lv_iconst (v := 3) hx hb dX0_rate_4 (by decide) ?_
  refine lv_iload_n hx hb dX0_rate_5 rfl (lv_at hl 1 rfl) ?_
  refine lv_iconst (v := 3) hx hb dX0_rate_6 (by decide) ?_
  refine lv_imul hx hb dX0_rate_7 ?_
  refine lv_iadd hx hb dX0_rate_8 ?_
  refine lv_iconst (v := 1) hx hb dX0_rate_9 (by decide) ?_
  refine lv_iadd hx hb dX0_rate_10 ?_
  obtain ⟨z_2, h⟩ := gb_ck_s h
  refine va_iald hx hb hK hP (k0 + 1) 0 (gb_at b (gb_cB z_1).2) rfl z_2 dX0_rate_11 ?_
  refine lv_topi (fun x_3 ex_3 => ?_)
  replace h := gb_lt_s ex_3 h
  obtain ⟨e1, e2⟩ := gb_eq2 h
  exact W.iret (v := x_3) hx hb hr (fun t ht hW => gb_ri ht ⟨e2, by rw [← e1]; exact hP⟩ hS) hS.2.2 dX0_rate_12
theorem dX0_pad_0 : decode cX0_pad 0 = .ok (.aload_n 0, 1) := dc_42 (show ((cX0_pad.data.toList.drop 0).take 1).map UInt8.toNat = [42] by decide +kernel)
theorem dX0_pad_1 : decode cX0_pad 1 = .ok (.getfield 11, 3) := dc_180 (show ((cX0_pad.data.toList.drop 1).take 3).map UInt8.toNat = [180, 0, 11] by decide +kernel) rfl
theorem dX0_pad_4 : decode cX0_pad 4 = .ok (.iconst 3, 1) := dc_6 (show ((cX0_pad.data.toList.drop 4).take 1).map UInt8.toNat = [6] by decide +kernel)
theorem dX0_pad_5 : decode cX0_pad 5 = .ok (.iload_n 1, 1) := dc_27 (show ((cX0_pad.data.toList.drop 5).take 1).map UInt8.toNat = [27] by decide +kernel)
theorem dX0_pad_6 : decode cX0_pad 6 = .ok (.iconst 3, 1) := dc_6 (show ((cX0_pad.data.toList.drop 6).take 1).map UInt8.toNat = [6] by decide +kernel)
theorem dX0_pad_7 : decode cX0_pad 7 = .ok (.imul, 1) := dc_104 (show ((cX0_pad.data.toList.drop 7).take 1).map UInt8.toNat = [104] by decide +kernel)
theorem dX0_pad_8 : decode cX0_pad 8 = .ok (.iadd, 1) := dc_96 (show ((cX0_pad.data.toList.drop 8).take 1).map UInt8.toNat = [96] by decide +kernel)
theorem dX0_pad_9 : decode cX0_pad 9 = .ok (.iconst 2, 1) := dc_5 (show ((cX0_pad.data.toList.drop 9).take 1).map UInt8.toNat = [5] by decide +kernel)
theorem dX0_pad_10 : decode cX0_pad 10 = .ok (.iadd, 1) := dc_96 (show ((cX0_pad.data.toList.drop 10).take 1).map UInt8.toNat = [96] by decide +kernel)
theorem dX0_pad_11 : decode cX0_pad 11 = .ok (.iaload, 1) := dc_46 (show ((cX0_pad.data.toList.drop 11).take 1).map UInt8.toNat = [46] by decide +kernel)
theorem dX0_pad_12 : decode cX0_pad 12 = .ok (.ireturn, 1) := dc_172 (show ((cX0_pad.data.toList.drop 12).take 1).map UInt8.toNat = [172] by decide +kernel)
def cs_Border_pad_B (n : Nat) (σ : gb_S) (k0 : Nat) (p1 : Int32) : gb_CR Int32 := gb_kk (gb_kB k0) (gb_ck (((3 : Int32) + (p1 * 3)) + 2) 58 (gb_lt ((σ.1 (k0 + 1)) (Int32.toNatClampNeg (((3 : Int32) + (p1 * 3)) + 2))) (fun x_3 => some (σ, x_3))))
set_option maxHeartbeats 8000000 in
set_option maxRecDepth 100000 in
theorem cc_Border_pad_B (l : Launch) (D : va_G) (cT : Nat → ClassId) (tt : Nat → Nat) (b1 b : Nat) (hb1 : b1 ≤ b) (n : Nat) (σ : gb_S) (k0 : Nat) (p1 : Int32) (σE : gb_S) (rE : Int32) (h : cs_Border_pad_B n σ k0 p1 = some (σE, rE)) : Met l yX0_pad (.code yX0_pad cX0_pad 2 (some FieldType.int) :: gb_wA) ({ frames := 0, cells := 0, slots := 0, locals := 0 }) (gb_Pc D cT tt b1 [.ref (b + k0), .int p1] (fun h => va_P D vwCl (gb_wl b (gb_CW cT b σ)) h)) (gb_Qi (fun r h => r = rE ∧ va_P D vwCl (gb_wl b (gb_CW cT b σE)) h) (gb_fr b 135)) 0 0 (gb_fr b 135) := by
  refine Met.ofW (cc := cX0_pad) (maxL := 2) (ret := (some FieldType.int)) (by decide) rfl ?_
  intro p e s m args below meth c s₁ B hml hv
  obtain ⟨rfl, hSt, hP⟩ := hv
  have hx := B.exec
  have hb := B.bytes
  have hr := B.returns
  have hts := atoms_spec (ws := .code yX0_pad cX0_pad 2 (some FieldType.int) :: gb_wA) B.pre
  have hq : ∀ w ∈ gb_wA, w.before _ s = true := fun w h => hts w (List.mem_cons_of_mem _ h)
  have hown : s.vm.findClass RX0 = some m.cls := findClass_of_methodNamed B.named
  have hlocks := B.notSynchronized
  clear B hts
  have hK := hSt.1
  have hS : va_S (gb_fr b 135) s.heap s.heap [] := va_S.rf
  have hl := lv_entry ([.ref (b + k0), .int p1]) (n := 2) (Nat.le_of_ble_eq_true rfl)
  rw [lg_entry_eq]
  generalize (lg_sl ([.ref (b + k0), .int p1]) ++ List.replicate (2 - (lg_sl ([.ref (b + k0), .int p1])).length) Slot.unset).toArray = ls at hl ⊢
  replace hl : lv_has ls 2 [(0, .ref (b + k0)), (1, .int p1)] := hl
  unfold cs_Border_pad_B at h
  obtain ⟨z_1, h⟩ := gb_kk_s h
  refine lv_aload_n hx hb dX0_pad_0 rfl (lv_at hl 0 rfl) ?_
  refine va_get (ci := 0) (v := (.ref (b + (k0 + 1)))) (C := RX0) (T := TX0) (N := 1) hx hb hq i_X0 hown hK hP k0 (gb_at b (gb_cB z_1).1) rfl 0 (by decide) (hq _ w_49) (fun x9 h9 => u_same (hq _ w_50) x9 h9) rfl dX0_pad_1 ?_
  refine lv_iconst (v := 3) hx hb dX0_pad_4 (by decide) ?_
  refine lv_iload_n hx hb dX0_pad_5 rfl (lv_at hl 1 rfl) ?_
  refine lv_iconst (v := 3) hx hb dX0_pad_6 (by decide) ?_
  refine lv_imul hx hb dX0_pad_7 ?_
  refine lv_iadd hx hb dX0_pad_8 ?_
  refine lv_iconst (v := 2) hx hb dX0_pad_9 (by decide) ?_
  refine lv_iadd hx hb dX0_pad_10 ?_
  obtain ⟨z_2, h⟩ := gb_ck_s h
  refine va_iald hx hb hK hP (k0 + 1) 0 (gb_at b (gb_cB z_1).2) rfl z_2 dX0_pad_11 ?_
  refine lv_topi (fun x_3 ex_3 => ?_)
  replace h := gb_lt_s ex_3 h
  obtain ⟨e1, e2⟩ := gb_eq2 h
  exact W.iret (v := x_3) hx hb hr (fun t ht hW => gb_ri ht ⟨e2, by rw [← e1]; exact hP⟩ hS) hS.2.2 dX0_pad_12
theorem dX0_toes_0 : decode cX0_toes 0 = .ok (.bipush 18, 2) := dc_16 (show ((cX0_toes.data.toList.drop 0).take 2).map UInt8.toNat = [16, 18] by decide +kernel) rfl
theorem dX0_toes_2 : decode cX0_toes 2 = .ok (.iload_n 1, 1) := dc_27 (show ((cX0_toes.data.toList.drop 2).take 1).map UInt8.toNat = [27] by decide +kernel)
theorem dX0_toes_3 : decode cX0_toes 3 = .ok (.iconst 5, 1) := dc_8 (show ((cX0_toes.data.toList.drop 3).take 1).map UInt8.toNat = [8] by decide +kernel)
theorem dX0_toes_4 : decode cX0_toes 4 = .ok (.imul, 1) := dc_104 (show ((cX0_toes.data.toList.drop 4).take 1).map UInt8.toNat = [104] by decide +kernel)
theorem dX0_toes_5 : decode cX0_toes 5 = .ok (.iadd, 1) := dc_96 (show ((cX0_toes.data.toList.drop 5).take 1).map UInt8.toNat = [96] by decide +kernel)
theorem dX0_toes_6 : decode cX0_toes 6 = .ok (.istore_n 2, 1) := dc_61 (show ((cX0_toes.data.toList.drop 6).take 1).map UInt8.toNat = [61] by decide +kernel)
theorem dX0_toes_7 : decode cX0_toes 7 = .ok (.aload_n 0, 1) := dc_42 (show ((cX0_toes.data.toList.drop 7).take 1).map UInt8.toNat = [42] by decide +kernel)
theorem dX0_toes_8 : decode cX0_toes 8 = .ok (.getfield 11, 3) := dc_180 (show ((cX0_toes.data.toList.drop 8).take 3).map UInt8.toNat = [180, 0, 11] by decide +kernel) rfl
theorem dX0_toes_11 : decode cX0_toes 11 = .ok (.iload_n 2, 1) := dc_28 (show ((cX0_toes.data.toList.drop 11).take 1).map UInt8.toNat = [28] by decide +kernel)
theorem dX0_toes_12 : decode cX0_toes 12 = .ok (.iaload, 1) := dc_46 (show ((cX0_toes.data.toList.drop 12).take 1).map UInt8.toNat = [46] by decide +kernel)
theorem dX0_toes_13 : decode cX0_toes 13 = .ok (.aload_n 0, 1) := dc_42 (show ((cX0_toes.data.toList.drop 13).take 1).map UInt8.toNat = [42] by decide +kernel)
theorem dX0_toes_14 : decode cX0_toes 14 = .ok (.getfield 11, 3) := dc_180 (show ((cX0_toes.data.toList.drop 14).take 3).map UInt8.toNat = [180, 0, 11] by decide +kernel) rfl
theorem dX0_toes_17 : decode cX0_toes 17 = .ok (.iload_n 2, 1) := dc_28 (show ((cX0_toes.data.toList.drop 17).take 1).map UInt8.toNat = [28] by decide +kernel)
theorem dX0_toes_18 : decode cX0_toes 18 = .ok (.iconst 1, 1) := dc_4 (show ((cX0_toes.data.toList.drop 18).take 1).map UInt8.toNat = [4] by decide +kernel)
theorem dX0_toes_19 : decode cX0_toes 19 = .ok (.iadd, 1) := dc_96 (show ((cX0_toes.data.toList.drop 19).take 1).map UInt8.toNat = [96] by decide +kernel)
theorem dX0_toes_20 : decode cX0_toes 20 = .ok (.iaload, 1) := dc_46 (show ((cX0_toes.data.toList.drop 20).take 1).map UInt8.toNat = [46] by decide +kernel)
theorem dX0_toes_21 : decode cX0_toes 21 = .ok (.iadd, 1) := dc_96 (show ((cX0_toes.data.toList.drop 21).take 1).map UInt8.toNat = [96] by decide +kernel)
theorem dX0_toes_22 : decode cX0_toes 22 = .ok (.ireturn, 1) := dc_172 (show ((cX0_toes.data.toList.drop 22).take 1).map UInt8.toNat = [172] by decide +kernel)
def cs_Border_toes_B (n : Nat) (σ : gb_S) (k0 : Nat) (p1 : Int32) : gb_CR Int32 := gb_kk (gb_kB k0) (gb_lt ((18 : Int32) + (p1 * 5)) (fun x_2 => gb_ck x_2 58 (gb_lt ((σ.1 (k0 + 1)) (Int32.toNatClampNeg x_2)) (fun x_4 => gb_ck (x_2 + 1) 58 (gb_lt ((σ.1 (k0 + 1)) (Int32.toNatClampNeg (x_2 + 1))) (fun x_6 => some (σ, (x_4 + x_6))))))))
set_option maxHeartbeats 8000000 in
set_option maxRecDepth 100000 in
theorem cc_Border_toes_B (l : Launch) (D : va_G) (cT : Nat → ClassId) (tt : Nat → Nat) (b1 b : Nat) (hb1 : b1 ≤ b) (n : Nat) (σ : gb_S) (k0 : Nat) (p1 : Int32) (σE : gb_S) (rE : Int32) (h : cs_Border_toes_B n σ k0 p1 = some (σE, rE)) : Met l yX0_toes (.code yX0_toes cX0_toes 3 (some FieldType.int) :: gb_wA) ({ frames := 0, cells := 0, slots := 0, locals := 0 }) (gb_Pc D cT tt b1 [.ref (b + k0), .int p1] (fun h => va_P D vwCl (gb_wl b (gb_CW cT b σ)) h)) (gb_Qi (fun r h => r = rE ∧ va_P D vwCl (gb_wl b (gb_CW cT b σE)) h) (gb_fr b 135)) 0 0 (gb_fr b 135) := by
  refine Met.ofW (cc := cX0_toes) (maxL := 3) (ret := (some FieldType.int)) (by decide) rfl ?_
  intro p e s m args below meth c s₁ B hml hv
  obtain ⟨rfl, hSt, hP⟩ := hv
  have hx := B.exec
  have hb := B.bytes
  have hr := B.returns
  have hts := atoms_spec (ws := .code yX0_toes cX0_toes 3 (some FieldType.int) :: gb_wA) B.pre
  have hq : ∀ w ∈ gb_wA, w.before _ s = true := fun w h => hts w (List.mem_cons_of_mem _ h)
  have hown : s.vm.findClass RX0 = some m.cls := findClass_of_methodNamed B.named
  have hlocks := B.notSynchronized
  clear B hts
  have hK := hSt.1
  have hS : va_S (gb_fr b 135) s.heap s.heap [] := va_S.rf
  have hl := lv_entry ([.ref (b + k0), .int p1]) (n := 3) (Nat.le_of_ble_eq_true rfl)
  rw [lg_entry_eq]
  generalize (lg_sl ([.ref (b + k0), .int p1]) ++ List.replicate (3 - (lg_sl ([.ref (b + k0), .int p1])).length) Slot.unset).toArray = ls at hl ⊢
  replace hl : lv_has ls 3 [(0, .ref (b + k0)), (1, .int p1)] := hl
  unfold cs_Border_toes_B at h
  obtain ⟨z_1, h⟩ := gb_kk_s h
  refine lv_bipush (v := 18) hx hb dX0_toes_0 (by decide) ?_
  refine lv_iload_n hx hb dX0_toes_2 rfl (lv_at hl 1 rfl) ?_
  refine lv_iconst (v := 5) hx hb dX0_toes_3 (by decide) ?_
  refine lv_imul hx hb dX0_toes_4 ?_
  refine lv_iadd hx hb dX0_toes_5 ?_
  refine lv_topi (fun x_2 ex_2 => ?_)
  replace h := gb_lt_s ex_2 h
  refine lv_istore_n (lv' := [(2, .int x_2), (0, .ref (b + k0)), (1, .int p1)]) hx hb dX0_toes_6 rfl hl (by decide) rfl (fun ls hl => ?_)
  refine lv_aload_n hx hb dX0_toes_7 rfl (lv_at hl 1 rfl) ?_
  refine va_get (ci := 0) (v := (.ref (b + (k0 + 1)))) (C := RX0) (T := TX0) (N := 1) hx hb hq i_X0 hown hK hP k0 (gb_at b (gb_cB z_1).1) rfl 0 (by decide) (hq _ w_49) (fun x9 h9 => u_same (hq _ w_50) x9 h9) rfl dX0_toes_8 ?_
  refine lv_iload_n hx hb dX0_toes_11 rfl (lv_at hl 0 rfl) ?_
  obtain ⟨z_3, h⟩ := gb_ck_s h
  refine va_iald hx hb hK hP (k0 + 1) 0 (gb_at b (gb_cB z_1).2) rfl z_3 dX0_toes_12 ?_
  refine lv_topi (fun x_4 ex_4 => ?_)
  replace h := gb_lt_s ex_4 h
  refine lv_aload_n hx hb dX0_toes_13 rfl (lv_at hl 1 rfl) ?_
  refine va_get (ci := 0) (v := (.ref (b + (k0 + 1)))) (C := RX0) (T := TX0) (N := 1) hx hb hq i_X0 hown hK hP k0 (gb_at b (gb_cB z_1).1) rfl 0 (by decide) (hq _ w_49) (fun x9 h9 => u_same (hq _ w_50) x9 h9) rfl dX0_toes_14 ?_
  refine lv_iload_n hx hb dX0_toes_17 rfl (lv_at hl 0 rfl) ?_
  refine lv_iconst (v := 1) hx hb dX0_toes_18 (by decide) ?_
  refine lv_iadd hx hb dX0_toes_19 ?_
  obtain ⟨z_5, h⟩ := gb_ck_s h
  refine va_iald hx hb hK hP (k0 + 1) 0 (gb_at b (gb_cB z_1).2) rfl z_5 dX0_toes_20 ?_
  refine lv_topi (fun x_6 ex_6 => ?_)
  replace h := gb_lt_s ex_6 h
  refine lv_iadd hx hb dX0_toes_21 ?_
  obtain ⟨e1, e2⟩ := gb_eq2 h
  exact W.iret (v := (x_4 + x_6)) hx hb hr (fun t ht hW => gb_ri ht ⟨e2, by rw [← e1]; exact hP⟩ hS) hS.2.2 dX0_toes_22
theorem dX0_boots_0 : decode cX0_boots 0 = .ok (.aload_n 0, 1) := dc_42 (show ((cX0_boots.data.toList.drop 0).take 1).map UInt8.toNat = [42] by decide +kernel)
theorem dX0_boots_1 : decode cX0_boots 1 = .ok (.getfield 11, 3) := dc_180 (show ((cX0_boots.data.toList.drop 1).take 3).map UInt8.toNat = [180, 0, 11] by decide +kernel) rfl
theorem dX0_boots_4 : decode cX0_boots 4 = .ok (.bipush 18, 2) := dc_16 (show ((cX0_boots.data.toList.drop 4).take 2).map UInt8.toNat = [16, 18] by decide +kernel) rfl
theorem dX0_boots_6 : decode cX0_boots 6 = .ok (.iload_n 1, 1) := dc_27 (show ((cX0_boots.data.toList.drop 6).take 1).map UInt8.toNat = [27] by decide +kernel)
theorem dX0_boots_7 : decode cX0_boots 7 = .ok (.iconst 5, 1) := dc_8 (show ((cX0_boots.data.toList.drop 7).take 1).map UInt8.toNat = [8] by decide +kernel)
theorem dX0_boots_8 : decode cX0_boots 8 = .ok (.imul, 1) := dc_104 (show ((cX0_boots.data.toList.drop 8).take 1).map UInt8.toNat = [104] by decide +kernel)
theorem dX0_boots_9 : decode cX0_boots 9 = .ok (.iadd, 1) := dc_96 (show ((cX0_boots.data.toList.drop 9).take 1).map UInt8.toNat = [96] by decide +kernel)
theorem dX0_boots_10 : decode cX0_boots 10 = .ok (.iconst 2, 1) := dc_5 (show ((cX0_boots.data.toList.drop 10).take 1).map UInt8.toNat = [5] by decide +kernel)
theorem dX0_boots_11 : decode cX0_boots 11 = .ok (.iadd, 1) := dc_96 (show ((cX0_boots.data.toList.drop 11).take 1).map UInt8.toNat = [96] by decide +kernel)
theorem dX0_boots_12 : decode cX0_boots 12 = .ok (.iaload, 1) := dc_46 (show ((cX0_boots.data.toList.drop 12).take 1).map UInt8.toNat = [46] by decide +kernel)
theorem dX0_boots_13 : decode cX0_boots 13 = .ok (.ireturn, 1) := dc_172 (show ((cX0_boots.data.toList.drop 13).take 1).map UInt8.toNat = [172] by decide +kernel)
def cs_Border_boots_B (n : Nat) (σ : gb_S) (k0 : Nat) (p1 : Int32) : gb_CR Int32 := gb_kk (gb_kB k0) (gb_ck (((18 : Int32) + (p1 * 5)) + 2) 58 (gb_lt ((σ.1 (k0 + 1)) (Int32.toNatClampNeg (((18 : Int32) + (p1 * 5)) + 2))) (fun x_3 => some (σ, x_3))))
set_option maxHeartbeats 8000000 in
set_option maxRecDepth 100000 in
theorem cc_Border_boots_B (l : Launch) (D : va_G) (cT : Nat → ClassId) (tt : Nat → Nat) (b1 b : Nat) (hb1 : b1 ≤ b) (n : Nat) (σ : gb_S) (k0 : Nat) (p1 : Int32) (σE : gb_S) (rE : Int32) (h : cs_Border_boots_B n σ k0 p1 = some (σE, rE)) : Met l yX0_boots (.code yX0_boots cX0_boots 2 (some FieldType.int) :: gb_wA) ({ frames := 0, cells := 0, slots := 0, locals := 0 }) (gb_Pc D cT tt b1 [.ref (b + k0), .int p1] (fun h => va_P D vwCl (gb_wl b (gb_CW cT b σ)) h)) (gb_Qi (fun r h => r = rE ∧ va_P D vwCl (gb_wl b (gb_CW cT b σE)) h) (gb_fr b 135)) 0 0 (gb_fr b 135) := by
  refine Met.ofW (cc := cX0_boots) (maxL := 2) (ret := (some FieldType.int)) (by decide) rfl ?_
  intro p e s m args below meth c s₁ B hml hv
  obtain ⟨rfl, hSt, hP⟩ := hv
  have hx := B.exec
  have hb := B.bytes
  have hr := B.returns
  have hts := atoms_spec (ws := .code yX0_boots cX0_boots 2 (some FieldType.int) :: gb_wA) B.pre
  have hq : ∀ w ∈ gb_wA, w.before _ s = true := fun w h => hts w (List.mem_cons_of_mem _ h)
  have hown : s.vm.findClass RX0 = some m.cls := findClass_of_methodNamed B.named
  have hlocks := B.notSynchronized
  clear B hts
  have hK := hSt.1
  have hS : va_S (gb_fr b 135) s.heap s.heap [] := va_S.rf
  have hl := lv_entry ([.ref (b + k0), .int p1]) (n := 2) (Nat.le_of_ble_eq_true rfl)
  rw [lg_entry_eq]
  generalize (lg_sl ([.ref (b + k0), .int p1]) ++ List.replicate (2 - (lg_sl ([.ref (b + k0), .int p1])).length) Slot.unset).toArray = ls at hl ⊢
  replace hl : lv_has ls 2 [(0, .ref (b + k0)), (1, .int p1)] := hl
  unfold cs_Border_boots_B at h
  obtain ⟨z_1, h⟩ := gb_kk_s h
  refine lv_aload_n hx hb dX0_boots_0 rfl (lv_at hl 0 rfl) ?_
  refine va_get (ci := 0) (v := (.ref (b + (k0 + 1)))) (C := RX0) (T := TX0) (N := 1) hx hb hq i_X0 hown hK hP k0 (gb_at b (gb_cB z_1).1) rfl 0 (by decide) (hq _ w_49) (fun x9 h9 => u_same (hq _ w_50) x9 h9) rfl dX0_boots_1 ?_
  refine lv_bipush (v := 18) hx hb dX0_boots_4 (by decide) ?_
  refine lv_iload_n hx hb dX0_boots_6 rfl (lv_at hl 1 rfl) ?_
  refine lv_iconst (v := 5) hx hb dX0_boots_7 (by decide) ?_
  refine lv_imul hx hb dX0_boots_8 ?_
  refine lv_iadd hx hb dX0_boots_9 ?_
  refine lv_iconst (v := 2) hx hb dX0_boots_10 (by decide) ?_
  refine lv_iadd hx hb dX0_boots_11 ?_
  obtain ⟨z_2, h⟩ := gb_ck_s h
  refine va_iald hx hb hK hP (k0 + 1) 0 (gb_at b (gb_cB z_1).2) rfl z_2 dX0_boots_12 ?_
  refine lv_topi (fun x_3 ex_3 => ?_)
  replace h := gb_lt_s ex_3 h
  obtain ⟨e1, e2⟩ := gb_eq2 h
  exact W.iret (v := x_3) hx hb hr (fun t ht hW => gb_ri ht ⟨e2, by rw [← e1]; exact hP⟩ hS) hS.2.2 dX0_boots_13
theorem dX0_limps_0 : decode cX0_limps 0 = .ok (.aload_n 0, 1) := dc_42 (show ((cX0_limps.data.toList.drop 0).take 1).map UInt8.toNat = [42] by decide +kernel)
theorem dX0_limps_1 : decode cX0_limps 1 = .ok (.getfield 11, 3) := dc_180 (show ((cX0_limps.data.toList.drop 1).take 3).map UInt8.toNat = [180, 0, 11] by decide +kernel) rfl
theorem dX0_limps_4 : decode cX0_limps 4 = .ok (.bipush 18, 2) := dc_16 (show ((cX0_limps.data.toList.drop 4).take 2).map UInt8.toNat = [16, 18] by decide +kernel) rfl
theorem dX0_limps_6 : decode cX0_limps 6 = .ok (.iload_n 1, 1) := dc_27 (show ((cX0_limps.data.toList.drop 6).take 1).map UInt8.toNat = [27] by decide +kernel)
theorem dX0_limps_7 : decode cX0_limps 7 = .ok (.iconst 5, 1) := dc_8 (show ((cX0_limps.data.toList.drop 7).take 1).map UInt8.toNat = [8] by decide +kernel)
theorem dX0_limps_8 : decode cX0_limps 8 = .ok (.imul, 1) := dc_104 (show ((cX0_limps.data.toList.drop 8).take 1).map UInt8.toNat = [104] by decide +kernel)
theorem dX0_limps_9 : decode cX0_limps 9 = .ok (.iadd, 1) := dc_96 (show ((cX0_limps.data.toList.drop 9).take 1).map UInt8.toNat = [96] by decide +kernel)
theorem dX0_limps_10 : decode cX0_limps 10 = .ok (.iconst 3, 1) := dc_6 (show ((cX0_limps.data.toList.drop 10).take 1).map UInt8.toNat = [6] by decide +kernel)
theorem dX0_limps_11 : decode cX0_limps 11 = .ok (.iadd, 1) := dc_96 (show ((cX0_limps.data.toList.drop 11).take 1).map UInt8.toNat = [96] by decide +kernel)
theorem dX0_limps_12 : decode cX0_limps 12 = .ok (.iaload, 1) := dc_46 (show ((cX0_limps.data.toList.drop 12).take 1).map UInt8.toNat = [46] by decide +kernel)
theorem dX0_limps_13 : decode cX0_limps 13 = .ok (.iconst 1, 1) := dc_4 (show ((cX0_limps.data.toList.drop 13).take 1).map UInt8.toNat = [4] by decide +kernel)
theorem dX0_limps_14 : decode cX0_limps 14 = .ok (.if_icmp .ne 7, 3) := dc_160 (show ((cX0_limps.data.toList.drop 14).take 3).map UInt8.toNat = [160, 0, 7] by decide +kernel) rfl
theorem dX0_limps_21 : decode cX0_limps 21 = .ok (.iconst 0, 1) := dc_3 (show ((cX0_limps.data.toList.drop 21).take 1).map UInt8.toNat = [3] by decide +kernel)
theorem dX0_limps_22 : decode cX0_limps 22 = .ok (.ireturn, 1) := dc_172 (show ((cX0_limps.data.toList.drop 22).take 1).map UInt8.toNat = [172] by decide +kernel)
theorem dX0_limps_17 : decode cX0_limps 17 = .ok (.iconst 1, 1) := dc_4 (show ((cX0_limps.data.toList.drop 17).take 1).map UInt8.toNat = [4] by decide +kernel)
theorem dX0_limps_18 : decode cX0_limps 18 = .ok (.goto 4, 3) := dc_167 (show ((cX0_limps.data.toList.drop 18).take 3).map UInt8.toNat = [167, 0, 4] by decide +kernel) rfl
def cs_Border_limps_B (n : Nat) (σ : gb_S) (k0 : Nat) (p1 : Int32) : gb_CR Int32 := gb_kk (gb_kB k0) (gb_ck (((18 : Int32) + (p1 * 5)) + 3) 58 (gb_lt ((σ.1 (k0 + 1)) (Int32.toNatClampNeg (((18 : Int32) + (p1 * 5)) + 3))) (fun x_3 => (if x_3 = 1 then some (σ, 1) else some (σ, 0)))))
set_option maxHeartbeats 8000000 in
set_option maxRecDepth 100000 in
theorem cc_Border_limps_B (l : Launch) (D : va_G) (cT : Nat → ClassId) (tt : Nat → Nat) (b1 b : Nat) (hb1 : b1 ≤ b) (n : Nat) (σ : gb_S) (k0 : Nat) (p1 : Int32) (σE : gb_S) (rE : Int32) (h : cs_Border_limps_B n σ k0 p1 = some (σE, rE)) : Met l yX0_limps (.code yX0_limps cX0_limps 2 (some FieldType.boolean) :: gb_wA) ({ frames := 0, cells := 0, slots := 0, locals := 0 }) (gb_Pc D cT tt b1 [.ref (b + k0), .int p1] (fun h => va_P D vwCl (gb_wl b (gb_CW cT b σ)) h)) (gb_Qi (fun r h => r = rE ∧ va_P D vwCl (gb_wl b (gb_CW cT b σE)) h) (gb_fr b 135)) 0 0 (gb_fr b 135) := by
  refine Met.ofW (cc := cX0_limps) (maxL := 2) (ret := (some FieldType.boolean)) (by decide) rfl ?_
  intro p e s m args below meth c s₁ B hml hv
  obtain ⟨rfl, hSt, hP⟩ := hv
  have hx := B.exec
  have hb := B.bytes
  have hr := B.returns
  have hts := atoms_spec (ws := .code yX0_limps cX0_limps 2 (some FieldType.boolean) :: gb_wA) B.pre
  have hq : ∀ w ∈ gb_wA, w.before _ s = true := fun w h => hts w (List.mem_cons_of_mem _ h)
  have hown : s.vm.findClass RX0 = some m.cls := findClass_of_methodNamed B.named
  have hlocks := B.notSynchronized
  clear B hts
  have hK := hSt.1
  have hS : va_S (gb_fr b 135) s.heap s.heap [] := va_S.rf
  have hl := lv_entry ([.ref (b + k0), .int p1]) (n := 2) (Nat.le_of_ble_eq_true rfl)
  rw [lg_entry_eq]
  generalize (lg_sl ([.ref (b + k0), .int p1]) ++ List.replicate (2 - (lg_sl ([.ref (b + k0), .int p1])).length) Slot.unset).toArray = ls at hl ⊢
  replace hl : lv_has ls 2 [(0, .ref (b + k0)), (1, .int p1)] := hl
  unfold cs_Border_limps_B at h
  obtain ⟨z_1, h⟩ := gb_kk_s h
  refine lv_aload_n hx hb dX0_limps_0 rfl (lv_at hl 0 rfl) ?_
  refine va_get (ci := 0) (v := (.ref (b + (k0 + 1)))) (C := RX0) (T := TX0) (N := 1) hx hb hq i_X0 hown hK hP k0 (gb_at b (gb_cB z_1).1) rfl 0 (by decide) (hq _ w_49) (fun x9 h9 => u_same (hq _ w_50) x9 h9) rfl dX0_limps_1 ?_
  refine lv_bipush (v := 18) hx hb dX0_limps_4 (by decide) ?_
  refine lv_iload_n hx hb dX0_limps_6 rfl (lv_at hl 1 rfl) ?_
  refine lv_iconst (v := 5) hx hb dX0_limps_7 (by decide) ?_
  refine lv_imul hx hb dX0_limps_8 ?_
  refine lv_iadd hx hb dX0_limps_9 ?_
  refine lv_iconst (v := 3) hx hb dX0_limps_10 (by decide) ?_
  refine lv_iadd hx hb dX0_limps_11 ?_
  obtain ⟨z_2, h⟩ := gb_ck_s h
  refine va_iald hx hb hK hP (k0 + 1) 0 (gb_at b (gb_cB z_1).2) rfl z_2 dX0_limps_12 ?_
  refine lv_topi (fun x_3 ex_3 => ?_)
  replace h := gb_lt_s ex_3 h
  refine lv_iconst (v := 1) hx hb dX0_limps_13 (by decide) ?_
  refine lv_icmp_ne (tgt := 21) hx hb dX0_limps_14 (by decide) (fun c_4 => ?_) (fun c_4 => ?_)
  · rw [if_neg c_4] at h
    refine lv_iconst (v := 0) hx hb dX0_limps_21 (by decide) ?_
    obtain ⟨e1, e2⟩ := gb_eq2 h
    exact W.zret (v := 0) hx hb hr (by decide) (fun t ht hW => gb_ri ht ⟨e2, by rw [← e1]; exact hP⟩ hS) hS.2.2 dX0_limps_22
  · rw [if_pos c_4] at h
    refine lv_iconst (v := 1) hx hb dX0_limps_17 (by decide) ?_
    refine lv_goto (tgt := 22) hx hb dX0_limps_18 (by decide) ?_
    obtain ⟨e1, e2⟩ := gb_eq2 h
    exact W.zret (v := 1) hx hb hr (by decide) (fun t ht hW => gb_ri ht ⟨e2, by rw [← e1]; exact hP⟩ hS) hS.2.2 dX0_limps_22
theorem dX0_worth_0 : decode cX0_worth 0 = .ok (.aload_n 0, 1) := dc_42 (show ((cX0_worth.data.toList.drop 0).take 1).map UInt8.toNat = [42] by decide +kernel)
theorem dX0_worth_1 : decode cX0_worth 1 = .ok (.getfield 11, 3) := dc_180 (show ((cX0_worth.data.toList.drop 1).take 3).map UInt8.toNat = [180, 0, 11] by decide +kernel) rfl
theorem dX0_worth_4 : decode cX0_worth 4 = .ok (.bipush 18, 2) := dc_16 (show ((cX0_worth.data.toList.drop 4).take 2).map UInt8.toNat = [16, 18] by decide +kernel) rfl
theorem dX0_worth_6 : decode cX0_worth 6 = .ok (.iload_n 1, 1) := dc_27 (show ((cX0_worth.data.toList.drop 6).take 1).map UInt8.toNat = [27] by decide +kernel)
theorem dX0_worth_7 : decode cX0_worth 7 = .ok (.iconst 5, 1) := dc_8 (show ((cX0_worth.data.toList.drop 7).take 1).map UInt8.toNat = [8] by decide +kernel)
theorem dX0_worth_8 : decode cX0_worth 8 = .ok (.imul, 1) := dc_104 (show ((cX0_worth.data.toList.drop 8).take 1).map UInt8.toNat = [104] by decide +kernel)
theorem dX0_worth_9 : decode cX0_worth 9 = .ok (.iadd, 1) := dc_96 (show ((cX0_worth.data.toList.drop 9).take 1).map UInt8.toNat = [96] by decide +kernel)
theorem dX0_worth_10 : decode cX0_worth 10 = .ok (.iconst 4, 1) := dc_7 (show ((cX0_worth.data.toList.drop 10).take 1).map UInt8.toNat = [7] by decide +kernel)
theorem dX0_worth_11 : decode cX0_worth 11 = .ok (.iadd, 1) := dc_96 (show ((cX0_worth.data.toList.drop 11).take 1).map UInt8.toNat = [96] by decide +kernel)
theorem dX0_worth_12 : decode cX0_worth 12 = .ok (.iaload, 1) := dc_46 (show ((cX0_worth.data.toList.drop 12).take 1).map UInt8.toNat = [46] by decide +kernel)
theorem dX0_worth_13 : decode cX0_worth 13 = .ok (.ireturn, 1) := dc_172 (show ((cX0_worth.data.toList.drop 13).take 1).map UInt8.toNat = [172] by decide +kernel)
def cs_Border_worth_B (n : Nat) (σ : gb_S) (k0 : Nat) (p1 : Int32) : gb_CR Int32 := gb_kk (gb_kB k0) (gb_ck (((18 : Int32) + (p1 * 5)) + 4) 58 (gb_lt ((σ.1 (k0 + 1)) (Int32.toNatClampNeg (((18 : Int32) + (p1 * 5)) + 4))) (fun x_3 => some (σ, x_3))))
set_option maxHeartbeats 8000000 in
set_option maxRecDepth 100000 in
theorem cc_Border_worth_B (l : Launch) (D : va_G) (cT : Nat → ClassId) (tt : Nat → Nat) (b1 b : Nat) (hb1 : b1 ≤ b) (n : Nat) (σ : gb_S) (k0 : Nat) (p1 : Int32) (σE : gb_S) (rE : Int32) (h : cs_Border_worth_B n σ k0 p1 = some (σE, rE)) : Met l yX0_worth (.code yX0_worth cX0_worth 2 (some FieldType.int) :: gb_wA) ({ frames := 0, cells := 0, slots := 0, locals := 0 }) (gb_Pc D cT tt b1 [.ref (b + k0), .int p1] (fun h => va_P D vwCl (gb_wl b (gb_CW cT b σ)) h)) (gb_Qi (fun r h => r = rE ∧ va_P D vwCl (gb_wl b (gb_CW cT b σE)) h) (gb_fr b 135)) 0 0 (gb_fr b 135) := by
  refine Met.ofW (cc := cX0_worth) (maxL := 2) (ret := (some FieldType.int)) (by decide) rfl ?_
  intro p e s m args below meth c s₁ B hml hv
  obtain ⟨rfl, hSt, hP⟩ := hv
  have hx := B.exec
  have hb := B.bytes
  have hr := B.returns
  have hts := atoms_spec (ws := .code yX0_worth cX0_worth 2 (some FieldType.int) :: gb_wA) B.pre
  have hq : ∀ w ∈ gb_wA, w.before _ s = true := fun w h => hts w (List.mem_cons_of_mem _ h)
  have hown : s.vm.findClass RX0 = some m.cls := findClass_of_methodNamed B.named
  have hlocks := B.notSynchronized
  clear B hts
  have hK := hSt.1
  have hS : va_S (gb_fr b 135) s.heap s.heap [] := va_S.rf
  have hl := lv_entry ([.ref (b + k0), .int p1]) (n := 2) (Nat.le_of_ble_eq_true rfl)
  rw [lg_entry_eq]
  generalize (lg_sl ([.ref (b + k0), .int p1]) ++ List.replicate (2 - (lg_sl ([.ref (b + k0), .int p1])).length) Slot.unset).toArray = ls at hl ⊢
  replace hl : lv_has ls 2 [(0, .ref (b + k0)), (1, .int p1)] := hl
  unfold cs_Border_worth_B at h
  obtain ⟨z_1, h⟩ := gb_kk_s h
  refine lv_aload_n hx hb dX0_worth_0 rfl (lv_at hl 0 rfl) ?_
  refine va_get (ci := 0) (v := (.ref (b + (k0 + 1)))) (C := RX0) (T := TX0) (N := 1) hx hb hq i_X0 hown hK hP k0 (gb_at b (gb_cB z_1).1) rfl 0 (by decide) (hq _ w_49) (fun x9 h9 => u_same (hq _ w_50) x9 h9) rfl dX0_worth_1 ?_
  refine lv_bipush (v := 18) hx hb dX0_worth_4 (by decide) ?_
  refine lv_iload_n hx hb dX0_worth_6 rfl (lv_at hl 1 rfl) ?_
  refine lv_iconst (v := 5) hx hb dX0_worth_7 (by decide) ?_
  refine lv_imul hx hb dX0_worth_8 ?_
  refine lv_iadd hx hb dX0_worth_9 ?_
  refine lv_iconst (v := 4) hx hb dX0_worth_10 (by decide) ?_
  refine lv_iadd hx hb dX0_worth_11 ?_
  obtain ⟨z_2, h⟩ := gb_ck_s h
  refine va_iald hx hb hK hP (k0 + 1) 0 (gb_at b (gb_cB z_1).2) rfl z_2 dX0_worth_12 ?_
  refine lv_topi (fun x_3 ex_3 => ?_)
  replace h := gb_lt_s ex_3 h
  obtain ⟨e1, e2⟩ := gb_eq2 h
  exact W.iret (v := x_3) hx hb hr (fun t ht hW => gb_ri ht ⟨e2, by rw [← e1]; exact hP⟩ hS) hS.2.2 dX0_worth_13
theorem dX0_worthOf_0 : decode cX0_worthOf 0 = .ok (.iconst 0, 1) := dc_3 (show ((cX0_worthOf.data.toList.drop 0).take 1).map UInt8.toNat = [3] by decide +kernel)
theorem dX0_worthOf_1 : decode cX0_worthOf 1 = .ok (.istore_n 2, 1) := dc_61 (show ((cX0_worthOf.data.toList.drop 1).take 1).map UInt8.toNat = [61] by decide +kernel)
theorem dX0_worthOf_2 : decode cX0_worthOf 2 = .ok (.iconst 0, 1) := dc_3 (show ((cX0_worthOf.data.toList.drop 2).take 1).map UInt8.toNat = [3] by decide +kernel)
theorem dX0_worthOf_3 : decode cX0_worthOf 3 = .ok (.istore_n 3, 1) := dc_62 (show ((cX0_worthOf.data.toList.drop 3).take 1).map UInt8.toNat = [62] by decide +kernel)
theorem dX0_worthOf_4 : decode cX0_worthOf 4 = .ok (.iload_n 3, 1) := dc_29 (show ((cX0_worthOf.data.toList.drop 4).take 1).map UInt8.toNat = [29] by decide +kernel)
theorem dX0_worthOf_5 : decode cX0_worthOf 5 = .ok (.aload_n 0, 1) := dc_42 (show ((cX0_worthOf.data.toList.drop 5).take 1).map UInt8.toNat = [42] by decide +kernel)
theorem dX0_worthOf_6 : decode cX0_worthOf 6 = .ok (.invokevirtual 19, 3) := dc_182 (show ((cX0_worthOf.data.toList.drop 6).take 3).map UInt8.toNat = [182, 0, 19] by decide +kernel) rfl
theorem dX0_worthOf_9 : decode cX0_worthOf 9 = .ok (.if_icmp .ge 26, 3) := dc_162 (show ((cX0_worthOf.data.toList.drop 9).take 3).map UInt8.toNat = [162, 0, 26] by decide +kernel) rfl
theorem dX0_worthOf_35 : decode cX0_worthOf 35 = .ok (.iload_n 2, 1) := dc_28 (show ((cX0_worthOf.data.toList.drop 35).take 1).map UInt8.toNat = [28] by decide +kernel)
theorem dX0_worthOf_36 : decode cX0_worthOf 36 = .ok (.ireturn, 1) := dc_172 (show ((cX0_worthOf.data.toList.drop 36).take 1).map UInt8.toNat = [172] by decide +kernel)
theorem dX0_worthOf_12 : decode cX0_worthOf 12 = .ok (.iload_n 1, 1) := dc_27 (show ((cX0_worthOf.data.toList.drop 12).take 1).map UInt8.toNat = [27] by decide +kernel)
theorem dX0_worthOf_13 : decode cX0_worthOf 13 = .ok (.iload_n 3, 1) := dc_29 (show ((cX0_worthOf.data.toList.drop 13).take 1).map UInt8.toNat = [29] by decide +kernel)
theorem dX0_worthOf_14 : decode cX0_worthOf 14 = .ok (.ishr, 1) := dc_122 (show ((cX0_worthOf.data.toList.drop 14).take 1).map UInt8.toNat = [122] by decide +kernel)
theorem dX0_worthOf_15 : decode cX0_worthOf 15 = .ok (.iconst 1, 1) := dc_4 (show ((cX0_worthOf.data.toList.drop 15).take 1).map UInt8.toNat = [4] by decide +kernel)
theorem dX0_worthOf_16 : decode cX0_worthOf 16 = .ok (.iand, 1) := dc_126 (show ((cX0_worthOf.data.toList.drop 16).take 1).map UInt8.toNat = [126] by decide +kernel)
theorem dX0_worthOf_17 : decode cX0_worthOf 17 = .ok (.iconst 1, 1) := dc_4 (show ((cX0_worthOf.data.toList.drop 17).take 1).map UInt8.toNat = [4] by decide +kernel)
theorem dX0_worthOf_18 : decode cX0_worthOf 18 = .ok (.if_icmp .ne 11, 3) := dc_160 (show ((cX0_worthOf.data.toList.drop 18).take 3).map UInt8.toNat = [160, 0, 11] by decide +kernel) rfl
theorem dX0_worthOf_29 : decode cX0_worthOf 29 = .ok (.iinc 3 1, 3) := dc_132 (show ((cX0_worthOf.data.toList.drop 29).take 3).map UInt8.toNat = [132, 3, 1] by decide +kernel) rfl
theorem dX0_worthOf_32 : decode cX0_worthOf 32 = .ok (.goto (-28), 3) := dc_167 (show ((cX0_worthOf.data.toList.drop 32).take 3).map UInt8.toNat = [167, 255, 228] by decide +kernel) rfl
theorem dX0_worthOf_21 : decode cX0_worthOf 21 = .ok (.iload_n 2, 1) := dc_28 (show ((cX0_worthOf.data.toList.drop 21).take 1).map UInt8.toNat = [28] by decide +kernel)
theorem dX0_worthOf_22 : decode cX0_worthOf 22 = .ok (.aload_n 0, 1) := dc_42 (show ((cX0_worthOf.data.toList.drop 22).take 1).map UInt8.toNat = [42] by decide +kernel)
theorem dX0_worthOf_23 : decode cX0_worthOf 23 = .ok (.iload_n 3, 1) := dc_29 (show ((cX0_worthOf.data.toList.drop 23).take 1).map UInt8.toNat = [29] by decide +kernel)
theorem dX0_worthOf_24 : decode cX0_worthOf 24 = .ok (.invokevirtual 38, 3) := dc_182 (show ((cX0_worthOf.data.toList.drop 24).take 3).map UInt8.toNat = [182, 0, 38] by decide +kernel) rfl
theorem w_807 : (Cond.code ({ cls := "GooseBorder$Border", name := "worth", desc := "(I)I" } : MethodName) prog_2_method_18_code (2 : Nat) (Option.some FieldType.int)) ∈ gb_wA := gb_t4 87 rfl rfl
theorem w_804 : (Cond.methodLink "GooseBorder$Border" (38 : Nat) ({ cls := "GooseBorder$Border", name := "worth", desc := "(I)I" } : MethodName)) ∈ gb_wA := gb_t4 84 rfl rfl
theorem w_805 : (Cond.instanceMethod ({ cls := "GooseBorder$Border", name := "worth", desc := "(I)I" } : MethodName)) ∈ gb_wA := gb_t4 85 rfl rfl
theorem w_806 : (Cond.selects "GooseBorder$Border" ({ cls := "GooseBorder$Border", name := "worth", desc := "(I)I" } : MethodName) ({ cls := "GooseBorder$Border", name := "worth", desc := "(I)I" } : MethodName)) ∈ gb_wA := gb_t4 86 rfl rfl
theorem dX0_worthOf_27 : decode cX0_worthOf 27 = .ok (.iadd, 1) := dc_96 (show ((cX0_worthOf.data.toList.drop 27).take 1).map UInt8.toNat = [96] by decide +kernel)
theorem dX0_worthOf_28 : decode cX0_worthOf 28 = .ok (.istore_n 2, 1) := dc_61 (show ((cX0_worthOf.data.toList.drop 28).take 1).map UInt8.toNat = [61] by decide +kernel)
def cs_Border_worthOf_B_4 (n : Nat) : Nat → gb_S → Nat → Int32 → Int32 → Int32 → gb_CR Int32
  | 0, _, _, _, _, _ => none
  | mm + 1, σ, v0, v1, v2, v3 => gb_kk (gb_kB v0) (gb_cd (cs_Border_geese_B n σ v0) (fun s_3 r_4 => (if r_4 ≤ v3 then some (s_3, v2) else (if ((v1 >>> (v3 &&& 31)) &&& 1) = 1 then gb_cd (cs_Border_worth_B n s_3 v0 v3) (fun s_10 r_11 => gb_lt (v2 + r_11) (fun x_14 => gb_lt (v3 + 1) (fun x_15 => cs_Border_worthOf_B_4 n mm s_10 v0 v1 x_14 x_15))) else gb_lt (v3 + 1) (fun x_9 => cs_Border_worthOf_B_4 n mm s_3 v0 v1 v2 x_9)))))
def cs_Border_worthOf_B (n : Nat) (σ : gb_S) (k0 : Nat) (p1 : Int32) : gb_CR Int32 := gb_kk (gb_kB k0) (cs_Border_worthOf_B_4 n n σ k0 p1 0 0)
set_option maxHeartbeats 8000000 in
set_option maxRecDepth 100000 in
theorem cc_Border_worthOf_B (l : Launch) (D : va_G) (cT : Nat → ClassId) (tt : Nat → Nat) (b1 b : Nat) (hb1 : b1 ≤ b) (n : Nat) (σ : gb_S) (k0 : Nat) (p1 : Int32) (σE : gb_S) (rE : Int32) (h : cs_Border_worthOf_B n σ k0 p1 = some (σE, rE)) : Met l yX0_worthOf (.code yX0_worthOf cX0_worthOf 4 (some FieldType.int) :: gb_wA) ({ frames := 1, cells := 0, slots := 0, locals := 21 }) (gb_Pc D cT tt b1 [.ref (b + k0), .int p1] (fun h => va_P D vwCl (gb_wl b (gb_CW cT b σ)) h)) (gb_Qi (fun r h => r = rE ∧ va_P D vwCl (gb_wl b (gb_CW cT b σE)) h) (gb_fr b 135)) 0 0 (gb_fr b 135) := by
  refine Met.ofW (cc := cX0_worthOf) (maxL := 4) (ret := (some FieldType.int)) (by decide) rfl ?_
  intro p e s m args below meth c s₁ B hml hv
  obtain ⟨rfl, hSt, hP⟩ := hv
  have hx := B.exec
  have hb := B.bytes
  have hr := B.returns
  have hts := atoms_spec (ws := .code yX0_worthOf cX0_worthOf 4 (some FieldType.int) :: gb_wA) B.pre
  have hq : ∀ w ∈ gb_wA, w.before _ s = true := fun w h => hts w (List.mem_cons_of_mem _ h)
  have hown : s.vm.findClass RX0 = some m.cls := findClass_of_methodNamed B.named
  have hlocks := B.notSynchronized
  clear B hts
  have hK := hSt.1
  have hS : va_S (gb_fr b 135) s.heap s.heap [] := va_S.rf
  have hl := lv_entry ([.ref (b + k0), .int p1]) (n := 4) (Nat.le_of_ble_eq_true rfl)
  rw [lg_entry_eq]
  generalize (lg_sl ([.ref (b + k0), .int p1]) ++ List.replicate (4 - (lg_sl ([.ref (b + k0), .int p1])).length) Slot.unset).toArray = ls at hl ⊢
  replace hl : lv_has ls 4 [(0, .ref (b + k0)), (1, .int p1)] := hl
  have L4_1 : ∀ (mm : Nat) (σ : gb_S) (v0 : Nat) (v1 : Int32) (v2 : Int32) (v3 : Int32) (H : Heap) (locs : List Loc) (ls : Array Slot), cs_Border_worthOf_B_4 n mm σ v0 v1 v2 v3 = some (σE, rE) → va_P D vwCl (gb_wl b (gb_CW cT b σ)) H → va_S (gb_fr b 135) s.heap H locs → lv_has ls 4 [(0, .ref (b + v0)), (1, .int v1), (2, .int v2), (3, .int v3)] → W p l e (headSpec (.code yX0_worthOf cX0_worthOf 4 (some FieldType.int) :: gb_wA) ({ frames := 1, cells := 0, slots := 0, locals := 21 })).room s m ([.ref (b + k0), .int p1]).toArray below meth c H locs 0 0 (MQ below (gb_Qi (fun r h => r = rE ∧ va_P D vwCl (gb_wl b (gb_CW cT b σE)) h) (gb_fr b 135)) ([.ref (b + k0), .int p1]).toArray s 0 0 (gb_fr b 135)) (F0 m 4 ls []) := by
    clear h hP hS hl ls
    intro mm
    induction mm with
    | zero =>
      intro σ v0 v1 v2 v3 H locs ls h
      cases h
    | succ mm ih =>
      intro σ v0 v1 v2 v3 H locs ls h hP hS hl
      rw [cs_Border_worthOf_B_4] at h
      obtain ⟨z_2, h⟩ := gb_kk_s h
      refine lv_iload_n hx hb dX0_worthOf_4 rfl (lv_at hl 3 rfl) ?_
      refine lv_aload_n hx hb dX0_worthOf_5 rfl (lv_at hl 0 rfl) ?_
      obtain ⟨s_3, r_4, z_5, h⟩ := gb_cd_s h
      refine gb_calli (va_runV (C := RX0) (As := []) (rest := [.int v3]) ⟨hx, hb, hml, hown, hq⟩ (cc_Border_geese_B l D cT tt b1 b hb1 n σ v0 s_3 r_4 z_5) (cwV 0 hq (gb_gV w_476 w_477 w_478 w_4 w_479) rfl rfl rfl (by decide +kernel) ⟨Nat.le_of_ble_eq_true rfl, Nat.le_of_ble_eq_true rfl⟩) (gb_preV (r := (RX0, TX0, 1)) (ci := 0) (q0 := v0) hSt hP rfl (gb_at b (gb_cB z_2).1) hS (fun q h => Nat.le_trans hb1 h.1) hP) rfl rfl hl.1 rfl (lv_room (Nat.le_of_ble_eq_true rfl)) dX0_worthOf_6 ⟨Nat.le_of_ble_eq_true rfl, Nat.le_of_ble_eq_true rfl⟩) hS (fun _ h => h) (fun _ h => h) (fun q_6 H locs hY hk hS => ?_)
      obtain ⟨hq_6, hP⟩ := hY
      replace hq_6 := hq_6.symm
      subst hq_6
      refine lv_icmp_ge (tgt := 35) hx hb dX0_worthOf_9 (by decide) (fun c_7 => ?_) (fun c_7 => ?_)
      · rw [if_pos c_7] at h
        refine lv_iload_n hx hb dX0_worthOf_35 rfl (lv_at hl 2 rfl) ?_
        obtain ⟨e1, e2⟩ := gb_eq2 h
        exact W.iret (v := v2) hx hb hr (fun t ht hW => gb_ri ht ⟨e2, by rw [← e1]; exact hP⟩ hS) hS.2.2 dX0_worthOf_36
      · rw [if_neg c_7] at h
        refine lv_iload_n hx hb dX0_worthOf_12 rfl (lv_at hl 1 rfl) ?_
        refine lv_iload_n hx hb dX0_worthOf_13 rfl (lv_at hl 3 rfl) ?_
        refine lv_ishr hx hb dX0_worthOf_14 ?_
        refine lv_iconst (v := 1) hx hb dX0_worthOf_15 (by decide) ?_
        refine lv_iand hx hb dX0_worthOf_16 ?_
        refine lv_iconst (v := 1) hx hb dX0_worthOf_17 (by decide) ?_
        refine lv_icmp_ne (tgt := 29) hx hb dX0_worthOf_18 (by decide) (fun c_8 => ?_) (fun c_8 => ?_)
        · rw [if_neg c_8] at h
          obtain ⟨x_9, ex_9⟩ : ∃ q, q = (v3 + 1) := ⟨_, rfl⟩
          replace h := gb_lt_s ex_9 h
          refine lv_iinc (v := x_9) (lv' := [(3, .int x_9), (0, .ref (b + v0)), (1, .int v1), (2, .int v2)]) hx hb dX0_worthOf_29 hl (k := 3) rfl (by rw [ex_9]; rfl) (by decide) rfl (fun ls hl => ?_)
          refine lv_goto (tgt := 4) hx hb dX0_worthOf_32 (by decide) ?_
          exact ih _ _ _ _ _ _ _ _ h hP hS (lv_sub hl [1, 2, 3, 0] rfl)
        · rw [if_pos c_8] at h
          refine lv_iload_n hx hb dX0_worthOf_21 rfl (lv_at hl 2 rfl) ?_
          refine lv_aload_n hx hb dX0_worthOf_22 rfl (lv_at hl 0 rfl) ?_
          refine lv_iload_n hx hb dX0_worthOf_23 rfl (lv_at hl 3 rfl) ?_
          obtain ⟨s_10, r_11, z_12, h⟩ := gb_cd_s h
          refine gb_calli (va_runV (C := RX0) (As := [.int v3]) (rest := [.int v2]) ⟨hx, hb, hml, hown, hq⟩ (cc_Border_worth_B l D cT tt b1 b hb1 n s_3 v0 v3 s_10 r_11 z_12) (cwV 1 hq (gb_gV w_804 w_805 w_806 w_4 w_807) rfl rfl rfl (by decide +kernel) ⟨Nat.le_of_ble_eq_true rfl, Nat.le_of_ble_eq_true rfl⟩) (gb_preV (r := (RX0, TX0, 1)) (ci := 0) (q0 := v0) hSt hP rfl (gb_at b (gb_cB z_2).1) hS (fun q h => Nat.le_trans hb1 h.1) hP) rfl rfl hl.1 rfl (lv_room (Nat.le_of_ble_eq_true rfl)) dX0_worthOf_24 ⟨Nat.le_of_ble_eq_true rfl, Nat.le_of_ble_eq_true rfl⟩) hS (fun _ h => h) (fun _ h => h) (fun q_13 H locs hY hk hS => ?_)
          obtain ⟨hq_13, hP⟩ := hY
          replace hq_13 := hq_13.symm
          subst hq_13
          refine lv_iadd hx hb dX0_worthOf_27 ?_
          refine lv_topi (fun x_14 ex_14 => ?_)
          replace h := gb_lt_s ex_14 h
          refine lv_istore_n (lv' := [(2, .int x_14), (0, .ref (b + v0)), (1, .int v1), (3, .int v3)]) hx hb dX0_worthOf_28 rfl hl (by decide) rfl (fun ls hl => ?_)
          obtain ⟨x_15, ex_15⟩ : ∃ q, q = (v3 + 1) := ⟨_, rfl⟩
          replace h := gb_lt_s ex_15 h
          refine lv_iinc (v := x_15) (lv' := [(3, .int x_15), (2, .int x_14), (0, .ref (b + v0)), (1, .int v1)]) hx hb dX0_worthOf_29 hl (k := 3) rfl (by rw [ex_15]; rfl) (by decide) rfl (fun ls hl => ?_)
          refine lv_goto (tgt := 4) hx hb dX0_worthOf_32 (by decide) ?_
          exact ih _ _ _ _ _ _ _ _ h hP hS (lv_sub hl [2, 3, 1, 0] rfl)
  unfold cs_Border_worthOf_B at h
  obtain ⟨z_1, h⟩ := gb_kk_s h
  refine lv_iconst (v := 0) hx hb dX0_worthOf_0 (by decide) ?_
  refine lv_istore_n (lv' := [(2, .int 0), (0, .ref (b + k0)), (1, .int p1)]) hx hb dX0_worthOf_1 rfl hl (by decide) rfl (fun ls hl => ?_)
  refine lv_iconst (v := 0) hx hb dX0_worthOf_2 (by decide) ?_
  refine lv_istore_n (lv' := [(3, .int 0), (2, .int 0), (0, .ref (b + k0)), (1, .int p1)]) hx hb dX0_worthOf_3 rfl hl (by decide) rfl (fun ls hl => ?_)
  exact L4_1 n _ _ _ _ _ _ _ _ h hP hS (lv_sub hl [2, 3, 1, 0] rfl)
theorem dX0_marksFirst_0 : decode cX0_marksFirst 0 = .ok (.aload_n 0, 1) := dc_42 (show ((cX0_marksFirst.data.toList.drop 0).take 1).map UInt8.toNat = [42] by decide +kernel)
theorem dX0_marksFirst_1 : decode cX0_marksFirst 1 = .ok (.iload_n 1, 1) := dc_27 (show ((cX0_marksFirst.data.toList.drop 1).take 1).map UInt8.toNat = [27] by decide +kernel)
theorem dX0_marksFirst_2 : decode cX0_marksFirst 2 = .ok (.aload_n 0, 1) := dc_42 (show ((cX0_marksFirst.data.toList.drop 2).take 1).map UInt8.toNat = [42] by decide +kernel)
theorem dX0_marksFirst_3 : decode cX0_marksFirst 3 = .ok (.iload_n 2, 1) := dc_28 (show ((cX0_marksFirst.data.toList.drop 3).take 1).map UInt8.toNat = [28] by decide +kernel)
theorem dX0_marksFirst_4 : decode cX0_marksFirst 4 = .ok (.invokevirtual 42, 3) := dc_182 (show ((cX0_marksFirst.data.toList.drop 4).take 3).map UInt8.toNat = [182, 0, 42] by decide +kernel) rfl
theorem w_624 : (Cond.code ({ cls := "GooseBorder$Border", name := "miles", desc := "(I)I" } : MethodName) prog_2_method_12_code (2 : Nat) (Option.some FieldType.int)) ∈ gb_wA := gb_t3 144 rfl rfl
theorem w_902 : (Cond.methodLink "GooseBorder$Border" (42 : Nat) ({ cls := "GooseBorder$Border", name := "miles", desc := "(I)I" } : MethodName)) ∈ gb_wA := gb_t4 182 rfl rfl
theorem w_622 : (Cond.instanceMethod ({ cls := "GooseBorder$Border", name := "miles", desc := "(I)I" } : MethodName)) ∈ gb_wA := gb_t3 142 rfl rfl
theorem w_623 : (Cond.selects "GooseBorder$Border" ({ cls := "GooseBorder$Border", name := "miles", desc := "(I)I" } : MethodName) ({ cls := "GooseBorder$Border", name := "miles", desc := "(I)I" } : MethodName)) ∈ gb_wA := gb_t3 143 rfl rfl
theorem dX0_marksFirst_7 : decode cX0_marksFirst 7 = .ok (.aload_n 0, 1) := dc_42 (show ((cX0_marksFirst.data.toList.drop 7).take 1).map UInt8.toNat = [42] by decide +kernel)
theorem dX0_marksFirst_8 : decode cX0_marksFirst 8 = .ok (.iload_n 1, 1) := dc_27 (show ((cX0_marksFirst.data.toList.drop 8).take 1).map UInt8.toNat = [27] by decide +kernel)
theorem dX0_marksFirst_9 : decode cX0_marksFirst 9 = .ok (.invokevirtual 45, 3) := dc_182 (show ((cX0_marksFirst.data.toList.drop 9).take 3).map UInt8.toNat = [182, 0, 45] by decide +kernel) rfl
theorem w_628 : (Cond.code ({ cls := "GooseBorder$Border", name := "boots", desc := "(I)I" } : MethodName) prog_2_method_16_code (2 : Nat) (Option.some FieldType.int)) ∈ gb_wA := gb_t3 148 rfl rfl
theorem w_903 : (Cond.methodLink "GooseBorder$Border" (45 : Nat) ({ cls := "GooseBorder$Border", name := "boots", desc := "(I)I" } : MethodName)) ∈ gb_wA := gb_t4 183 rfl rfl
theorem w_626 : (Cond.instanceMethod ({ cls := "GooseBorder$Border", name := "boots", desc := "(I)I" } : MethodName)) ∈ gb_wA := gb_t3 146 rfl rfl
theorem w_627 : (Cond.selects "GooseBorder$Border" ({ cls := "GooseBorder$Border", name := "boots", desc := "(I)I" } : MethodName) ({ cls := "GooseBorder$Border", name := "boots", desc := "(I)I" } : MethodName)) ∈ gb_wA := gb_t3 147 rfl rfl
theorem dX0_marksFirst_12 : decode cX0_marksFirst 12 = .ok (.iconst 0, 1) := dc_3 (show ((cX0_marksFirst.data.toList.drop 12).take 1).map UInt8.toNat = [3] by decide +kernel)
theorem dX0_marksFirst_13 : decode cX0_marksFirst 13 = .ok (.invokevirtual 48, 3) := dc_182 (show ((cX0_marksFirst.data.toList.drop 13).take 3).map UInt8.toNat = [182, 0, 48] by decide +kernel) rfl
theorem dX0_marksOver_0 : decode cX0_marksOver 0 = .ok (.iload_n 2, 1) := dc_28 (show ((cX0_marksOver.data.toList.drop 0).take 1).map UInt8.toNat = [28] by decide +kernel)
theorem dX0_marksOver_1 : decode cX0_marksOver 1 = .ok (.iload_n 3, 1) := dc_29 (show ((cX0_marksOver.data.toList.drop 1).take 1).map UInt8.toNat = [29] by decide +kernel)
theorem dX0_marksOver_2 : decode cX0_marksOver 2 = .ok (.invokestatic 52, 3) := dc_184 (show ((cX0_marksOver.data.toList.drop 2).take 3).map UInt8.toNat = [184, 0, 52] by decide +kernel) rfl
theorem w_633 : (Cond.methodLink "GooseBorder$Border" (52 : Nat) ({ cls := "java/lang/Math", name := "min", desc := "(II)I" } : MethodName)) ∈ gb_wA := gb_t3 153 rfl rfl
theorem w_367 : (Cond.static ({ cls := "java/lang/Math", name := "min", desc := "(II)I" } : MethodName)) ∈ gb_wA := gb_t2 127 rfl rfl
theorem w_368 : (Cond.code ({ cls := "java/lang/Math", name := "min", desc := "(II)I" } : MethodName) prog_16_method_69_code (2 : Nat) (Option.some FieldType.int)) ∈ gb_wA := gb_t2 128 rfl rfl
theorem dX0_marksOver_5 : decode cX0_marksOver 5 = .ok (.istore 5, 2) := dc_54 (show ((cX0_marksOver.data.toList.drop 5).take 2).map UInt8.toNat = [54, 5] by decide +kernel) rfl
theorem dX0_marksOver_7 : decode cX0_marksOver 7 = .ok (.iload 4, 2) := dc_21 (show ((cX0_marksOver.data.toList.drop 7).take 2).map UInt8.toNat = [21, 4] by decide +kernel) rfl
theorem dX0_marksOver_9 : decode cX0_marksOver 9 = .ok (.ifCond .eq 7, 3) := dc_153 (show ((cX0_marksOver.data.toList.drop 9).take 3).map UInt8.toNat = [153, 0, 7] by decide +kernel) rfl
theorem dX0_marksOver_16 : decode cX0_marksOver 16 = .ok (.iconst 2, 1) := dc_5 (show ((cX0_marksOver.data.toList.drop 16).take 1).map UInt8.toNat = [5] by decide +kernel)
theorem dX0_marksOver_17 : decode cX0_marksOver 17 = .ok (.iload 5, 2) := dc_21 (show ((cX0_marksOver.data.toList.drop 17).take 2).map UInt8.toNat = [21, 5] by decide +kernel) rfl
theorem dX0_marksOver_19 : decode cX0_marksOver 19 = .ok (.imul, 1) := dc_104 (show ((cX0_marksOver.data.toList.drop 19).take 1).map UInt8.toNat = [104] by decide +kernel)
theorem dX0_marksOver_20 : decode cX0_marksOver 20 = .ok (.aload_n 0, 1) := dc_42 (show ((cX0_marksOver.data.toList.drop 20).take 1).map UInt8.toNat = [42] by decide +kernel)
theorem dX0_marksOver_21 : decode cX0_marksOver 21 = .ok (.iload_n 1, 1) := dc_27 (show ((cX0_marksOver.data.toList.drop 21).take 1).map UInt8.toNat = [27] by decide +kernel)
theorem dX0_marksOver_22 : decode cX0_marksOver 22 = .ok (.invokevirtual 58, 3) := dc_182 (show ((cX0_marksOver.data.toList.drop 22).take 3).map UInt8.toNat = [182, 0, 58] by decide +kernel) rfl
theorem w_637 : (Cond.code ({ cls := "GooseBorder$Border", name := "toes", desc := "(I)I" } : MethodName) prog_2_method_15_code (3 : Nat) (Option.some FieldType.int)) ∈ gb_wA := gb_t3 157 rfl rfl
theorem w_634 : (Cond.methodLink "GooseBorder$Border" (58 : Nat) ({ cls := "GooseBorder$Border", name := "toes", desc := "(I)I" } : MethodName)) ∈ gb_wA := gb_t3 154 rfl rfl
theorem w_635 : (Cond.instanceMethod ({ cls := "GooseBorder$Border", name := "toes", desc := "(I)I" } : MethodName)) ∈ gb_wA := gb_t3 155 rfl rfl
theorem w_636 : (Cond.selects "GooseBorder$Border" ({ cls := "GooseBorder$Border", name := "toes", desc := "(I)I" } : MethodName) ({ cls := "GooseBorder$Border", name := "toes", desc := "(I)I" } : MethodName)) ∈ gb_wA := gb_t3 156 rfl rfl
theorem dX0_marksOver_25 : decode cX0_marksOver 25 = .ok (.iload_n 2, 1) := dc_28 (show ((cX0_marksOver.data.toList.drop 25).take 1).map UInt8.toNat = [28] by decide +kernel)
theorem dX0_marksOver_26 : decode cX0_marksOver 26 = .ok (.iload 5, 2) := dc_21 (show ((cX0_marksOver.data.toList.drop 26).take 2).map UInt8.toNat = [21, 5] by decide +kernel) rfl
theorem dX0_marksOver_28 : decode cX0_marksOver 28 = .ok (.isub, 1) := dc_100 (show ((cX0_marksOver.data.toList.drop 28).take 1).map UInt8.toNat = [100] by decide +kernel)
theorem dX0_marksOver_29 : decode cX0_marksOver 29 = .ok (.imul, 1) := dc_104 (show ((cX0_marksOver.data.toList.drop 29).take 1).map UInt8.toNat = [104] by decide +kernel)
theorem dX0_marksOver_30 : decode cX0_marksOver 30 = .ok (.iadd, 1) := dc_96 (show ((cX0_marksOver.data.toList.drop 30).take 1).map UInt8.toNat = [96] by decide +kernel)
theorem dX0_marksOver_31 : decode cX0_marksOver 31 = .ok (.istore 6, 2) := dc_54 (show ((cX0_marksOver.data.toList.drop 31).take 2).map UInt8.toNat = [54, 6] by decide +kernel) rfl
theorem dX0_marksOver_33 : decode cX0_marksOver 33 = .ok (.aload_n 0, 1) := dc_42 (show ((cX0_marksOver.data.toList.drop 33).take 1).map UInt8.toNat = [42] by decide +kernel)
theorem dX0_marksOver_34 : decode cX0_marksOver 34 = .ok (.iload_n 1, 1) := dc_27 (show ((cX0_marksOver.data.toList.drop 34).take 1).map UInt8.toNat = [27] by decide +kernel)
theorem dX0_marksOver_35 : decode cX0_marksOver 35 = .ok (.invokevirtual 61, 3) := dc_182 (show ((cX0_marksOver.data.toList.drop 35).take 3).map UInt8.toNat = [182, 0, 61] by decide +kernel) rfl
theorem w_641 : (Cond.code ({ cls := "GooseBorder$Border", name := "limps", desc := "(I)Z" } : MethodName) prog_2_method_17_code (2 : Nat) (Option.some FieldType.boolean)) ∈ gb_wA := gb_t3 161 rfl rfl
theorem w_638 : (Cond.methodLink "GooseBorder$Border" (61 : Nat) ({ cls := "GooseBorder$Border", name := "limps", desc := "(I)Z" } : MethodName)) ∈ gb_wA := gb_t3 158 rfl rfl
theorem w_639 : (Cond.instanceMethod ({ cls := "GooseBorder$Border", name := "limps", desc := "(I)Z" } : MethodName)) ∈ gb_wA := gb_t3 159 rfl rfl
theorem w_640 : (Cond.selects "GooseBorder$Border" ({ cls := "GooseBorder$Border", name := "limps", desc := "(I)Z" } : MethodName) ({ cls := "GooseBorder$Border", name := "limps", desc := "(I)Z" } : MethodName)) ∈ gb_wA := gb_t3 160 rfl rfl
theorem dX0_marksOver_38 : decode cX0_marksOver 38 = .ok (.ifCond .eq 10, 3) := dc_153 (show ((cX0_marksOver.data.toList.drop 38).take 3).map UInt8.toNat = [153, 0, 10] by decide +kernel) rfl
theorem dX0_marksOver_48 : decode cX0_marksOver 48 = .ok (.iload 6, 2) := dc_21 (show ((cX0_marksOver.data.toList.drop 48).take 2).map UInt8.toNat = [21, 6] by decide +kernel) rfl
theorem dX0_marksOver_50 : decode cX0_marksOver 50 = .ok (.ireturn, 1) := dc_172 (show ((cX0_marksOver.data.toList.drop 50).take 1).map UInt8.toNat = [172] by decide +kernel)
theorem dX0_marksOver_41 : decode cX0_marksOver 41 = .ok (.iconst 2, 1) := dc_5 (show ((cX0_marksOver.data.toList.drop 41).take 1).map UInt8.toNat = [5] by decide +kernel)
theorem dX0_marksOver_42 : decode cX0_marksOver 42 = .ok (.iload 6, 2) := dc_21 (show ((cX0_marksOver.data.toList.drop 42).take 2).map UInt8.toNat = [21, 6] by decide +kernel) rfl
theorem dX0_marksOver_44 : decode cX0_marksOver 44 = .ok (.imul, 1) := dc_104 (show ((cX0_marksOver.data.toList.drop 44).take 1).map UInt8.toNat = [104] by decide +kernel)
theorem dX0_marksOver_45 : decode cX0_marksOver 45 = .ok (.goto 5, 3) := dc_167 (show ((cX0_marksOver.data.toList.drop 45).take 3).map UInt8.toNat = [167, 0, 5] by decide +kernel) rfl
theorem dX0_marksOver_12 : decode cX0_marksOver 12 = .ok (.iconst 0, 1) := dc_3 (show ((cX0_marksOver.data.toList.drop 12).take 1).map UInt8.toNat = [3] by decide +kernel)
theorem dX0_marksOver_13 : decode cX0_marksOver 13 = .ok (.goto 7, 3) := dc_167 (show ((cX0_marksOver.data.toList.drop 13).take 3).map UInt8.toNat = [167, 0, 7] by decide +kernel) rfl
def cs_Border_marksOver_B_20 (n : Nat) (σ : gb_S) (v0 : Nat) (v1 : Int32) (v2 : Int32) (v5 : Int32) (t0 : Int32) : gb_CR Int32 := gb_kk (gb_kB v0) (gb_cd (cs_Border_toes_B n σ v0 v1) (fun s_5 r_6 => gb_lt (t0 + (r_6 * (v2 - v5))) (fun x_9 => gb_cd (cs_Border_limps_B n s_5 v0 v1) (fun s_10 r_11 => (if r_11 = 0 then some (s_10, x_9) else some (s_10, ((2 : Int32) * x_9)))))))
def cs_Border_marksOver_B (n : Nat) (σ : gb_S) (k0 : Nat) (p1 : Int32) (p2 : Int32) (p3 : Int32) (p4 : Int32) : gb_CR Int32 := gb_kk (gb_kB k0) (gb_lt (if p3 < p2 then p3 else p2) (fun x_2 => (if p4 = 0 then cs_Border_marksOver_B_20 n σ k0 p1 p2 x_2 ((2 : Int32) * x_2) else cs_Border_marksOver_B_20 n σ k0 p1 p2 x_2 0)))
set_option maxHeartbeats 8000000 in
set_option maxRecDepth 100000 in
theorem cc_Border_marksOver_B (l : Launch) (D : va_G) (cT : Nat → ClassId) (tt : Nat → Nat) (b1 b : Nat) (hb1 : b1 ≤ b) (n : Nat) (σ : gb_S) (k0 : Nat) (p1 : Int32) (p2 : Int32) (p3 : Int32) (p4 : Int32) (σE : gb_S) (rE : Int32) (h : cs_Border_marksOver_B n σ k0 p1 p2 p3 p4 = some (σE, rE)) : Met l yX0_marksOver (.code yX0_marksOver cX0_marksOver 7 (some FieldType.int) :: gb_wA) ({ frames := 1, cells := 0, slots := 0, locals := 22 }) (gb_Pc D cT tt b1 [.ref (b + k0), .int p1, .int p2, .int p3, .int p4] (fun h => va_P D vwCl (gb_wl b (gb_CW cT b σ)) h)) (gb_Qi (fun r h => r = rE ∧ va_P D vwCl (gb_wl b (gb_CW cT b σE)) h) (gb_fr b 135)) 0 0 (gb_fr b 135) := by
  refine Met.ofW (cc := cX0_marksOver) (maxL := 7) (ret := (some FieldType.int)) (by decide) rfl ?_
  intro p e s m args below meth c s₁ B hml hv
  obtain ⟨rfl, hSt, hP⟩ := hv
  have hx := B.exec
  have hb := B.bytes
  have hr := B.returns
  have hts := atoms_spec (ws := .code yX0_marksOver cX0_marksOver 7 (some FieldType.int) :: gb_wA) B.pre
  have hq : ∀ w ∈ gb_wA, w.before _ s = true := fun w h => hts w (List.mem_cons_of_mem _ h)
  have hown : s.vm.findClass RX0 = some m.cls := findClass_of_methodNamed B.named
  have hlocks := B.notSynchronized
  clear B hts
  have hK := hSt.1
  have hS : va_S (gb_fr b 135) s.heap s.heap [] := va_S.rf
  have hl := lv_entry ([.ref (b + k0), .int p1, .int p2, .int p3, .int p4]) (n := 7) (Nat.le_of_ble_eq_true rfl)
  rw [lg_entry_eq]
  generalize (lg_sl ([.ref (b + k0), .int p1, .int p2, .int p3, .int p4]) ++ List.replicate (7 - (lg_sl ([.ref (b + k0), .int p1, .int p2, .int p3, .int p4])).length) Slot.unset).toArray = ls at hl ⊢
  replace hl : lv_has ls 7 [(0, .ref (b + k0)), (1, .int p1), (2, .int p2), (3, .int p3), (4, .int p4)] := hl
  have L20_1 : ∀ (σ : gb_S) (v0 : Nat) (v1 : Int32) (v2 : Int32) (v5 : Int32) (t0 : Int32) (H : Heap) (locs : List Loc) (ls : Array Slot), cs_Border_marksOver_B_20 n σ v0 v1 v2 v5 t0 = some (σE, rE) → va_P D vwCl (gb_wl b (gb_CW cT b σ)) H → va_S (gb_fr b 135) s.heap H locs → lv_has ls 7 [(0, .ref (b + v0)), (1, .int v1), (2, .int v2), (5, .int v5)] → W p l e (headSpec (.code yX0_marksOver cX0_marksOver 7 (some FieldType.int) :: gb_wA) ({ frames := 1, cells := 0, slots := 0, locals := 22 })).room s m ([.ref (b + k0), .int p1, .int p2, .int p3, .int p4]).toArray below meth c H locs 0 0 (MQ below (gb_Qi (fun r h => r = rE ∧ va_P D vwCl (gb_wl b (gb_CW cT b σE)) h) (gb_fr b 135)) ([.ref (b + k0), .int p1, .int p2, .int p3, .int p4]).toArray s 0 0 (gb_fr b 135)) (F0 m 20 ls [.int t0]) := by
    clear h hP hS hl ls
    intro σ v0 v1 v2 v5 t0 H locs ls h hP hS hl
    unfold cs_Border_marksOver_B_20 at h
    obtain ⟨z_4, h⟩ := gb_kk_s h
    refine lv_aload_n hx hb dX0_marksOver_20 rfl (lv_at hl 0 rfl) ?_
    refine lv_iload_n hx hb dX0_marksOver_21 rfl (lv_at hl 1 rfl) ?_
    obtain ⟨s_5, r_6, z_7, h⟩ := gb_cd_s h
    refine gb_calli (va_runV (C := RX0) (As := [.int v1]) (rest := [.int t0]) ⟨hx, hb, hml, hown, hq⟩ (cc_Border_toes_B l D cT tt b1 b hb1 n σ v0 v1 s_5 r_6 z_7) (cwV 1 hq (gb_gV w_634 w_635 w_636 w_4 w_637) rfl rfl rfl (by decide +kernel) ⟨Nat.le_of_ble_eq_true rfl, Nat.le_of_ble_eq_true rfl⟩) (gb_preV (r := (RX0, TX0, 1)) (ci := 0) (q0 := v0) hSt hP rfl (gb_at b (gb_cB z_4).1) hS (fun q h => Nat.le_trans hb1 h.1) hP) rfl rfl hl.1 rfl (lv_room (Nat.le_of_ble_eq_true rfl)) dX0_marksOver_22 ⟨Nat.le_of_ble_eq_true rfl, Nat.le_of_ble_eq_true rfl⟩) hS (fun _ h => h) (fun _ h => h) (fun q_8 H locs hY hk hS => ?_)
    obtain ⟨hq_8, hP⟩ := hY
    replace hq_8 := hq_8.symm
    subst hq_8
    refine lv_iload_n hx hb dX0_marksOver_25 rfl (lv_at hl 2 rfl) ?_
    refine lv_iload hx hb dX0_marksOver_26 (lv_at hl 3 rfl) ?_
    refine lv_isub hx hb dX0_marksOver_28 ?_
    refine lv_imul hx hb dX0_marksOver_29 ?_
    refine lv_iadd hx hb dX0_marksOver_30 ?_
    refine lv_topi (fun x_9 ex_9 => ?_)
    replace h := gb_lt_s ex_9 h
    refine lv_istore (lv' := [(6, .int x_9), (0, .ref (b + v0)), (1, .int v1), (2, .int v2), (5, .int v5)]) hx hb dX0_marksOver_31 hl (by decide) rfl (fun ls hl => ?_)
    refine lv_aload_n hx hb dX0_marksOver_33 rfl (lv_at hl 1 rfl) ?_
    refine lv_iload_n hx hb dX0_marksOver_34 rfl (lv_at hl 2 rfl) ?_
    obtain ⟨s_10, r_11, z_12, h⟩ := gb_cd_s h
    refine gb_calli (va_runV (C := RX0) (As := [.int v1]) (rest := []) ⟨hx, hb, hml, hown, hq⟩ (cc_Border_limps_B l D cT tt b1 b hb1 n s_5 v0 v1 s_10 r_11 z_12) (cwV 1 hq (gb_gV w_638 w_639 w_640 w_4 w_641) rfl rfl rfl (by decide +kernel) ⟨Nat.le_of_ble_eq_true rfl, Nat.le_of_ble_eq_true rfl⟩) (gb_preV (r := (RX0, TX0, 1)) (ci := 0) (q0 := v0) hSt hP rfl (gb_at b (gb_cB z_4).1) hS (fun q h => Nat.le_trans hb1 h.1) hP) rfl rfl hl.1 rfl (lv_room (Nat.le_of_ble_eq_true rfl)) dX0_marksOver_35 ⟨Nat.le_of_ble_eq_true rfl, Nat.le_of_ble_eq_true rfl⟩) hS (fun _ h => h) (fun _ h => h) (fun q_13 H locs hY hk hS => ?_)
    obtain ⟨hq_13, hP⟩ := hY
    replace hq_13 := hq_13.symm
    subst hq_13
    refine lv_if_eq (tgt := 48) hx hb dX0_marksOver_38 (by decide) (fun c_14 => ?_) (fun c_14 => ?_)
    · rw [if_pos c_14] at h
      refine lv_iload hx hb dX0_marksOver_48 (lv_at hl 0 rfl) ?_
      obtain ⟨e1, e2⟩ := gb_eq2 h
      exact W.iret (v := x_9) hx hb hr (fun t ht hW => gb_ri ht ⟨e2, by rw [← e1]; exact hP⟩ hS) hS.2.2 dX0_marksOver_50
    · rw [if_neg c_14] at h
      refine lv_iconst (v := 2) hx hb dX0_marksOver_41 (by decide) ?_
      refine lv_iload hx hb dX0_marksOver_42 (lv_at hl 0 rfl) ?_
      refine lv_imul hx hb dX0_marksOver_44 ?_
      refine lv_goto (tgt := 50) hx hb dX0_marksOver_45 (by decide) ?_
      obtain ⟨e1, e2⟩ := gb_eq2 h
      exact W.iret (v := ((2 : Int32) * x_9)) hx hb hr (fun t ht hW => gb_ri ht ⟨e2, by rw [← e1]; exact hP⟩ hS) hS.2.2 dX0_marksOver_50
  unfold cs_Border_marksOver_B at h
  obtain ⟨z_1, h⟩ := gb_kk_s h
  refine lv_iload_n hx hb dX0_marksOver_0 rfl (lv_at hl 2 rfl) ?_
  refine lv_iload_n hx hb dX0_marksOver_1 rfl (lv_at hl 3 rfl) ?_
  refine va_mmin hx hb (hml.trans hl.1.symm) hown (hq _ w_633) (hq _ w_367) (hq _ w_5) (hq _ w_368) (Nat.le_of_ble_eq_true rfl) (Nat.le_of_ble_eq_true rfl) (Nat.le_of_ble_eq_true rfl) (Nat.le_of_ble_eq_true rfl) dX0_marksOver_2 ?_
  refine lv_topi (fun x_2 ex_2 => ?_)
  replace h := gb_lt_s ex_2 h
  refine lv_istore (lv' := [(5, .int x_2), (0, .ref (b + k0)), (1, .int p1), (2, .int p2), (3, .int p3), (4, .int p4)]) hx hb dX0_marksOver_5 hl (by decide) rfl (fun ls hl => ?_)
  refine lv_iload hx hb dX0_marksOver_7 (lv_at hl 5 rfl) ?_
  refine lv_if_eq (tgt := 16) hx hb dX0_marksOver_9 (by decide) (fun c_3 => ?_) (fun c_3 => ?_)
  · rw [if_pos c_3] at h
    refine lv_iconst (v := 2) hx hb dX0_marksOver_16 (by decide) ?_
    refine lv_iload hx hb dX0_marksOver_17 (lv_at hl 0 rfl) ?_
    refine lv_imul hx hb dX0_marksOver_19 ?_
    exact L20_1 _ _ _ _ _ _ _ _ _ h hP hS (lv_sub hl [1, 2, 3, 0] rfl)
  · rw [if_neg c_3] at h
    refine lv_iconst (v := 0) hx hb dX0_marksOver_12 (by decide) ?_
    refine lv_goto (tgt := 20) hx hb dX0_marksOver_13 (by decide) ?_
    exact L20_1 _ _ _ _ _ _ _ _ _ h hP hS (lv_sub hl [1, 2, 3, 0] rfl)
theorem w_632 : (Cond.code ({ cls := "GooseBorder$Border", name := "marksOver", desc := "(IIIZ)I" } : MethodName) prog_2_method_21_code (7 : Nat) (Option.some FieldType.int)) ∈ gb_wA := gb_t3 152 rfl rfl
theorem w_904 : (Cond.methodLink "GooseBorder$Border" (48 : Nat) ({ cls := "GooseBorder$Border", name := "marksOver", desc := "(IIIZ)I" } : MethodName)) ∈ gb_wA := gb_t4 184 rfl rfl
theorem w_630 : (Cond.instanceMethod ({ cls := "GooseBorder$Border", name := "marksOver", desc := "(IIIZ)I" } : MethodName)) ∈ gb_wA := gb_t3 150 rfl rfl
theorem w_631 : (Cond.selects "GooseBorder$Border" ({ cls := "GooseBorder$Border", name := "marksOver", desc := "(IIIZ)I" } : MethodName) ({ cls := "GooseBorder$Border", name := "marksOver", desc := "(IIIZ)I" } : MethodName)) ∈ gb_wA := gb_t3 151 rfl rfl
theorem dX0_marksFirst_16 : decode cX0_marksFirst 16 = .ok (.ireturn, 1) := dc_172 (show ((cX0_marksFirst.data.toList.drop 16).take 1).map UInt8.toNat = [172] by decide +kernel)
def cs_Border_marksFirst_B (n : Nat) (σ : gb_S) (k0 : Nat) (p1 : Int32) (p2 : Int32) : gb_CR Int32 := gb_kk (gb_kB k0) (gb_cd (cs_Border_miles_B n σ k0 p2) (fun s_2 r_3 => gb_cd (cs_Border_boots_B n s_2 k0 p1) (fun s_6 r_7 => gb_cd (cs_Border_marksOver_B n s_6 k0 p1 r_3 r_7 0) (fun s_10 r_11 => some (s_10, r_11)))))
set_option maxHeartbeats 8000000 in
set_option maxRecDepth 100000 in
theorem cc_Border_marksFirst_B (l : Launch) (D : va_G) (cT : Nat → ClassId) (tt : Nat → Nat) (b1 b : Nat) (hb1 : b1 ≤ b) (n : Nat) (σ : gb_S) (k0 : Nat) (p1 : Int32) (p2 : Int32) (σE : gb_S) (rE : Int32) (h : cs_Border_marksFirst_B n σ k0 p1 p2 = some (σE, rE)) : Met l yX0_marksFirst (.code yX0_marksFirst cX0_marksFirst 3 (some FieldType.int) :: gb_wA) ({ frames := 2, cells := 0, slots := 0, locals := 48 }) (gb_Pc D cT tt b1 [.ref (b + k0), .int p1, .int p2] (fun h => va_P D vwCl (gb_wl b (gb_CW cT b σ)) h)) (gb_Qi (fun r h => r = rE ∧ va_P D vwCl (gb_wl b (gb_CW cT b σE)) h) (gb_fr b 135)) 0 0 (gb_fr b 135) := by
  refine Met.ofW (cc := cX0_marksFirst) (maxL := 3) (ret := (some FieldType.int)) (by decide) rfl ?_
  intro p e s m args below meth c s₁ B hml hv
  obtain ⟨rfl, hSt, hP⟩ := hv
  have hx := B.exec
  have hb := B.bytes
  have hr := B.returns
  have hts := atoms_spec (ws := .code yX0_marksFirst cX0_marksFirst 3 (some FieldType.int) :: gb_wA) B.pre
  have hq : ∀ w ∈ gb_wA, w.before _ s = true := fun w h => hts w (List.mem_cons_of_mem _ h)
  have hown : s.vm.findClass RX0 = some m.cls := findClass_of_methodNamed B.named
  have hlocks := B.notSynchronized
  clear B hts
  have hK := hSt.1
  have hS : va_S (gb_fr b 135) s.heap s.heap [] := va_S.rf
  have hl := lv_entry ([.ref (b + k0), .int p1, .int p2]) (n := 3) (Nat.le_of_ble_eq_true rfl)
  rw [lg_entry_eq]
  generalize (lg_sl ([.ref (b + k0), .int p1, .int p2]) ++ List.replicate (3 - (lg_sl ([.ref (b + k0), .int p1, .int p2])).length) Slot.unset).toArray = ls at hl ⊢
  replace hl : lv_has ls 3 [(0, .ref (b + k0)), (1, .int p1), (2, .int p2)] := hl
  unfold cs_Border_marksFirst_B at h
  obtain ⟨z_1, h⟩ := gb_kk_s h
  refine lv_aload_n hx hb dX0_marksFirst_0 rfl (lv_at hl 0 rfl) ?_
  refine lv_iload_n hx hb dX0_marksFirst_1 rfl (lv_at hl 1 rfl) ?_
  refine lv_aload_n hx hb dX0_marksFirst_2 rfl (lv_at hl 0 rfl) ?_
  refine lv_iload_n hx hb dX0_marksFirst_3 rfl (lv_at hl 2 rfl) ?_
  obtain ⟨s_2, r_3, z_4, h⟩ := gb_cd_s h
  refine gb_calli (va_runV (C := RX0) (As := [.int p2]) (rest := [.int p1, .ref (b + k0)]) ⟨hx, hb, hml, hown, hq⟩ (cc_Border_miles_B l D cT tt b1 b hb1 n σ k0 p2 s_2 r_3 z_4) (cwV 1 hq (gb_gV w_902 w_622 w_623 w_4 w_624) rfl rfl rfl (by decide +kernel) ⟨Nat.le_of_ble_eq_true rfl, Nat.le_of_ble_eq_true rfl⟩) (gb_preV (r := (RX0, TX0, 1)) (ci := 0) (q0 := k0) hSt hP rfl (gb_at b (gb_cB z_1).1) hS (fun q h => Nat.le_trans hb1 h.1) hP) rfl rfl hl.1 rfl (lv_room (Nat.le_of_ble_eq_true rfl)) dX0_marksFirst_4 ⟨Nat.le_of_ble_eq_true rfl, Nat.le_of_ble_eq_true rfl⟩) hS (fun _ h => h) (fun _ h => h) (fun q_5 H locs hY hk hS => ?_)
  obtain ⟨hq_5, hP⟩ := hY
  replace hq_5 := hq_5.symm
  subst hq_5
  refine lv_aload_n hx hb dX0_marksFirst_7 rfl (lv_at hl 0 rfl) ?_
  refine lv_iload_n hx hb dX0_marksFirst_8 rfl (lv_at hl 1 rfl) ?_
  obtain ⟨s_6, r_7, z_8, h⟩ := gb_cd_s h
  refine gb_calli (va_runV (C := RX0) (As := [.int p1]) (rest := [.int r_3, .int p1, .ref (b + k0)]) ⟨hx, hb, hml, hown, hq⟩ (cc_Border_boots_B l D cT tt b1 b hb1 n s_2 k0 p1 s_6 r_7 z_8) (cwV 1 hq (gb_gV w_903 w_626 w_627 w_4 w_628) rfl rfl rfl (by decide +kernel) ⟨Nat.le_of_ble_eq_true rfl, Nat.le_of_ble_eq_true rfl⟩) (gb_preV (r := (RX0, TX0, 1)) (ci := 0) (q0 := k0) hSt hP rfl (gb_at b (gb_cB z_1).1) hS (fun q h => Nat.le_trans hb1 h.1) hP) rfl rfl hl.1 rfl (lv_room (Nat.le_of_ble_eq_true rfl)) dX0_marksFirst_9 ⟨Nat.le_of_ble_eq_true rfl, Nat.le_of_ble_eq_true rfl⟩) hS (fun _ h => h) (fun _ h => h) (fun q_9 H locs hY hk hS => ?_)
  obtain ⟨hq_9, hP⟩ := hY
  replace hq_9 := hq_9.symm
  subst hq_9
  refine lv_iconst (v := 0) hx hb dX0_marksFirst_12 (by decide) ?_
  obtain ⟨s_10, r_11, z_12, h⟩ := gb_cd_s h
  refine gb_calli (va_runV (C := RX0) (As := [.int p1, .int r_3, .int r_7, .int 0]) (rest := []) ⟨hx, hb, hml, hown, hq⟩ (cc_Border_marksOver_B l D cT tt b1 b hb1 n s_6 k0 p1 r_3 r_7 0 s_10 r_11 z_12) (cwV 4 hq (gb_gV w_904 w_630 w_631 w_4 w_632) rfl rfl rfl (by decide +kernel) ⟨Nat.le_of_ble_eq_true rfl, Nat.le_of_ble_eq_true rfl⟩) (gb_preV (r := (RX0, TX0, 1)) (ci := 0) (q0 := k0) hSt hP rfl (gb_at b (gb_cB z_1).1) hS (fun q h => Nat.le_trans hb1 h.1) hP) rfl rfl hl.1 rfl (lv_room (Nat.le_of_ble_eq_true rfl)) dX0_marksFirst_13 ⟨Nat.le_of_ble_eq_true rfl, Nat.le_of_ble_eq_true rfl⟩) hS (fun _ h => h) (fun _ h => h) (fun q_13 H locs hY hk hS => ?_)
  obtain ⟨hq_13, hP⟩ := hY
  replace hq_13 := hq_13.symm
  subst hq_13
  obtain ⟨e1, e2⟩ := gb_eq2 h
  exact W.iret (v := r_11) hx hb hr (fun t ht hW => gb_ri ht ⟨e2, by rw [← e1]; exact hP⟩ hS) hS.2.2 dX0_marksFirst_16
theorem dX0_padded_0 : decode cX0_padded 0 = .ok (.iload_n 2, 1) := dc_28 (show ((cX0_padded.data.toList.drop 0).take 1).map UInt8.toNat = [28] by decide +kernel)
theorem dX0_padded_1 : decode cX0_padded 1 = .ok (.iload_n 2, 1) := dc_28 (show ((cX0_padded.data.toList.drop 1).take 1).map UInt8.toNat = [28] by decide +kernel)
theorem dX0_padded_2 : decode cX0_padded 2 = .ok (.aload_n 0, 1) := dc_42 (show ((cX0_padded.data.toList.drop 2).take 1).map UInt8.toNat = [42] by decide +kernel)
theorem dX0_padded_3 : decode cX0_padded 3 = .ok (.iload_n 1, 1) := dc_27 (show ((cX0_padded.data.toList.drop 3).take 1).map UInt8.toNat = [27] by decide +kernel)
theorem dX0_padded_4 : decode cX0_padded 4 = .ok (.invokevirtual 64, 3) := dc_182 (show ((cX0_padded.data.toList.drop 4).take 3).map UInt8.toNat = [182, 0, 64] by decide +kernel) rfl
theorem w_782 : (Cond.code ({ cls := "GooseBorder$Border", name := "pad", desc := "(I)I" } : MethodName) prog_2_method_14_code (2 : Nat) (Option.some FieldType.int)) ∈ gb_wA := gb_t4 62 rfl rfl
theorem w_779 : (Cond.methodLink "GooseBorder$Border" (64 : Nat) ({ cls := "GooseBorder$Border", name := "pad", desc := "(I)I" } : MethodName)) ∈ gb_wA := gb_t4 59 rfl rfl
theorem w_780 : (Cond.instanceMethod ({ cls := "GooseBorder$Border", name := "pad", desc := "(I)I" } : MethodName)) ∈ gb_wA := gb_t4 60 rfl rfl
theorem w_781 : (Cond.selects "GooseBorder$Border" ({ cls := "GooseBorder$Border", name := "pad", desc := "(I)I" } : MethodName) ({ cls := "GooseBorder$Border", name := "pad", desc := "(I)I" } : MethodName)) ∈ gb_wA := gb_t4 61 rfl rfl
theorem dX0_padded_7 : decode cX0_padded 7 = .ok (.imul, 1) := dc_104 (show ((cX0_padded.data.toList.drop 7).take 1).map UInt8.toNat = [104] by decide +kernel)
theorem dX0_padded_8 : decode cX0_padded 8 = .ok (.bipush 10, 2) := dc_16 (show ((cX0_padded.data.toList.drop 8).take 2).map UInt8.toNat = [16, 10] by decide +kernel) rfl
theorem dX0_padded_10 : decode cX0_padded 10 = .ok (.idiv, 1) := dc_108 (show ((cX0_padded.data.toList.drop 10).take 1).map UInt8.toNat = [108] by decide +kernel)
theorem dX0_padded_11 : decode cX0_padded 11 = .ok (.iadd, 1) := dc_96 (show ((cX0_padded.data.toList.drop 11).take 1).map UInt8.toNat = [96] by decide +kernel)
theorem dX0_padded_12 : decode cX0_padded 12 = .ok (.ireturn, 1) := dc_172 (show ((cX0_padded.data.toList.drop 12).take 1).map UInt8.toNat = [172] by decide +kernel)
def cs_Border_padded_B (n : Nat) (σ : gb_S) (k0 : Nat) (p1 : Int32) (p2 : Int32) : gb_CR Int32 := gb_kk (gb_kB k0) (gb_cd (cs_Border_pad_B n σ k0 p1) (fun s_2 r_3 => gb_lt ((p2 * r_3) / 10) (fun x_6 => some (s_2, (p2 + x_6)))))
set_option maxHeartbeats 8000000 in
set_option maxRecDepth 100000 in
theorem cc_Border_padded_B (l : Launch) (D : va_G) (cT : Nat → ClassId) (tt : Nat → Nat) (b1 b : Nat) (hb1 : b1 ≤ b) (n : Nat) (σ : gb_S) (k0 : Nat) (p1 : Int32) (p2 : Int32) (σE : gb_S) (rE : Int32) (h : cs_Border_padded_B n σ k0 p1 p2 = some (σE, rE)) : Met l yX0_padded (.code yX0_padded cX0_padded 3 (some FieldType.int) :: gb_wA) ({ frames := 1, cells := 0, slots := 0, locals := 21 }) (gb_Pc D cT tt b1 [.ref (b + k0), .int p1, .int p2] (fun h => va_P D vwCl (gb_wl b (gb_CW cT b σ)) h)) (gb_Qi (fun r h => r = rE ∧ va_P D vwCl (gb_wl b (gb_CW cT b σE)) h) (gb_fr b 135)) 0 0 (gb_fr b 135) := by
  refine Met.ofW (cc := cX0_padded) (maxL := 3) (ret := (some FieldType.int)) (by decide) rfl ?_
  intro p e s m args below meth c s₁ B hml hv
  obtain ⟨rfl, hSt, hP⟩ := hv
  have hx := B.exec
  have hb := B.bytes
  have hr := B.returns
  have hts := atoms_spec (ws := .code yX0_padded cX0_padded 3 (some FieldType.int) :: gb_wA) B.pre
  have hq : ∀ w ∈ gb_wA, w.before _ s = true := fun w h => hts w (List.mem_cons_of_mem _ h)
  have hown : s.vm.findClass RX0 = some m.cls := findClass_of_methodNamed B.named
  have hlocks := B.notSynchronized
  clear B hts
  have hK := hSt.1
  have hS : va_S (gb_fr b 135) s.heap s.heap [] := va_S.rf
  have hl := lv_entry ([.ref (b + k0), .int p1, .int p2]) (n := 3) (Nat.le_of_ble_eq_true rfl)
  rw [lg_entry_eq]
  generalize (lg_sl ([.ref (b + k0), .int p1, .int p2]) ++ List.replicate (3 - (lg_sl ([.ref (b + k0), .int p1, .int p2])).length) Slot.unset).toArray = ls at hl ⊢
  replace hl : lv_has ls 3 [(0, .ref (b + k0)), (1, .int p1), (2, .int p2)] := hl
  unfold cs_Border_padded_B at h
  obtain ⟨z_1, h⟩ := gb_kk_s h
  refine lv_iload_n hx hb dX0_padded_0 rfl (lv_at hl 2 rfl) ?_
  refine lv_iload_n hx hb dX0_padded_1 rfl (lv_at hl 2 rfl) ?_
  refine lv_aload_n hx hb dX0_padded_2 rfl (lv_at hl 0 rfl) ?_
  refine lv_iload_n hx hb dX0_padded_3 rfl (lv_at hl 1 rfl) ?_
  obtain ⟨s_2, r_3, z_4, h⟩ := gb_cd_s h
  refine gb_calli (va_runV (C := RX0) (As := [.int p1]) (rest := [.int p2, .int p2]) ⟨hx, hb, hml, hown, hq⟩ (cc_Border_pad_B l D cT tt b1 b hb1 n σ k0 p1 s_2 r_3 z_4) (cwV 1 hq (gb_gV w_779 w_780 w_781 w_4 w_782) rfl rfl rfl (by decide +kernel) ⟨Nat.le_of_ble_eq_true rfl, Nat.le_of_ble_eq_true rfl⟩) (gb_preV (r := (RX0, TX0, 1)) (ci := 0) (q0 := k0) hSt hP rfl (gb_at b (gb_cB z_1).1) hS (fun q h => Nat.le_trans hb1 h.1) hP) rfl rfl hl.1 rfl (lv_room (Nat.le_of_ble_eq_true rfl)) dX0_padded_4 ⟨Nat.le_of_ble_eq_true rfl, Nat.le_of_ble_eq_true rfl⟩) hS (fun _ h => h) (fun _ h => h) (fun q_5 H locs hY hk hS => ?_)
  obtain ⟨hq_5, hP⟩ := hY
  replace hq_5 := hq_5.symm
  subst hq_5
  refine lv_imul hx hb dX0_padded_7 ?_
  refine lv_bipush (v := 10) hx hb dX0_padded_8 (by decide) ?_
  refine lv_idiv hx hb dX0_padded_10 (by decide) ?_
  refine lv_topi (fun x_6 ex_6 => ?_)
  replace h := gb_lt_s ex_6 h
  refine lv_iadd hx hb dX0_padded_11 ?_
  obtain ⟨e1, e2⟩ := gb_eq2 h
  exact W.iret (v := (p2 + x_6)) hx hb hr (fun t ht hW => gb_ri ht ⟨e2, by rw [← e1]; exact hP⟩ hS) hS.2.2 dX0_padded_12
theorem dX0_payOf_0 : decode cX0_payOf 0 = .ok (.aload_n 0, 1) := dc_42 (show ((cX0_payOf.data.toList.drop 0).take 1).map UInt8.toNat = [42] by decide +kernel)
theorem dX0_payOf_1 : decode cX0_payOf 1 = .ok (.iload_n 1, 1) := dc_27 (show ((cX0_payOf.data.toList.drop 1).take 1).map UInt8.toNat = [27] by decide +kernel)
theorem dX0_payOf_2 : decode cX0_payOf 2 = .ok (.invokevirtual 67, 3) := dc_182 (show ((cX0_payOf.data.toList.drop 2).take 3).map UInt8.toNat = [182, 0, 67] by decide +kernel) rfl
theorem w_790 : (Cond.code ({ cls := "GooseBorder$Border", name := "rate", desc := "(I)I" } : MethodName) prog_2_method_13_code (2 : Nat) (Option.some FieldType.int)) ∈ gb_wA := gb_t4 70 rfl rfl
theorem w_787 : (Cond.methodLink "GooseBorder$Border" (67 : Nat) ({ cls := "GooseBorder$Border", name := "rate", desc := "(I)I" } : MethodName)) ∈ gb_wA := gb_t4 67 rfl rfl
theorem w_788 : (Cond.instanceMethod ({ cls := "GooseBorder$Border", name := "rate", desc := "(I)I" } : MethodName)) ∈ gb_wA := gb_t4 68 rfl rfl
theorem w_789 : (Cond.selects "GooseBorder$Border" ({ cls := "GooseBorder$Border", name := "rate", desc := "(I)I" } : MethodName) ({ cls := "GooseBorder$Border", name := "rate", desc := "(I)I" } : MethodName)) ∈ gb_wA := gb_t4 69 rfl rfl
theorem dX0_payOf_5 : decode cX0_payOf 5 = .ok (.aload_n 0, 1) := dc_42 (show ((cX0_payOf.data.toList.drop 5).take 1).map UInt8.toNat = [42] by decide +kernel)
theorem dX0_payOf_6 : decode cX0_payOf 6 = .ok (.iload_n 1, 1) := dc_27 (show ((cX0_payOf.data.toList.drop 6).take 1).map UInt8.toNat = [27] by decide +kernel)
theorem dX0_payOf_7 : decode cX0_payOf 7 = .ok (.iload_n 2, 1) := dc_28 (show ((cX0_payOf.data.toList.drop 7).take 1).map UInt8.toNat = [28] by decide +kernel)
theorem dX0_payOf_8 : decode cX0_payOf 8 = .ok (.invokevirtual 70, 3) := dc_182 (show ((cX0_payOf.data.toList.drop 8).take 3).map UInt8.toNat = [182, 0, 70] by decide +kernel) rfl
theorem w_778 : (Cond.code ({ cls := "GooseBorder$Border", name := "padded", desc := "(II)I" } : MethodName) prog_2_method_22_code (3 : Nat) (Option.some FieldType.int)) ∈ gb_wA := gb_t4 58 rfl rfl
theorem w_791 : (Cond.methodLink "GooseBorder$Border" (70 : Nat) ({ cls := "GooseBorder$Border", name := "padded", desc := "(II)I" } : MethodName)) ∈ gb_wA := gb_t4 71 rfl rfl
theorem w_776 : (Cond.instanceMethod ({ cls := "GooseBorder$Border", name := "padded", desc := "(II)I" } : MethodName)) ∈ gb_wA := gb_t4 56 rfl rfl
theorem w_777 : (Cond.selects "GooseBorder$Border" ({ cls := "GooseBorder$Border", name := "padded", desc := "(II)I" } : MethodName) ({ cls := "GooseBorder$Border", name := "padded", desc := "(II)I" } : MethodName)) ∈ gb_wA := gb_t4 57 rfl rfl
theorem dX0_payOf_11 : decode cX0_payOf 11 = .ok (.imul, 1) := dc_104 (show ((cX0_payOf.data.toList.drop 11).take 1).map UInt8.toNat = [104] by decide +kernel)
theorem dX0_payOf_12 : decode cX0_payOf 12 = .ok (.ireturn, 1) := dc_172 (show ((cX0_payOf.data.toList.drop 12).take 1).map UInt8.toNat = [172] by decide +kernel)
def cs_Border_payOf_B (n : Nat) (σ : gb_S) (k0 : Nat) (p1 : Int32) (p2 : Int32) : gb_CR Int32 := gb_kk (gb_kB k0) (gb_cd (cs_Border_rate_B n σ k0 p1) (fun s_2 r_3 => gb_cd (cs_Border_padded_B n s_2 k0 p1 p2) (fun s_6 r_7 => some (s_6, (r_3 * r_7)))))
set_option maxHeartbeats 8000000 in
set_option maxRecDepth 100000 in
theorem cc_Border_payOf_B (l : Launch) (D : va_G) (cT : Nat → ClassId) (tt : Nat → Nat) (b1 b : Nat) (hb1 : b1 ≤ b) (n : Nat) (σ : gb_S) (k0 : Nat) (p1 : Int32) (p2 : Int32) (σE : gb_S) (rE : Int32) (h : cs_Border_payOf_B n σ k0 p1 p2 = some (σE, rE)) : Met l yX0_payOf (.code yX0_payOf cX0_payOf 3 (some FieldType.int) :: gb_wA) ({ frames := 2, cells := 0, slots := 0, locals := 43 }) (gb_Pc D cT tt b1 [.ref (b + k0), .int p1, .int p2] (fun h => va_P D vwCl (gb_wl b (gb_CW cT b σ)) h)) (gb_Qi (fun r h => r = rE ∧ va_P D vwCl (gb_wl b (gb_CW cT b σE)) h) (gb_fr b 135)) 0 0 (gb_fr b 135) := by
  refine Met.ofW (cc := cX0_payOf) (maxL := 3) (ret := (some FieldType.int)) (by decide) rfl ?_
  intro p e s m args below meth c s₁ B hml hv
  obtain ⟨rfl, hSt, hP⟩ := hv
  have hx := B.exec
  have hb := B.bytes
  have hr := B.returns
  have hts := atoms_spec (ws := .code yX0_payOf cX0_payOf 3 (some FieldType.int) :: gb_wA) B.pre
  have hq : ∀ w ∈ gb_wA, w.before _ s = true := fun w h => hts w (List.mem_cons_of_mem _ h)
  have hown : s.vm.findClass RX0 = some m.cls := findClass_of_methodNamed B.named
  have hlocks := B.notSynchronized
  clear B hts
  have hK := hSt.1
  have hS : va_S (gb_fr b 135) s.heap s.heap [] := va_S.rf
  have hl := lv_entry ([.ref (b + k0), .int p1, .int p2]) (n := 3) (Nat.le_of_ble_eq_true rfl)
  rw [lg_entry_eq]
  generalize (lg_sl ([.ref (b + k0), .int p1, .int p2]) ++ List.replicate (3 - (lg_sl ([.ref (b + k0), .int p1, .int p2])).length) Slot.unset).toArray = ls at hl ⊢
  replace hl : lv_has ls 3 [(0, .ref (b + k0)), (1, .int p1), (2, .int p2)] := hl
  unfold cs_Border_payOf_B at h
  obtain ⟨z_1, h⟩ := gb_kk_s h
  refine lv_aload_n hx hb dX0_payOf_0 rfl (lv_at hl 0 rfl) ?_
  refine lv_iload_n hx hb dX0_payOf_1 rfl (lv_at hl 1 rfl) ?_
  obtain ⟨s_2, r_3, z_4, h⟩ := gb_cd_s h
  refine gb_calli (va_runV (C := RX0) (As := [.int p1]) (rest := []) ⟨hx, hb, hml, hown, hq⟩ (cc_Border_rate_B l D cT tt b1 b hb1 n σ k0 p1 s_2 r_3 z_4) (cwV 1 hq (gb_gV w_787 w_788 w_789 w_4 w_790) rfl rfl rfl (by decide +kernel) ⟨Nat.le_of_ble_eq_true rfl, Nat.le_of_ble_eq_true rfl⟩) (gb_preV (r := (RX0, TX0, 1)) (ci := 0) (q0 := k0) hSt hP rfl (gb_at b (gb_cB z_1).1) hS (fun q h => Nat.le_trans hb1 h.1) hP) rfl rfl hl.1 rfl (lv_room (Nat.le_of_ble_eq_true rfl)) dX0_payOf_2 ⟨Nat.le_of_ble_eq_true rfl, Nat.le_of_ble_eq_true rfl⟩) hS (fun _ h => h) (fun _ h => h) (fun q_5 H locs hY hk hS => ?_)
  obtain ⟨hq_5, hP⟩ := hY
  replace hq_5 := hq_5.symm
  subst hq_5
  refine lv_aload_n hx hb dX0_payOf_5 rfl (lv_at hl 0 rfl) ?_
  refine lv_iload_n hx hb dX0_payOf_6 rfl (lv_at hl 1 rfl) ?_
  refine lv_iload_n hx hb dX0_payOf_7 rfl (lv_at hl 2 rfl) ?_
  obtain ⟨s_6, r_7, z_8, h⟩ := gb_cd_s h
  refine gb_calli (va_runV (C := RX0) (As := [.int p1, .int p2]) (rest := [.int r_3]) ⟨hx, hb, hml, hown, hq⟩ (cc_Border_padded_B l D cT tt b1 b hb1 n s_2 k0 p1 p2 s_6 r_7 z_8) (cwV 2 hq (gb_gV w_791 w_776 w_777 w_4 w_778) rfl rfl rfl (by decide +kernel) ⟨Nat.le_of_ble_eq_true rfl, Nat.le_of_ble_eq_true rfl⟩) (gb_preV (r := (RX0, TX0, 1)) (ci := 0) (q0 := k0) hSt hP rfl (gb_at b (gb_cB z_1).1) hS (fun q h => Nat.le_trans hb1 h.1) hP) rfl rfl hl.1 rfl (lv_room (Nat.le_of_ble_eq_true rfl)) dX0_payOf_8 ⟨Nat.le_of_ble_eq_true rfl, Nat.le_of_ble_eq_true rfl⟩) hS (fun _ h => h) (fun _ h => h) (fun q_9 H locs hY hk hS => ?_)
  obtain ⟨hq_9, hP⟩ := hY
  replace hq_9 := hq_9.symm
  subst hq_9
  refine lv_imul hx hb dX0_payOf_11 ?_
  obtain ⟨e1, e2⟩ := gb_eq2 h
  exact W.iret (v := (r_3 * r_7)) hx hb hr (fun t ht hW => gb_ri ht ⟨e2, by rw [← e1]; exact hP⟩ hS) hS.2.2 dX0_payOf_12
theorem dX0_barefoot_0 : decode cX0_barefoot 0 = .ok (.iconst 0, 1) := dc_3 (show ((cX0_barefoot.data.toList.drop 0).take 1).map UInt8.toNat = [3] by decide +kernel)
theorem dX0_barefoot_1 : decode cX0_barefoot 1 = .ok (.istore_n 2, 1) := dc_61 (show ((cX0_barefoot.data.toList.drop 1).take 1).map UInt8.toNat = [61] by decide +kernel)
theorem dX0_barefoot_2 : decode cX0_barefoot 2 = .ok (.iconst 0, 1) := dc_3 (show ((cX0_barefoot.data.toList.drop 2).take 1).map UInt8.toNat = [3] by decide +kernel)
theorem dX0_barefoot_3 : decode cX0_barefoot 3 = .ok (.istore_n 3, 1) := dc_62 (show ((cX0_barefoot.data.toList.drop 3).take 1).map UInt8.toNat = [62] by decide +kernel)
theorem dX0_barefoot_4 : decode cX0_barefoot 4 = .ok (.iload_n 3, 1) := dc_29 (show ((cX0_barefoot.data.toList.drop 4).take 1).map UInt8.toNat = [29] by decide +kernel)
theorem dX0_barefoot_5 : decode cX0_barefoot 5 = .ok (.aload_n 0, 1) := dc_42 (show ((cX0_barefoot.data.toList.drop 5).take 1).map UInt8.toNat = [42] by decide +kernel)
theorem dX0_barefoot_6 : decode cX0_barefoot 6 = .ok (.invokevirtual 19, 3) := dc_182 (show ((cX0_barefoot.data.toList.drop 6).take 3).map UInt8.toNat = [182, 0, 19] by decide +kernel) rfl
theorem dX0_barefoot_9 : decode cX0_barefoot 9 = .ok (.if_icmp .ge 24, 3) := dc_162 (show ((cX0_barefoot.data.toList.drop 9).take 3).map UInt8.toNat = [162, 0, 24] by decide +kernel) rfl
theorem dX0_barefoot_33 : decode cX0_barefoot 33 = .ok (.iload_n 2, 1) := dc_28 (show ((cX0_barefoot.data.toList.drop 33).take 1).map UInt8.toNat = [28] by decide +kernel)
theorem dX0_barefoot_34 : decode cX0_barefoot 34 = .ok (.ireturn, 1) := dc_172 (show ((cX0_barefoot.data.toList.drop 34).take 1).map UInt8.toNat = [172] by decide +kernel)
theorem dX0_barefoot_12 : decode cX0_barefoot 12 = .ok (.iload_n 2, 1) := dc_28 (show ((cX0_barefoot.data.toList.drop 12).take 1).map UInt8.toNat = [28] by decide +kernel)
theorem dX0_barefoot_13 : decode cX0_barefoot 13 = .ok (.aload_n 0, 1) := dc_42 (show ((cX0_barefoot.data.toList.drop 13).take 1).map UInt8.toNat = [42] by decide +kernel)
theorem dX0_barefoot_14 : decode cX0_barefoot 14 = .ok (.iload_n 3, 1) := dc_29 (show ((cX0_barefoot.data.toList.drop 14).take 1).map UInt8.toNat = [29] by decide +kernel)
theorem dX0_barefoot_15 : decode cX0_barefoot 15 = .ok (.aload_n 0, 1) := dc_42 (show ((cX0_barefoot.data.toList.drop 15).take 1).map UInt8.toNat = [42] by decide +kernel)
theorem dX0_barefoot_16 : decode cX0_barefoot 16 = .ok (.iload_n 1, 1) := dc_27 (show ((cX0_barefoot.data.toList.drop 16).take 1).map UInt8.toNat = [27] by decide +kernel)
theorem dX0_barefoot_17 : decode cX0_barefoot 17 = .ok (.invokevirtual 42, 3) := dc_182 (show ((cX0_barefoot.data.toList.drop 17).take 3).map UInt8.toNat = [182, 0, 42] by decide +kernel) rfl
theorem dX0_barefoot_20 : decode cX0_barefoot 20 = .ok (.iconst 0, 1) := dc_3 (show ((cX0_barefoot.data.toList.drop 20).take 1).map UInt8.toNat = [3] by decide +kernel)
theorem dX0_barefoot_21 : decode cX0_barefoot 21 = .ok (.iconst 0, 1) := dc_3 (show ((cX0_barefoot.data.toList.drop 21).take 1).map UInt8.toNat = [3] by decide +kernel)
theorem dX0_barefoot_22 : decode cX0_barefoot 22 = .ok (.invokevirtual 48, 3) := dc_182 (show ((cX0_barefoot.data.toList.drop 22).take 3).map UInt8.toNat = [182, 0, 48] by decide +kernel) rfl
theorem dX0_barefoot_25 : decode cX0_barefoot 25 = .ok (.iadd, 1) := dc_96 (show ((cX0_barefoot.data.toList.drop 25).take 1).map UInt8.toNat = [96] by decide +kernel)
theorem dX0_barefoot_26 : decode cX0_barefoot 26 = .ok (.istore_n 2, 1) := dc_61 (show ((cX0_barefoot.data.toList.drop 26).take 1).map UInt8.toNat = [61] by decide +kernel)
theorem dX0_barefoot_27 : decode cX0_barefoot 27 = .ok (.iinc 3 1, 3) := dc_132 (show ((cX0_barefoot.data.toList.drop 27).take 3).map UInt8.toNat = [132, 3, 1] by decide +kernel) rfl
theorem dX0_barefoot_30 : decode cX0_barefoot 30 = .ok (.goto (-26), 3) := dc_167 (show ((cX0_barefoot.data.toList.drop 30).take 3).map UInt8.toNat = [167, 255, 230] by decide +kernel) rfl
def cs_Border_barefoot_B_4 (n : Nat) : Nat → gb_S → Nat → Int32 → Int32 → Int32 → gb_CR Int32
  | 0, _, _, _, _, _ => none
  | mm + 1, σ, v0, v1, v2, v3 => gb_kk (gb_kB v0) (gb_cd (cs_Border_geese_B n σ v0) (fun s_3 r_4 => (if r_4 ≤ v3 then some (s_3, v2) else gb_cd (cs_Border_miles_B n s_3 v0 v1) (fun s_8 r_9 => gb_cd (cs_Border_marksOver_B n s_8 v0 v3 r_9 0 0) (fun s_12 r_13 => gb_lt (v2 + r_13) (fun x_16 => gb_lt (v3 + 1) (fun x_17 => cs_Border_barefoot_B_4 n mm s_12 v0 v1 x_16 x_17)))))))
def cs_Border_barefoot_B (n : Nat) (σ : gb_S) (k0 : Nat) (p1 : Int32) : gb_CR Int32 := gb_kk (gb_kB k0) (cs_Border_barefoot_B_4 n n σ k0 p1 0 0)
set_option maxHeartbeats 8000000 in
set_option maxRecDepth 100000 in
theorem cc_Border_barefoot_B (l : Launch) (D : va_G) (cT : Nat → ClassId) (tt : Nat → Nat) (b1 b : Nat) (hb1 : b1 ≤ b) (n : Nat) (σ : gb_S) (k0 : Nat) (p1 : Int32) (σE : gb_S) (rE : Int32) (h : cs_Border_barefoot_B n σ k0 p1 = some (σE, rE)) : Met l yX0_barefoot (.code yX0_barefoot cX0_barefoot 4 (some FieldType.int) :: gb_wA) ({ frames := 2, cells := 0, slots := 0, locals := 48 }) (gb_Pc D cT tt b1 [.ref (b + k0), .int p1] (fun h => va_P D vwCl (gb_wl b (gb_CW cT b σ)) h)) (gb_Qi (fun r h => r = rE ∧ va_P D vwCl (gb_wl b (gb_CW cT b σE)) h) (gb_fr b 135)) 0 0 (gb_fr b 135) := by
  refine Met.ofW (cc := cX0_barefoot) (maxL := 4) (ret := (some FieldType.int)) (by decide) rfl ?_
  intro p e s m args below meth c s₁ B hml hv
  obtain ⟨rfl, hSt, hP⟩ := hv
  have hx := B.exec
  have hb := B.bytes
  have hr := B.returns
  have hts := atoms_spec (ws := .code yX0_barefoot cX0_barefoot 4 (some FieldType.int) :: gb_wA) B.pre
  have hq : ∀ w ∈ gb_wA, w.before _ s = true := fun w h => hts w (List.mem_cons_of_mem _ h)
  have hown : s.vm.findClass RX0 = some m.cls := findClass_of_methodNamed B.named
  have hlocks := B.notSynchronized
  clear B hts
  have hK := hSt.1
  have hS : va_S (gb_fr b 135) s.heap s.heap [] := va_S.rf
  have hl := lv_entry ([.ref (b + k0), .int p1]) (n := 4) (Nat.le_of_ble_eq_true rfl)
  rw [lg_entry_eq]
  generalize (lg_sl ([.ref (b + k0), .int p1]) ++ List.replicate (4 - (lg_sl ([.ref (b + k0), .int p1])).length) Slot.unset).toArray = ls at hl ⊢
  replace hl : lv_has ls 4 [(0, .ref (b + k0)), (1, .int p1)] := hl
  have L4_1 : ∀ (mm : Nat) (σ : gb_S) (v0 : Nat) (v1 : Int32) (v2 : Int32) (v3 : Int32) (H : Heap) (locs : List Loc) (ls : Array Slot), cs_Border_barefoot_B_4 n mm σ v0 v1 v2 v3 = some (σE, rE) → va_P D vwCl (gb_wl b (gb_CW cT b σ)) H → va_S (gb_fr b 135) s.heap H locs → lv_has ls 4 [(0, .ref (b + v0)), (1, .int v1), (2, .int v2), (3, .int v3)] → W p l e (headSpec (.code yX0_barefoot cX0_barefoot 4 (some FieldType.int) :: gb_wA) ({ frames := 2, cells := 0, slots := 0, locals := 48 })).room s m ([.ref (b + k0), .int p1]).toArray below meth c H locs 0 0 (MQ below (gb_Qi (fun r h => r = rE ∧ va_P D vwCl (gb_wl b (gb_CW cT b σE)) h) (gb_fr b 135)) ([.ref (b + k0), .int p1]).toArray s 0 0 (gb_fr b 135)) (F0 m 4 ls []) := by
    clear h hP hS hl ls
    intro mm
    induction mm with
    | zero =>
      intro σ v0 v1 v2 v3 H locs ls h
      cases h
    | succ mm ih =>
      intro σ v0 v1 v2 v3 H locs ls h hP hS hl
      rw [cs_Border_barefoot_B_4] at h
      obtain ⟨z_2, h⟩ := gb_kk_s h
      refine lv_iload_n hx hb dX0_barefoot_4 rfl (lv_at hl 3 rfl) ?_
      refine lv_aload_n hx hb dX0_barefoot_5 rfl (lv_at hl 0 rfl) ?_
      obtain ⟨s_3, r_4, z_5, h⟩ := gb_cd_s h
      refine gb_calli (va_runV (C := RX0) (As := []) (rest := [.int v3]) ⟨hx, hb, hml, hown, hq⟩ (cc_Border_geese_B l D cT tt b1 b hb1 n σ v0 s_3 r_4 z_5) (cwV 0 hq (gb_gV w_476 w_477 w_478 w_4 w_479) rfl rfl rfl (by decide +kernel) ⟨Nat.le_of_ble_eq_true rfl, Nat.le_of_ble_eq_true rfl⟩) (gb_preV (r := (RX0, TX0, 1)) (ci := 0) (q0 := v0) hSt hP rfl (gb_at b (gb_cB z_2).1) hS (fun q h => Nat.le_trans hb1 h.1) hP) rfl rfl hl.1 rfl (lv_room (Nat.le_of_ble_eq_true rfl)) dX0_barefoot_6 ⟨Nat.le_of_ble_eq_true rfl, Nat.le_of_ble_eq_true rfl⟩) hS (fun _ h => h) (fun _ h => h) (fun q_6 H locs hY hk hS => ?_)
      obtain ⟨hq_6, hP⟩ := hY
      replace hq_6 := hq_6.symm
      subst hq_6
      refine lv_icmp_ge (tgt := 33) hx hb dX0_barefoot_9 (by decide) (fun c_7 => ?_) (fun c_7 => ?_)
      · rw [if_pos c_7] at h
        refine lv_iload_n hx hb dX0_barefoot_33 rfl (lv_at hl 2 rfl) ?_
        obtain ⟨e1, e2⟩ := gb_eq2 h
        exact W.iret (v := v2) hx hb hr (fun t ht hW => gb_ri ht ⟨e2, by rw [← e1]; exact hP⟩ hS) hS.2.2 dX0_barefoot_34
      · rw [if_neg c_7] at h
        refine lv_iload_n hx hb dX0_barefoot_12 rfl (lv_at hl 2 rfl) ?_
        refine lv_aload_n hx hb dX0_barefoot_13 rfl (lv_at hl 0 rfl) ?_
        refine lv_iload_n hx hb dX0_barefoot_14 rfl (lv_at hl 3 rfl) ?_
        refine lv_aload_n hx hb dX0_barefoot_15 rfl (lv_at hl 0 rfl) ?_
        refine lv_iload_n hx hb dX0_barefoot_16 rfl (lv_at hl 1 rfl) ?_
        obtain ⟨s_8, r_9, z_10, h⟩ := gb_cd_s h
        refine gb_calli (va_runV (C := RX0) (As := [.int v1]) (rest := [.int v3, .ref (b + v0), .int v2]) ⟨hx, hb, hml, hown, hq⟩ (cc_Border_miles_B l D cT tt b1 b hb1 n s_3 v0 v1 s_8 r_9 z_10) (cwV 1 hq (gb_gV w_902 w_622 w_623 w_4 w_624) rfl rfl rfl (by decide +kernel) ⟨Nat.le_of_ble_eq_true rfl, Nat.le_of_ble_eq_true rfl⟩) (gb_preV (r := (RX0, TX0, 1)) (ci := 0) (q0 := v0) hSt hP rfl (gb_at b (gb_cB z_2).1) hS (fun q h => Nat.le_trans hb1 h.1) hP) rfl rfl hl.1 rfl (lv_room (Nat.le_of_ble_eq_true rfl)) dX0_barefoot_17 ⟨Nat.le_of_ble_eq_true rfl, Nat.le_of_ble_eq_true rfl⟩) hS (fun _ h => h) (fun _ h => h) (fun q_11 H locs hY hk hS => ?_)
        obtain ⟨hq_11, hP⟩ := hY
        replace hq_11 := hq_11.symm
        subst hq_11
        refine lv_iconst (v := 0) hx hb dX0_barefoot_20 (by decide) ?_
        refine lv_iconst (v := 0) hx hb dX0_barefoot_21 (by decide) ?_
        obtain ⟨s_12, r_13, z_14, h⟩ := gb_cd_s h
        refine gb_calli (va_runV (C := RX0) (As := [.int v3, .int r_9, .int 0, .int 0]) (rest := [.int v2]) ⟨hx, hb, hml, hown, hq⟩ (cc_Border_marksOver_B l D cT tt b1 b hb1 n s_8 v0 v3 r_9 0 0 s_12 r_13 z_14) (cwV 4 hq (gb_gV w_904 w_630 w_631 w_4 w_632) rfl rfl rfl (by decide +kernel) ⟨Nat.le_of_ble_eq_true rfl, Nat.le_of_ble_eq_true rfl⟩) (gb_preV (r := (RX0, TX0, 1)) (ci := 0) (q0 := v0) hSt hP rfl (gb_at b (gb_cB z_2).1) hS (fun q h => Nat.le_trans hb1 h.1) hP) rfl rfl hl.1 rfl (lv_room (Nat.le_of_ble_eq_true rfl)) dX0_barefoot_22 ⟨Nat.le_of_ble_eq_true rfl, Nat.le_of_ble_eq_true rfl⟩) hS (fun _ h => h) (fun _ h => h) (fun q_15 H locs hY hk hS => ?_)
        obtain ⟨hq_15, hP⟩ := hY
        replace hq_15 := hq_15.symm
        subst hq_15
        refine lv_iadd hx hb dX0_barefoot_25 ?_
        refine lv_topi (fun x_16 ex_16 => ?_)
        replace h := gb_lt_s ex_16 h
        refine lv_istore_n (lv' := [(2, .int x_16), (0, .ref (b + v0)), (1, .int v1), (3, .int v3)]) hx hb dX0_barefoot_26 rfl hl (by decide) rfl (fun ls hl => ?_)
        obtain ⟨x_17, ex_17⟩ : ∃ q, q = (v3 + 1) := ⟨_, rfl⟩
        replace h := gb_lt_s ex_17 h
        refine lv_iinc (v := x_17) (lv' := [(3, .int x_17), (2, .int x_16), (0, .ref (b + v0)), (1, .int v1)]) hx hb dX0_barefoot_27 hl (k := 3) rfl (by rw [ex_17]; rfl) (by decide) rfl (fun ls hl => ?_)
        refine lv_goto (tgt := 4) hx hb dX0_barefoot_30 (by decide) ?_
        exact ih _ _ _ _ _ _ _ _ h hP hS (lv_sub hl [2, 3, 1, 0] rfl)
  unfold cs_Border_barefoot_B at h
  obtain ⟨z_1, h⟩ := gb_kk_s h
  refine lv_iconst (v := 0) hx hb dX0_barefoot_0 (by decide) ?_
  refine lv_istore_n (lv' := [(2, .int 0), (0, .ref (b + k0)), (1, .int p1)]) hx hb dX0_barefoot_1 rfl hl (by decide) rfl (fun ls hl => ?_)
  refine lv_iconst (v := 0) hx hb dX0_barefoot_2 (by decide) ?_
  refine lv_istore_n (lv' := [(3, .int 0), (2, .int 0), (0, .ref (b + k0)), (1, .int p1)]) hx hb dX0_barefoot_3 rfl hl (by decide) rfl (fun ls hl => ?_)
  exact L4_1 n _ _ _ _ _ _ _ _ h hP hS (lv_sub hl [2, 3, 1, 0] rfl)
theorem dX0_milesThatSpare_0 : decode cX0_milesThatSpare 0 = .ok (.iconst 0, 1) := dc_3 (show ((cX0_milesThatSpare.data.toList.drop 0).take 1).map UInt8.toNat = [3] by decide +kernel)
theorem dX0_milesThatSpare_1 : decode cX0_milesThatSpare 1 = .ok (.istore_n 3, 1) := dc_62 (show ((cX0_milesThatSpare.data.toList.drop 1).take 1).map UInt8.toNat = [62] by decide +kernel)
theorem dX0_milesThatSpare_2 : decode cX0_milesThatSpare 2 = .ok (.iconst 0, 1) := dc_3 (show ((cX0_milesThatSpare.data.toList.drop 2).take 1).map UInt8.toNat = [3] by decide +kernel)
theorem dX0_milesThatSpare_3 : decode cX0_milesThatSpare 3 = .ok (.istore 4, 2) := dc_54 (show ((cX0_milesThatSpare.data.toList.drop 3).take 2).map UInt8.toNat = [54, 4] by decide +kernel) rfl
theorem dX0_milesThatSpare_5 : decode cX0_milesThatSpare 5 = .ok (.iload 4, 2) := dc_21 (show ((cX0_milesThatSpare.data.toList.drop 5).take 2).map UInt8.toNat = [21, 4] by decide +kernel) rfl
theorem dX0_milesThatSpare_7 : decode cX0_milesThatSpare 7 = .ok (.aload_n 0, 1) := dc_42 (show ((cX0_milesThatSpare.data.toList.drop 7).take 1).map UInt8.toNat = [42] by decide +kernel)
theorem dX0_milesThatSpare_8 : decode cX0_milesThatSpare 8 = .ok (.invokevirtual 19, 3) := dc_182 (show ((cX0_milesThatSpare.data.toList.drop 8).take 3).map UInt8.toNat = [182, 0, 19] by decide +kernel) rfl
theorem dX0_milesThatSpare_11 : decode cX0_milesThatSpare 11 = .ok (.if_icmp .ge 48, 3) := dc_162 (show ((cX0_milesThatSpare.data.toList.drop 11).take 3).map UInt8.toNat = [162, 0, 48] by decide +kernel) rfl
theorem dX0_milesThatSpare_59 : decode cX0_milesThatSpare 59 = .ok (.iload_n 3, 1) := dc_29 (show ((cX0_milesThatSpare.data.toList.drop 59).take 1).map UInt8.toNat = [29] by decide +kernel)
theorem dX0_milesThatSpare_60 : decode cX0_milesThatSpare 60 = .ok (.ireturn, 1) := dc_172 (show ((cX0_milesThatSpare.data.toList.drop 60).take 1).map UInt8.toNat = [172] by decide +kernel)
theorem dX0_milesThatSpare_14 : decode cX0_milesThatSpare 14 = .ok (.aload_n 0, 1) := dc_42 (show ((cX0_milesThatSpare.data.toList.drop 14).take 1).map UInt8.toNat = [42] by decide +kernel)
theorem dX0_milesThatSpare_15 : decode cX0_milesThatSpare 15 = .ok (.iload 4, 2) := dc_21 (show ((cX0_milesThatSpare.data.toList.drop 15).take 2).map UInt8.toNat = [21, 4] by decide +kernel) rfl
theorem dX0_milesThatSpare_17 : decode cX0_milesThatSpare 17 = .ok (.invokevirtual 58, 3) := dc_182 (show ((cX0_milesThatSpare.data.toList.drop 17).take 3).map UInt8.toNat = [182, 0, 58] by decide +kernel) rfl
theorem dX0_milesThatSpare_20 : decode cX0_milesThatSpare 20 = .ok (.iconst 2, 1) := dc_5 (show ((cX0_milesThatSpare.data.toList.drop 20).take 1).map UInt8.toNat = [5] by decide +kernel)
theorem dX0_milesThatSpare_21 : decode cX0_milesThatSpare 21 = .ok (.isub, 1) := dc_100 (show ((cX0_milesThatSpare.data.toList.drop 21).take 1).map UInt8.toNat = [100] by decide +kernel)
theorem dX0_milesThatSpare_22 : decode cX0_milesThatSpare 22 = .ok (.aload_n 0, 1) := dc_42 (show ((cX0_milesThatSpare.data.toList.drop 22).take 1).map UInt8.toNat = [42] by decide +kernel)
theorem dX0_milesThatSpare_23 : decode cX0_milesThatSpare 23 = .ok (.iload 4, 2) := dc_21 (show ((cX0_milesThatSpare.data.toList.drop 23).take 2).map UInt8.toNat = [21, 4] by decide +kernel) rfl
theorem dX0_milesThatSpare_25 : decode cX0_milesThatSpare 25 = .ok (.invokevirtual 61, 3) := dc_182 (show ((cX0_milesThatSpare.data.toList.drop 25).take 3).map UInt8.toNat = [182, 0, 61] by decide +kernel) rfl
theorem dX0_milesThatSpare_28 : decode cX0_milesThatSpare 28 = .ok (.ifCond .eq 7, 3) := dc_153 (show ((cX0_milesThatSpare.data.toList.drop 28).take 3).map UInt8.toNat = [153, 0, 7] by decide +kernel) rfl
theorem dX0_milesThatSpare_35 : decode cX0_milesThatSpare 35 = .ok (.iconst 1, 1) := dc_4 (show ((cX0_milesThatSpare.data.toList.drop 35).take 1).map UInt8.toNat = [4] by decide +kernel)
theorem dX0_milesThatSpare_36 : decode cX0_milesThatSpare 36 = .ok (.imul, 1) := dc_104 (show ((cX0_milesThatSpare.data.toList.drop 36).take 1).map UInt8.toNat = [104] by decide +kernel)
theorem dX0_milesThatSpare_37 : decode cX0_milesThatSpare 37 = .ok (.istore 5, 2) := dc_54 (show ((cX0_milesThatSpare.data.toList.drop 37).take 2).map UInt8.toNat = [54, 5] by decide +kernel) rfl
theorem dX0_milesThatSpare_39 : decode cX0_milesThatSpare 39 = .ok (.iload 5, 2) := dc_21 (show ((cX0_milesThatSpare.data.toList.drop 39).take 2).map UInt8.toNat = [21, 5] by decide +kernel) rfl
theorem dX0_milesThatSpare_41 : decode cX0_milesThatSpare 41 = .ok (.iload_n 2, 1) := dc_28 (show ((cX0_milesThatSpare.data.toList.drop 41).take 1).map UInt8.toNat = [28] by decide +kernel)
theorem dX0_milesThatSpare_42 : decode cX0_milesThatSpare 42 = .ok (.if_icmp .ne 11, 3) := dc_160 (show ((cX0_milesThatSpare.data.toList.drop 42).take 3).map UInt8.toNat = [160, 0, 11] by decide +kernel) rfl
theorem dX0_milesThatSpare_53 : decode cX0_milesThatSpare 53 = .ok (.iinc 4 1, 3) := dc_132 (show ((cX0_milesThatSpare.data.toList.drop 53).take 3).map UInt8.toNat = [132, 4, 1] by decide +kernel) rfl
theorem dX0_milesThatSpare_56 : decode cX0_milesThatSpare 56 = .ok (.goto (-51), 3) := dc_167 (show ((cX0_milesThatSpare.data.toList.drop 56).take 3).map UInt8.toNat = [167, 255, 205] by decide +kernel) rfl
theorem dX0_milesThatSpare_45 : decode cX0_milesThatSpare 45 = .ok (.iload_n 3, 1) := dc_29 (show ((cX0_milesThatSpare.data.toList.drop 45).take 1).map UInt8.toNat = [29] by decide +kernel)
theorem dX0_milesThatSpare_46 : decode cX0_milesThatSpare 46 = .ok (.aload_n 0, 1) := dc_42 (show ((cX0_milesThatSpare.data.toList.drop 46).take 1).map UInt8.toNat = [42] by decide +kernel)
theorem dX0_milesThatSpare_47 : decode cX0_milesThatSpare 47 = .ok (.iload_n 1, 1) := dc_27 (show ((cX0_milesThatSpare.data.toList.drop 47).take 1).map UInt8.toNat = [27] by decide +kernel)
theorem dX0_milesThatSpare_48 : decode cX0_milesThatSpare 48 = .ok (.invokevirtual 42, 3) := dc_182 (show ((cX0_milesThatSpare.data.toList.drop 48).take 3).map UInt8.toNat = [182, 0, 42] by decide +kernel) rfl
theorem dX0_milesThatSpare_51 : decode cX0_milesThatSpare 51 = .ok (.iadd, 1) := dc_96 (show ((cX0_milesThatSpare.data.toList.drop 51).take 1).map UInt8.toNat = [96] by decide +kernel)
theorem dX0_milesThatSpare_52 : decode cX0_milesThatSpare 52 = .ok (.istore_n 3, 1) := dc_62 (show ((cX0_milesThatSpare.data.toList.drop 52).take 1).map UInt8.toNat = [62] by decide +kernel)
theorem dX0_milesThatSpare_31 : decode cX0_milesThatSpare 31 = .ok (.iconst 2, 1) := dc_5 (show ((cX0_milesThatSpare.data.toList.drop 31).take 1).map UInt8.toNat = [5] by decide +kernel)
theorem dX0_milesThatSpare_32 : decode cX0_milesThatSpare 32 = .ok (.goto 4, 3) := dc_167 (show ((cX0_milesThatSpare.data.toList.drop 32).take 3).map UInt8.toNat = [167, 0, 4] by decide +kernel) rfl
def cs_Border_milesThatSpare_B_5 (n : Nat) : Nat → gb_S → Nat → Int32 → Int32 → Int32 → Int32 → gb_CR Int32
  | 0, _, _, _, _, _, _ => none
  | mm + 1, σ, v0, v1, v2, v3, v4 => gb_kk (gb_kB v0) (gb_cd (cs_Border_geese_B n σ v0) (fun s_3 r_4 => (if r_4 ≤ v4 then some (s_3, v3) else gb_cd (cs_Border_toes_B n s_3 v0 v4) (fun s_8 r_9 => gb_cd (cs_Border_limps_B n s_8 v0 v4) (fun s_12 r_13 => (if r_13 = 0 then gb_lt ((r_9 - 2) * 1) (fun x_17 => (if x_17 = v2 then gb_cd (cs_Border_miles_B n s_12 v0 v1) (fun s_20 r_21 => gb_lt (v3 + r_21) (fun x_24 => gb_lt (v4 + 1) (fun x_25 => cs_Border_milesThatSpare_B_5 n mm s_20 v0 v1 v2 x_24 x_25))) else gb_lt (v4 + 1) (fun x_19 => cs_Border_milesThatSpare_B_5 n mm s_12 v0 v1 v2 v3 x_19))) else gb_lt ((r_9 - 2) * 2) (fun x_26 => (if x_26 = v2 then gb_cd (cs_Border_miles_B n s_12 v0 v1) (fun s_29 r_30 => gb_lt (v3 + r_30) (fun x_33 => gb_lt (v4 + 1) (fun x_34 => cs_Border_milesThatSpare_B_5 n mm s_29 v0 v1 v2 x_33 x_34))) else gb_lt (v4 + 1) (fun x_28 => cs_Border_milesThatSpare_B_5 n mm s_12 v0 v1 v2 v3 x_28)))))))))
def cs_Border_milesThatSpare_B (n : Nat) (σ : gb_S) (k0 : Nat) (p1 : Int32) (p2 : Int32) : gb_CR Int32 := gb_kk (gb_kB k0) (cs_Border_milesThatSpare_B_5 n n σ k0 p1 p2 0 0)
set_option maxHeartbeats 8000000 in
set_option maxRecDepth 100000 in
theorem cc_Border_milesThatSpare_B (l : Launch) (D : va_G) (cT : Nat → ClassId) (tt : Nat → Nat) (b1 b : Nat) (hb1 : b1 ≤ b) (n : Nat) (σ : gb_S) (k0 : Nat) (p1 : Int32) (p2 : Int32) (σE : gb_S) (rE : Int32) (h : cs_Border_milesThatSpare_B n σ k0 p1 p2 = some (σE, rE)) : Met l yX0_milesThatSpare (.code yX0_milesThatSpare cX0_milesThatSpare 6 (some FieldType.int) :: gb_wA) ({ frames := 1, cells := 0, slots := 0, locals := 22 }) (gb_Pc D cT tt b1 [.ref (b + k0), .int p1, .int p2] (fun h => va_P D vwCl (gb_wl b (gb_CW cT b σ)) h)) (gb_Qi (fun r h => r = rE ∧ va_P D vwCl (gb_wl b (gb_CW cT b σE)) h) (gb_fr b 135)) 0 0 (gb_fr b 135) := by
  refine Met.ofW (cc := cX0_milesThatSpare) (maxL := 6) (ret := (some FieldType.int)) (by decide) rfl ?_
  intro p e s m args below meth c s₁ B hml hv
  obtain ⟨rfl, hSt, hP⟩ := hv
  have hx := B.exec
  have hb := B.bytes
  have hr := B.returns
  have hts := atoms_spec (ws := .code yX0_milesThatSpare cX0_milesThatSpare 6 (some FieldType.int) :: gb_wA) B.pre
  have hq : ∀ w ∈ gb_wA, w.before _ s = true := fun w h => hts w (List.mem_cons_of_mem _ h)
  have hown : s.vm.findClass RX0 = some m.cls := findClass_of_methodNamed B.named
  have hlocks := B.notSynchronized
  clear B hts
  have hK := hSt.1
  have hS : va_S (gb_fr b 135) s.heap s.heap [] := va_S.rf
  have hl := lv_entry ([.ref (b + k0), .int p1, .int p2]) (n := 6) (Nat.le_of_ble_eq_true rfl)
  rw [lg_entry_eq]
  generalize (lg_sl ([.ref (b + k0), .int p1, .int p2]) ++ List.replicate (6 - (lg_sl ([.ref (b + k0), .int p1, .int p2])).length) Slot.unset).toArray = ls at hl ⊢
  replace hl : lv_has ls 6 [(0, .ref (b + k0)), (1, .int p1), (2, .int p2)] := hl
  have L5_1 : ∀ (mm : Nat) (σ : gb_S) (v0 : Nat) (v1 : Int32) (v2 : Int32) (v3 : Int32) (v4 : Int32) (H : Heap) (locs : List Loc) (ls : Array Slot), cs_Border_milesThatSpare_B_5 n mm σ v0 v1 v2 v3 v4 = some (σE, rE) → va_P D vwCl (gb_wl b (gb_CW cT b σ)) H → va_S (gb_fr b 135) s.heap H locs → lv_has ls 6 [(0, .ref (b + v0)), (1, .int v1), (2, .int v2), (3, .int v3), (4, .int v4)] → W p l e (headSpec (.code yX0_milesThatSpare cX0_milesThatSpare 6 (some FieldType.int) :: gb_wA) ({ frames := 1, cells := 0, slots := 0, locals := 22 })).room s m ([.ref (b + k0), .int p1, .int p2]).toArray below meth c H locs 0 0 (MQ below (gb_Qi (fun r h => r = rE ∧ va_P D vwCl (gb_wl b (gb_CW cT b σE)) h) (gb_fr b 135)) ([.ref (b + k0), .int p1, .int p2]).toArray s 0 0 (gb_fr b 135)) (F0 m 5 ls []) := by
    clear h hP hS hl ls
    intro mm
    induction mm with
    | zero =>
      intro σ v0 v1 v2 v3 v4 H locs ls h
      cases h
    | succ mm ih =>
      intro σ v0 v1 v2 v3 v4 H locs ls h hP hS hl
      rw [cs_Border_milesThatSpare_B_5] at h
      obtain ⟨z_2, h⟩ := gb_kk_s h
      refine lv_iload hx hb dX0_milesThatSpare_5 (lv_at hl 4 rfl) ?_
      refine lv_aload_n hx hb dX0_milesThatSpare_7 rfl (lv_at hl 0 rfl) ?_
      obtain ⟨s_3, r_4, z_5, h⟩ := gb_cd_s h
      refine gb_calli (va_runV (C := RX0) (As := []) (rest := [.int v4]) ⟨hx, hb, hml, hown, hq⟩ (cc_Border_geese_B l D cT tt b1 b hb1 n σ v0 s_3 r_4 z_5) (cwV 0 hq (gb_gV w_476 w_477 w_478 w_4 w_479) rfl rfl rfl (by decide +kernel) ⟨Nat.le_of_ble_eq_true rfl, Nat.le_of_ble_eq_true rfl⟩) (gb_preV (r := (RX0, TX0, 1)) (ci := 0) (q0 := v0) hSt hP rfl (gb_at b (gb_cB z_2).1) hS (fun q h => Nat.le_trans hb1 h.1) hP) rfl rfl hl.1 rfl (lv_room (Nat.le_of_ble_eq_true rfl)) dX0_milesThatSpare_8 ⟨Nat.le_of_ble_eq_true rfl, Nat.le_of_ble_eq_true rfl⟩) hS (fun _ h => h) (fun _ h => h) (fun q_6 H locs hY hk hS => ?_)
      obtain ⟨hq_6, hP⟩ := hY
      replace hq_6 := hq_6.symm
      subst hq_6
      refine lv_icmp_ge (tgt := 59) hx hb dX0_milesThatSpare_11 (by decide) (fun c_7 => ?_) (fun c_7 => ?_)
      · rw [if_pos c_7] at h
        refine lv_iload_n hx hb dX0_milesThatSpare_59 rfl (lv_at hl 3 rfl) ?_
        obtain ⟨e1, e2⟩ := gb_eq2 h
        exact W.iret (v := v3) hx hb hr (fun t ht hW => gb_ri ht ⟨e2, by rw [← e1]; exact hP⟩ hS) hS.2.2 dX0_milesThatSpare_60
      · rw [if_neg c_7] at h
        refine lv_aload_n hx hb dX0_milesThatSpare_14 rfl (lv_at hl 0 rfl) ?_
        refine lv_iload hx hb dX0_milesThatSpare_15 (lv_at hl 4 rfl) ?_
        obtain ⟨s_8, r_9, z_10, h⟩ := gb_cd_s h
        refine gb_calli (va_runV (C := RX0) (As := [.int v4]) (rest := []) ⟨hx, hb, hml, hown, hq⟩ (cc_Border_toes_B l D cT tt b1 b hb1 n s_3 v0 v4 s_8 r_9 z_10) (cwV 1 hq (gb_gV w_634 w_635 w_636 w_4 w_637) rfl rfl rfl (by decide +kernel) ⟨Nat.le_of_ble_eq_true rfl, Nat.le_of_ble_eq_true rfl⟩) (gb_preV (r := (RX0, TX0, 1)) (ci := 0) (q0 := v0) hSt hP rfl (gb_at b (gb_cB z_2).1) hS (fun q h => Nat.le_trans hb1 h.1) hP) rfl rfl hl.1 rfl (lv_room (Nat.le_of_ble_eq_true rfl)) dX0_milesThatSpare_17 ⟨Nat.le_of_ble_eq_true rfl, Nat.le_of_ble_eq_true rfl⟩) hS (fun _ h => h) (fun _ h => h) (fun q_11 H locs hY hk hS => ?_)
        obtain ⟨hq_11, hP⟩ := hY
        replace hq_11 := hq_11.symm
        subst hq_11
        refine lv_iconst (v := 2) hx hb dX0_milesThatSpare_20 (by decide) ?_
        refine lv_isub hx hb dX0_milesThatSpare_21 ?_
        refine lv_aload_n hx hb dX0_milesThatSpare_22 rfl (lv_at hl 0 rfl) ?_
        refine lv_iload hx hb dX0_milesThatSpare_23 (lv_at hl 4 rfl) ?_
        obtain ⟨s_12, r_13, z_14, h⟩ := gb_cd_s h
        refine gb_calli (va_runV (C := RX0) (As := [.int v4]) (rest := [.int (r_9 - 2)]) ⟨hx, hb, hml, hown, hq⟩ (cc_Border_limps_B l D cT tt b1 b hb1 n s_8 v0 v4 s_12 r_13 z_14) (cwV 1 hq (gb_gV w_638 w_639 w_640 w_4 w_641) rfl rfl rfl (by decide +kernel) ⟨Nat.le_of_ble_eq_true rfl, Nat.le_of_ble_eq_true rfl⟩) (gb_preV (r := (RX0, TX0, 1)) (ci := 0) (q0 := v0) hSt hP rfl (gb_at b (gb_cB z_2).1) hS (fun q h => Nat.le_trans hb1 h.1) hP) rfl rfl hl.1 rfl (lv_room (Nat.le_of_ble_eq_true rfl)) dX0_milesThatSpare_25 ⟨Nat.le_of_ble_eq_true rfl, Nat.le_of_ble_eq_true rfl⟩) hS (fun _ h => h) (fun _ h => h) (fun q_15 H locs hY hk hS => ?_)
        obtain ⟨hq_15, hP⟩ := hY
        replace hq_15 := hq_15.symm
        subst hq_15
        refine lv_if_eq (tgt := 35) hx hb dX0_milesThatSpare_28 (by decide) (fun c_16 => ?_) (fun c_16 => ?_)
        · rw [if_pos c_16] at h
          refine lv_iconst (v := 1) hx hb dX0_milesThatSpare_35 (by decide) ?_
          refine lv_imul hx hb dX0_milesThatSpare_36 ?_
          refine lv_topi (fun x_17 ex_17 => ?_)
          replace h := gb_lt_s ex_17 h
          refine lv_istore (lv' := [(5, .int x_17), (0, .ref (b + v0)), (1, .int v1), (2, .int v2), (3, .int v3), (4, .int v4)]) hx hb dX0_milesThatSpare_37 hl (by decide) rfl (fun ls hl => ?_)
          refine lv_iload hx hb dX0_milesThatSpare_39 (lv_at hl 0 rfl) ?_
          refine lv_iload_n hx hb dX0_milesThatSpare_41 rfl (lv_at hl 3 rfl) ?_
          refine lv_icmp_ne (tgt := 53) hx hb dX0_milesThatSpare_42 (by decide) (fun c_18 => ?_) (fun c_18 => ?_)
          · rw [if_neg c_18] at h
            obtain ⟨x_19, ex_19⟩ : ∃ q, q = (v4 + 1) := ⟨_, rfl⟩
            replace h := gb_lt_s ex_19 h
            refine lv_iinc (v := x_19) (lv' := [(4, .int x_19), (5, .int x_17), (0, .ref (b + v0)), (1, .int v1), (2, .int v2), (3, .int v3)]) hx hb dX0_milesThatSpare_53 hl (k := 5) rfl (by rw [ex_19]; rfl) (by decide) rfl (fun ls hl => ?_)
            refine lv_goto (tgt := 5) hx hb dX0_milesThatSpare_56 (by decide) ?_
            exact ih _ _ _ _ _ _ _ _ _ h hP hS (lv_sub hl [2, 3, 4, 5, 0] rfl)
          · rw [if_pos c_18] at h
            refine lv_iload_n hx hb dX0_milesThatSpare_45 rfl (lv_at hl 4 rfl) ?_
            refine lv_aload_n hx hb dX0_milesThatSpare_46 rfl (lv_at hl 1 rfl) ?_
            refine lv_iload_n hx hb dX0_milesThatSpare_47 rfl (lv_at hl 2 rfl) ?_
            obtain ⟨s_20, r_21, z_22, h⟩ := gb_cd_s h
            refine gb_calli (va_runV (C := RX0) (As := [.int v1]) (rest := [.int v3]) ⟨hx, hb, hml, hown, hq⟩ (cc_Border_miles_B l D cT tt b1 b hb1 n s_12 v0 v1 s_20 r_21 z_22) (cwV 1 hq (gb_gV w_902 w_622 w_623 w_4 w_624) rfl rfl rfl (by decide +kernel) ⟨Nat.le_of_ble_eq_true rfl, Nat.le_of_ble_eq_true rfl⟩) (gb_preV (r := (RX0, TX0, 1)) (ci := 0) (q0 := v0) hSt hP rfl (gb_at b (gb_cB z_2).1) hS (fun q h => Nat.le_trans hb1 h.1) hP) rfl rfl hl.1 rfl (lv_room (Nat.le_of_ble_eq_true rfl)) dX0_milesThatSpare_48 ⟨Nat.le_of_ble_eq_true rfl, Nat.le_of_ble_eq_true rfl⟩) hS (fun _ h => h) (fun _ h => h) (fun q_23 H locs hY hk hS => ?_)
            obtain ⟨hq_23, hP⟩ := hY
            replace hq_23 := hq_23.symm
            subst hq_23
            refine lv_iadd hx hb dX0_milesThatSpare_51 ?_
            refine lv_topi (fun x_24 ex_24 => ?_)
            replace h := gb_lt_s ex_24 h
            refine lv_istore_n (lv' := [(3, .int x_24), (5, .int x_17), (0, .ref (b + v0)), (1, .int v1), (2, .int v2), (4, .int v4)]) hx hb dX0_milesThatSpare_52 rfl hl (by decide) rfl (fun ls hl => ?_)
            obtain ⟨x_25, ex_25⟩ : ∃ q, q = (v4 + 1) := ⟨_, rfl⟩
            replace h := gb_lt_s ex_25 h
            refine lv_iinc (v := x_25) (lv' := [(4, .int x_25), (3, .int x_24), (5, .int x_17), (0, .ref (b + v0)), (1, .int v1), (2, .int v2)]) hx hb dX0_milesThatSpare_53 hl (k := 5) rfl (by rw [ex_25]; rfl) (by decide) rfl (fun ls hl => ?_)
            refine lv_goto (tgt := 5) hx hb dX0_milesThatSpare_56 (by decide) ?_
            exact ih _ _ _ _ _ _ _ _ _ h hP hS (lv_sub hl [3, 4, 5, 1, 0] rfl)
        · rw [if_neg c_16] at h
          refine lv_iconst (v := 2) hx hb dX0_milesThatSpare_31 (by decide) ?_
          refine lv_goto (tgt := 36) hx hb dX0_milesThatSpare_32 (by decide) ?_
          refine lv_imul hx hb dX0_milesThatSpare_36 ?_
          refine lv_topi (fun x_26 ex_26 => ?_)
          replace h := gb_lt_s ex_26 h
          refine lv_istore (lv' := [(5, .int x_26), (0, .ref (b + v0)), (1, .int v1), (2, .int v2), (3, .int v3), (4, .int v4)]) hx hb dX0_milesThatSpare_37 hl (by decide) rfl (fun ls hl => ?_)
          refine lv_iload hx hb dX0_milesThatSpare_39 (lv_at hl 0 rfl) ?_
          refine lv_iload_n hx hb dX0_milesThatSpare_41 rfl (lv_at hl 3 rfl) ?_
          refine lv_icmp_ne (tgt := 53) hx hb dX0_milesThatSpare_42 (by decide) (fun c_27 => ?_) (fun c_27 => ?_)
          · rw [if_neg c_27] at h
            obtain ⟨x_28, ex_28⟩ : ∃ q, q = (v4 + 1) := ⟨_, rfl⟩
            replace h := gb_lt_s ex_28 h
            refine lv_iinc (v := x_28) (lv' := [(4, .int x_28), (5, .int x_26), (0, .ref (b + v0)), (1, .int v1), (2, .int v2), (3, .int v3)]) hx hb dX0_milesThatSpare_53 hl (k := 5) rfl (by rw [ex_28]; rfl) (by decide) rfl (fun ls hl => ?_)
            refine lv_goto (tgt := 5) hx hb dX0_milesThatSpare_56 (by decide) ?_
            exact ih _ _ _ _ _ _ _ _ _ h hP hS (lv_sub hl [2, 3, 4, 5, 0] rfl)
          · rw [if_pos c_27] at h
            refine lv_iload_n hx hb dX0_milesThatSpare_45 rfl (lv_at hl 4 rfl) ?_
            refine lv_aload_n hx hb dX0_milesThatSpare_46 rfl (lv_at hl 1 rfl) ?_
            refine lv_iload_n hx hb dX0_milesThatSpare_47 rfl (lv_at hl 2 rfl) ?_
            obtain ⟨s_29, r_30, z_31, h⟩ := gb_cd_s h
            refine gb_calli (va_runV (C := RX0) (As := [.int v1]) (rest := [.int v3]) ⟨hx, hb, hml, hown, hq⟩ (cc_Border_miles_B l D cT tt b1 b hb1 n s_12 v0 v1 s_29 r_30 z_31) (cwV 1 hq (gb_gV w_902 w_622 w_623 w_4 w_624) rfl rfl rfl (by decide +kernel) ⟨Nat.le_of_ble_eq_true rfl, Nat.le_of_ble_eq_true rfl⟩) (gb_preV (r := (RX0, TX0, 1)) (ci := 0) (q0 := v0) hSt hP rfl (gb_at b (gb_cB z_2).1) hS (fun q h => Nat.le_trans hb1 h.1) hP) rfl rfl hl.1 rfl (lv_room (Nat.le_of_ble_eq_true rfl)) dX0_milesThatSpare_48 ⟨Nat.le_of_ble_eq_true rfl, Nat.le_of_ble_eq_true rfl⟩) hS (fun _ h => h) (fun _ h => h) (fun q_32 H locs hY hk hS => ?_)
            obtain ⟨hq_32, hP⟩ := hY
            replace hq_32 := hq_32.symm
            subst hq_32
            refine lv_iadd hx hb dX0_milesThatSpare_51 ?_
            refine lv_topi (fun x_33 ex_33 => ?_)
            replace h := gb_lt_s ex_33 h
            refine lv_istore_n (lv' := [(3, .int x_33), (5, .int x_26), (0, .ref (b + v0)), (1, .int v1), (2, .int v2), (4, .int v4)]) hx hb dX0_milesThatSpare_52 rfl hl (by decide) rfl (fun ls hl => ?_)
            obtain ⟨x_34, ex_34⟩ : ∃ q, q = (v4 + 1) := ⟨_, rfl⟩
            replace h := gb_lt_s ex_34 h
            refine lv_iinc (v := x_34) (lv' := [(4, .int x_34), (3, .int x_33), (5, .int x_26), (0, .ref (b + v0)), (1, .int v1), (2, .int v2)]) hx hb dX0_milesThatSpare_53 hl (k := 5) rfl (by rw [ex_34]; rfl) (by decide) rfl (fun ls hl => ?_)
            refine lv_goto (tgt := 5) hx hb dX0_milesThatSpare_56 (by decide) ?_
            exact ih _ _ _ _ _ _ _ _ _ h hP hS (lv_sub hl [3, 4, 5, 1, 0] rfl)
  unfold cs_Border_milesThatSpare_B at h
  obtain ⟨z_1, h⟩ := gb_kk_s h
  refine lv_iconst (v := 0) hx hb dX0_milesThatSpare_0 (by decide) ?_
  refine lv_istore_n (lv' := [(3, .int 0), (0, .ref (b + k0)), (1, .int p1), (2, .int p2)]) hx hb dX0_milesThatSpare_1 rfl hl (by decide) rfl (fun ls hl => ?_)
  refine lv_iconst (v := 0) hx hb dX0_milesThatSpare_2 (by decide) ?_
  refine lv_istore (lv' := [(4, .int 0), (3, .int 0), (0, .ref (b + k0)), (1, .int p1), (2, .int p2)]) hx hb dX0_milesThatSpare_3 hl (by decide) rfl (fun ls hl => ?_)
  exact L5_1 n _ _ _ _ _ _ _ _ _ h hP hS (lv_sub hl [2, 3, 4, 1, 0] rfl)
theorem dX11_feed_0 : decode cX11_feed 0 = .ok (.aload_n 0, 1) := dc_42 (show ((cX11_feed.data.toList.drop 0).take 1).map UInt8.toNat = [42] by decide +kernel)
theorem dX11_feed_1 : decode cX11_feed 1 = .ok (.getfield 12, 3) := dc_180 (show ((cX11_feed.data.toList.drop 1).take 3).map UInt8.toNat = [180, 0, 12] by decide +kernel) rfl
theorem dX11_feed_4 : decode cX11_feed 4 = .ok (.getfield 74, 3) := dc_180 (show ((cX11_feed.data.toList.drop 4).take 3).map UInt8.toNat = [180, 0, 74] by decide +kernel) rfl
theorem w_125 : (Cond.fieldLink "GooseBorder" (74 : Nat) "GooseBorder$Told" "length" "I") ∈ gb_wA := gb_t1 125 rfl rfl
theorem dX11_feed_7 : decode cX11_feed 7 = .ok (.sipush 580, 3) := dc_17 (show ((cX11_feed.data.toList.drop 7).take 3).map UInt8.toNat = [17, 2, 68] by decide +kernel) rfl
theorem dX11_feed_10 : decode cX11_feed 10 = .ok (.if_icmp .le 5, 3) := dc_164 (show ((cX11_feed.data.toList.drop 10).take 3).map UInt8.toNat = [164, 0, 5] by decide +kernel) rfl
theorem dX11_feed_15 : decode cX11_feed 15 = .ok (.aload_n 0, 1) := dc_42 (show ((cX11_feed.data.toList.drop 15).take 1).map UInt8.toNat = [42] by decide +kernel)
theorem dX11_feed_16 : decode cX11_feed 16 = .ok (.getfield 12, 3) := dc_180 (show ((cX11_feed.data.toList.drop 16).take 3).map UInt8.toNat = [180, 0, 12] by decide +kernel) rfl
theorem dX11_feed_19 : decode cX11_feed 19 = .ok (.iload_n 1, 1) := dc_27 (show ((cX11_feed.data.toList.drop 19).take 1).map UInt8.toNat = [27] by decide +kernel)
theorem dX11_feed_20 : decode cX11_feed 20 = .ok (.invokevirtual 78, 3) := dc_182 (show ((cX11_feed.data.toList.drop 20).take 3).map UInt8.toNat = [182, 0, 78] by decide +kernel) rfl
theorem dX10_addBytes_0 : decode cX10_addBytes 0 = .ok (.aload_n 0, 1) := dc_42 (show ((cX10_addBytes.data.toList.drop 0).take 1).map UInt8.toNat = [42] by decide +kernel)
theorem dX10_addBytes_1 : decode cX10_addBytes 1 = .ok (.getfield 51, 3) := dc_180 (show ((cX10_addBytes.data.toList.drop 1).take 3).map UInt8.toNat = [180, 0, 51] by decide +kernel) rfl
theorem w_124 : (Cond.fieldLink "GooseBorder$Told" (51 : Nat) "GooseBorder$Told" "length" "I") ∈ gb_wA := gb_t1 124 rfl rfl
theorem dX10_addBytes_4 : decode cX10_addBytes 4 = .ok (.sipush 596, 3) := dc_17 (show ((cX10_addBytes.data.toList.drop 4).take 3).map UInt8.toNat = [17, 2, 84] by decide +kernel) rfl
theorem dX10_addBytes_7 : decode cX10_addBytes 7 = .ok (.if_icmp .le 4, 3) := dc_164 (show ((cX10_addBytes.data.toList.drop 7).take 3).map UInt8.toNat = [164, 0, 4] by decide +kernel) rfl
theorem dX10_addBytes_11 : decode cX10_addBytes 11 = .ok (.bipush 24, 2) := dc_16 (show ((cX10_addBytes.data.toList.drop 11).take 2).map UInt8.toNat = [16, 24] by decide +kernel) rfl
theorem dX10_addBytes_13 : decode cX10_addBytes 13 = .ok (.istore_n 2, 1) := dc_61 (show ((cX10_addBytes.data.toList.drop 13).take 1).map UInt8.toNat = [61] by decide +kernel)
theorem dX10_addBytes_14 : decode cX10_addBytes 14 = .ok (.iload_n 2, 1) := dc_28 (show ((cX10_addBytes.data.toList.drop 14).take 1).map UInt8.toNat = [28] by decide +kernel)
theorem dX10_addBytes_15 : decode cX10_addBytes 15 = .ok (.ifCond .lt 32, 3) := dc_155 (show ((cX10_addBytes.data.toList.drop 15).take 3).map UInt8.toNat = [155, 0, 32] by decide +kernel) rfl
theorem dX10_addBytes_47 : decode cX10_addBytes 47 = .ok (.return_, 1) := dc_177 (show ((cX10_addBytes.data.toList.drop 47).take 1).map UInt8.toNat = [177] by decide +kernel)
theorem dX10_addBytes_18 : decode cX10_addBytes 18 = .ok (.aload_n 0, 1) := dc_42 (show ((cX10_addBytes.data.toList.drop 18).take 1).map UInt8.toNat = [42] by decide +kernel)
theorem dX10_addBytes_19 : decode cX10_addBytes 19 = .ok (.getfield 43, 3) := dc_180 (show ((cX10_addBytes.data.toList.drop 19).take 3).map UInt8.toNat = [180, 0, 43] by decide +kernel) rfl
theorem dX10_addBytes_22 : decode cX10_addBytes 22 = .ok (.aload_n 0, 1) := dc_42 (show ((cX10_addBytes.data.toList.drop 22).take 1).map UInt8.toNat = [42] by decide +kernel)
theorem dX10_addBytes_23 : decode cX10_addBytes 23 = .ok (.getfield 51, 3) := dc_180 (show ((cX10_addBytes.data.toList.drop 23).take 3).map UInt8.toNat = [180, 0, 51] by decide +kernel) rfl
theorem dX10_addBytes_26 : decode cX10_addBytes 26 = .ok (.iload_n 1, 1) := dc_27 (show ((cX10_addBytes.data.toList.drop 26).take 1).map UInt8.toNat = [27] by decide +kernel)
theorem dX10_addBytes_27 : decode cX10_addBytes 27 = .ok (.iload_n 2, 1) := dc_28 (show ((cX10_addBytes.data.toList.drop 27).take 1).map UInt8.toNat = [28] by decide +kernel)
theorem dX10_addBytes_28 : decode cX10_addBytes 28 = .ok (.ishr, 1) := dc_122 (show ((cX10_addBytes.data.toList.drop 28).take 1).map UInt8.toNat = [122] by decide +kernel)
theorem dX10_addBytes_29 : decode cX10_addBytes 29 = .ok (.i2b, 1) := dc_145 (show ((cX10_addBytes.data.toList.drop 29).take 1).map UInt8.toNat = [145] by decide +kernel)
theorem dX10_addBytes_30 : decode cX10_addBytes 30 = .ok (.bastore, 1) := dc_84 (show ((cX10_addBytes.data.toList.drop 30).take 1).map UInt8.toNat = [84] by decide +kernel)
theorem dX10_addBytes_31 : decode cX10_addBytes 31 = .ok (.aload_n 0, 1) := dc_42 (show ((cX10_addBytes.data.toList.drop 31).take 1).map UInt8.toNat = [42] by decide +kernel)
theorem dX10_addBytes_32 : decode cX10_addBytes 32 = .ok (.dup, 1) := dc_89 (show ((cX10_addBytes.data.toList.drop 32).take 1).map UInt8.toNat = [89] by decide +kernel)
theorem dX10_addBytes_33 : decode cX10_addBytes 33 = .ok (.getfield 51, 3) := dc_180 (show ((cX10_addBytes.data.toList.drop 33).take 3).map UInt8.toNat = [180, 0, 51] by decide +kernel) rfl
theorem dX10_addBytes_36 : decode cX10_addBytes 36 = .ok (.iconst 1, 1) := dc_4 (show ((cX10_addBytes.data.toList.drop 36).take 1).map UInt8.toNat = [4] by decide +kernel)
theorem dX10_addBytes_37 : decode cX10_addBytes 37 = .ok (.iadd, 1) := dc_96 (show ((cX10_addBytes.data.toList.drop 37).take 1).map UInt8.toNat = [96] by decide +kernel)
theorem dX10_addBytes_38 : decode cX10_addBytes 38 = .ok (.putfield 51, 3) := dc_181 (show ((cX10_addBytes.data.toList.drop 38).take 3).map UInt8.toNat = [181, 0, 51] by decide +kernel) rfl
theorem dX10_addBytes_41 : decode cX10_addBytes 41 = .ok (.iinc 2 (-8), 3) := dc_132 (show ((cX10_addBytes.data.toList.drop 41).take 3).map UInt8.toNat = [132, 2, 248] by decide +kernel) rfl
theorem dX10_addBytes_44 : decode cX10_addBytes 44 = .ok (.goto (-30), 3) := dc_167 (show ((cX10_addBytes.data.toList.drop 44).take 3).map UInt8.toNat = [167, 255, 226] by decide +kernel) rfl
theorem dX10_addBytes_10 : decode cX10_addBytes 10 = .ok (.return_, 1) := dc_177 (show ((cX10_addBytes.data.toList.drop 10).take 1).map UInt8.toNat = [177] by decide +kernel)
def cs_Told_addBytes_14 (n : Nat) : Nat → gb_S → Int32 → Int32 → gb_CR Unit
  | 0, _, _, _ => none
  | mm + 1, σ, v1, v2 => (if v2 < 0 then some (σ, ()) else gb_ck (σ.1 1 6) 600 (gb_lt (gb_su σ 23 (upd (σ.1 23) (Int32.toNatClampNeg (σ.1 1 6)) (vp_nar .byte ((v1 >>> (v2 &&& 31)).toInt8.toInt32)))) (fun s_4 => gb_lt (gb_su s_4 1 (upd (s_4.1 1) 6 ((s_4.1 1 6) + 1))) (fun s_5 => gb_lt (v2 + (-8)) (fun x_6 => cs_Told_addBytes_14 n mm s_5 v1 x_6)))))
def cs_Told_addBytes (n : Nat) (σ : gb_S) (p1 : Int32) : gb_CR Unit := (if (σ.1 1 6) ≤ 596 then cs_Told_addBytes_14 n n σ p1 24 else some (σ, ()))
set_option maxHeartbeats 8000000 in
set_option maxRecDepth 100000 in
theorem cc_Told_addBytes (l : Launch) (D : va_G) (cT : Nat → ClassId) (tt : Nat → Nat) (b1 b : Nat) (hb1 : b1 ≤ b) (n : Nat) (σ : gb_S) (p1 : Int32) (σE : gb_S) (rE : Unit) (h : cs_Told_addBytes n σ p1 = some (σE, rE)) : Met l yX10_addBytes (.code yX10_addBytes cX10_addBytes 3 none :: gb_wA) ({ frames := 0, cells := 0, slots := 0, locals := 0 }) (gb_Pc D cT tt b1 [.ref (b + 1), .int p1] (fun h => va_P D vwCl (gb_wl b (gb_CW cT b σ)) h)) (gb_Qv (fun h => va_P D vwCl (gb_wl b (gb_CW cT b σE)) h) (gb_fr b 135)) 0 0 (gb_fr b 135) := by
  refine Met.ofW (cc := cX10_addBytes) (maxL := 3) (ret := none) (by decide) rfl ?_
  intro p e s m args below meth c s₁ B hml hv
  obtain ⟨rfl, hSt, hP⟩ := hv
  have hx := B.exec
  have hb := B.bytes
  have hr := B.returns
  have hts := atoms_spec (ws := .code yX10_addBytes cX10_addBytes 3 none :: gb_wA) B.pre
  have hq : ∀ w ∈ gb_wA, w.before _ s = true := fun w h => hts w (List.mem_cons_of_mem _ h)
  have hown : s.vm.findClass RX10 = some m.cls := findClass_of_methodNamed B.named
  have hlocks := B.notSynchronized
  clear B hts
  have hK := hSt.1
  have hS : va_S (gb_fr b 135) s.heap s.heap [] := va_S.rf
  have hl := lv_entry ([.ref (b + 1), .int p1]) (n := 3) (Nat.le_of_ble_eq_true rfl)
  rw [lg_entry_eq]
  generalize (lg_sl ([.ref (b + 1), .int p1]) ++ List.replicate (3 - (lg_sl ([.ref (b + 1), .int p1])).length) Slot.unset).toArray = ls at hl ⊢
  replace hl : lv_has ls 3 [(0, .ref (b + 1)), (1, .int p1)] := hl
  have L14_1 : ∀ (mm : Nat) (σ : gb_S) (v1 : Int32) (v2 : Int32) (H : Heap) (locs : List Loc) (ls : Array Slot), cs_Told_addBytes_14 n mm σ v1 v2 = some (σE, rE) → va_P D vwCl (gb_wl b (gb_CW cT b σ)) H → va_S (gb_fr b 135) s.heap H locs → lv_has ls 3 [(0, .ref (b + 1)), (1, .int v1), (2, .int v2)] → W p l e (headSpec (.code yX10_addBytes cX10_addBytes 3 none :: gb_wA) ({ frames := 0, cells := 0, slots := 0, locals := 0 })).room s m ([.ref (b + 1), .int p1]).toArray below meth c H locs 0 0 (MQ below (gb_Qv (fun h => va_P D vwCl (gb_wl b (gb_CW cT b σE)) h) (gb_fr b 135)) ([.ref (b + 1), .int p1]).toArray s 0 0 (gb_fr b 135)) (F0 m 14 ls []) := by
    clear h hP hS hl ls
    intro mm
    induction mm with
    | zero =>
      intro σ v1 v2 H locs ls h
      cases h
    | succ mm ih =>
      intro σ v1 v2 H locs ls h hP hS hl
      rw [cs_Told_addBytes_14] at h
      refine lv_iload_n hx hb dX10_addBytes_14 rfl (lv_at hl 2 rfl) ?_
      refine lv_if_lt (tgt := 47) hx hb dX10_addBytes_15 (by decide) (fun c_2 => ?_) (fun c_2 => ?_)
      · rw [if_pos c_2] at h
        obtain ⟨e1, -⟩ := gb_eq2 h
        exact W.vret hx hb hr (fun t ht hW => gb_rv ht (by rw [← e1]; exact hP) hS) hS.2.2 dX10_addBytes_47
      · rw [if_neg c_2] at h
        refine lv_aload_n hx hb dX10_addBytes_18 rfl (lv_at hl 0 rfl) ?_
        refine va_get (ci := 8) (v := (.ref (b + 23))) (C := RX10) (T := TX10) (N := 9) hx hb hq i_X10 hown hK hP 1 (gb_at b rfl) rfl 5 (by decide) (hq _ w_122) (fun _ h9 => h9) rfl dX10_addBytes_19 ?_
        refine lv_aload_n hx hb dX10_addBytes_22 rfl (lv_at hl 0 rfl) ?_
        refine va_get (ci := 8) (v := (.int (σ.1 1 6))) (C := RX10) (T := TX10) (N := 9) hx hb hq i_X10 hown hK hP 1 (gb_at b rfl) rfl 6 (by decide) (hq _ w_124) (fun _ h9 => h9) rfl dX10_addBytes_23 ?_
        refine lv_iload_n hx hb dX10_addBytes_26 rfl (lv_at hl 1 rfl) ?_
        refine lv_iload_n hx hb dX10_addBytes_27 rfl (lv_at hl 2 rfl) ?_
        refine lv_ishr hx hb dX10_addBytes_28 ?_
        refine lv_i2b hx hb dX10_addBytes_29 rfl ?_
        obtain ⟨z_3, h⟩ := gb_ck_s h
        refine va_bast (x := ((v1 >>> (v2 &&& 31)).toInt8.toInt32)) hx hb hK hP (gb_D (fun k h => ⟨Nat.le_add_right b k, Nat.add_lt_add_left h b⟩)) hS 23 1 (gb_at b rfl) rfl z_3 dX10_addBytes_30 (fun H locs hP hD hS => ?_)
        rw [gb_set] at hP
        obtain ⟨s_4, es_4⟩ : ∃ q, q = (gb_su σ 23 (upd (σ.1 23) (Int32.toNatClampNeg (σ.1 1 6)) (vp_nar .byte ((v1 >>> (v2 &&& 31)).toInt8.toInt32)))) := ⟨_, rfl⟩
        replace hP : va_P D vwCl (gb_wl b (gb_CW cT b s_4)) H := by rw [es_4]; exact hP
        replace h := gb_lt_s es_4 h
        refine lv_aload_n hx hb dX10_addBytes_31 rfl (lv_at hl 0 rfl) ?_
        refine lv_dup hx hb dX10_addBytes_32 rfl ?_
        refine va_get (ci := 8) (v := (.int (s_4.1 1 6))) (C := RX10) (T := TX10) (N := 9) hx hb hq i_X10 hown hK hP 1 (gb_at b rfl) rfl 6 (by decide) (hq _ w_124) (fun _ h9 => h9) rfl dX10_addBytes_33 ?_
        refine lv_iconst (v := 1) hx hb dX10_addBytes_36 (by decide) ?_
        refine lv_iadd hx hb dX10_addBytes_37 ?_
        refine gb_put (ci := 8) (v := (.int ((s_4.1 1 6) + 1))) (ty := .int) (C := RX10) (T := TX10) (N := 9) hx hb hq i_X10 tyX10 tyX10_ok nmX10 hown hK hP (fun k h => ⟨Nat.le_add_right b k, Nat.add_lt_add_left h b⟩) hS rfl 1 rfl rfl 6 (by decide) (hq _ w_124) (fun _ h9 => h9) rfl (by decide +kernel) rfl rfl (Nat.le_of_ble_eq_true rfl) dX10_addBytes_38 (fun H locs hP hz_ hS => ?_)
        obtain ⟨s_5, es_5⟩ : ∃ q, q = (gb_su s_4 1 (upd (s_4.1 1) 6 ((s_4.1 1 6) + 1))) := ⟨_, rfl⟩
        replace hP : va_P D vwCl (gb_wl b (gb_CW cT b s_5)) H := by rw [es_5]; exact hP
        replace h := gb_lt_s es_5 h
        obtain ⟨x_6, ex_6⟩ : ∃ q, q = (v2 + (-8)) := ⟨_, rfl⟩
        replace h := gb_lt_s ex_6 h
        refine lv_iinc (v := x_6) (lv' := [(2, .int x_6), (0, .ref (b + 1)), (1, .int v1)]) hx hb dX10_addBytes_41 hl (k := 2) rfl (by rw [ex_6]; rfl) (by decide) rfl (fun ls hl => ?_)
        refine lv_goto (tgt := 14) hx hb dX10_addBytes_44 (by decide) ?_
        exact ih _ _ _ _ _ _ h hP hS (lv_sub hl [1, 2, 0] rfl)
  unfold cs_Told_addBytes at h
  refine lv_aload_n hx hb dX10_addBytes_0 rfl (lv_at hl 0 rfl) ?_
  refine va_get (ci := 8) (v := (.int (σ.1 1 6))) (C := RX10) (T := TX10) (N := 9) hx hb hq i_X10 hown hK hP 1 (gb_at b rfl) rfl 6 (by decide) (hq _ w_124) (fun _ h9 => h9) rfl dX10_addBytes_1 ?_
  refine lv_sipush (v := 596) hx hb dX10_addBytes_4 (by decide) ?_
  refine lv_icmp_le (tgt := 11) hx hb dX10_addBytes_7 (by decide) (fun c_1 => ?_) (fun c_1 => ?_)
  · rw [if_pos c_1] at h
    refine lv_bipush (v := 24) hx hb dX10_addBytes_11 (by decide) ?_
    refine lv_istore_n (lv' := [(2, .int 24), (0, .ref (b + 1)), (1, .int p1)]) hx hb dX10_addBytes_13 rfl hl (by decide) rfl (fun ls hl => ?_)
    exact L14_1 n _ _ _ _ _ _ h hP hS (lv_sub hl [1, 2, 0] rfl)
  · rw [if_neg c_1] at h
    obtain ⟨e1, -⟩ := gb_eq2 h
    exact W.vret hx hb hr (fun t ht hW => gb_rv ht (by rw [← e1]; exact hP) hS) hS.2.2 dX10_addBytes_10
theorem w_353 : (Cond.code ({ cls := "GooseBorder$Told", name := "addBytes", desc := "(I)V" } : MethodName) prog_12_method_2_code (3 : Nat) (Option.none : Option FieldType)) ∈ gb_wA := gb_t2 113 rfl rfl
theorem w_350 : (Cond.methodLink "GooseBorder" (78 : Nat) ({ cls := "GooseBorder$Told", name := "addBytes", desc := "(I)V" } : MethodName)) ∈ gb_wA := gb_t2 110 rfl rfl
theorem w_351 : (Cond.instanceMethod ({ cls := "GooseBorder$Told", name := "addBytes", desc := "(I)V" } : MethodName)) ∈ gb_wA := gb_t2 111 rfl rfl
theorem w_352 : (Cond.selects "GooseBorder$Told" ({ cls := "GooseBorder$Told", name := "addBytes", desc := "(I)V" } : MethodName) ({ cls := "GooseBorder$Told", name := "addBytes", desc := "(I)V" } : MethodName)) ∈ gb_wA := gb_t2 112 rfl rfl
theorem dX11_feed_23 : decode cX11_feed 23 = .ok (.aload_n 0, 1) := dc_42 (show ((cX11_feed.data.toList.drop 23).take 1).map UInt8.toNat = [42] by decide +kernel)
theorem dX11_feed_24 : decode cX11_feed 24 = .ok (.getfield 12, 3) := dc_180 (show ((cX11_feed.data.toList.drop 24).take 3).map UInt8.toNat = [180, 0, 12] by decide +kernel) rfl
theorem dX11_feed_27 : decode cX11_feed 27 = .ok (.iload_n 2, 1) := dc_28 (show ((cX11_feed.data.toList.drop 27).take 1).map UInt8.toNat = [28] by decide +kernel)
theorem dX11_feed_28 : decode cX11_feed 28 = .ok (.invokevirtual 78, 3) := dc_182 (show ((cX11_feed.data.toList.drop 28).take 3).map UInt8.toNat = [182, 0, 78] by decide +kernel) rfl
theorem dX11_feed_31 : decode cX11_feed 31 = .ok (.aload_n 0, 1) := dc_42 (show ((cX11_feed.data.toList.drop 31).take 1).map UInt8.toNat = [42] by decide +kernel)
theorem dX11_feed_32 : decode cX11_feed 32 = .ok (.getfield 12, 3) := dc_180 (show ((cX11_feed.data.toList.drop 32).take 3).map UInt8.toNat = [180, 0, 12] by decide +kernel) rfl
theorem dX11_feed_35 : decode cX11_feed 35 = .ok (.iload_n 3, 1) := dc_29 (show ((cX11_feed.data.toList.drop 35).take 1).map UInt8.toNat = [29] by decide +kernel)
theorem dX11_feed_36 : decode cX11_feed 36 = .ok (.invokevirtual 78, 3) := dc_182 (show ((cX11_feed.data.toList.drop 36).take 3).map UInt8.toNat = [182, 0, 78] by decide +kernel) rfl
theorem dX11_feed_39 : decode cX11_feed 39 = .ok (.aload_n 0, 1) := dc_42 (show ((cX11_feed.data.toList.drop 39).take 1).map UInt8.toNat = [42] by decide +kernel)
theorem dX11_feed_40 : decode cX11_feed 40 = .ok (.getfield 12, 3) := dc_180 (show ((cX11_feed.data.toList.drop 40).take 3).map UInt8.toNat = [180, 0, 12] by decide +kernel) rfl
theorem dX11_feed_43 : decode cX11_feed 43 = .ok (.iload 4, 2) := dc_21 (show ((cX11_feed.data.toList.drop 43).take 2).map UInt8.toNat = [21, 4] by decide +kernel) rfl
theorem dX11_feed_45 : decode cX11_feed 45 = .ok (.invokevirtual 78, 3) := dc_182 (show ((cX11_feed.data.toList.drop 45).take 3).map UInt8.toNat = [182, 0, 78] by decide +kernel) rfl
theorem dX11_feed_48 : decode cX11_feed 48 = .ok (.aload_n 0, 1) := dc_42 (show ((cX11_feed.data.toList.drop 48).take 1).map UInt8.toNat = [42] by decide +kernel)
theorem dX11_feed_49 : decode cX11_feed 49 = .ok (.getfield 12, 3) := dc_180 (show ((cX11_feed.data.toList.drop 49).take 3).map UInt8.toNat = [180, 0, 12] by decide +kernel) rfl
theorem dX11_feed_52 : decode cX11_feed 52 = .ok (.iload 5, 2) := dc_21 (show ((cX11_feed.data.toList.drop 52).take 2).map UInt8.toNat = [21, 5] by decide +kernel) rfl
theorem dX11_feed_54 : decode cX11_feed 54 = .ok (.invokevirtual 78, 3) := dc_182 (show ((cX11_feed.data.toList.drop 54).take 3).map UInt8.toNat = [182, 0, 78] by decide +kernel) rfl
theorem dX11_feed_57 : decode cX11_feed 57 = .ok (.aload_n 0, 1) := dc_42 (show ((cX11_feed.data.toList.drop 57).take 1).map UInt8.toNat = [42] by decide +kernel)
theorem dX11_feed_58 : decode cX11_feed 58 = .ok (.getfield 12, 3) := dc_180 (show ((cX11_feed.data.toList.drop 58).take 3).map UInt8.toNat = [180, 0, 12] by decide +kernel) rfl
theorem dX11_feed_61 : decode cX11_feed 61 = .ok (.getfield 74, 3) := dc_180 (show ((cX11_feed.data.toList.drop 61).take 3).map UInt8.toNat = [180, 0, 74] by decide +kernel) rfl
theorem dX11_feed_64 : decode cX11_feed 64 = .ok (.ireturn, 1) := dc_172 (show ((cX11_feed.data.toList.drop 64).take 1).map UInt8.toNat = [172] by decide +kernel)
theorem dX11_feed_13 : decode cX11_feed 13 = .ok (.iconst (-1), 1) := dc_2 (show ((cX11_feed.data.toList.drop 13).take 1).map UInt8.toNat = [2] by decide +kernel)
theorem dX11_feed_14 : decode cX11_feed 14 = .ok (.ireturn, 1) := dc_172 (show ((cX11_feed.data.toList.drop 14).take 1).map UInt8.toNat = [172] by decide +kernel)
def cs_Face_feed (n : Nat) (σ : gb_S) (p1 : Int32) (p2 : Int32) (p3 : Int32) (p4 : Int32) (p5 : Int32) : gb_CR Int32 := (if (σ.1 1 6) ≤ 580 then gb_cd (cs_Told_addBytes n σ p1) (fun s_2 _ => gb_cd (cs_Told_addBytes n s_2 p2) (fun s_6 _ => gb_cd (cs_Told_addBytes n s_6 p3) (fun s_10 _ => gb_cd (cs_Told_addBytes n s_10 p4) (fun s_14 _ => gb_cd (cs_Told_addBytes n s_14 p5) (fun s_18 _ => some (s_18, (s_18.1 1 6))))))) else some (σ, (-1)))
set_option maxHeartbeats 8000000 in
set_option maxRecDepth 100000 in
theorem cc_Face_feed (l : Launch) (D : va_G) (cT : Nat → ClassId) (tt : Nat → Nat) (b1 b : Nat) (hb1 : b1 ≤ b) (n : Nat) (σ : gb_S) (p1 : Int32) (p2 : Int32) (p3 : Int32) (p4 : Int32) (p5 : Int32) (σE : gb_S) (rE : Int32) (h : cs_Face_feed n σ p1 p2 p3 p4 p5 = some (σE, rE)) : Met l yX11_feed (.code yX11_feed cX11_feed 6 (some FieldType.int) :: gb_wA) ({ frames := 1, cells := 0, slots := 0, locals := 22 }) (gb_Pc D cT tt b1 [.ref (b + 0), .int p1, .int p2, .int p3, .int p4, .int p5] (fun h => va_P D vwCl (gb_wl b (gb_CW cT b σ)) h)) (gb_Qi (fun r h => r = rE ∧ va_P D vwCl (gb_wl b (gb_CW cT b σE)) h) (gb_fr b 135)) 0 0 (gb_fr b 135) := by
  refine Met.ofW (cc := cX11_feed) (maxL := 6) (ret := (some FieldType.int)) (by decide) rfl ?_
  intro p e s m args below meth c s₁ B hml hv
  obtain ⟨rfl, hSt, hP⟩ := hv
  have hx := B.exec
  have hb := B.bytes
  have hr := B.returns
  have hts := atoms_spec (ws := .code yX11_feed cX11_feed 6 (some FieldType.int) :: gb_wA) B.pre
  have hq : ∀ w ∈ gb_wA, w.before _ s = true := fun w h => hts w (List.mem_cons_of_mem _ h)
  have hown : s.vm.findClass RX11 = some m.cls := findClass_of_methodNamed B.named
  have hlocks := B.notSynchronized
  clear B hts
  have hK := hSt.1
  have hS : va_S (gb_fr b 135) s.heap s.heap [] := va_S.rf
  have hl := lv_entry ([.ref (b + 0), .int p1, .int p2, .int p3, .int p4, .int p5]) (n := 6) (Nat.le_of_ble_eq_true rfl)
  rw [lg_entry_eq]
  generalize (lg_sl ([.ref (b + 0), .int p1, .int p2, .int p3, .int p4, .int p5]) ++ List.replicate (6 - (lg_sl ([.ref (b + 0), .int p1, .int p2, .int p3, .int p4, .int p5])).length) Slot.unset).toArray = ls at hl ⊢
  replace hl : lv_has ls 6 [(0, .ref (b + 0)), (1, .int p1), (2, .int p2), (3, .int p3), (4, .int p4), (5, .int p5)] := hl
  unfold cs_Face_feed at h
  refine lv_aload_n hx hb dX11_feed_0 rfl (lv_at hl 0 rfl) ?_
  refine va_get (ci := 9) (v := (.ref (b + 1))) (C := RX11) (T := TX11) (N := 10) hx hb hq i_X11 hown hK hP 0 (gb_at b rfl) rfl 0 (by decide) (hq _ w_315) (fun _ h9 => h9) rfl dX11_feed_1 ?_
  refine va_get (ci := 8) (v := (.int (σ.1 1 6))) (C := RX10) (T := TX10) (N := 9) hx hb hq i_X10 hown hK hP 1 (gb_at b rfl) rfl 6 (by decide) (hq _ w_125) (fun _ h9 => h9) rfl dX11_feed_4 ?_
  refine lv_sipush (v := 580) hx hb dX11_feed_7 (by decide) ?_
  refine lv_icmp_le (tgt := 15) hx hb dX11_feed_10 (by decide) (fun c_1 => ?_) (fun c_1 => ?_)
  · rw [if_pos c_1] at h
    refine lv_aload_n hx hb dX11_feed_15 rfl (lv_at hl 0 rfl) ?_
    refine va_get (ci := 9) (v := (.ref (b + 1))) (C := RX11) (T := TX11) (N := 10) hx hb hq i_X11 hown hK hP 0 (gb_at b rfl) rfl 0 (by decide) (hq _ w_315) (fun _ h9 => h9) rfl dX11_feed_16 ?_
    refine lv_iload_n hx hb dX11_feed_19 rfl (lv_at hl 1 rfl) ?_
    obtain ⟨s_2, r_3, z_4, h⟩ := gb_cd_s h
    refine gb_callv (va_runV (C := RX10) (As := [.int p1]) (rest := []) ⟨hx, hb, hml, hown, hq⟩ (cc_Told_addBytes l D cT tt b1 b hb1 n σ p1 s_2 r_3 z_4) (cwV 1 hq (gb_gV w_350 w_351 w_352 w_2 w_353) rfl rfl rfl (by decide +kernel) ⟨Nat.le_of_ble_eq_true rfl, Nat.le_of_ble_eq_true rfl⟩) (gb_preV (r := (RX10, TX10, 9)) (ci := 8) (q0 := 1) hSt hP rfl (gb_at b rfl) hS (fun q h => Nat.le_trans hb1 h.1) hP) rfl rfl hl.1 rfl (lv_room (Nat.le_of_ble_eq_true rfl)) dX11_feed_20 ⟨Nat.le_of_ble_eq_true rfl, Nat.le_of_ble_eq_true rfl⟩) hS (fun _ h => h) (fun _ h => h) (fun H locs hY hk hS => ?_)
    have hP := hY
    refine lv_aload_n hx hb dX11_feed_23 rfl (lv_at hl 0 rfl) ?_
    refine va_get (ci := 9) (v := (.ref (b + 1))) (C := RX11) (T := TX11) (N := 10) hx hb hq i_X11 hown hK hP 0 (gb_at b rfl) rfl 0 (by decide) (hq _ w_315) (fun _ h9 => h9) rfl dX11_feed_24 ?_
    refine lv_iload_n hx hb dX11_feed_27 rfl (lv_at hl 2 rfl) ?_
    obtain ⟨s_6, r_7, z_8, h⟩ := gb_cd_s h
    refine gb_callv (va_runV (C := RX10) (As := [.int p2]) (rest := []) ⟨hx, hb, hml, hown, hq⟩ (cc_Told_addBytes l D cT tt b1 b hb1 n s_2 p2 s_6 r_7 z_8) (cwV 1 hq (gb_gV w_350 w_351 w_352 w_2 w_353) rfl rfl rfl (by decide +kernel) ⟨Nat.le_of_ble_eq_true rfl, Nat.le_of_ble_eq_true rfl⟩) (gb_preV (r := (RX10, TX10, 9)) (ci := 8) (q0 := 1) hSt hP rfl (gb_at b rfl) hS (fun q h => Nat.le_trans hb1 h.1) hP) rfl rfl hl.1 rfl (lv_room (Nat.le_of_ble_eq_true rfl)) dX11_feed_28 ⟨Nat.le_of_ble_eq_true rfl, Nat.le_of_ble_eq_true rfl⟩) hS (fun _ h => h) (fun _ h => h) (fun H locs hY hk hS => ?_)
    have hP := hY
    refine lv_aload_n hx hb dX11_feed_31 rfl (lv_at hl 0 rfl) ?_
    refine va_get (ci := 9) (v := (.ref (b + 1))) (C := RX11) (T := TX11) (N := 10) hx hb hq i_X11 hown hK hP 0 (gb_at b rfl) rfl 0 (by decide) (hq _ w_315) (fun _ h9 => h9) rfl dX11_feed_32 ?_
    refine lv_iload_n hx hb dX11_feed_35 rfl (lv_at hl 3 rfl) ?_
    obtain ⟨s_10, r_11, z_12, h⟩ := gb_cd_s h
    refine gb_callv (va_runV (C := RX10) (As := [.int p3]) (rest := []) ⟨hx, hb, hml, hown, hq⟩ (cc_Told_addBytes l D cT tt b1 b hb1 n s_6 p3 s_10 r_11 z_12) (cwV 1 hq (gb_gV w_350 w_351 w_352 w_2 w_353) rfl rfl rfl (by decide +kernel) ⟨Nat.le_of_ble_eq_true rfl, Nat.le_of_ble_eq_true rfl⟩) (gb_preV (r := (RX10, TX10, 9)) (ci := 8) (q0 := 1) hSt hP rfl (gb_at b rfl) hS (fun q h => Nat.le_trans hb1 h.1) hP) rfl rfl hl.1 rfl (lv_room (Nat.le_of_ble_eq_true rfl)) dX11_feed_36 ⟨Nat.le_of_ble_eq_true rfl, Nat.le_of_ble_eq_true rfl⟩) hS (fun _ h => h) (fun _ h => h) (fun H locs hY hk hS => ?_)
    have hP := hY
    refine lv_aload_n hx hb dX11_feed_39 rfl (lv_at hl 0 rfl) ?_
    refine va_get (ci := 9) (v := (.ref (b + 1))) (C := RX11) (T := TX11) (N := 10) hx hb hq i_X11 hown hK hP 0 (gb_at b rfl) rfl 0 (by decide) (hq _ w_315) (fun _ h9 => h9) rfl dX11_feed_40 ?_
    refine lv_iload hx hb dX11_feed_43 (lv_at hl 4 rfl) ?_
    obtain ⟨s_14, r_15, z_16, h⟩ := gb_cd_s h
    refine gb_callv (va_runV (C := RX10) (As := [.int p4]) (rest := []) ⟨hx, hb, hml, hown, hq⟩ (cc_Told_addBytes l D cT tt b1 b hb1 n s_10 p4 s_14 r_15 z_16) (cwV 1 hq (gb_gV w_350 w_351 w_352 w_2 w_353) rfl rfl rfl (by decide +kernel) ⟨Nat.le_of_ble_eq_true rfl, Nat.le_of_ble_eq_true rfl⟩) (gb_preV (r := (RX10, TX10, 9)) (ci := 8) (q0 := 1) hSt hP rfl (gb_at b rfl) hS (fun q h => Nat.le_trans hb1 h.1) hP) rfl rfl hl.1 rfl (lv_room (Nat.le_of_ble_eq_true rfl)) dX11_feed_45 ⟨Nat.le_of_ble_eq_true rfl, Nat.le_of_ble_eq_true rfl⟩) hS (fun _ h => h) (fun _ h => h) (fun H locs hY hk hS => ?_)
    have hP := hY
    refine lv_aload_n hx hb dX11_feed_48 rfl (lv_at hl 0 rfl) ?_
    refine va_get (ci := 9) (v := (.ref (b + 1))) (C := RX11) (T := TX11) (N := 10) hx hb hq i_X11 hown hK hP 0 (gb_at b rfl) rfl 0 (by decide) (hq _ w_315) (fun _ h9 => h9) rfl dX11_feed_49 ?_
    refine lv_iload hx hb dX11_feed_52 (lv_at hl 5 rfl) ?_
    obtain ⟨s_18, r_19, z_20, h⟩ := gb_cd_s h
    refine gb_callv (va_runV (C := RX10) (As := [.int p5]) (rest := []) ⟨hx, hb, hml, hown, hq⟩ (cc_Told_addBytes l D cT tt b1 b hb1 n s_14 p5 s_18 r_19 z_20) (cwV 1 hq (gb_gV w_350 w_351 w_352 w_2 w_353) rfl rfl rfl (by decide +kernel) ⟨Nat.le_of_ble_eq_true rfl, Nat.le_of_ble_eq_true rfl⟩) (gb_preV (r := (RX10, TX10, 9)) (ci := 8) (q0 := 1) hSt hP rfl (gb_at b rfl) hS (fun q h => Nat.le_trans hb1 h.1) hP) rfl rfl hl.1 rfl (lv_room (Nat.le_of_ble_eq_true rfl)) dX11_feed_54 ⟨Nat.le_of_ble_eq_true rfl, Nat.le_of_ble_eq_true rfl⟩) hS (fun _ h => h) (fun _ h => h) (fun H locs hY hk hS => ?_)
    have hP := hY
    refine lv_aload_n hx hb dX11_feed_57 rfl (lv_at hl 0 rfl) ?_
    refine va_get (ci := 9) (v := (.ref (b + 1))) (C := RX11) (T := TX11) (N := 10) hx hb hq i_X11 hown hK hP 0 (gb_at b rfl) rfl 0 (by decide) (hq _ w_315) (fun _ h9 => h9) rfl dX11_feed_58 ?_
    refine va_get (ci := 8) (v := (.int (s_18.1 1 6))) (C := RX10) (T := TX10) (N := 9) hx hb hq i_X10 hown hK hP 1 (gb_at b rfl) rfl 6 (by decide) (hq _ w_125) (fun _ h9 => h9) rfl dX11_feed_61 ?_
    obtain ⟨e1, e2⟩ := gb_eq2 h
    exact W.iret (v := (s_18.1 1 6)) hx hb hr (fun t ht hW => gb_ri ht ⟨e2, by rw [← e1]; exact hP⟩ hS) hS.2.2 dX11_feed_64
  · rw [if_neg c_1] at h
    refine lv_iconst (v := (-1)) hx hb dX11_feed_13 (by decide) ?_
    obtain ⟨e1, e2⟩ := gb_eq2 h
    exact W.iret (v := (-1)) hx hb hr (fun t ht hW => gb_ri ht ⟨e2, by rw [← e1]; exact hP⟩ hS) hS.2.2 dX11_feed_14
theorem dX11_end_0 : decode cX11_end 0 = .ok (.iload_n 1, 1) := dc_27 (show ((cX11_end.data.toList.drop 0).take 1).map UInt8.toNat = [27] by decide +kernel)
theorem dX11_end_1 : decode cX11_end 1 = .ok (.ifCond .lt 14, 3) := dc_155 (show ((cX11_end.data.toList.drop 1).take 3).map UInt8.toNat = [155, 0, 14] by decide +kernel) rfl
theorem dX11_end_15 : decode cX11_end 15 = .ok (.iconst (-1), 1) := dc_2 (show ((cX11_end.data.toList.drop 15).take 1).map UInt8.toNat = [2] by decide +kernel)
theorem dX11_end_16 : decode cX11_end 16 = .ok (.ireturn, 1) := dc_172 (show ((cX11_end.data.toList.drop 16).take 1).map UInt8.toNat = [172] by decide +kernel)
theorem dX11_end_4 : decode cX11_end 4 = .ok (.iload_n 1, 1) := dc_27 (show ((cX11_end.data.toList.drop 4).take 1).map UInt8.toNat = [27] by decide +kernel)
theorem dX11_end_5 : decode cX11_end 5 = .ok (.aload_n 0, 1) := dc_42 (show ((cX11_end.data.toList.drop 5).take 1).map UInt8.toNat = [42] by decide +kernel)
theorem dX11_end_6 : decode cX11_end 6 = .ok (.getfield 12, 3) := dc_180 (show ((cX11_end.data.toList.drop 6).take 3).map UInt8.toNat = [180, 0, 12] by decide +kernel) rfl
theorem dX11_end_9 : decode cX11_end 9 = .ok (.getfield 74, 3) := dc_180 (show ((cX11_end.data.toList.drop 9).take 3).map UInt8.toNat = [180, 0, 74] by decide +kernel) rfl
theorem dX11_end_12 : decode cX11_end 12 = .ok (.if_icmp .le 5, 3) := dc_164 (show ((cX11_end.data.toList.drop 12).take 3).map UInt8.toNat = [164, 0, 5] by decide +kernel) rfl
theorem dX11_end_17 : decode cX11_end 17 = .ok (.aload_n 0, 1) := dc_42 (show ((cX11_end.data.toList.drop 17).take 1).map UInt8.toNat = [42] by decide +kernel)
theorem dX11_end_18 : decode cX11_end 18 = .ok (.getfield 12, 3) := dc_180 (show ((cX11_end.data.toList.drop 18).take 3).map UInt8.toNat = [180, 0, 12] by decide +kernel) rfl
theorem dX11_end_21 : decode cX11_end 21 = .ok (.iload_n 1, 1) := dc_27 (show ((cX11_end.data.toList.drop 21).take 1).map UInt8.toNat = [27] by decide +kernel)
theorem dX11_end_22 : decode cX11_end 22 = .ok (.putfield 74, 3) := dc_181 (show ((cX11_end.data.toList.drop 22).take 3).map UInt8.toNat = [181, 0, 74] by decide +kernel) rfl
theorem dX11_end_25 : decode cX11_end 25 = .ok (.iload_n 1, 1) := dc_27 (show ((cX11_end.data.toList.drop 25).take 1).map UInt8.toNat = [27] by decide +kernel)
theorem dX11_end_26 : decode cX11_end 26 = .ok (.ireturn, 1) := dc_172 (show ((cX11_end.data.toList.drop 26).take 1).map UInt8.toNat = [172] by decide +kernel)
def cs_Face_end (n : Nat) (σ : gb_S) (p1 : Int32) : gb_CR Int32 := (if p1 < 0 then some (σ, (-1)) else (if p1 ≤ (σ.1 1 6) then gb_lt (gb_su σ 1 (upd (σ.1 1) 6 p1)) (fun s_3 => some (s_3, p1)) else some (σ, (-1))))
set_option maxHeartbeats 8000000 in
set_option maxRecDepth 100000 in
theorem cc_Face_end (l : Launch) (D : va_G) (cT : Nat → ClassId) (tt : Nat → Nat) (b1 b : Nat) (hb1 : b1 ≤ b) (n : Nat) (σ : gb_S) (p1 : Int32) (σE : gb_S) (rE : Int32) (h : cs_Face_end n σ p1 = some (σE, rE)) : Met l yX11_end (.code yX11_end cX11_end 2 (some FieldType.int) :: gb_wA) ({ frames := 0, cells := 0, slots := 0, locals := 0 }) (gb_Pc D cT tt b1 [.ref (b + 0), .int p1] (fun h => va_P D vwCl (gb_wl b (gb_CW cT b σ)) h)) (gb_Qi (fun r h => r = rE ∧ va_P D vwCl (gb_wl b (gb_CW cT b σE)) h) (gb_fr b 135)) 0 0 (gb_fr b 135) := by
  refine Met.ofW (cc := cX11_end) (maxL := 2) (ret := (some FieldType.int)) (by decide) rfl ?_
  intro p e s m args below meth c s₁ B hml hv
  obtain ⟨rfl, hSt, hP⟩ := hv
  have hx := B.exec
  have hb := B.bytes
  have hr := B.returns
  have hts := atoms_spec (ws := .code yX11_end cX11_end 2 (some FieldType.int) :: gb_wA) B.pre
  have hq : ∀ w ∈ gb_wA, w.before _ s = true := fun w h => hts w (List.mem_cons_of_mem _ h)
  have hown : s.vm.findClass RX11 = some m.cls := findClass_of_methodNamed B.named
  have hlocks := B.notSynchronized
  clear B hts
  have hK := hSt.1
  have hS : va_S (gb_fr b 135) s.heap s.heap [] := va_S.rf
  have hl := lv_entry ([.ref (b + 0), .int p1]) (n := 2) (Nat.le_of_ble_eq_true rfl)
  rw [lg_entry_eq]
  generalize (lg_sl ([.ref (b + 0), .int p1]) ++ List.replicate (2 - (lg_sl ([.ref (b + 0), .int p1])).length) Slot.unset).toArray = ls at hl ⊢
  replace hl : lv_has ls 2 [(0, .ref (b + 0)), (1, .int p1)] := hl
  unfold cs_Face_end at h
  refine lv_iload_n hx hb dX11_end_0 rfl (lv_at hl 1 rfl) ?_
  refine lv_if_lt (tgt := 15) hx hb dX11_end_1 (by decide) (fun c_1 => ?_) (fun c_1 => ?_)
  · rw [if_pos c_1] at h
    refine lv_iconst (v := (-1)) hx hb dX11_end_15 (by decide) ?_
    obtain ⟨e1, e2⟩ := gb_eq2 h
    exact W.iret (v := (-1)) hx hb hr (fun t ht hW => gb_ri ht ⟨e2, by rw [← e1]; exact hP⟩ hS) hS.2.2 dX11_end_16
  · rw [if_neg c_1] at h
    refine lv_iload_n hx hb dX11_end_4 rfl (lv_at hl 1 rfl) ?_
    refine lv_aload_n hx hb dX11_end_5 rfl (lv_at hl 0 rfl) ?_
    refine va_get (ci := 9) (v := (.ref (b + 1))) (C := RX11) (T := TX11) (N := 10) hx hb hq i_X11 hown hK hP 0 (gb_at b rfl) rfl 0 (by decide) (hq _ w_315) (fun _ h9 => h9) rfl dX11_end_6 ?_
    refine va_get (ci := 8) (v := (.int (σ.1 1 6))) (C := RX10) (T := TX10) (N := 9) hx hb hq i_X10 hown hK hP 1 (gb_at b rfl) rfl 6 (by decide) (hq _ w_125) (fun _ h9 => h9) rfl dX11_end_9 ?_
    refine lv_icmp_le (tgt := 17) hx hb dX11_end_12 (by decide) (fun c_2 => ?_) (fun c_2 => ?_)
    · rw [if_pos c_2] at h
      refine lv_aload_n hx hb dX11_end_17 rfl (lv_at hl 0 rfl) ?_
      refine va_get (ci := 9) (v := (.ref (b + 1))) (C := RX11) (T := TX11) (N := 10) hx hb hq i_X11 hown hK hP 0 (gb_at b rfl) rfl 0 (by decide) (hq _ w_315) (fun _ h9 => h9) rfl dX11_end_18 ?_
      refine lv_iload_n hx hb dX11_end_21 rfl (lv_at hl 1 rfl) ?_
      refine gb_put (ci := 8) (v := (.int p1)) (ty := .int) (C := RX10) (T := TX10) (N := 9) hx hb hq i_X10 tyX10 tyX10_ok nmX10 hown hK hP (fun k h => ⟨Nat.le_add_right b k, Nat.add_lt_add_left h b⟩) hS rfl 1 rfl rfl 6 (by decide) (hq _ w_125) (fun _ h9 => h9) rfl (by decide +kernel) rfl rfl (Nat.le_of_ble_eq_true rfl) dX11_end_22 (fun H locs hP hz_ hS => ?_)
      obtain ⟨s_3, es_3⟩ : ∃ q, q = (gb_su σ 1 (upd (σ.1 1) 6 p1)) := ⟨_, rfl⟩
      replace hP : va_P D vwCl (gb_wl b (gb_CW cT b s_3)) H := by rw [es_3]; exact hP
      replace h := gb_lt_s es_3 h
      refine lv_iload_n hx hb dX11_end_25 rfl (lv_at hl 1 rfl) ?_
      obtain ⟨e1, e2⟩ := gb_eq2 h
      exact W.iret (v := p1) hx hb hr (fun t ht hW => gb_ri ht ⟨e2, by rw [← e1]; exact hP⟩ hS) hS.2.2 dX11_end_26
    · rw [if_neg c_2] at h
      refine lv_iconst (v := (-1)) hx hb dX11_end_15 (by decide) ?_
      obtain ⟨e1, e2⟩ := gb_eq2 h
      exact W.iret (v := (-1)) hx hb hr (fun t ht hW => gb_ri ht ⟨e2, by rw [← e1]; exact hP⟩ hS) hS.2.2 dX11_end_16
theorem dX11_text_0 : decode cX11_text 0 = .ok (.aload_n 0, 1) := dc_42 (show ((cX11_text.data.toList.drop 0).take 1).map UInt8.toNat = [42] by decide +kernel)
theorem dX11_text_1 : decode cX11_text 1 = .ok (.getfield 12, 3) := dc_180 (show ((cX11_text.data.toList.drop 1).take 3).map UInt8.toNat = [180, 0, 12] by decide +kernel) rfl
theorem dX11_text_4 : decode cX11_text 4 = .ok (.getfield 74, 3) := dc_180 (show ((cX11_text.data.toList.drop 4).take 3).map UInt8.toNat = [180, 0, 74] by decide +kernel) rfl
theorem dX11_text_7 : decode cX11_text 7 = .ok (.istore_n 3, 1) := dc_62 (show ((cX11_text.data.toList.drop 7).take 1).map UInt8.toNat = [62] by decide +kernel)
theorem dX11_text_8 : decode cX11_text 8 = .ok (.aload_n 0, 1) := dc_42 (show ((cX11_text.data.toList.drop 8).take 1).map UInt8.toNat = [42] by decide +kernel)
theorem dX11_text_9 : decode cX11_text 9 = .ok (.getfield 12, 3) := dc_180 (show ((cX11_text.data.toList.drop 9).take 3).map UInt8.toNat = [180, 0, 12] by decide +kernel) rfl
theorem dX11_text_12 : decode cX11_text 12 = .ok (.iconst 0, 1) := dc_3 (show ((cX11_text.data.toList.drop 12).take 1).map UInt8.toNat = [3] by decide +kernel)
theorem dX11_text_13 : decode cX11_text 13 = .ok (.putfield 74, 3) := dc_181 (show ((cX11_text.data.toList.drop 13).take 3).map UInt8.toNat = [181, 0, 74] by decide +kernel) rfl
theorem dX11_text_16 : decode cX11_text 16 = .ok (.aload_n 0, 1) := dc_42 (show ((cX11_text.data.toList.drop 16).take 1).map UInt8.toNat = [42] by decide +kernel)
theorem dX11_text_17 : decode cX11_text 17 = .ok (.getfield 12, 3) := dc_180 (show ((cX11_text.data.toList.drop 17).take 3).map UInt8.toNat = [180, 0, 12] by decide +kernel) rfl
theorem dX11_text_20 : decode cX11_text 20 = .ok (.iconst 0, 1) := dc_3 (show ((cX11_text.data.toList.drop 20).take 1).map UInt8.toNat = [3] by decide +kernel)
theorem dX11_text_21 : decode cX11_text 21 = .ok (.putfield 82, 3) := dc_181 (show ((cX11_text.data.toList.drop 21).take 3).map UInt8.toNat = [181, 0, 82] by decide +kernel) rfl
theorem w_126 : (Cond.fieldLink "GooseBorder" (82 : Nat) "GooseBorder$Told" "fault" "I") ∈ gb_wA := gb_t1 126 rfl rfl
theorem dX11_text_24 : decode cX11_text 24 = .ok (.aload_n 0, 1) := dc_42 (show ((cX11_text.data.toList.drop 24).take 1).map UInt8.toNat = [42] by decide +kernel)
theorem dX11_text_25 : decode cX11_text 25 = .ok (.getfield 12, 3) := dc_180 (show ((cX11_text.data.toList.drop 25).take 3).map UInt8.toNat = [180, 0, 12] by decide +kernel) rfl
theorem dX11_text_28 : decode cX11_text 28 = .ok (.iconst (-1), 1) := dc_2 (show ((cX11_text.data.toList.drop 28).take 1).map UInt8.toNat = [2] by decide +kernel)
theorem dX11_text_29 : decode cX11_text 29 = .ok (.putfield 85, 3) := dc_181 (show ((cX11_text.data.toList.drop 29).take 3).map UInt8.toNat = [181, 0, 85] by decide +kernel) rfl
theorem w_129 : (Cond.fieldLink "GooseBorder" (85 : Nat) "GooseBorder$Told" "place" "I") ∈ gb_wA := gb_t1 129 rfl rfl
theorem dX11_text_32 : decode cX11_text 32 = .ok (.iload_n 1, 1) := dc_27 (show ((cX11_text.data.toList.drop 32).take 1).map UInt8.toNat = [27] by decide +kernel)
theorem dX11_text_33 : decode cX11_text 33 = .ok (.ifCond .lt 8, 3) := dc_155 (show ((cX11_text.data.toList.drop 33).take 3).map UInt8.toNat = [155, 0, 8] by decide +kernel) rfl
theorem dX11_text_41 : decode cX11_text 41 = .ok (.bipush (-2), 2) := dc_16 (show ((cX11_text.data.toList.drop 41).take 2).map UInt8.toNat = [16, 254] by decide +kernel) rfl
theorem dX11_text_43 : decode cX11_text 43 = .ok (.ireturn, 1) := dc_172 (show ((cX11_text.data.toList.drop 43).take 1).map UInt8.toNat = [172] by decide +kernel)
theorem dX11_text_36 : decode cX11_text 36 = .ok (.iload_n 1, 1) := dc_27 (show ((cX11_text.data.toList.drop 36).take 1).map UInt8.toNat = [27] by decide +kernel)
theorem dX11_text_37 : decode cX11_text 37 = .ok (.iconst 4, 1) := dc_7 (show ((cX11_text.data.toList.drop 37).take 1).map UInt8.toNat = [7] by decide +kernel)
theorem dX11_text_38 : decode cX11_text 38 = .ok (.if_icmp .lt 6, 3) := dc_161 (show ((cX11_text.data.toList.drop 38).take 3).map UInt8.toNat = [161, 0, 6] by decide +kernel) rfl
theorem dX11_text_44 : decode cX11_text 44 = .ok (.aload_n 0, 1) := dc_42 (show ((cX11_text.data.toList.drop 44).take 1).map UInt8.toNat = [42] by decide +kernel)
theorem dX11_text_45 : decode cX11_text 45 = .ok (.getfield 12, 3) := dc_180 (show ((cX11_text.data.toList.drop 45).take 3).map UInt8.toNat = [180, 0, 12] by decide +kernel) rfl
theorem dX11_text_48 : decode cX11_text 48 = .ok (.getfield 88, 3) := dc_180 (show ((cX11_text.data.toList.drop 48).take 3).map UInt8.toNat = [180, 0, 88] by decide +kernel) rfl
theorem w_121 : (Cond.fieldLink "GooseBorder" (88 : Nat) "GooseBorder$Told" "held" "[I") ∈ gb_wA := gb_t1 121 rfl rfl
theorem dX11_text_51 : decode cX11_text 51 = .ok (.iload_n 1, 1) := dc_27 (show ((cX11_text.data.toList.drop 51).take 1).map UInt8.toNat = [27] by decide +kernel)
theorem dX11_text_52 : decode cX11_text 52 = .ok (.iaload, 1) := dc_46 (show ((cX11_text.data.toList.drop 52).take 1).map UInt8.toNat = [46] by decide +kernel)
theorem dX11_text_53 : decode cX11_text 53 = .ok (.istore 4, 2) := dc_54 (show ((cX11_text.data.toList.drop 53).take 2).map UInt8.toNat = [54, 4] by decide +kernel) rfl
theorem dX11_text_55 : decode cX11_text 55 = .ok (.iload_n 2, 1) := dc_28 (show ((cX11_text.data.toList.drop 55).take 1).map UInt8.toNat = [28] by decide +kernel)
theorem dX11_text_56 : decode cX11_text 56 = .ok (.iconst (-1), 1) := dc_2 (show ((cX11_text.data.toList.drop 56).take 1).map UInt8.toNat = [2] by decide +kernel)
theorem dX11_text_57 : decode cX11_text 57 = .ok (.if_icmp .ne 7, 3) := dc_160 (show ((cX11_text.data.toList.drop 57).take 3).map UInt8.toNat = [160, 0, 7] by decide +kernel) rfl
theorem dX11_text_64 : decode cX11_text 64 = .ok (.iconst 0, 1) := dc_3 (show ((cX11_text.data.toList.drop 64).take 1).map UInt8.toNat = [3] by decide +kernel)
theorem dX11_text_65 : decode cX11_text 65 = .ok (.istore 5, 2) := dc_54 (show ((cX11_text.data.toList.drop 65).take 2).map UInt8.toNat = [54, 5] by decide +kernel) rfl
theorem dX11_text_67 : decode cX11_text 67 = .ok (.iload 5, 2) := dc_21 (show ((cX11_text.data.toList.drop 67).take 2).map UInt8.toNat = [21, 5] by decide +kernel) rfl
theorem dX11_text_69 : decode cX11_text 69 = .ok (.ifCond .eq 12, 3) := dc_153 (show ((cX11_text.data.toList.drop 69).take 3).map UInt8.toNat = [153, 0, 12] by decide +kernel) rfl
theorem dX11_text_81 : decode cX11_text 81 = .ok (.iload_n 2, 1) := dc_28 (show ((cX11_text.data.toList.drop 81).take 1).map UInt8.toNat = [28] by decide +kernel)
theorem dX11_text_82 : decode cX11_text 82 = .ok (.ifCond .lt 9, 3) := dc_155 (show ((cX11_text.data.toList.drop 82).take 3).map UInt8.toNat = [155, 0, 9] by decide +kernel) rfl
theorem dX11_text_91 : decode cX11_text 91 = .ok (.bipush (-2), 2) := dc_16 (show ((cX11_text.data.toList.drop 91).take 2).map UInt8.toNat = [16, 254] by decide +kernel) rfl
theorem dX11_text_93 : decode cX11_text 93 = .ok (.ireturn, 1) := dc_172 (show ((cX11_text.data.toList.drop 93).take 1).map UInt8.toNat = [172] by decide +kernel)
theorem dX11_text_85 : decode cX11_text 85 = .ok (.iload_n 2, 1) := dc_28 (show ((cX11_text.data.toList.drop 85).take 1).map UInt8.toNat = [28] by decide +kernel)
theorem dX11_text_86 : decode cX11_text 86 = .ok (.iload 4, 2) := dc_21 (show ((cX11_text.data.toList.drop 86).take 2).map UInt8.toNat = [21, 4] by decide +kernel) rfl
theorem dX11_text_88 : decode cX11_text 88 = .ok (.if_icmp .lt 6, 3) := dc_161 (show ((cX11_text.data.toList.drop 88).take 3).map UInt8.toNat = [161, 0, 6] by decide +kernel) rfl
theorem dX11_text_94 : decode cX11_text 94 = .ok (.aload_n 0, 1) := dc_42 (show ((cX11_text.data.toList.drop 94).take 1).map UInt8.toNat = [42] by decide +kernel)
theorem dX11_text_95 : decode cX11_text 95 = .ok (.getfield 38, 3) := dc_180 (show ((cX11_text.data.toList.drop 95).take 3).map UInt8.toNat = [180, 0, 38] by decide +kernel) rfl
theorem dX11_text_98 : decode cX11_text 98 = .ok (.iload_n 1, 1) := dc_27 (show ((cX11_text.data.toList.drop 98).take 1).map UInt8.toNat = [27] by decide +kernel)
theorem dX11_text_99 : decode cX11_text 99 = .ok (.aaload, 1) := dc_50 (show ((cX11_text.data.toList.drop 99).take 1).map UInt8.toNat = [50] by decide +kernel)
theorem dX11_text_100 : decode cX11_text 100 = .ok (.astore 6, 2) := dc_58 (show ((cX11_text.data.toList.drop 100).take 2).map UInt8.toNat = [58, 6] by decide +kernel) rfl
theorem dX11_text_102 : decode cX11_text 102 = .ok (.aload_n 0, 1) := dc_42 (show ((cX11_text.data.toList.drop 102).take 1).map UInt8.toNat = [42] by decide +kernel)
theorem dX11_text_103 : decode cX11_text 103 = .ok (.getfield 49, 3) := dc_180 (show ((cX11_text.data.toList.drop 103).take 3).map UInt8.toNat = [180, 0, 49] by decide +kernel) rfl
theorem dX11_text_106 : decode cX11_text 106 = .ok (.aload_n 0, 1) := dc_42 (show ((cX11_text.data.toList.drop 106).take 1).map UInt8.toNat = [42] by decide +kernel)
theorem dX11_text_107 : decode cX11_text 107 = .ok (.getfield 12, 3) := dc_180 (show ((cX11_text.data.toList.drop 107).take 3).map UInt8.toNat = [180, 0, 12] by decide +kernel) rfl
theorem dX11_text_110 : decode cX11_text 110 = .ok (.getfield 92, 3) := dc_180 (show ((cX11_text.data.toList.drop 110).take 3).map UInt8.toNat = [180, 0, 92] by decide +kernel) rfl
theorem w_123 : (Cond.fieldLink "GooseBorder" (92 : Nat) "GooseBorder$Told" "tape" "[B") ∈ gb_wA := gb_t1 123 rfl rfl
theorem dX11_text_113 : decode cX11_text 113 = .ok (.iload_n 3, 1) := dc_29 (show ((cX11_text.data.toList.drop 113).take 1).map UInt8.toNat = [29] by decide +kernel)
theorem dX11_text_114 : decode cX11_text 114 = .ok (.iload_n 1, 1) := dc_27 (show ((cX11_text.data.toList.drop 114).take 1).map UInt8.toNat = [27] by decide +kernel)
theorem dX11_text_115 : decode cX11_text 115 = .ok (.aload 6, 2) := dc_25 (show ((cX11_text.data.toList.drop 115).take 2).map UInt8.toNat = [25, 6] by decide +kernel) rfl
theorem dX11_text_117 : decode cX11_text 117 = .ok (.invokevirtual 96, 3) := dc_182 (show ((cX11_text.data.toList.drop 117).take 3).map UInt8.toNat = [182, 0, 96] by decide +kernel) rfl
theorem dX7_read_0 : decode cX7_read 0 = .ok (.aload_n 0, 1) := dc_42 (show ((cX7_read.data.toList.drop 0).take 1).map UInt8.toNat = [42] by decide +kernel)
theorem dX7_read_1 : decode cX7_read 1 = .ok (.aload_n 1, 1) := dc_43 (show ((cX7_read.data.toList.drop 1).take 1).map UInt8.toNat = [43] by decide +kernel)
theorem dX7_read_2 : decode cX7_read 2 = .ok (.putfield 15, 3) := dc_181 (show ((cX7_read.data.toList.drop 2).take 3).map UInt8.toNat = [181, 0, 15] by decide +kernel) rfl
theorem dX7_read_5 : decode cX7_read 5 = .ok (.aload_n 0, 1) := dc_42 (show ((cX7_read.data.toList.drop 5).take 1).map UInt8.toNat = [42] by decide +kernel)
theorem dX7_read_6 : decode cX7_read 6 = .ok (.iload_n 2, 1) := dc_28 (show ((cX7_read.data.toList.drop 6).take 1).map UInt8.toNat = [28] by decide +kernel)
theorem dX7_read_7 : decode cX7_read 7 = .ok (.aload_n 1, 1) := dc_43 (show ((cX7_read.data.toList.drop 7).take 1).map UInt8.toNat = [43] by decide +kernel)
theorem dX7_read_8 : decode cX7_read 8 = .ok (.arraylength, 1) := dc_190 (show ((cX7_read.data.toList.drop 8).take 1).map UInt8.toNat = [190] by decide +kernel)
theorem dX7_read_9 : decode cX7_read 9 = .ok (.invokestatic 19, 3) := dc_184 (show ((cX7_read.data.toList.drop 9).take 3).map UInt8.toNat = [184, 0, 19] by decide +kernel) rfl
theorem w_366 : (Cond.methodLink "GooseBorder$Reader" (19 : Nat) ({ cls := "java/lang/Math", name := "min", desc := "(II)I" } : MethodName)) ∈ gb_wA := gb_t2 126 rfl rfl
theorem dX7_read_12 : decode cX7_read 12 = .ok (.putfield 25, 3) := dc_181 (show ((cX7_read.data.toList.drop 12).take 3).map UInt8.toNat = [181, 0, 25] by decide +kernel) rfl
theorem w_169 : (Cond.fieldLink "GooseBorder$Reader" (25 : Nat) "GooseBorder$Reader" "length" "I") ∈ gb_wA := gb_t1 169 rfl rfl
theorem dX7_read_15 : decode cX7_read 15 = .ok (.aload_n 0, 1) := dc_42 (show ((cX7_read.data.toList.drop 15).take 1).map UInt8.toNat = [42] by decide +kernel)
theorem dX7_read_16 : decode cX7_read 16 = .ok (.iconst 0, 1) := dc_3 (show ((cX7_read.data.toList.drop 16).take 1).map UInt8.toNat = [3] by decide +kernel)
theorem dX7_read_17 : decode cX7_read 17 = .ok (.putfield 29, 3) := dc_181 (show ((cX7_read.data.toList.drop 17).take 3).map UInt8.toNat = [181, 0, 29] by decide +kernel) rfl
theorem w_170 : (Cond.fieldLink "GooseBorder$Reader" (29 : Nat) "GooseBorder$Reader" "at" "I") ∈ gb_wA := gb_t1 170 rfl rfl
theorem dX7_read_20 : decode cX7_read 20 = .ok (.aload_n 0, 1) := dc_42 (show ((cX7_read.data.toList.drop 20).take 1).map UInt8.toNat = [42] by decide +kernel)
theorem dX7_read_21 : decode cX7_read 21 = .ok (.iconst 0, 1) := dc_3 (show ((cX7_read.data.toList.drop 21).take 1).map UInt8.toNat = [3] by decide +kernel)
theorem dX7_read_22 : decode cX7_read 22 = .ok (.putfield 32, 3) := dc_181 (show ((cX7_read.data.toList.drop 22).take 3).map UInt8.toNat = [181, 0, 32] by decide +kernel) rfl
theorem w_171 : (Cond.fieldLink "GooseBorder$Reader" (32 : Nat) "GooseBorder$Reader" "fault" "I") ∈ gb_wA := gb_t1 171 rfl rfl
theorem dX7_read_25 : decode cX7_read 25 = .ok (.aload_n 0, 1) := dc_42 (show ((cX7_read.data.toList.drop 25).take 1).map UInt8.toNat = [42] by decide +kernel)
theorem dX7_read_26 : decode cX7_read 26 = .ok (.iconst (-1), 1) := dc_2 (show ((cX7_read.data.toList.drop 26).take 1).map UInt8.toNat = [2] by decide +kernel)
theorem dX7_read_27 : decode cX7_read 27 = .ok (.putfield 35, 3) := dc_181 (show ((cX7_read.data.toList.drop 27).take 3).map UInt8.toNat = [181, 0, 35] by decide +kernel) rfl
theorem w_173 : (Cond.fieldLink "GooseBorder$Reader" (35 : Nat) "GooseBorder$Reader" "place" "I") ∈ gb_wA := gb_t1 173 rfl rfl
theorem dX7_read_30 : decode cX7_read 30 = .ok (.aload 4, 2) := dc_25 (show ((cX7_read.data.toList.drop 30).take 2).map UInt8.toNat = [25, 4] by decide +kernel) rfl
theorem dX7_read_32 : decode cX7_read 32 = .ok (.invokevirtual 38, 3) := dc_182 (show ((cX7_read.data.toList.drop 32).take 3).map UInt8.toNat = [182, 0, 38] by decide +kernel) rfl
theorem w_374 : (Cond.code ({ cls := "GooseBorder$Border", name := "clear", desc := "()V" } : MethodName) prog_2_method_2_code (1 : Nat) (Option.none : Option FieldType)) ∈ gb_wA := gb_t2 134 rfl rfl
theorem w_369 : (Cond.methodLink "GooseBorder$Reader" (38 : Nat) ({ cls := "GooseBorder$Sheet", name := "clear", desc := "()V" } : MethodName)) ∈ gb_wA := gb_t2 129 rfl rfl
theorem w_371 : (Cond.sameMethod "GooseBorder$Sheet" "GooseBorder$Sheet" "clear" "()V") ∈ gb_wA := gb_t2 131 rfl rfl
theorem w_372 : (Cond.selects "GooseBorder$Border" ({ cls := "GooseBorder$Sheet", name := "clear", desc := "()V" } : MethodName) ({ cls := "GooseBorder$Border", name := "clear", desc := "()V" } : MethodName)) ∈ gb_wA := gb_t2 132 rfl rfl
theorem w_373 : (Cond.instanceMethod ({ cls := "GooseBorder$Border", name := "clear", desc := "()V" } : MethodName)) ∈ gb_wA := gb_t2 133 rfl rfl
theorem dX7_read_35 : decode cX7_read 35 = .ok (.aload_n 0, 1) := dc_42 (show ((cX7_read.data.toList.drop 35).take 1).map UInt8.toNat = [42] by decide +kernel)
theorem dX7_read_36 : decode cX7_read 36 = .ok (.invokevirtual 43, 3) := dc_182 (show ((cX7_read.data.toList.drop 36).take 3).map UInt8.toNat = [182, 0, 43] by decide +kernel) rfl
theorem dX7_skipBlanks_0 : decode cX7_skipBlanks 0 = .ok (.aload_n 0, 1) := dc_42 (show ((cX7_skipBlanks.data.toList.drop 0).take 1).map UInt8.toNat = [42] by decide +kernel)
theorem dX7_skipBlanks_1 : decode cX7_skipBlanks 1 = .ok (.getfield 29, 3) := dc_180 (show ((cX7_skipBlanks.data.toList.drop 1).take 3).map UInt8.toNat = [180, 0, 29] by decide +kernel) rfl
theorem dX7_skipBlanks_4 : decode cX7_skipBlanks 4 = .ok (.aload_n 0, 1) := dc_42 (show ((cX7_skipBlanks.data.toList.drop 4).take 1).map UInt8.toNat = [42] by decide +kernel)
theorem dX7_skipBlanks_5 : decode cX7_skipBlanks 5 = .ok (.getfield 25, 3) := dc_180 (show ((cX7_skipBlanks.data.toList.drop 5).take 3).map UInt8.toNat = [180, 0, 25] by decide +kernel) rfl
theorem dX7_skipBlanks_8 : decode cX7_skipBlanks 8 = .ok (.if_icmp .ge 44, 3) := dc_162 (show ((cX7_skipBlanks.data.toList.drop 8).take 3).map UInt8.toNat = [162, 0, 44] by decide +kernel) rfl
theorem dX7_skipBlanks_52 : decode cX7_skipBlanks 52 = .ok (.return_, 1) := dc_177 (show ((cX7_skipBlanks.data.toList.drop 52).take 1).map UInt8.toNat = [177] by decide +kernel)
theorem dX7_skipBlanks_11 : decode cX7_skipBlanks 11 = .ok (.aload_n 0, 1) := dc_42 (show ((cX7_skipBlanks.data.toList.drop 11).take 1).map UInt8.toNat = [42] by decide +kernel)
theorem dX7_skipBlanks_12 : decode cX7_skipBlanks 12 = .ok (.getfield 15, 3) := dc_180 (show ((cX7_skipBlanks.data.toList.drop 12).take 3).map UInt8.toNat = [180, 0, 15] by decide +kernel) rfl
theorem dX7_skipBlanks_15 : decode cX7_skipBlanks 15 = .ok (.aload_n 0, 1) := dc_42 (show ((cX7_skipBlanks.data.toList.drop 15).take 1).map UInt8.toNat = [42] by decide +kernel)
theorem dX7_skipBlanks_16 : decode cX7_skipBlanks 16 = .ok (.getfield 29, 3) := dc_180 (show ((cX7_skipBlanks.data.toList.drop 16).take 3).map UInt8.toNat = [180, 0, 29] by decide +kernel) rfl
theorem dX7_skipBlanks_19 : decode cX7_skipBlanks 19 = .ok (.baload, 1) := dc_51 (show ((cX7_skipBlanks.data.toList.drop 19).take 1).map UInt8.toNat = [51] by decide +kernel)
theorem dX7_skipBlanks_20 : decode cX7_skipBlanks 20 = .ok (.bipush 10, 2) := dc_16 (show ((cX7_skipBlanks.data.toList.drop 20).take 2).map UInt8.toNat = [16, 10] by decide +kernel) rfl
theorem dX7_skipBlanks_22 : decode cX7_skipBlanks 22 = .ok (.if_icmp .eq 17, 3) := dc_159 (show ((cX7_skipBlanks.data.toList.drop 22).take 3).map UInt8.toNat = [159, 0, 17] by decide +kernel) rfl
theorem dX7_skipBlanks_39 : decode cX7_skipBlanks 39 = .ok (.aload_n 0, 1) := dc_42 (show ((cX7_skipBlanks.data.toList.drop 39).take 1).map UInt8.toNat = [42] by decide +kernel)
theorem dX7_skipBlanks_40 : decode cX7_skipBlanks 40 = .ok (.dup, 1) := dc_89 (show ((cX7_skipBlanks.data.toList.drop 40).take 1).map UInt8.toNat = [89] by decide +kernel)
theorem dX7_skipBlanks_41 : decode cX7_skipBlanks 41 = .ok (.getfield 29, 3) := dc_180 (show ((cX7_skipBlanks.data.toList.drop 41).take 3).map UInt8.toNat = [180, 0, 29] by decide +kernel) rfl
theorem dX7_skipBlanks_44 : decode cX7_skipBlanks 44 = .ok (.iconst 1, 1) := dc_4 (show ((cX7_skipBlanks.data.toList.drop 44).take 1).map UInt8.toNat = [4] by decide +kernel)
theorem dX7_skipBlanks_45 : decode cX7_skipBlanks 45 = .ok (.iadd, 1) := dc_96 (show ((cX7_skipBlanks.data.toList.drop 45).take 1).map UInt8.toNat = [96] by decide +kernel)
theorem dX7_skipBlanks_46 : decode cX7_skipBlanks 46 = .ok (.putfield 29, 3) := dc_181 (show ((cX7_skipBlanks.data.toList.drop 46).take 3).map UInt8.toNat = [181, 0, 29] by decide +kernel) rfl
theorem dX7_skipBlanks_49 : decode cX7_skipBlanks 49 = .ok (.goto (-49), 3) := dc_167 (show ((cX7_skipBlanks.data.toList.drop 49).take 3).map UInt8.toNat = [167, 255, 207] by decide +kernel) rfl
theorem dX7_skipBlanks_25 : decode cX7_skipBlanks 25 = .ok (.aload_n 0, 1) := dc_42 (show ((cX7_skipBlanks.data.toList.drop 25).take 1).map UInt8.toNat = [42] by decide +kernel)
theorem dX7_skipBlanks_26 : decode cX7_skipBlanks 26 = .ok (.getfield 15, 3) := dc_180 (show ((cX7_skipBlanks.data.toList.drop 26).take 3).map UInt8.toNat = [180, 0, 15] by decide +kernel) rfl
theorem dX7_skipBlanks_29 : decode cX7_skipBlanks 29 = .ok (.aload_n 0, 1) := dc_42 (show ((cX7_skipBlanks.data.toList.drop 29).take 1).map UInt8.toNat = [42] by decide +kernel)
theorem dX7_skipBlanks_30 : decode cX7_skipBlanks 30 = .ok (.getfield 29, 3) := dc_180 (show ((cX7_skipBlanks.data.toList.drop 30).take 3).map UInt8.toNat = [180, 0, 29] by decide +kernel) rfl
theorem dX7_skipBlanks_33 : decode cX7_skipBlanks 33 = .ok (.baload, 1) := dc_51 (show ((cX7_skipBlanks.data.toList.drop 33).take 1).map UInt8.toNat = [51] by decide +kernel)
theorem dX7_skipBlanks_34 : decode cX7_skipBlanks 34 = .ok (.bipush 32, 2) := dc_16 (show ((cX7_skipBlanks.data.toList.drop 34).take 2).map UInt8.toNat = [16, 32] by decide +kernel) rfl
theorem dX7_skipBlanks_36 : decode cX7_skipBlanks 36 = .ok (.if_icmp .ne 16, 3) := dc_160 (show ((cX7_skipBlanks.data.toList.drop 36).take 3).map UInt8.toNat = [160, 0, 16] by decide +kernel) rfl
def cs_Reader_skipBlanks_0 (n : Nat) : Nat → gb_S → gb_CR Unit
  | 0, _ => none
  | mm + 1, σ => (if (σ.1 106 2) ≤ (σ.1 106 3) then some (σ, ()) else gb_kk (gb_kY (σ.2.1 0)) (gb_ck (σ.1 106 3) 600 (gb_lt ((σ.1 (σ.2.1 0)) (Int32.toNatClampNeg (σ.1 106 3))) (fun x_10 => (if x_10 = 10 then gb_lt (gb_su σ 106 (upd (σ.1 106) 3 ((σ.1 106 3) + 1))) (fun s_12 => cs_Reader_skipBlanks_0 n mm s_12) else gb_kk (gb_kY (σ.2.1 0)) (gb_ck (σ.1 106 3) 600 (gb_lt ((σ.1 (σ.2.1 0)) (Int32.toNatClampNeg (σ.1 106 3))) (fun x_15 => (if x_15 = 32 then gb_lt (gb_su σ 106 (upd (σ.1 106) 3 ((σ.1 106 3) + 1))) (fun s_17 => cs_Reader_skipBlanks_0 n mm s_17) else some (σ, ()))))))))))
def cs_Reader_skipBlanks (n : Nat) (σ : gb_S) : gb_CR Unit := (if (σ.1 106 2) ≤ (σ.1 106 3) then some (σ, ()) else gb_kk (gb_kY (σ.2.1 0)) (gb_ck (σ.1 106 3) 600 (gb_lt ((σ.1 (σ.2.1 0)) (Int32.toNatClampNeg (σ.1 106 3))) (fun x_4 => (if x_4 = 10 then gb_lt (gb_su σ 106 (upd (σ.1 106) 3 ((σ.1 106 3) + 1))) (fun s_6 => cs_Reader_skipBlanks_0 n n s_6) else gb_kk (gb_kY (σ.2.1 0)) (gb_ck (σ.1 106 3) 600 (gb_lt ((σ.1 (σ.2.1 0)) (Int32.toNatClampNeg (σ.1 106 3))) (fun x_20 => (if x_20 = 32 then gb_lt (gb_su σ 106 (upd (σ.1 106) 3 ((σ.1 106 3) + 1))) (fun s_22 => cs_Reader_skipBlanks_0 n n s_22) else some (σ, ()))))))))))
set_option maxHeartbeats 8000000 in
set_option maxRecDepth 100000 in
theorem cc_Reader_skipBlanks (l : Launch) (D : va_G) (cT : Nat → ClassId) (tt : Nat → Nat) (b1 b : Nat) (hb1 : b1 ≤ b) (n : Nat) (σ : gb_S) (σE : gb_S) (rE : Unit) (h : cs_Reader_skipBlanks n σ = some (σE, rE)) : Met l yX7_skipBlanks (.code yX7_skipBlanks cX7_skipBlanks 1 none :: gb_wA) ({ frames := 0, cells := 0, slots := 0, locals := 0 }) (gb_Pc D cT tt b1 [.ref (b + 106)] (fun h => va_P D vwCl (gb_wl b (gb_CW cT b σ)) h)) (gb_Qv (fun h => va_P D vwCl (gb_wl b (gb_CW cT b σE)) h) (gb_fr b 135)) 0 0 (gb_fr b 135) := by
  refine Met.ofW (cc := cX7_skipBlanks) (maxL := 1) (ret := none) (by decide) rfl ?_
  intro p e s m args below meth c s₁ B hml hv
  obtain ⟨rfl, hSt, hP⟩ := hv
  have hx := B.exec
  have hb := B.bytes
  have hr := B.returns
  have hts := atoms_spec (ws := .code yX7_skipBlanks cX7_skipBlanks 1 none :: gb_wA) B.pre
  have hq : ∀ w ∈ gb_wA, w.before _ s = true := fun w h => hts w (List.mem_cons_of_mem _ h)
  have hown : s.vm.findClass RX7 = some m.cls := findClass_of_methodNamed B.named
  have hlocks := B.notSynchronized
  clear B hts
  have hK := hSt.1
  have hS : va_S (gb_fr b 135) s.heap s.heap [] := va_S.rf
  have hl := lv_entry ([.ref (b + 106)]) (n := 1) (Nat.le_of_ble_eq_true rfl)
  rw [lg_entry_eq]
  generalize (lg_sl ([.ref (b + 106)]) ++ List.replicate (1 - (lg_sl ([.ref (b + 106)])).length) Slot.unset).toArray = ls at hl ⊢
  replace hl : lv_has ls 1 [(0, .ref (b + 106))] := hl
  have L0_1 : ∀ (mm : Nat) (σ : gb_S) (H : Heap) (locs : List Loc) (ls : Array Slot), cs_Reader_skipBlanks_0 n mm σ = some (σE, rE) → va_P D vwCl (gb_wl b (gb_CW cT b σ)) H → va_S (gb_fr b 135) s.heap H locs → lv_has ls 1 [(0, .ref (b + 106))] → W p l e (headSpec (.code yX7_skipBlanks cX7_skipBlanks 1 none :: gb_wA) ({ frames := 0, cells := 0, slots := 0, locals := 0 })).room s m ([.ref (b + 106)]).toArray below meth c H locs 0 0 (MQ below (gb_Qv (fun h => va_P D vwCl (gb_wl b (gb_CW cT b σE)) h) (gb_fr b 135)) ([.ref (b + 106)]).toArray s 0 0 (gb_fr b 135)) (F0 m 0 ls []) := by
    clear h hP hS hl ls
    intro mm
    induction mm with
    | zero =>
      intro σ H locs ls h
      cases h
    | succ mm ih =>
      intro σ H locs ls h hP hS hl
      rw [cs_Reader_skipBlanks_0] at h
      refine lv_aload_n hx hb dX7_skipBlanks_0 rfl (lv_at hl 0 rfl) ?_
      refine va_get (ci := 6) (v := (.int (σ.1 106 3))) (C := RX7) (T := TX7) (N := 6) hx hb hq i_X7 hown hK hP 106 (gb_at b rfl) rfl 3 (by decide) (hq _ w_170) (fun _ h9 => h9) rfl dX7_skipBlanks_1 ?_
      refine lv_aload_n hx hb dX7_skipBlanks_4 rfl (lv_at hl 0 rfl) ?_
      refine va_get (ci := 6) (v := (.int (σ.1 106 2))) (C := RX7) (T := TX7) (N := 6) hx hb hq i_X7 hown hK hP 106 (gb_at b rfl) rfl 2 (by decide) (hq _ w_169) (fun _ h9 => h9) rfl dX7_skipBlanks_5 ?_
      refine lv_icmp_ge (tgt := 52) hx hb dX7_skipBlanks_8 (by decide) (fun c_7 => ?_) (fun c_7 => ?_)
      · rw [if_pos c_7] at h
        obtain ⟨e1, -⟩ := gb_eq2 h
        exact W.vret hx hb hr (fun t ht hW => gb_rv ht (by rw [← e1]; exact hP) hS) hS.2.2 dX7_skipBlanks_52
      · rw [if_neg c_7] at h
        refine lv_aload_n hx hb dX7_skipBlanks_11 rfl (lv_at hl 0 rfl) ?_
        obtain ⟨z_8, h⟩ := gb_kk_s h
        refine va_get (ci := 6) (v := (.ref (b + (σ.2.1 0)))) (C := RX7) (T := TX7) (N := 6) hx hb hq i_X7 hown hK hP 106 (gb_at b rfl) rfl 1 (by decide) (hq _ w_168) (fun _ h9 => h9) rfl dX7_skipBlanks_12 ?_
        refine lv_aload_n hx hb dX7_skipBlanks_15 rfl (lv_at hl 0 rfl) ?_
        refine va_get (ci := 6) (v := (.int (σ.1 106 3))) (C := RX7) (T := TX7) (N := 6) hx hb hq i_X7 hown hK hP 106 (gb_at b rfl) rfl 3 (by decide) (hq _ w_170) (fun _ h9 => h9) rfl dX7_skipBlanks_16 ?_
        obtain ⟨z_9, h⟩ := gb_ck_s h
        refine va_bald hx hb hK hP (σ.2.1 0) 1 (gb_at b (gb_cY z_8)) rfl z_9 dX7_skipBlanks_19 ?_
        refine lv_topi (fun x_10 ex_10 => ?_)
        replace h := gb_lt_s ex_10 h
        refine lv_bipush (v := 10) hx hb dX7_skipBlanks_20 (by decide) ?_
        refine lv_icmp_eq (tgt := 39) hx hb dX7_skipBlanks_22 (by decide) (fun c_11 => ?_) (fun c_11 => ?_)
        · rw [if_pos c_11] at h
          refine lv_aload_n hx hb dX7_skipBlanks_39 rfl (lv_at hl 0 rfl) ?_
          refine lv_dup hx hb dX7_skipBlanks_40 rfl ?_
          refine va_get (ci := 6) (v := (.int (σ.1 106 3))) (C := RX7) (T := TX7) (N := 6) hx hb hq i_X7 hown hK hP 106 (gb_at b rfl) rfl 3 (by decide) (hq _ w_170) (fun _ h9 => h9) rfl dX7_skipBlanks_41 ?_
          refine lv_iconst (v := 1) hx hb dX7_skipBlanks_44 (by decide) ?_
          refine lv_iadd hx hb dX7_skipBlanks_45 ?_
          refine gb_put (ci := 6) (v := (.int ((σ.1 106 3) + 1))) (ty := .int) (C := RX7) (T := TX7) (N := 6) hx hb hq i_X7 tyX7 tyX7_ok nmX7 hown hK hP (fun k h => ⟨Nat.le_add_right b k, Nat.add_lt_add_left h b⟩) hS rfl 106 rfl rfl 3 (by decide) (hq _ w_170) (fun _ h9 => h9) rfl (by decide +kernel) rfl rfl (Nat.le_of_ble_eq_true rfl) dX7_skipBlanks_46 (fun H locs hP hz_ hS => ?_)
          obtain ⟨s_12, es_12⟩ : ∃ q, q = (gb_su σ 106 (upd (σ.1 106) 3 ((σ.1 106 3) + 1))) := ⟨_, rfl⟩
          replace hP : va_P D vwCl (gb_wl b (gb_CW cT b s_12)) H := by rw [es_12]; exact hP
          replace h := gb_lt_s es_12 h
          refine lv_goto (tgt := 0) hx hb dX7_skipBlanks_49 (by decide) ?_
          exact ih _ _ _ _ h hP hS (lv_sub hl [0] rfl)
        · rw [if_neg c_11] at h
          refine lv_aload_n hx hb dX7_skipBlanks_25 rfl (lv_at hl 0 rfl) ?_
          obtain ⟨z_13, h⟩ := gb_kk_s h
          refine va_get (ci := 6) (v := (.ref (b + (σ.2.1 0)))) (C := RX7) (T := TX7) (N := 6) hx hb hq i_X7 hown hK hP 106 (gb_at b rfl) rfl 1 (by decide) (hq _ w_168) (fun _ h9 => h9) rfl dX7_skipBlanks_26 ?_
          refine lv_aload_n hx hb dX7_skipBlanks_29 rfl (lv_at hl 0 rfl) ?_
          refine va_get (ci := 6) (v := (.int (σ.1 106 3))) (C := RX7) (T := TX7) (N := 6) hx hb hq i_X7 hown hK hP 106 (gb_at b rfl) rfl 3 (by decide) (hq _ w_170) (fun _ h9 => h9) rfl dX7_skipBlanks_30 ?_
          obtain ⟨z_14, h⟩ := gb_ck_s h
          refine va_bald hx hb hK hP (σ.2.1 0) 1 (gb_at b (gb_cY z_13)) rfl z_14 dX7_skipBlanks_33 ?_
          refine lv_topi (fun x_15 ex_15 => ?_)
          replace h := gb_lt_s ex_15 h
          refine lv_bipush (v := 32) hx hb dX7_skipBlanks_34 (by decide) ?_
          refine lv_icmp_ne (tgt := 52) hx hb dX7_skipBlanks_36 (by decide) (fun c_16 => ?_) (fun c_16 => ?_)
          · rw [if_neg c_16] at h
            obtain ⟨e1, -⟩ := gb_eq2 h
            exact W.vret hx hb hr (fun t ht hW => gb_rv ht (by rw [← e1]; exact hP) hS) hS.2.2 dX7_skipBlanks_52
          · rw [if_pos c_16] at h
            refine lv_aload_n hx hb dX7_skipBlanks_39 rfl (lv_at hl 0 rfl) ?_
            refine lv_dup hx hb dX7_skipBlanks_40 rfl ?_
            refine va_get (ci := 6) (v := (.int (σ.1 106 3))) (C := RX7) (T := TX7) (N := 6) hx hb hq i_X7 hown hK hP 106 (gb_at b rfl) rfl 3 (by decide) (hq _ w_170) (fun _ h9 => h9) rfl dX7_skipBlanks_41 ?_
            refine lv_iconst (v := 1) hx hb dX7_skipBlanks_44 (by decide) ?_
            refine lv_iadd hx hb dX7_skipBlanks_45 ?_
            refine gb_put (ci := 6) (v := (.int ((σ.1 106 3) + 1))) (ty := .int) (C := RX7) (T := TX7) (N := 6) hx hb hq i_X7 tyX7 tyX7_ok nmX7 hown hK hP (fun k h => ⟨Nat.le_add_right b k, Nat.add_lt_add_left h b⟩) hS rfl 106 rfl rfl 3 (by decide) (hq _ w_170) (fun _ h9 => h9) rfl (by decide +kernel) rfl rfl (Nat.le_of_ble_eq_true rfl) dX7_skipBlanks_46 (fun H locs hP hz_ hS => ?_)
            obtain ⟨s_17, es_17⟩ : ∃ q, q = (gb_su σ 106 (upd (σ.1 106) 3 ((σ.1 106 3) + 1))) := ⟨_, rfl⟩
            replace hP : va_P D vwCl (gb_wl b (gb_CW cT b s_17)) H := by rw [es_17]; exact hP
            replace h := gb_lt_s es_17 h
            refine lv_goto (tgt := 0) hx hb dX7_skipBlanks_49 (by decide) ?_
            exact ih _ _ _ _ h hP hS (lv_sub hl [0] rfl)
  unfold cs_Reader_skipBlanks at h
  refine lv_aload_n hx hb dX7_skipBlanks_0 rfl (lv_at hl 0 rfl) ?_
  refine va_get (ci := 6) (v := (.int (σ.1 106 3))) (C := RX7) (T := TX7) (N := 6) hx hb hq i_X7 hown hK hP 106 (gb_at b rfl) rfl 3 (by decide) (hq _ w_170) (fun _ h9 => h9) rfl dX7_skipBlanks_1 ?_
  refine lv_aload_n hx hb dX7_skipBlanks_4 rfl (lv_at hl 0 rfl) ?_
  refine va_get (ci := 6) (v := (.int (σ.1 106 2))) (C := RX7) (T := TX7) (N := 6) hx hb hq i_X7 hown hK hP 106 (gb_at b rfl) rfl 2 (by decide) (hq _ w_169) (fun _ h9 => h9) rfl dX7_skipBlanks_5 ?_
  refine lv_icmp_ge (tgt := 52) hx hb dX7_skipBlanks_8 (by decide) (fun c_1 => ?_) (fun c_1 => ?_)
  · rw [if_pos c_1] at h
    obtain ⟨e1, -⟩ := gb_eq2 h
    exact W.vret hx hb hr (fun t ht hW => gb_rv ht (by rw [← e1]; exact hP) hS) hS.2.2 dX7_skipBlanks_52
  · rw [if_neg c_1] at h
    refine lv_aload_n hx hb dX7_skipBlanks_11 rfl (lv_at hl 0 rfl) ?_
    obtain ⟨z_2, h⟩ := gb_kk_s h
    refine va_get (ci := 6) (v := (.ref (b + (σ.2.1 0)))) (C := RX7) (T := TX7) (N := 6) hx hb hq i_X7 hown hK hP 106 (gb_at b rfl) rfl 1 (by decide) (hq _ w_168) (fun _ h9 => h9) rfl dX7_skipBlanks_12 ?_
    refine lv_aload_n hx hb dX7_skipBlanks_15 rfl (lv_at hl 0 rfl) ?_
    refine va_get (ci := 6) (v := (.int (σ.1 106 3))) (C := RX7) (T := TX7) (N := 6) hx hb hq i_X7 hown hK hP 106 (gb_at b rfl) rfl 3 (by decide) (hq _ w_170) (fun _ h9 => h9) rfl dX7_skipBlanks_16 ?_
    obtain ⟨z_3, h⟩ := gb_ck_s h
    refine va_bald hx hb hK hP (σ.2.1 0) 1 (gb_at b (gb_cY z_2)) rfl z_3 dX7_skipBlanks_19 ?_
    refine lv_topi (fun x_4 ex_4 => ?_)
    replace h := gb_lt_s ex_4 h
    refine lv_bipush (v := 10) hx hb dX7_skipBlanks_20 (by decide) ?_
    refine lv_icmp_eq (tgt := 39) hx hb dX7_skipBlanks_22 (by decide) (fun c_5 => ?_) (fun c_5 => ?_)
    · rw [if_pos c_5] at h
      refine lv_aload_n hx hb dX7_skipBlanks_39 rfl (lv_at hl 0 rfl) ?_
      refine lv_dup hx hb dX7_skipBlanks_40 rfl ?_
      refine va_get (ci := 6) (v := (.int (σ.1 106 3))) (C := RX7) (T := TX7) (N := 6) hx hb hq i_X7 hown hK hP 106 (gb_at b rfl) rfl 3 (by decide) (hq _ w_170) (fun _ h9 => h9) rfl dX7_skipBlanks_41 ?_
      refine lv_iconst (v := 1) hx hb dX7_skipBlanks_44 (by decide) ?_
      refine lv_iadd hx hb dX7_skipBlanks_45 ?_
      refine gb_put (ci := 6) (v := (.int ((σ.1 106 3) + 1))) (ty := .int) (C := RX7) (T := TX7) (N := 6) hx hb hq i_X7 tyX7 tyX7_ok nmX7 hown hK hP (fun k h => ⟨Nat.le_add_right b k, Nat.add_lt_add_left h b⟩) hS rfl 106 rfl rfl 3 (by decide) (hq _ w_170) (fun _ h9 => h9) rfl (by decide +kernel) rfl rfl (Nat.le_of_ble_eq_true rfl) dX7_skipBlanks_46 (fun H locs hP hz_ hS => ?_)
      obtain ⟨s_6, es_6⟩ : ∃ q, q = (gb_su σ 106 (upd (σ.1 106) 3 ((σ.1 106 3) + 1))) := ⟨_, rfl⟩
      replace hP : va_P D vwCl (gb_wl b (gb_CW cT b s_6)) H := by rw [es_6]; exact hP
      replace h := gb_lt_s es_6 h
      refine lv_goto (tgt := 0) hx hb dX7_skipBlanks_49 (by decide) ?_
      exact L0_1 n _ _ _ _ h hP hS (lv_sub hl [0] rfl)
    · rw [if_neg c_5] at h
      refine lv_aload_n hx hb dX7_skipBlanks_25 rfl (lv_at hl 0 rfl) ?_
      obtain ⟨z_18, h⟩ := gb_kk_s h
      refine va_get (ci := 6) (v := (.ref (b + (σ.2.1 0)))) (C := RX7) (T := TX7) (N := 6) hx hb hq i_X7 hown hK hP 106 (gb_at b rfl) rfl 1 (by decide) (hq _ w_168) (fun _ h9 => h9) rfl dX7_skipBlanks_26 ?_
      refine lv_aload_n hx hb dX7_skipBlanks_29 rfl (lv_at hl 0 rfl) ?_
      refine va_get (ci := 6) (v := (.int (σ.1 106 3))) (C := RX7) (T := TX7) (N := 6) hx hb hq i_X7 hown hK hP 106 (gb_at b rfl) rfl 3 (by decide) (hq _ w_170) (fun _ h9 => h9) rfl dX7_skipBlanks_30 ?_
      obtain ⟨z_19, h⟩ := gb_ck_s h
      refine va_bald hx hb hK hP (σ.2.1 0) 1 (gb_at b (gb_cY z_18)) rfl z_19 dX7_skipBlanks_33 ?_
      refine lv_topi (fun x_20 ex_20 => ?_)
      replace h := gb_lt_s ex_20 h
      refine lv_bipush (v := 32) hx hb dX7_skipBlanks_34 (by decide) ?_
      refine lv_icmp_ne (tgt := 52) hx hb dX7_skipBlanks_36 (by decide) (fun c_21 => ?_) (fun c_21 => ?_)
      · rw [if_neg c_21] at h
        obtain ⟨e1, -⟩ := gb_eq2 h
        exact W.vret hx hb hr (fun t ht hW => gb_rv ht (by rw [← e1]; exact hP) hS) hS.2.2 dX7_skipBlanks_52
      · rw [if_pos c_21] at h
        refine lv_aload_n hx hb dX7_skipBlanks_39 rfl (lv_at hl 0 rfl) ?_
        refine lv_dup hx hb dX7_skipBlanks_40 rfl ?_
        refine va_get (ci := 6) (v := (.int (σ.1 106 3))) (C := RX7) (T := TX7) (N := 6) hx hb hq i_X7 hown hK hP 106 (gb_at b rfl) rfl 3 (by decide) (hq _ w_170) (fun _ h9 => h9) rfl dX7_skipBlanks_41 ?_
        refine lv_iconst (v := 1) hx hb dX7_skipBlanks_44 (by decide) ?_
        refine lv_iadd hx hb dX7_skipBlanks_45 ?_
        refine gb_put (ci := 6) (v := (.int ((σ.1 106 3) + 1))) (ty := .int) (C := RX7) (T := TX7) (N := 6) hx hb hq i_X7 tyX7 tyX7_ok nmX7 hown hK hP (fun k h => ⟨Nat.le_add_right b k, Nat.add_lt_add_left h b⟩) hS rfl 106 rfl rfl 3 (by decide) (hq _ w_170) (fun _ h9 => h9) rfl (by decide +kernel) rfl rfl (Nat.le_of_ble_eq_true rfl) dX7_skipBlanks_46 (fun H locs hP hz_ hS => ?_)
        obtain ⟨s_22, es_22⟩ : ∃ q, q = (gb_su σ 106 (upd (σ.1 106) 3 ((σ.1 106 3) + 1))) := ⟨_, rfl⟩
        replace hP : va_P D vwCl (gb_wl b (gb_CW cT b s_22)) H := by rw [es_22]; exact hP
        replace h := gb_lt_s es_22 h
        refine lv_goto (tgt := 0) hx hb dX7_skipBlanks_49 (by decide) ?_
        exact L0_1 n _ _ _ _ h hP hS (lv_sub hl [0] rfl)
theorem w_383 : (Cond.code ({ cls := "GooseBorder$Reader", name := "skipBlanks", desc := "()V" } : MethodName) prog_9_method_9_code (1 : Nat) (Option.none : Option FieldType)) ∈ gb_wA := gb_t2 143 rfl rfl
theorem w_380 : (Cond.methodLink "GooseBorder$Reader" (43 : Nat) ({ cls := "GooseBorder$Reader", name := "skipBlanks", desc := "()V" } : MethodName)) ∈ gb_wA := gb_t2 140 rfl rfl
theorem w_382 : (Cond.instanceMethod ({ cls := "GooseBorder$Reader", name := "skipBlanks", desc := "()V" } : MethodName)) ∈ gb_wA := gb_t2 142 rfl rfl
theorem s_1_0 : Cond.selects "GooseBorder$Reader" (⟨"GooseBorder$Reader", "skipBlanks", "()V"⟩ : MethodName) (⟨"GooseBorder$Reader", "skipBlanks", "()V"⟩ : MethodName) ∈ gb_wA := gb_s1 0 rfl rfl
theorem dX7_read_39 : decode cX7_read 39 = .ok (.iconst 0, 1) := dc_3 (show ((cX7_read.data.toList.drop 39).take 1).map UInt8.toNat = [3] by decide +kernel)
theorem dX7_read_40 : decode cX7_read 40 = .ok (.istore 5, 2) := dc_54 (show ((cX7_read.data.toList.drop 40).take 2).map UInt8.toNat = [54, 5] by decide +kernel) rfl
theorem dX7_read_42 : decode cX7_read 42 = .ok (.iload 5, 2) := dc_21 (show ((cX7_read.data.toList.drop 42).take 2).map UInt8.toNat = [21, 5] by decide +kernel) rfl
theorem dX7_read_44 : decode cX7_read 44 = .ok (.sipush 600, 3) := dc_17 (show ((cX7_read.data.toList.drop 44).take 3).map UInt8.toNat = [17, 2, 88] by decide +kernel) rfl
theorem dX7_read_47 : decode cX7_read 47 = .ok (.if_icmp .ge 48, 3) := dc_162 (show ((cX7_read.data.toList.drop 47).take 3).map UInt8.toNat = [162, 0, 48] by decide +kernel) rfl
theorem dX7_read_95 : decode cX7_read 95 = .ok (.aload_n 0, 1) := dc_42 (show ((cX7_read.data.toList.drop 95).take 1).map UInt8.toNat = [42] by decide +kernel)
theorem dX7_read_96 : decode cX7_read 96 = .ok (.getfield 32, 3) := dc_180 (show ((cX7_read.data.toList.drop 96).take 3).map UInt8.toNat = [180, 0, 32] by decide +kernel) rfl
theorem dX7_read_99 : decode cX7_read 99 = .ok (.ifCond .ne 20, 3) := dc_154 (show ((cX7_read.data.toList.drop 99).take 3).map UInt8.toNat = [154, 0, 20] by decide +kernel) rfl
theorem dX7_read_119 : decode cX7_read 119 = .ok (.return_, 1) := dc_177 (show ((cX7_read.data.toList.drop 119).take 1).map UInt8.toNat = [177] by decide +kernel)
theorem dX7_read_102 : decode cX7_read 102 = .ok (.aload 4, 2) := dc_25 (show ((cX7_read.data.toList.drop 102).take 2).map UInt8.toNat = [25, 4] by decide +kernel) rfl
theorem dX7_read_104 : decode cX7_read 104 = .ok (.invokevirtual 50, 3) := dc_182 (show ((cX7_read.data.toList.drop 104).take 3).map UInt8.toNat = [182, 0, 50] by decide +kernel) rfl
theorem w_530 : (Cond.code ({ cls := "GooseBorder$Border", name := "clashes", desc := "()Z" } : MethodName) prog_2_method_5_code (1 : Nat) (Option.some FieldType.boolean)) ∈ gb_wA := gb_t3 50 rfl rfl
theorem w_525 : (Cond.methodLink "GooseBorder$Reader" (50 : Nat) ({ cls := "GooseBorder$Sheet", name := "clashes", desc := "()Z" } : MethodName)) ∈ gb_wA := gb_t3 45 rfl rfl
theorem w_527 : (Cond.sameMethod "GooseBorder$Sheet" "GooseBorder$Sheet" "clashes" "()Z") ∈ gb_wA := gb_t3 47 rfl rfl
theorem w_528 : (Cond.selects "GooseBorder$Border" ({ cls := "GooseBorder$Sheet", name := "clashes", desc := "()Z" } : MethodName) ({ cls := "GooseBorder$Border", name := "clashes", desc := "()Z" } : MethodName)) ∈ gb_wA := gb_t3 48 rfl rfl
theorem w_529 : (Cond.instanceMethod ({ cls := "GooseBorder$Border", name := "clashes", desc := "()Z" } : MethodName)) ∈ gb_wA := gb_t3 49 rfl rfl
theorem dX7_read_107 : decode cX7_read 107 = .ok (.ifCond .eq 12, 3) := dc_153 (show ((cX7_read.data.toList.drop 107).take 3).map UInt8.toNat = [153, 0, 12] by decide +kernel) rfl
theorem dX7_read_110 : decode cX7_read 110 = .ok (.aload_n 0, 1) := dc_42 (show ((cX7_read.data.toList.drop 110).take 1).map UInt8.toNat = [42] by decide +kernel)
theorem dX7_read_111 : decode cX7_read 111 = .ok (.iconst 4, 1) := dc_7 (show ((cX7_read.data.toList.drop 111).take 1).map UInt8.toNat = [7] by decide +kernel)
theorem dX7_read_112 : decode cX7_read 112 = .ok (.aload_n 0, 1) := dc_42 (show ((cX7_read.data.toList.drop 112).take 1).map UInt8.toNat = [42] by decide +kernel)
theorem dX7_read_113 : decode cX7_read 113 = .ok (.getfield 25, 3) := dc_180 (show ((cX7_read.data.toList.drop 113).take 3).map UInt8.toNat = [180, 0, 25] by decide +kernel) rfl
theorem dX7_read_116 : decode cX7_read 116 = .ok (.invokevirtual 54, 3) := dc_182 (show ((cX7_read.data.toList.drop 116).take 3).map UInt8.toNat = [182, 0, 54] by decide +kernel) rfl
theorem dX7_note_0 : decode cX7_note 0 = .ok (.aload_n 0, 1) := dc_42 (show ((cX7_note.data.toList.drop 0).take 1).map UInt8.toNat = [42] by decide +kernel)
theorem dX7_note_1 : decode cX7_note 1 = .ok (.getfield 32, 3) := dc_180 (show ((cX7_note.data.toList.drop 1).take 3).map UInt8.toNat = [180, 0, 32] by decide +kernel) rfl
theorem dX7_note_4 : decode cX7_note 4 = .ok (.ifCond .ne 13, 3) := dc_154 (show ((cX7_note.data.toList.drop 4).take 3).map UInt8.toNat = [154, 0, 13] by decide +kernel) rfl
theorem dX7_note_17 : decode cX7_note 17 = .ok (.return_, 1) := dc_177 (show ((cX7_note.data.toList.drop 17).take 1).map UInt8.toNat = [177] by decide +kernel)
theorem dX7_note_7 : decode cX7_note 7 = .ok (.aload_n 0, 1) := dc_42 (show ((cX7_note.data.toList.drop 7).take 1).map UInt8.toNat = [42] by decide +kernel)
theorem dX7_note_8 : decode cX7_note 8 = .ok (.iload_n 1, 1) := dc_27 (show ((cX7_note.data.toList.drop 8).take 1).map UInt8.toNat = [27] by decide +kernel)
theorem dX7_note_9 : decode cX7_note 9 = .ok (.putfield 32, 3) := dc_181 (show ((cX7_note.data.toList.drop 9).take 3).map UInt8.toNat = [181, 0, 32] by decide +kernel) rfl
theorem dX7_note_12 : decode cX7_note 12 = .ok (.aload_n 0, 1) := dc_42 (show ((cX7_note.data.toList.drop 12).take 1).map UInt8.toNat = [42] by decide +kernel)
theorem dX7_note_13 : decode cX7_note 13 = .ok (.iload_n 2, 1) := dc_28 (show ((cX7_note.data.toList.drop 13).take 1).map UInt8.toNat = [28] by decide +kernel)
theorem dX7_note_14 : decode cX7_note 14 = .ok (.putfield 35, 3) := dc_181 (show ((cX7_note.data.toList.drop 14).take 3).map UInt8.toNat = [181, 0, 35] by decide +kernel) rfl
def cs_Reader_note (n : Nat) (σ : gb_S) (p1 : Int32) (p2 : Int32) : gb_CR Unit := (if (σ.1 106 4) = 0 then gb_lt (gb_su σ 106 (upd (σ.1 106) 4 p1)) (fun s_2 => gb_lt (gb_su s_2 106 (upd (s_2.1 106) 5 p2)) (fun s_3 => some (s_3, ()))) else some (σ, ()))
set_option maxHeartbeats 8000000 in
set_option maxRecDepth 100000 in
theorem cc_Reader_note (l : Launch) (D : va_G) (cT : Nat → ClassId) (tt : Nat → Nat) (b1 b : Nat) (hb1 : b1 ≤ b) (n : Nat) (σ : gb_S) (p1 : Int32) (p2 : Int32) (σE : gb_S) (rE : Unit) (h : cs_Reader_note n σ p1 p2 = some (σE, rE)) : Met l yX7_note (.code yX7_note cX7_note 3 none :: gb_wA) ({ frames := 0, cells := 0, slots := 0, locals := 0 }) (gb_Pc D cT tt b1 [.ref (b + 106), .int p1, .int p2] (fun h => va_P D vwCl (gb_wl b (gb_CW cT b σ)) h)) (gb_Qv (fun h => va_P D vwCl (gb_wl b (gb_CW cT b σE)) h) (gb_fr b 135)) 0 0 (gb_fr b 135) := by
  refine Met.ofW (cc := cX7_note) (maxL := 3) (ret := none) (by decide) rfl ?_
  intro p e s m args below meth c s₁ B hml hv
  obtain ⟨rfl, hSt, hP⟩ := hv
  have hx := B.exec
  have hb := B.bytes
  have hr := B.returns
  have hts := atoms_spec (ws := .code yX7_note cX7_note 3 none :: gb_wA) B.pre
  have hq : ∀ w ∈ gb_wA, w.before _ s = true := fun w h => hts w (List.mem_cons_of_mem _ h)
  have hown : s.vm.findClass RX7 = some m.cls := findClass_of_methodNamed B.named
  have hlocks := B.notSynchronized
  clear B hts
  have hK := hSt.1
  have hS : va_S (gb_fr b 135) s.heap s.heap [] := va_S.rf
  have hl := lv_entry ([.ref (b + 106), .int p1, .int p2]) (n := 3) (Nat.le_of_ble_eq_true rfl)
  rw [lg_entry_eq]
  generalize (lg_sl ([.ref (b + 106), .int p1, .int p2]) ++ List.replicate (3 - (lg_sl ([.ref (b + 106), .int p1, .int p2])).length) Slot.unset).toArray = ls at hl ⊢
  replace hl : lv_has ls 3 [(0, .ref (b + 106)), (1, .int p1), (2, .int p2)] := hl
  unfold cs_Reader_note at h
  refine lv_aload_n hx hb dX7_note_0 rfl (lv_at hl 0 rfl) ?_
  refine va_get (ci := 6) (v := (.int (σ.1 106 4))) (C := RX7) (T := TX7) (N := 6) hx hb hq i_X7 hown hK hP 106 (gb_at b rfl) rfl 4 (by decide) (hq _ w_171) (fun _ h9 => h9) rfl dX7_note_1 ?_
  refine lv_if_ne (tgt := 17) hx hb dX7_note_4 (by decide) (fun c_1 => ?_) (fun c_1 => ?_)
  · rw [if_neg c_1] at h
    obtain ⟨e1, -⟩ := gb_eq2 h
    exact W.vret hx hb hr (fun t ht hW => gb_rv ht (by rw [← e1]; exact hP) hS) hS.2.2 dX7_note_17
  · rw [if_pos c_1] at h
    refine lv_aload_n hx hb dX7_note_7 rfl (lv_at hl 0 rfl) ?_
    refine lv_iload_n hx hb dX7_note_8 rfl (lv_at hl 1 rfl) ?_
    refine gb_put (ci := 6) (v := (.int p1)) (ty := .int) (C := RX7) (T := TX7) (N := 6) hx hb hq i_X7 tyX7 tyX7_ok nmX7 hown hK hP (fun k h => ⟨Nat.le_add_right b k, Nat.add_lt_add_left h b⟩) hS rfl 106 rfl rfl 4 (by decide) (hq _ w_171) (fun _ h9 => h9) rfl (by decide +kernel) rfl rfl (Nat.le_of_ble_eq_true rfl) dX7_note_9 (fun H locs hP hz_ hS => ?_)
    obtain ⟨s_2, es_2⟩ : ∃ q, q = (gb_su σ 106 (upd (σ.1 106) 4 p1)) := ⟨_, rfl⟩
    replace hP : va_P D vwCl (gb_wl b (gb_CW cT b s_2)) H := by rw [es_2]; exact hP
    replace h := gb_lt_s es_2 h
    refine lv_aload_n hx hb dX7_note_12 rfl (lv_at hl 0 rfl) ?_
    refine lv_iload_n hx hb dX7_note_13 rfl (lv_at hl 2 rfl) ?_
    refine gb_put (ci := 6) (v := (.int p2)) (ty := .int) (C := RX7) (T := TX7) (N := 6) hx hb hq i_X7 tyX7 tyX7_ok nmX7 hown hK hP (fun k h => ⟨Nat.le_add_right b k, Nat.add_lt_add_left h b⟩) hS rfl 106 rfl rfl 5 (by decide) (hq _ w_173) (fun _ h9 => h9) rfl (by decide +kernel) rfl rfl (Nat.le_of_ble_eq_true rfl) dX7_note_14 (fun H locs hP hz_ hS => ?_)
    obtain ⟨s_3, es_3⟩ : ∃ q, q = (gb_su s_2 106 (upd (s_2.1 106) 5 p2)) := ⟨_, rfl⟩
    replace hP : va_P D vwCl (gb_wl b (gb_CW cT b s_3)) H := by rw [es_3]; exact hP
    replace h := gb_lt_s es_3 h
    obtain ⟨e1, -⟩ := gb_eq2 h
    exact W.vret hx hb hr (fun t ht hW => gb_rv ht (by rw [← e1]; exact hP) hS) hS.2.2 dX7_note_17
theorem w_495 : (Cond.code ({ cls := "GooseBorder$Reader", name := "note", desc := "(II)V" } : MethodName) prog_9_method_8_code (3 : Nat) (Option.none : Option FieldType)) ∈ gb_wA := gb_t3 15 rfl rfl
theorem w_492 : (Cond.methodLink "GooseBorder$Reader" (54 : Nat) ({ cls := "GooseBorder$Reader", name := "note", desc := "(II)V" } : MethodName)) ∈ gb_wA := gb_t3 12 rfl rfl
theorem w_494 : (Cond.instanceMethod ({ cls := "GooseBorder$Reader", name := "note", desc := "(II)V" } : MethodName)) ∈ gb_wA := gb_t3 14 rfl rfl
theorem s_1_4 : Cond.selects "GooseBorder$Reader" (⟨"GooseBorder$Reader", "note", "(II)V"⟩ : MethodName) (⟨"GooseBorder$Reader", "note", "(II)V"⟩ : MethodName) ∈ gb_wA := gb_s1 4 rfl rfl
theorem dX4_clashes_0 : decode cX4_clashes 0 = .ok (.iconst 0, 1) := dc_3 (show ((cX4_clashes.data.toList.drop 0).take 1).map UInt8.toNat = [3] by decide +kernel)
theorem dX4_clashes_1 : decode cX4_clashes 1 = .ok (.ireturn, 1) := dc_172 (show ((cX4_clashes.data.toList.drop 1).take 1).map UInt8.toNat = [172] by decide +kernel)
def cs_Lines_clashes_N (n : Nat) (σ : gb_S) (k0 : Nat) : gb_CR Int32 := gb_kk (gb_kN k0) (some (σ, 0))
set_option maxHeartbeats 8000000 in
set_option maxRecDepth 100000 in
theorem cc_Lines_clashes_N (l : Launch) (D : va_G) (cT : Nat → ClassId) (tt : Nat → Nat) (b1 b : Nat) (hb1 : b1 ≤ b) (n : Nat) (σ : gb_S) (k0 : Nat) (σE : gb_S) (rE : Int32) (h : cs_Lines_clashes_N n σ k0 = some (σE, rE)) : Met l yX4_clashes (.code yX4_clashes cX4_clashes 1 (some FieldType.boolean) :: gb_wA) ({ frames := 0, cells := 0, slots := 0, locals := 0 }) (gb_Pc D cT tt b1 [.ref (b + k0)] (fun h => va_P D vwCl (gb_wl b (gb_CW cT b σ)) h)) (gb_Qi (fun r h => r = rE ∧ va_P D vwCl (gb_wl b (gb_CW cT b σE)) h) (gb_fr b 135)) 0 0 (gb_fr b 135) := by
  refine Met.ofW (cc := cX4_clashes) (maxL := 1) (ret := (some FieldType.boolean)) (by decide) rfl ?_
  intro p e s m args below meth c s₁ B hml hv
  obtain ⟨rfl, hSt, hP⟩ := hv
  have hx := B.exec
  have hb := B.bytes
  have hr := B.returns
  have hts := atoms_spec (ws := .code yX4_clashes cX4_clashes 1 (some FieldType.boolean) :: gb_wA) B.pre
  have hq : ∀ w ∈ gb_wA, w.before _ s = true := fun w h => hts w (List.mem_cons_of_mem _ h)
  have hown : s.vm.findClass RX4 = some m.cls := findClass_of_methodNamed B.named
  have hlocks := B.notSynchronized
  clear B hts
  have hK := hSt.1
  have hS : va_S (gb_fr b 135) s.heap s.heap [] := va_S.rf
  have hl := lv_entry ([.ref (b + k0)]) (n := 1) (Nat.le_of_ble_eq_true rfl)
  rw [lg_entry_eq]
  generalize (lg_sl ([.ref (b + k0)]) ++ List.replicate (1 - (lg_sl ([.ref (b + k0)])).length) Slot.unset).toArray = ls at hl ⊢
  replace hl : lv_has ls 1 [(0, .ref (b + k0))] := hl
  unfold cs_Lines_clashes_N at h
  obtain ⟨z_1, h⟩ := gb_kk_s h
  refine lv_iconst (v := 0) hx hb dX4_clashes_0 (by decide) ?_
  obtain ⟨e1, e2⟩ := gb_eq2 h
  exact W.zret (v := 0) hx hb hr (by decide) (fun t ht hW => gb_ri ht ⟨e2, by rw [← e1]; exact hP⟩ hS) hS.2.2 dX4_clashes_1
theorem w_550 : (Cond.code ({ cls := "GooseBorder$Lines", name := "clashes", desc := "()Z" } : MethodName) prog_6_method_5_code (1 : Nat) (Option.some FieldType.boolean)) ∈ gb_wA := gb_t3 70 rfl rfl
theorem w_551 : (Cond.selects "GooseBorder$Night" ({ cls := "GooseBorder$Sheet", name := "clashes", desc := "()Z" } : MethodName) ({ cls := "GooseBorder$Lines", name := "clashes", desc := "()Z" } : MethodName)) ∈ gb_wA := gb_t3 71 rfl rfl
theorem w_549 : (Cond.instanceMethod ({ cls := "GooseBorder$Lines", name := "clashes", desc := "()Z" } : MethodName)) ∈ gb_wA := gb_t3 69 rfl rfl
def cs_Lines_clashes_L (n : Nat) (σ : gb_S) (k0 : Nat) : gb_CR Int32 := gb_kk (gb_kL k0) (some (σ, 0))
set_option maxHeartbeats 8000000 in
set_option maxRecDepth 100000 in
theorem cc_Lines_clashes_L (l : Launch) (D : va_G) (cT : Nat → ClassId) (tt : Nat → Nat) (b1 b : Nat) (hb1 : b1 ≤ b) (n : Nat) (σ : gb_S) (k0 : Nat) (σE : gb_S) (rE : Int32) (h : cs_Lines_clashes_L n σ k0 = some (σE, rE)) : Met l yX4_clashes (.code yX4_clashes cX4_clashes 1 (some FieldType.boolean) :: gb_wA) ({ frames := 0, cells := 0, slots := 0, locals := 0 }) (gb_Pc D cT tt b1 [.ref (b + k0)] (fun h => va_P D vwCl (gb_wl b (gb_CW cT b σ)) h)) (gb_Qi (fun r h => r = rE ∧ va_P D vwCl (gb_wl b (gb_CW cT b σE)) h) (gb_fr b 135)) 0 0 (gb_fr b 135) := by
  refine Met.ofW (cc := cX4_clashes) (maxL := 1) (ret := (some FieldType.boolean)) (by decide) rfl ?_
  intro p e s m args below meth c s₁ B hml hv
  obtain ⟨rfl, hSt, hP⟩ := hv
  have hx := B.exec
  have hb := B.bytes
  have hr := B.returns
  have hts := atoms_spec (ws := .code yX4_clashes cX4_clashes 1 (some FieldType.boolean) :: gb_wA) B.pre
  have hq : ∀ w ∈ gb_wA, w.before _ s = true := fun w h => hts w (List.mem_cons_of_mem _ h)
  have hown : s.vm.findClass RX4 = some m.cls := findClass_of_methodNamed B.named
  have hlocks := B.notSynchronized
  clear B hts
  have hK := hSt.1
  have hS : va_S (gb_fr b 135) s.heap s.heap [] := va_S.rf
  have hl := lv_entry ([.ref (b + k0)]) (n := 1) (Nat.le_of_ble_eq_true rfl)
  rw [lg_entry_eq]
  generalize (lg_sl ([.ref (b + k0)]) ++ List.replicate (1 - (lg_sl ([.ref (b + k0)])).length) Slot.unset).toArray = ls at hl ⊢
  replace hl : lv_has ls 1 [(0, .ref (b + k0))] := hl
  unfold cs_Lines_clashes_L at h
  obtain ⟨z_1, h⟩ := gb_kk_s h
  refine lv_iconst (v := 0) hx hb dX4_clashes_0 (by decide) ?_
  obtain ⟨e1, e2⟩ := gb_eq2 h
  exact W.zret (v := 0) hx hb hr (by decide) (fun t ht hW => gb_ri ht ⟨e2, by rw [← e1]; exact hP⟩ hS) hS.2.2 dX4_clashes_1
theorem w_548 : (Cond.selects "GooseBorder$Law" ({ cls := "GooseBorder$Sheet", name := "clashes", desc := "()Z" } : MethodName) ({ cls := "GooseBorder$Lines", name := "clashes", desc := "()Z" } : MethodName)) ∈ gb_wA := gb_t3 68 rfl rfl
theorem dX1_clashes_0 : decode cX1_clashes 0 = .ok (.iconst 0, 1) := dc_3 (show ((cX1_clashes.data.toList.drop 0).take 1).map UInt8.toNat = [3] by decide +kernel)
theorem dX1_clashes_1 : decode cX1_clashes 1 = .ok (.istore_n 1, 1) := dc_60 (show ((cX1_clashes.data.toList.drop 1).take 1).map UInt8.toNat = [60] by decide +kernel)
theorem dX1_clashes_2 : decode cX1_clashes 2 = .ok (.iconst 0, 1) := dc_3 (show ((cX1_clashes.data.toList.drop 2).take 1).map UInt8.toNat = [3] by decide +kernel)
theorem dX1_clashes_3 : decode cX1_clashes 3 = .ok (.istore_n 2, 1) := dc_61 (show ((cX1_clashes.data.toList.drop 3).take 1).map UInt8.toNat = [61] by decide +kernel)
theorem dX1_clashes_4 : decode cX1_clashes 4 = .ok (.iload_n 2, 1) := dc_28 (show ((cX1_clashes.data.toList.drop 4).take 1).map UInt8.toNat = [28] by decide +kernel)
theorem dX1_clashes_5 : decode cX1_clashes 5 = .ok (.aload_n 0, 1) := dc_42 (show ((cX1_clashes.data.toList.drop 5).take 1).map UInt8.toNat = [42] by decide +kernel)
theorem dX1_clashes_6 : decode cX1_clashes 6 = .ok (.invokevirtual 13, 3) := dc_182 (show ((cX1_clashes.data.toList.drop 6).take 3).map UInt8.toNat = [182, 0, 13] by decide +kernel) rfl
theorem dX4_size_0 : decode cX4_size 0 = .ok (.aload_n 0, 1) := dc_42 (show ((cX4_size.data.toList.drop 0).take 1).map UInt8.toNat = [42] by decide +kernel)
theorem dX4_size_1 : decode cX4_size 1 = .ok (.getfield 21, 3) := dc_180 (show ((cX4_size.data.toList.drop 1).take 3).map UInt8.toNat = [180, 0, 21] by decide +kernel) rfl
theorem w_53 : (Cond.sameField "GooseBorder$Lines" "GooseBorder$Sheet" "cells" "[I") ∈ gb_wA := gb_t1 53 rfl rfl
theorem w_52 : (Cond.fieldLink "GooseBorder$Lines" (21 : Nat) "GooseBorder$Lines" "cells" "[I") ∈ gb_wA := gb_t1 52 rfl rfl
theorem dX4_size_4 : decode cX4_size 4 = .ok (.iconst 0, 1) := dc_3 (show ((cX4_size.data.toList.drop 4).take 1).map UInt8.toNat = [3] by decide +kernel)
theorem dX4_size_5 : decode cX4_size 5 = .ok (.iaload, 1) := dc_46 (show ((cX4_size.data.toList.drop 5).take 1).map UInt8.toNat = [46] by decide +kernel)
theorem dX4_size_6 : decode cX4_size 6 = .ok (.ireturn, 1) := dc_172 (show ((cX4_size.data.toList.drop 6).take 1).map UInt8.toNat = [172] by decide +kernel)
def cs_Lines_size_D (n : Nat) (σ : gb_S) (k0 : Nat) : gb_CR Int32 := gb_kk (gb_kD k0) (gb_lt ((σ.1 (k0 + 1)) (Int32.toNatClampNeg 0)) (fun x_2 => some (σ, x_2)))
set_option maxHeartbeats 8000000 in
set_option maxRecDepth 100000 in
theorem cc_Lines_size_D (l : Launch) (D : va_G) (cT : Nat → ClassId) (tt : Nat → Nat) (b1 b : Nat) (hb1 : b1 ≤ b) (n : Nat) (σ : gb_S) (k0 : Nat) (σE : gb_S) (rE : Int32) (h : cs_Lines_size_D n σ k0 = some (σE, rE)) : Met l yX4_size (.code yX4_size cX4_size 1 (some FieldType.int) :: gb_wA) ({ frames := 0, cells := 0, slots := 0, locals := 0 }) (gb_Pc D cT tt b1 [.ref (b + k0)] (fun h => va_P D vwCl (gb_wl b (gb_CW cT b σ)) h)) (gb_Qi (fun r h => r = rE ∧ va_P D vwCl (gb_wl b (gb_CW cT b σE)) h) (gb_fr b 135)) 0 0 (gb_fr b 135) := by
  refine Met.ofW (cc := cX4_size) (maxL := 1) (ret := (some FieldType.int)) (by decide) rfl ?_
  intro p e s m args below meth c s₁ B hml hv
  obtain ⟨rfl, hSt, hP⟩ := hv
  have hx := B.exec
  have hb := B.bytes
  have hr := B.returns
  have hts := atoms_spec (ws := .code yX4_size cX4_size 1 (some FieldType.int) :: gb_wA) B.pre
  have hq : ∀ w ∈ gb_wA, w.before _ s = true := fun w h => hts w (List.mem_cons_of_mem _ h)
  have hown : s.vm.findClass RX4 = some m.cls := findClass_of_methodNamed B.named
  have hlocks := B.notSynchronized
  clear B hts
  have hK := hSt.1
  have hS : va_S (gb_fr b 135) s.heap s.heap [] := va_S.rf
  have hl := lv_entry ([.ref (b + k0)]) (n := 1) (Nat.le_of_ble_eq_true rfl)
  rw [lg_entry_eq]
  generalize (lg_sl ([.ref (b + k0)]) ++ List.replicate (1 - (lg_sl ([.ref (b + k0)])).length) Slot.unset).toArray = ls at hl ⊢
  replace hl : lv_has ls 1 [(0, .ref (b + k0))] := hl
  unfold cs_Lines_size_D at h
  obtain ⟨z_1, h⟩ := gb_kk_s h
  refine lv_aload_n hx hb dX4_size_0 rfl (lv_at hl 0 rfl) ?_
  refine va_get (ci := 1) (v := (.ref (b + (k0 + 1)))) (C := RX1) (T := TX1) (N := 4) hx hb hq i_X1 hown hK hP k0 (gb_at b (gb_cD z_1).1) rfl 3 (by decide) (hq _ w_52) (fun x9 h9 => u_same (hq _ w_53) x9 h9) rfl dX4_size_1 ?_
  refine lv_iconst (v := 0) hx hb dX4_size_4 (by decide) ?_
  refine va_iald hx hb hK hP (k0 + 1) 0 (gb_at b (gb_cD z_1).2) rfl (gb_in rfl) dX4_size_5 ?_
  refine lv_topi (fun x_2 ex_2 => ?_)
  replace h := gb_lt_s ex_2 h
  obtain ⟨e1, e2⟩ := gb_eq2 h
  exact W.iret (v := x_2) hx hb hr (fun t ht hW => gb_ri ht ⟨e2, by rw [← e1]; exact hP⟩ hS) hS.2.2 dX4_size_6
theorem w_489 : (Cond.code ({ cls := "GooseBorder$Lines", name := "size", desc := "()I" } : MethodName) prog_6_method_6_code (1 : Nat) (Option.some FieldType.int)) ∈ gb_wA := gb_t3 9 rfl rfl
theorem w_534 : (Cond.methodLink "GooseBorder$Dawn" (13 : Nat) ({ cls := "GooseBorder$Dawn", name := "size", desc := "()I" } : MethodName)) ∈ gb_wA := gb_t3 54 rfl rfl
theorem w_535 : (Cond.sameMethod "GooseBorder$Dawn" "GooseBorder$Lines" "size" "()I") ∈ gb_wA := gb_t3 55 rfl rfl
theorem w_537 : (Cond.selects "GooseBorder$Dawn" ({ cls := "GooseBorder$Dawn", name := "size", desc := "()I" } : MethodName) ({ cls := "GooseBorder$Lines", name := "size", desc := "()I" } : MethodName)) ∈ gb_wA := gb_t3 57 rfl rfl
theorem w_484 : (Cond.instanceMethod ({ cls := "GooseBorder$Lines", name := "size", desc := "()I" } : MethodName)) ∈ gb_wA := gb_t3 4 rfl rfl
theorem dX1_clashes_9 : decode cX1_clashes 9 = .ok (.if_icmp .ge 29, 3) := dc_162 (show ((cX1_clashes.data.toList.drop 9).take 3).map UInt8.toNat = [162, 0, 29] by decide +kernel) rfl
theorem dX1_clashes_38 : decode cX1_clashes 38 = .ok (.iconst 0, 1) := dc_3 (show ((cX1_clashes.data.toList.drop 38).take 1).map UInt8.toNat = [3] by decide +kernel)
theorem dX1_clashes_39 : decode cX1_clashes 39 = .ok (.ireturn, 1) := dc_172 (show ((cX1_clashes.data.toList.drop 39).take 1).map UInt8.toNat = [172] by decide +kernel)
theorem dX1_clashes_12 : decode cX1_clashes 12 = .ok (.iconst 1, 1) := dc_4 (show ((cX1_clashes.data.toList.drop 12).take 1).map UInt8.toNat = [4] by decide +kernel)
theorem dX1_clashes_13 : decode cX1_clashes 13 = .ok (.aload_n 0, 1) := dc_42 (show ((cX1_clashes.data.toList.drop 13).take 1).map UInt8.toNat = [42] by decide +kernel)
theorem dX1_clashes_14 : decode cX1_clashes 14 = .ok (.iload_n 2, 1) := dc_28 (show ((cX1_clashes.data.toList.drop 14).take 1).map UInt8.toNat = [28] by decide +kernel)
theorem dX1_clashes_15 : decode cX1_clashes 15 = .ok (.invokevirtual 19, 3) := dc_182 (show ((cX1_clashes.data.toList.drop 15).take 3).map UInt8.toNat = [182, 0, 19] by decide +kernel) rfl
theorem dX1_pathSeen_0 : decode cX1_pathSeen 0 = .ok (.aload_n 0, 1) := dc_42 (show ((cX1_pathSeen.data.toList.drop 0).take 1).map UInt8.toNat = [42] by decide +kernel)
theorem dX1_pathSeen_1 : decode cX1_pathSeen 1 = .ok (.iload_n 1, 1) := dc_27 (show ((cX1_pathSeen.data.toList.drop 1).take 1).map UInt8.toNat = [27] by decide +kernel)
theorem dX1_pathSeen_2 : decode cX1_pathSeen 2 = .ok (.iconst 1, 1) := dc_4 (show ((cX1_pathSeen.data.toList.drop 2).take 1).map UInt8.toNat = [4] by decide +kernel)
theorem dX1_pathSeen_3 : decode cX1_pathSeen 3 = .ok (.invokevirtual 23, 3) := dc_182 (show ((cX1_pathSeen.data.toList.drop 3).take 3).map UInt8.toNat = [182, 0, 23] by decide +kernel) rfl
theorem dX4_cell_0 : decode cX4_cell 0 = .ok (.aload_n 0, 1) := dc_42 (show ((cX4_cell.data.toList.drop 0).take 1).map UInt8.toNat = [42] by decide +kernel)
theorem dX4_cell_1 : decode cX4_cell 1 = .ok (.getfield 21, 3) := dc_180 (show ((cX4_cell.data.toList.drop 1).take 3).map UInt8.toNat = [180, 0, 21] by decide +kernel) rfl
theorem dX4_cell_4 : decode cX4_cell 4 = .ok (.iconst 1, 1) := dc_4 (show ((cX4_cell.data.toList.drop 4).take 1).map UInt8.toNat = [4] by decide +kernel)
theorem dX4_cell_5 : decode cX4_cell 5 = .ok (.iload_n 1, 1) := dc_27 (show ((cX4_cell.data.toList.drop 5).take 1).map UInt8.toNat = [27] by decide +kernel)
theorem dX4_cell_6 : decode cX4_cell 6 = .ok (.aload_n 0, 1) := dc_42 (show ((cX4_cell.data.toList.drop 6).take 1).map UInt8.toNat = [42] by decide +kernel)
theorem dX4_cell_7 : decode cX4_cell 7 = .ok (.getfield 15, 3) := dc_180 (show ((cX4_cell.data.toList.drop 7).take 3).map UInt8.toNat = [180, 0, 15] by decide +kernel) rfl
theorem dX4_cell_10 : decode cX4_cell 10 = .ok (.iconst 1, 1) := dc_4 (show ((cX4_cell.data.toList.drop 10).take 1).map UInt8.toNat = [4] by decide +kernel)
theorem dX4_cell_11 : decode cX4_cell 11 = .ok (.iadd, 1) := dc_96 (show ((cX4_cell.data.toList.drop 11).take 1).map UInt8.toNat = [96] by decide +kernel)
theorem dX4_cell_12 : decode cX4_cell 12 = .ok (.imul, 1) := dc_104 (show ((cX4_cell.data.toList.drop 12).take 1).map UInt8.toNat = [104] by decide +kernel)
theorem dX4_cell_13 : decode cX4_cell 13 = .ok (.iadd, 1) := dc_96 (show ((cX4_cell.data.toList.drop 13).take 1).map UInt8.toNat = [96] by decide +kernel)
theorem dX4_cell_14 : decode cX4_cell 14 = .ok (.iload_n 2, 1) := dc_28 (show ((cX4_cell.data.toList.drop 14).take 1).map UInt8.toNat = [28] by decide +kernel)
theorem dX4_cell_15 : decode cX4_cell 15 = .ok (.iadd, 1) := dc_96 (show ((cX4_cell.data.toList.drop 15).take 1).map UInt8.toNat = [96] by decide +kernel)
theorem dX4_cell_16 : decode cX4_cell 16 = .ok (.iaload, 1) := dc_46 (show ((cX4_cell.data.toList.drop 16).take 1).map UInt8.toNat = [46] by decide +kernel)
theorem dX4_cell_17 : decode cX4_cell 17 = .ok (.ireturn, 1) := dc_172 (show ((cX4_cell.data.toList.drop 17).take 1).map UInt8.toNat = [172] by decide +kernel)
def cs_Lines_cell_D (n : Nat) (σ : gb_S) (k0 : Nat) (p1 : Int32) (p2 : Int32) : gb_CR Int32 := gb_kk (gb_kD k0) (gb_ck (((1 : Int32) + (p1 * ((2 : Int32) + 1))) + p2) 16 (gb_lt ((σ.1 (k0 + 1)) (Int32.toNatClampNeg (((1 : Int32) + (p1 * ((2 : Int32) + 1))) + p2))) (fun x_3 => some (σ, x_3))))
set_option maxHeartbeats 8000000 in
set_option maxRecDepth 100000 in
theorem cc_Lines_cell_D (l : Launch) (D : va_G) (cT : Nat → ClassId) (tt : Nat → Nat) (b1 b : Nat) (hb1 : b1 ≤ b) (n : Nat) (σ : gb_S) (k0 : Nat) (p1 : Int32) (p2 : Int32) (σE : gb_S) (rE : Int32) (h : cs_Lines_cell_D n σ k0 p1 p2 = some (σE, rE)) : Met l yX4_cell (.code yX4_cell cX4_cell 3 (some FieldType.int) :: gb_wA) ({ frames := 0, cells := 0, slots := 0, locals := 0 }) (gb_Pc D cT tt b1 [.ref (b + k0), .int p1, .int p2] (fun h => va_P D vwCl (gb_wl b (gb_CW cT b σ)) h)) (gb_Qi (fun r h => r = rE ∧ va_P D vwCl (gb_wl b (gb_CW cT b σE)) h) (gb_fr b 135)) 0 0 (gb_fr b 135) := by
  refine Met.ofW (cc := cX4_cell) (maxL := 3) (ret := (some FieldType.int)) (by decide) rfl ?_
  intro p e s m args below meth c s₁ B hml hv
  obtain ⟨rfl, hSt, hP⟩ := hv
  have hx := B.exec
  have hb := B.bytes
  have hr := B.returns
  have hts := atoms_spec (ws := .code yX4_cell cX4_cell 3 (some FieldType.int) :: gb_wA) B.pre
  have hq : ∀ w ∈ gb_wA, w.before _ s = true := fun w h => hts w (List.mem_cons_of_mem _ h)
  have hown : s.vm.findClass RX4 = some m.cls := findClass_of_methodNamed B.named
  have hlocks := B.notSynchronized
  clear B hts
  have hK := hSt.1
  have hS : va_S (gb_fr b 135) s.heap s.heap [] := va_S.rf
  have hl := lv_entry ([.ref (b + k0), .int p1, .int p2]) (n := 3) (Nat.le_of_ble_eq_true rfl)
  rw [lg_entry_eq]
  generalize (lg_sl ([.ref (b + k0), .int p1, .int p2]) ++ List.replicate (3 - (lg_sl ([.ref (b + k0), .int p1, .int p2])).length) Slot.unset).toArray = ls at hl ⊢
  replace hl : lv_has ls 3 [(0, .ref (b + k0)), (1, .int p1), (2, .int p2)] := hl
  unfold cs_Lines_cell_D at h
  obtain ⟨z_1, h⟩ := gb_kk_s h
  refine lv_aload_n hx hb dX4_cell_0 rfl (lv_at hl 0 rfl) ?_
  refine va_get (ci := 1) (v := (.ref (b + (k0 + 1)))) (C := RX1) (T := TX1) (N := 4) hx hb hq i_X1 hown hK hP k0 (gb_at b (gb_cD z_1).1) rfl 3 (by decide) (hq _ w_52) (fun x9 h9 => u_same (hq _ w_53) x9 h9) rfl dX4_cell_1 ?_
  refine lv_iconst (v := 1) hx hb dX4_cell_4 (by decide) ?_
  refine lv_iload_n hx hb dX4_cell_5 rfl (lv_at hl 1 rfl) ?_
  refine lv_aload_n hx hb dX4_cell_6 rfl (lv_at hl 0 rfl) ?_
  refine va_get (ci := 1) (v := (.int 2)) (C := RX1) (T := TX1) (N := 4) hx hb hq i_X1 hown hK hP k0 (gb_at b (gb_cD z_1).1) rfl 1 (by decide) (hq _ w_73) (fun _ h9 => h9) rfl dX4_cell_7 ?_
  refine lv_iconst (v := 1) hx hb dX4_cell_10 (by decide) ?_
  refine lv_iadd hx hb dX4_cell_11 ?_
  refine lv_imul hx hb dX4_cell_12 ?_
  refine lv_iadd hx hb dX4_cell_13 ?_
  refine lv_iload_n hx hb dX4_cell_14 rfl (lv_at hl 2 rfl) ?_
  refine lv_iadd hx hb dX4_cell_15 ?_
  obtain ⟨z_2, h⟩ := gb_ck_s h
  refine va_iald hx hb hK hP (k0 + 1) 0 (gb_at b (gb_cD z_1).2) rfl z_2 dX4_cell_16 ?_
  refine lv_topi (fun x_3 ex_3 => ?_)
  replace h := gb_lt_s ex_3 h
  obtain ⟨e1, e2⟩ := gb_eq2 h
  exact W.iret (v := x_3) hx hb hr (fun t ht hW => gb_ri ht ⟨e2, by rw [← e1]; exact hP⟩ hS) hS.2.2 dX4_cell_17
theorem w_547 : (Cond.code ({ cls := "GooseBorder$Lines", name := "cell", desc := "(II)I" } : MethodName) prog_6_method_8_code (3 : Nat) (Option.some FieldType.int)) ∈ gb_wA := gb_t3 67 rfl rfl
theorem w_542 : (Cond.methodLink "GooseBorder$Dawn" (23 : Nat) ({ cls := "GooseBorder$Dawn", name := "cell", desc := "(II)I" } : MethodName)) ∈ gb_wA := gb_t3 62 rfl rfl
theorem w_543 : (Cond.sameMethod "GooseBorder$Dawn" "GooseBorder$Lines" "cell" "(II)I") ∈ gb_wA := gb_t3 63 rfl rfl
theorem w_545 : (Cond.selects "GooseBorder$Dawn" ({ cls := "GooseBorder$Dawn", name := "cell", desc := "(II)I" } : MethodName) ({ cls := "GooseBorder$Lines", name := "cell", desc := "(II)I" } : MethodName)) ∈ gb_wA := gb_t3 65 rfl rfl
theorem w_546 : (Cond.instanceMethod ({ cls := "GooseBorder$Lines", name := "cell", desc := "(II)I" } : MethodName)) ∈ gb_wA := gb_t3 66 rfl rfl
theorem dX1_pathSeen_6 : decode cX1_pathSeen 6 = .ok (.ireturn, 1) := dc_172 (show ((cX1_pathSeen.data.toList.drop 6).take 1).map UInt8.toNat = [172] by decide +kernel)
def cs_Dawn_pathSeen_D (n : Nat) (σ : gb_S) (k0 : Nat) (p1 : Int32) : gb_CR Int32 := gb_kk (gb_kD k0) (gb_cd (cs_Lines_cell_D n σ k0 p1 1) (fun s_2 r_3 => some (s_2, r_3)))
set_option maxHeartbeats 8000000 in
set_option maxRecDepth 100000 in
theorem cc_Dawn_pathSeen_D (l : Launch) (D : va_G) (cT : Nat → ClassId) (tt : Nat → Nat) (b1 b : Nat) (hb1 : b1 ≤ b) (n : Nat) (σ : gb_S) (k0 : Nat) (p1 : Int32) (σE : gb_S) (rE : Int32) (h : cs_Dawn_pathSeen_D n σ k0 p1 = some (σE, rE)) : Met l yX1_pathSeen (.code yX1_pathSeen cX1_pathSeen 2 (some FieldType.int) :: gb_wA) ({ frames := 1, cells := 0, slots := 0, locals := 22 }) (gb_Pc D cT tt b1 [.ref (b + k0), .int p1] (fun h => va_P D vwCl (gb_wl b (gb_CW cT b σ)) h)) (gb_Qi (fun r h => r = rE ∧ va_P D vwCl (gb_wl b (gb_CW cT b σE)) h) (gb_fr b 135)) 0 0 (gb_fr b 135) := by
  refine Met.ofW (cc := cX1_pathSeen) (maxL := 2) (ret := (some FieldType.int)) (by decide) rfl ?_
  intro p e s m args below meth c s₁ B hml hv
  obtain ⟨rfl, hSt, hP⟩ := hv
  have hx := B.exec
  have hb := B.bytes
  have hr := B.returns
  have hts := atoms_spec (ws := .code yX1_pathSeen cX1_pathSeen 2 (some FieldType.int) :: gb_wA) B.pre
  have hq : ∀ w ∈ gb_wA, w.before _ s = true := fun w h => hts w (List.mem_cons_of_mem _ h)
  have hown : s.vm.findClass RX1 = some m.cls := findClass_of_methodNamed B.named
  have hlocks := B.notSynchronized
  clear B hts
  have hK := hSt.1
  have hS : va_S (gb_fr b 135) s.heap s.heap [] := va_S.rf
  have hl := lv_entry ([.ref (b + k0), .int p1]) (n := 2) (Nat.le_of_ble_eq_true rfl)
  rw [lg_entry_eq]
  generalize (lg_sl ([.ref (b + k0), .int p1]) ++ List.replicate (2 - (lg_sl ([.ref (b + k0), .int p1])).length) Slot.unset).toArray = ls at hl ⊢
  replace hl : lv_has ls 2 [(0, .ref (b + k0)), (1, .int p1)] := hl
  unfold cs_Dawn_pathSeen_D at h
  obtain ⟨z_1, h⟩ := gb_kk_s h
  refine lv_aload_n hx hb dX1_pathSeen_0 rfl (lv_at hl 0 rfl) ?_
  refine lv_iload_n hx hb dX1_pathSeen_1 rfl (lv_at hl 1 rfl) ?_
  refine lv_iconst (v := 1) hx hb dX1_pathSeen_2 (by decide) ?_
  obtain ⟨s_2, r_3, z_4, h⟩ := gb_cd_s h
  refine gb_calli (va_runU (x := ⟨"GooseBorder$Dawn", "cell", "(II)I"⟩) (C := RX1) (owner := "GooseBorder$Lines") (As := [.int p1, .int 1]) (rest := []) ⟨hx, hb, hml, hown, hq⟩ (cc_Lines_cell_D l D cT tt b1 b hb1 n σ k0 p1 1 s_2 r_3 z_4) (va_cwU (owner := "GooseBorder$Lines") (C := RX1) 2 hq (gb_gU w_542 w_543 w_545 w_546 w_6 w_547) rfl rfl rfl rfl (by decide +kernel) ⟨Nat.le_of_ble_eq_true rfl, Nat.le_of_ble_eq_true rfl⟩) (gb_preV (r := (RX1, TX1, 4)) (ci := 1) (q0 := k0) hSt hP rfl (gb_at b (gb_cD z_1).1) hS (fun q h => Nat.le_trans hb1 h.1) hP) rfl rfl hl.1 rfl (lv_room (Nat.le_of_ble_eq_true rfl)) dX1_pathSeen_3 ⟨Nat.le_of_ble_eq_true rfl, Nat.le_of_ble_eq_true rfl⟩) hS (fun _ h => h) (fun _ h => h) (fun q_5 H locs hY hk hS => ?_)
  obtain ⟨hq_5, hP⟩ := hY
  replace hq_5 := hq_5.symm
  subst hq_5
  obtain ⟨e1, e2⟩ := gb_eq2 h
  exact W.iret (v := r_3) hx hb hr (fun t ht hW => gb_ri ht ⟨e2, by rw [← e1]; exact hP⟩ hS) hS.2.2 dX1_pathSeen_6
theorem w_541 : (Cond.code ({ cls := "GooseBorder$Dawn", name := "pathSeen", desc := "(I)I" } : MethodName) prog_3_method_3_code (2 : Nat) (Option.some FieldType.int)) ∈ gb_wA := gb_t3 61 rfl rfl
theorem w_538 : (Cond.methodLink "GooseBorder$Dawn" (19 : Nat) ({ cls := "GooseBorder$Dawn", name := "pathSeen", desc := "(I)I" } : MethodName)) ∈ gb_wA := gb_t3 58 rfl rfl
theorem w_539 : (Cond.instanceMethod ({ cls := "GooseBorder$Dawn", name := "pathSeen", desc := "(I)I" } : MethodName)) ∈ gb_wA := gb_t3 59 rfl rfl
theorem w_540 : (Cond.selects "GooseBorder$Dawn" ({ cls := "GooseBorder$Dawn", name := "pathSeen", desc := "(I)I" } : MethodName) ({ cls := "GooseBorder$Dawn", name := "pathSeen", desc := "(I)I" } : MethodName)) ∈ gb_wA := gb_t3 60 rfl rfl
theorem dX1_clashes_18 : decode cX1_clashes 18 = .ok (.ishl, 1) := dc_120 (show ((cX1_clashes.data.toList.drop 18).take 1).map UInt8.toNat = [120] by decide +kernel)
theorem dX1_clashes_19 : decode cX1_clashes 19 = .ok (.istore_n 3, 1) := dc_62 (show ((cX1_clashes.data.toList.drop 19).take 1).map UInt8.toNat = [62] by decide +kernel)
theorem dX1_clashes_20 : decode cX1_clashes 20 = .ok (.iload_n 1, 1) := dc_27 (show ((cX1_clashes.data.toList.drop 20).take 1).map UInt8.toNat = [27] by decide +kernel)
theorem dX1_clashes_21 : decode cX1_clashes 21 = .ok (.iload_n 3, 1) := dc_29 (show ((cX1_clashes.data.toList.drop 21).take 1).map UInt8.toNat = [29] by decide +kernel)
theorem dX1_clashes_22 : decode cX1_clashes 22 = .ok (.iand, 1) := dc_126 (show ((cX1_clashes.data.toList.drop 22).take 1).map UInt8.toNat = [126] by decide +kernel)
theorem dX1_clashes_23 : decode cX1_clashes 23 = .ok (.ifCond .eq 5, 3) := dc_153 (show ((cX1_clashes.data.toList.drop 23).take 3).map UInt8.toNat = [153, 0, 5] by decide +kernel) rfl
theorem dX1_clashes_28 : decode cX1_clashes 28 = .ok (.iload_n 1, 1) := dc_27 (show ((cX1_clashes.data.toList.drop 28).take 1).map UInt8.toNat = [27] by decide +kernel)
theorem dX1_clashes_29 : decode cX1_clashes 29 = .ok (.iload_n 3, 1) := dc_29 (show ((cX1_clashes.data.toList.drop 29).take 1).map UInt8.toNat = [29] by decide +kernel)
theorem dX1_clashes_30 : decode cX1_clashes 30 = .ok (.ior, 1) := dc_128 (show ((cX1_clashes.data.toList.drop 30).take 1).map UInt8.toNat = [128] by decide +kernel)
theorem dX1_clashes_31 : decode cX1_clashes 31 = .ok (.istore_n 1, 1) := dc_60 (show ((cX1_clashes.data.toList.drop 31).take 1).map UInt8.toNat = [60] by decide +kernel)
theorem dX1_clashes_32 : decode cX1_clashes 32 = .ok (.iinc 2 1, 3) := dc_132 (show ((cX1_clashes.data.toList.drop 32).take 3).map UInt8.toNat = [132, 2, 1] by decide +kernel) rfl
theorem dX1_clashes_35 : decode cX1_clashes 35 = .ok (.goto (-31), 3) := dc_167 (show ((cX1_clashes.data.toList.drop 35).take 3).map UInt8.toNat = [167, 255, 225] by decide +kernel) rfl
theorem dX1_clashes_26 : decode cX1_clashes 26 = .ok (.iconst 1, 1) := dc_4 (show ((cX1_clashes.data.toList.drop 26).take 1).map UInt8.toNat = [4] by decide +kernel)
theorem dX1_clashes_27 : decode cX1_clashes 27 = .ok (.ireturn, 1) := dc_172 (show ((cX1_clashes.data.toList.drop 27).take 1).map UInt8.toNat = [172] by decide +kernel)
def cs_Dawn_clashes_D_4 (n : Nat) : Nat → gb_S → Nat → Int32 → Int32 → gb_CR Int32
  | 0, _, _, _, _ => none
  | mm + 1, σ, v0, v1, v2 => gb_kk (gb_kD v0) (gb_cd (cs_Lines_size_D n σ v0) (fun s_3 r_4 => (if r_4 ≤ v2 then some (s_3, 0) else gb_cd (cs_Dawn_pathSeen_D n s_3 v0 v2) (fun s_8 r_9 => gb_lt ((1 : Int32) <<< (r_9 &&& 31)) (fun x_12 => (if (v1 &&& x_12) = 0 then gb_lt (v1 ||| x_12) (fun x_14 => gb_lt (v2 + 1) (fun x_15 => cs_Dawn_clashes_D_4 n mm s_8 v0 x_14 x_15)) else some (s_8, 1)))))))
def cs_Dawn_clashes_D (n : Nat) (σ : gb_S) (k0 : Nat) : gb_CR Int32 := gb_kk (gb_kD k0) (cs_Dawn_clashes_D_4 n n σ k0 0 0)
set_option maxHeartbeats 8000000 in
set_option maxRecDepth 100000 in
theorem cc_Dawn_clashes_D (l : Launch) (D : va_G) (cT : Nat → ClassId) (tt : Nat → Nat) (b1 b : Nat) (hb1 : b1 ≤ b) (n : Nat) (σ : gb_S) (k0 : Nat) (σE : gb_S) (rE : Int32) (h : cs_Dawn_clashes_D n σ k0 = some (σE, rE)) : Met l yX1_clashes (.code yX1_clashes cX1_clashes 4 (some FieldType.boolean) :: gb_wA) ({ frames := 2, cells := 0, slots := 0, locals := 43 }) (gb_Pc D cT tt b1 [.ref (b + k0)] (fun h => va_P D vwCl (gb_wl b (gb_CW cT b σ)) h)) (gb_Qi (fun r h => r = rE ∧ va_P D vwCl (gb_wl b (gb_CW cT b σE)) h) (gb_fr b 135)) 0 0 (gb_fr b 135) := by
  refine Met.ofW (cc := cX1_clashes) (maxL := 4) (ret := (some FieldType.boolean)) (by decide) rfl ?_
  intro p e s m args below meth c s₁ B hml hv
  obtain ⟨rfl, hSt, hP⟩ := hv
  have hx := B.exec
  have hb := B.bytes
  have hr := B.returns
  have hts := atoms_spec (ws := .code yX1_clashes cX1_clashes 4 (some FieldType.boolean) :: gb_wA) B.pre
  have hq : ∀ w ∈ gb_wA, w.before _ s = true := fun w h => hts w (List.mem_cons_of_mem _ h)
  have hown : s.vm.findClass RX1 = some m.cls := findClass_of_methodNamed B.named
  have hlocks := B.notSynchronized
  clear B hts
  have hK := hSt.1
  have hS : va_S (gb_fr b 135) s.heap s.heap [] := va_S.rf
  have hl := lv_entry ([.ref (b + k0)]) (n := 4) (Nat.le_of_ble_eq_true rfl)
  rw [lg_entry_eq]
  generalize (lg_sl ([.ref (b + k0)]) ++ List.replicate (4 - (lg_sl ([.ref (b + k0)])).length) Slot.unset).toArray = ls at hl ⊢
  replace hl : lv_has ls 4 [(0, .ref (b + k0))] := hl
  have L4_1 : ∀ (mm : Nat) (σ : gb_S) (v0 : Nat) (v1 : Int32) (v2 : Int32) (H : Heap) (locs : List Loc) (ls : Array Slot), cs_Dawn_clashes_D_4 n mm σ v0 v1 v2 = some (σE, rE) → va_P D vwCl (gb_wl b (gb_CW cT b σ)) H → va_S (gb_fr b 135) s.heap H locs → lv_has ls 4 [(0, .ref (b + v0)), (1, .int v1), (2, .int v2)] → W p l e (headSpec (.code yX1_clashes cX1_clashes 4 (some FieldType.boolean) :: gb_wA) ({ frames := 2, cells := 0, slots := 0, locals := 43 })).room s m ([.ref (b + k0)]).toArray below meth c H locs 0 0 (MQ below (gb_Qi (fun r h => r = rE ∧ va_P D vwCl (gb_wl b (gb_CW cT b σE)) h) (gb_fr b 135)) ([.ref (b + k0)]).toArray s 0 0 (gb_fr b 135)) (F0 m 4 ls []) := by
    clear h hP hS hl ls
    intro mm
    induction mm with
    | zero =>
      intro σ v0 v1 v2 H locs ls h
      cases h
    | succ mm ih =>
      intro σ v0 v1 v2 H locs ls h hP hS hl
      rw [cs_Dawn_clashes_D_4] at h
      obtain ⟨z_2, h⟩ := gb_kk_s h
      refine lv_iload_n hx hb dX1_clashes_4 rfl (lv_at hl 2 rfl) ?_
      refine lv_aload_n hx hb dX1_clashes_5 rfl (lv_at hl 0 rfl) ?_
      obtain ⟨s_3, r_4, z_5, h⟩ := gb_cd_s h
      refine gb_calli (va_runU (x := ⟨"GooseBorder$Dawn", "size", "()I"⟩) (C := RX1) (owner := "GooseBorder$Lines") (As := []) (rest := [.int v2]) ⟨hx, hb, hml, hown, hq⟩ (cc_Lines_size_D l D cT tt b1 b hb1 n σ v0 s_3 r_4 z_5) (va_cwU (owner := "GooseBorder$Lines") (C := RX1) 0 hq (gb_gU w_534 w_535 w_537 w_484 w_6 w_489) rfl rfl rfl rfl (by decide +kernel) ⟨Nat.le_of_ble_eq_true rfl, Nat.le_of_ble_eq_true rfl⟩) (gb_preV (r := (RX1, TX1, 4)) (ci := 1) (q0 := v0) hSt hP rfl (gb_at b (gb_cD z_2).1) hS (fun q h => Nat.le_trans hb1 h.1) hP) rfl rfl hl.1 rfl (lv_room (Nat.le_of_ble_eq_true rfl)) dX1_clashes_6 ⟨Nat.le_of_ble_eq_true rfl, Nat.le_of_ble_eq_true rfl⟩) hS (fun _ h => h) (fun _ h => h) (fun q_6 H locs hY hk hS => ?_)
      obtain ⟨hq_6, hP⟩ := hY
      replace hq_6 := hq_6.symm
      subst hq_6
      refine lv_icmp_ge (tgt := 38) hx hb dX1_clashes_9 (by decide) (fun c_7 => ?_) (fun c_7 => ?_)
      · rw [if_pos c_7] at h
        refine lv_iconst (v := 0) hx hb dX1_clashes_38 (by decide) ?_
        obtain ⟨e1, e2⟩ := gb_eq2 h
        exact W.zret (v := 0) hx hb hr (by decide) (fun t ht hW => gb_ri ht ⟨e2, by rw [← e1]; exact hP⟩ hS) hS.2.2 dX1_clashes_39
      · rw [if_neg c_7] at h
        refine lv_iconst (v := 1) hx hb dX1_clashes_12 (by decide) ?_
        refine lv_aload_n hx hb dX1_clashes_13 rfl (lv_at hl 0 rfl) ?_
        refine lv_iload_n hx hb dX1_clashes_14 rfl (lv_at hl 2 rfl) ?_
        obtain ⟨s_8, r_9, z_10, h⟩ := gb_cd_s h
        refine gb_calli (va_runV (C := RX1) (As := [.int v2]) (rest := [.int 1]) ⟨hx, hb, hml, hown, hq⟩ (cc_Dawn_pathSeen_D l D cT tt b1 b hb1 n s_3 v0 v2 s_8 r_9 z_10) (cwV 1 hq (gb_gV w_538 w_539 w_540 w_9 w_541) rfl rfl rfl (by decide +kernel) ⟨Nat.le_of_ble_eq_true rfl, Nat.le_of_ble_eq_true rfl⟩) (gb_preV (r := (RX1, TX1, 4)) (ci := 1) (q0 := v0) hSt hP rfl (gb_at b (gb_cD z_2).1) hS (fun q h => Nat.le_trans hb1 h.1) hP) rfl rfl hl.1 rfl (lv_room (Nat.le_of_ble_eq_true rfl)) dX1_clashes_15 ⟨Nat.le_of_ble_eq_true rfl, Nat.le_of_ble_eq_true rfl⟩) hS (fun _ h => h) (fun _ h => h) (fun q_11 H locs hY hk hS => ?_)
        obtain ⟨hq_11, hP⟩ := hY
        replace hq_11 := hq_11.symm
        subst hq_11
        refine lv_ishl hx hb dX1_clashes_18 ?_
        refine lv_topi (fun x_12 ex_12 => ?_)
        replace h := gb_lt_s ex_12 h
        refine lv_istore_n (lv' := [(3, .int x_12), (0, .ref (b + v0)), (1, .int v1), (2, .int v2)]) hx hb dX1_clashes_19 rfl hl (by decide) rfl (fun ls hl => ?_)
        refine lv_iload_n hx hb dX1_clashes_20 rfl (lv_at hl 2 rfl) ?_
        refine lv_iload_n hx hb dX1_clashes_21 rfl (lv_at hl 0 rfl) ?_
        refine lv_iand hx hb dX1_clashes_22 ?_
        refine lv_if_eq (tgt := 28) hx hb dX1_clashes_23 (by decide) (fun c_13 => ?_) (fun c_13 => ?_)
        · rw [if_pos c_13] at h
          refine lv_iload_n hx hb dX1_clashes_28 rfl (lv_at hl 2 rfl) ?_
          refine lv_iload_n hx hb dX1_clashes_29 rfl (lv_at hl 0 rfl) ?_
          refine lv_ior hx hb dX1_clashes_30 ?_
          refine lv_topi (fun x_14 ex_14 => ?_)
          replace h := gb_lt_s ex_14 h
          refine lv_istore_n (lv' := [(1, .int x_14), (3, .int x_12), (0, .ref (b + v0)), (2, .int v2)]) hx hb dX1_clashes_31 rfl hl (by decide) rfl (fun ls hl => ?_)
          obtain ⟨x_15, ex_15⟩ : ∃ q, q = (v2 + 1) := ⟨_, rfl⟩
          replace h := gb_lt_s ex_15 h
          refine lv_iinc (v := x_15) (lv' := [(2, .int x_15), (1, .int x_14), (3, .int x_12), (0, .ref (b + v0))]) hx hb dX1_clashes_32 hl (k := 3) rfl (by rw [ex_15]; rfl) (by decide) rfl (fun ls hl => ?_)
          refine lv_goto (tgt := 4) hx hb dX1_clashes_35 (by decide) ?_
          exact ih _ _ _ _ _ _ _ h hP hS (lv_sub hl [3, 1, 0] rfl)
        · rw [if_neg c_13] at h
          refine lv_iconst (v := 1) hx hb dX1_clashes_26 (by decide) ?_
          obtain ⟨e1, e2⟩ := gb_eq2 h
          exact W.zret (v := 1) hx hb hr (by decide) (fun t ht hW => gb_ri ht ⟨e2, by rw [← e1]; exact hP⟩ hS) hS.2.2 dX1_clashes_27
  unfold cs_Dawn_clashes_D at h
  obtain ⟨z_1, h⟩ := gb_kk_s h
  refine lv_iconst (v := 0) hx hb dX1_clashes_0 (by decide) ?_
  refine lv_istore_n (lv' := [(1, .int 0), (0, .ref (b + k0))]) hx hb dX1_clashes_1 rfl hl (by decide) rfl (fun ls hl => ?_)
  refine lv_iconst (v := 0) hx hb dX1_clashes_2 (by decide) ?_
  refine lv_istore_n (lv' := [(2, .int 0), (1, .int 0), (0, .ref (b + k0))]) hx hb dX1_clashes_3 rfl hl (by decide) rfl (fun ls hl => ?_)
  exact L4_1 n _ _ _ _ _ _ _ h hP hS (lv_sub hl [2, 1, 0] rfl)
theorem w_533 : (Cond.code ({ cls := "GooseBorder$Dawn", name := "clashes", desc := "()Z" } : MethodName) prog_3_method_2_code (4 : Nat) (Option.some FieldType.boolean)) ∈ gb_wA := gb_t3 53 rfl rfl
theorem w_531 : (Cond.selects "GooseBorder$Dawn" ({ cls := "GooseBorder$Sheet", name := "clashes", desc := "()Z" } : MethodName) ({ cls := "GooseBorder$Dawn", name := "clashes", desc := "()Z" } : MethodName)) ∈ gb_wA := gb_t3 51 rfl rfl
theorem w_532 : (Cond.instanceMethod ({ cls := "GooseBorder$Dawn", name := "clashes", desc := "()Z" } : MethodName)) ∈ gb_wA := gb_t3 52 rfl rfl
theorem dX7_read_50 : decode cX7_read 50 = .ok (.aload_n 0, 1) := dc_42 (show ((cX7_read.data.toList.drop 50).take 1).map UInt8.toNat = [42] by decide +kernel)
theorem dX7_read_51 : decode cX7_read 51 = .ok (.getfield 29, 3) := dc_180 (show ((cX7_read.data.toList.drop 51).take 3).map UInt8.toNat = [180, 0, 29] by decide +kernel) rfl
theorem dX7_read_54 : decode cX7_read 54 = .ok (.aload_n 0, 1) := dc_42 (show ((cX7_read.data.toList.drop 54).take 1).map UInt8.toNat = [42] by decide +kernel)
theorem dX7_read_55 : decode cX7_read 55 = .ok (.getfield 25, 3) := dc_180 (show ((cX7_read.data.toList.drop 55).take 3).map UInt8.toNat = [180, 0, 25] by decide +kernel) rfl
theorem dX7_read_58 : decode cX7_read 58 = .ok (.if_icmp .ge 37, 3) := dc_162 (show ((cX7_read.data.toList.drop 58).take 3).map UInt8.toNat = [162, 0, 37] by decide +kernel) rfl
theorem dX7_read_61 : decode cX7_read 61 = .ok (.aload_n 0, 1) := dc_42 (show ((cX7_read.data.toList.drop 61).take 1).map UInt8.toNat = [42] by decide +kernel)
theorem dX7_read_62 : decode cX7_read 62 = .ok (.iload_n 3, 1) := dc_29 (show ((cX7_read.data.toList.drop 62).take 1).map UInt8.toNat = [29] by decide +kernel)
theorem dX7_read_63 : decode cX7_read 63 = .ok (.aload 4, 2) := dc_25 (show ((cX7_read.data.toList.drop 63).take 2).map UInt8.toNat = [25, 4] by decide +kernel) rfl
theorem dX7_read_65 : decode cX7_read 65 = .ok (.invokevirtual 46, 3) := dc_182 (show ((cX7_read.data.toList.drop 65).take 3).map UInt8.toNat = [182, 0, 46] by decide +kernel) rfl
theorem dX7_readLine_0 : decode cX7_readLine 0 = .ok (.aload_n 0, 1) := dc_42 (show ((cX7_readLine.data.toList.drop 0).take 1).map UInt8.toNat = [42] by decide +kernel)
theorem dX7_readLine_1 : decode cX7_readLine 1 = .ok (.getfield 29, 3) := dc_180 (show ((cX7_readLine.data.toList.drop 1).take 3).map UInt8.toNat = [180, 0, 29] by decide +kernel) rfl
theorem dX7_readLine_4 : decode cX7_readLine 4 = .ok (.istore_n 3, 1) := dc_62 (show ((cX7_readLine.data.toList.drop 4).take 1).map UInt8.toNat = [62] by decide +kernel)
theorem dX7_readLine_5 : decode cX7_readLine 5 = .ok (.aload_n 0, 1) := dc_42 (show ((cX7_readLine.data.toList.drop 5).take 1).map UInt8.toNat = [42] by decide +kernel)
theorem dX7_readLine_6 : decode cX7_readLine 6 = .ok (.iload_n 1, 1) := dc_27 (show ((cX7_readLine.data.toList.drop 6).take 1).map UInt8.toNat = [27] by decide +kernel)
theorem dX7_readLine_7 : decode cX7_readLine 7 = .ok (.invokevirtual 58, 3) := dc_182 (show ((cX7_readLine.data.toList.drop 7).take 3).map UInt8.toNat = [182, 0, 58] by decide +kernel) rfl
theorem dX7_takeWord_0 : decode cX7_takeWord 0 = .ok (.aload_n 0, 1) := dc_42 (show ((cX7_takeWord.data.toList.drop 0).take 1).map UInt8.toNat = [42] by decide +kernel)
theorem dX7_takeWord_1 : decode cX7_takeWord 1 = .ok (.getfield 29, 3) := dc_180 (show ((cX7_takeWord.data.toList.drop 1).take 3).map UInt8.toNat = [180, 0, 29] by decide +kernel) rfl
theorem dX7_takeWord_4 : decode cX7_takeWord 4 = .ok (.istore_n 2, 1) := dc_61 (show ((cX7_takeWord.data.toList.drop 4).take 1).map UInt8.toNat = [61] by decide +kernel)
theorem dX7_takeWord_5 : decode cX7_takeWord 5 = .ok (.iload_n 2, 1) := dc_28 (show ((cX7_takeWord.data.toList.drop 5).take 1).map UInt8.toNat = [28] by decide +kernel)
theorem dX7_takeWord_6 : decode cX7_takeWord 6 = .ok (.aload_n 0, 1) := dc_42 (show ((cX7_takeWord.data.toList.drop 6).take 1).map UInt8.toNat = [42] by decide +kernel)
theorem dX7_takeWord_7 : decode cX7_takeWord 7 = .ok (.getfield 25, 3) := dc_180 (show ((cX7_takeWord.data.toList.drop 7).take 3).map UInt8.toNat = [180, 0, 25] by decide +kernel) rfl
theorem dX7_takeWord_10 : decode cX7_takeWord 10 = .ok (.if_icmp .ge 31, 3) := dc_162 (show ((cX7_takeWord.data.toList.drop 10).take 3).map UInt8.toNat = [162, 0, 31] by decide +kernel) rfl
theorem dX7_takeWord_41 : decode cX7_takeWord 41 = .ok (.getstatic 77, 3) := dc_178 (show ((cX7_takeWord.data.toList.drop 41).take 3).map UInt8.toNat = [178, 0, 77] by decide +kernel) rfl
theorem dX7_takeWord_44 : decode cX7_takeWord 44 = .ok (.iload_n 1, 1) := dc_27 (show ((cX7_takeWord.data.toList.drop 44).take 1).map UInt8.toNat = [27] by decide +kernel)
theorem dX7_takeWord_45 : decode cX7_takeWord 45 = .ok (.iaload, 1) := dc_46 (show ((cX7_takeWord.data.toList.drop 45).take 1).map UInt8.toNat = [46] by decide +kernel)
theorem dX7_takeWord_46 : decode cX7_takeWord 46 = .ok (.istore_n 3, 1) := dc_62 (show ((cX7_takeWord.data.toList.drop 46).take 1).map UInt8.toNat = [62] by decide +kernel)
theorem dX7_takeWord_47 : decode cX7_takeWord 47 = .ok (.iload_n 3, 1) := dc_29 (show ((cX7_takeWord.data.toList.drop 47).take 1).map UInt8.toNat = [29] by decide +kernel)
theorem dX7_takeWord_48 : decode cX7_takeWord 48 = .ok (.getstatic 77, 3) := dc_178 (show ((cX7_takeWord.data.toList.drop 48).take 3).map UInt8.toNat = [178, 0, 77] by decide +kernel) rfl
theorem dX7_takeWord_51 : decode cX7_takeWord 51 = .ok (.iload_n 1, 1) := dc_27 (show ((cX7_takeWord.data.toList.drop 51).take 1).map UInt8.toNat = [27] by decide +kernel)
theorem dX7_takeWord_52 : decode cX7_takeWord 52 = .ok (.iconst 1, 1) := dc_4 (show ((cX7_takeWord.data.toList.drop 52).take 1).map UInt8.toNat = [4] by decide +kernel)
theorem dX7_takeWord_53 : decode cX7_takeWord 53 = .ok (.iadd, 1) := dc_96 (show ((cX7_takeWord.data.toList.drop 53).take 1).map UInt8.toNat = [96] by decide +kernel)
theorem dX7_takeWord_54 : decode cX7_takeWord 54 = .ok (.iaload, 1) := dc_46 (show ((cX7_takeWord.data.toList.drop 54).take 1).map UInt8.toNat = [46] by decide +kernel)
theorem dX7_takeWord_55 : decode cX7_takeWord 55 = .ok (.if_icmp .ge 28, 3) := dc_162 (show ((cX7_takeWord.data.toList.drop 55).take 3).map UInt8.toNat = [162, 0, 28] by decide +kernel) rfl
theorem dX7_takeWord_83 : decode cX7_takeWord 83 = .ok (.iconst (-1), 1) := dc_2 (show ((cX7_takeWord.data.toList.drop 83).take 1).map UInt8.toNat = [2] by decide +kernel)
theorem dX7_takeWord_84 : decode cX7_takeWord 84 = .ok (.ireturn, 1) := dc_172 (show ((cX7_takeWord.data.toList.drop 84).take 1).map UInt8.toNat = [172] by decide +kernel)
theorem dX7_takeWord_58 : decode cX7_takeWord 58 = .ok (.aload_n 0, 1) := dc_42 (show ((cX7_takeWord.data.toList.drop 58).take 1).map UInt8.toNat = [42] by decide +kernel)
theorem dX7_takeWord_59 : decode cX7_takeWord 59 = .ok (.iload_n 3, 1) := dc_29 (show ((cX7_takeWord.data.toList.drop 59).take 1).map UInt8.toNat = [29] by decide +kernel)
theorem dX7_takeWord_60 : decode cX7_takeWord 60 = .ok (.invokestatic 80, 3) := dc_184 (show ((cX7_takeWord.data.toList.drop 60).take 3).map UInt8.toNat = [184, 0, 80] by decide +kernel) rfl
theorem dX7_wordOf_0 : decode cX7_wordOf 0 = .ok (.iload_n 0, 1) := dc_26 (show ((cX7_wordOf.data.toList.drop 0).take 1).map UInt8.toNat = [26] by decide +kernel)
theorem dX7_wordOf_1 : decode cX7_wordOf 1 = .ok (.tableswitch 134 0 16 #[83, 86, 89, 92, 95, 98, 101, 104, 107, 110, 113, 116, 119, 122, 125, 128, 131], 83) := by decide +kernel
theorem dX7_wordOf_84 : decode cX7_wordOf 84 = .ok (.ldc 104, 2) := dc_18 (show ((cX7_wordOf.data.toList.drop 84).take 2).map UInt8.toNat = [18, 104] by decide +kernel) rfl
theorem dX11_fault_0 : decode cX11_fault 0 = .ok (.iload_n 1, 1) := dc_27 (show ((cX11_fault.data.toList.drop 0).take 1).map UInt8.toNat = [27] by decide +kernel)
theorem dX11_fault_1 : decode cX11_fault 1 = .ok (.lookupswitch 43 #[(0, 27), (1, 35)], 27) := by decide +kernel
theorem dX11_fault_28 : decode cX11_fault 28 = .ok (.aload_n 0, 1) := dc_42 (show ((cX11_fault.data.toList.drop 28).take 1).map UInt8.toNat = [42] by decide +kernel)
theorem dX11_fault_29 : decode cX11_fault 29 = .ok (.getfield 12, 3) := dc_180 (show ((cX11_fault.data.toList.drop 29).take 3).map UInt8.toNat = [180, 0, 12] by decide +kernel) rfl
theorem dX11_fault_32 : decode cX11_fault 32 = .ok (.getfield 82, 3) := dc_180 (show ((cX11_fault.data.toList.drop 32).take 3).map UInt8.toNat = [180, 0, 82] by decide +kernel) rfl
theorem dX11_fault_35 : decode cX11_fault 35 = .ok (.ireturn, 1) := dc_172 (show ((cX11_fault.data.toList.drop 35).take 1).map UInt8.toNat = [172] by decide +kernel)
theorem dX11_fault_36 : decode cX11_fault 36 = .ok (.aload_n 0, 1) := dc_42 (show ((cX11_fault.data.toList.drop 36).take 1).map UInt8.toNat = [42] by decide +kernel)
theorem dX11_fault_37 : decode cX11_fault 37 = .ok (.getfield 12, 3) := dc_180 (show ((cX11_fault.data.toList.drop 37).take 3).map UInt8.toNat = [180, 0, 12] by decide +kernel) rfl
theorem dX11_fault_40 : decode cX11_fault 40 = .ok (.getfield 85, 3) := dc_180 (show ((cX11_fault.data.toList.drop 40).take 3).map UInt8.toNat = [180, 0, 85] by decide +kernel) rfl
theorem dX11_fault_43 : decode cX11_fault 43 = .ok (.ireturn, 1) := dc_172 (show ((cX11_fault.data.toList.drop 43).take 1).map UInt8.toNat = [172] by decide +kernel)
theorem dX11_fault_44 : decode cX11_fault 44 = .ok (.iconst (-1), 1) := dc_2 (show ((cX11_fault.data.toList.drop 44).take 1).map UInt8.toNat = [2] by decide +kernel)
theorem dX11_fault_45 : decode cX11_fault 45 = .ok (.ireturn, 1) := dc_172 (show ((cX11_fault.data.toList.drop 45).take 1).map UInt8.toNat = [172] by decide +kernel)
def cs_Face_fault (n : Nat) (σ : gb_S) (p1 : Int32) : gb_CR Int32 := (if p1 = (0 : Int32) then some (σ, (σ.1 1 7)) else (if p1 = (1 : Int32) then some (σ, (σ.1 1 8)) else some (σ, (-1))))
set_option maxHeartbeats 8000000 in
set_option maxRecDepth 100000 in
theorem cc_Face_fault (l : Launch) (D : va_G) (cT : Nat → ClassId) (tt : Nat → Nat) (b1 b : Nat) (hb1 : b1 ≤ b) (n : Nat) (σ : gb_S) (p1 : Int32) (σE : gb_S) (rE : Int32) (h : cs_Face_fault n σ p1 = some (σE, rE)) : Met l yX11_fault (.code yX11_fault cX11_fault 2 (some FieldType.int) :: gb_wA) ({ frames := 0, cells := 0, slots := 0, locals := 0 }) (gb_Pc D cT tt b1 [.ref (b + 0), .int p1] (fun h => va_P D vwCl (gb_wl b (gb_CW cT b σ)) h)) (gb_Qi (fun r h => r = rE ∧ va_P D vwCl (gb_wl b (gb_CW cT b σE)) h) (gb_fr b 135)) 0 0 (gb_fr b 135) := by
  refine Met.ofW (cc := cX11_fault) (maxL := 2) (ret := (some FieldType.int)) (by decide) rfl ?_
  intro p e s m args below meth c s₁ B hml hv
  obtain ⟨rfl, hSt, hP⟩ := hv
  have hx := B.exec
  have hb := B.bytes
  have hr := B.returns
  have hts := atoms_spec (ws := .code yX11_fault cX11_fault 2 (some FieldType.int) :: gb_wA) B.pre
  have hq : ∀ w ∈ gb_wA, w.before _ s = true := fun w h => hts w (List.mem_cons_of_mem _ h)
  have hown : s.vm.findClass RX11 = some m.cls := findClass_of_methodNamed B.named
  have hlocks := B.notSynchronized
  clear B hts
  have hK := hSt.1
  have hS : va_S (gb_fr b 135) s.heap s.heap [] := va_S.rf
  have hl := lv_entry ([.ref (b + 0), .int p1]) (n := 2) (Nat.le_of_ble_eq_true rfl)
  rw [lg_entry_eq]
  generalize (lg_sl ([.ref (b + 0), .int p1]) ++ List.replicate (2 - (lg_sl ([.ref (b + 0), .int p1])).length) Slot.unset).toArray = ls at hl ⊢
  replace hl : lv_has ls 2 [(0, .ref (b + 0)), (1, .int p1)] := hl
  unfold cs_Face_fault at h
  refine lv_iload_n hx hb dX11_fault_0 rfl (lv_at hl 1 rfl) ?_
  by_cases c_1 : p1 = (0 : Int32)
  · rw [if_pos c_1] at h
    refine lv_lookup (off := 27) (tgt := 28) hx hb dX11_fault_1 (by decide) (by rw [c_1]; decide) (by decide) ?_
    refine lv_aload_n hx hb dX11_fault_28 rfl (lv_at hl 0 rfl) ?_
    refine va_get (ci := 9) (v := (.ref (b + 1))) (C := RX11) (T := TX11) (N := 10) hx hb hq i_X11 hown hK hP 0 (gb_at b rfl) rfl 0 (by decide) (hq _ w_315) (fun _ h9 => h9) rfl dX11_fault_29 ?_
    refine va_get (ci := 8) (v := (.int (σ.1 1 7))) (C := RX10) (T := TX10) (N := 9) hx hb hq i_X10 hown hK hP 1 (gb_at b rfl) rfl 7 (by decide) (hq _ w_126) (fun _ h9 => h9) rfl dX11_fault_32 ?_
    obtain ⟨e1, e2⟩ := gb_eq2 h
    exact W.iret (v := (σ.1 1 7)) hx hb hr (fun t ht hW => gb_ri ht ⟨e2, by rw [← e1]; exact hP⟩ hS) hS.2.2 dX11_fault_35
  rw [if_neg c_1] at h
  by_cases c_2 : p1 = (1 : Int32)
  · rw [if_pos c_2] at h
    refine lv_lookup (off := 35) (tgt := 36) hx hb dX11_fault_1 (by decide) (by rw [c_2]; decide) (by decide) ?_
    refine lv_aload_n hx hb dX11_fault_36 rfl (lv_at hl 0 rfl) ?_
    refine va_get (ci := 9) (v := (.ref (b + 1))) (C := RX11) (T := TX11) (N := 10) hx hb hq i_X11 hown hK hP 0 (gb_at b rfl) rfl 0 (by decide) (hq _ w_315) (fun _ h9 => h9) rfl dX11_fault_37 ?_
    refine va_get (ci := 8) (v := (.int (σ.1 1 8))) (C := RX10) (T := TX10) (N := 9) hx hb hq i_X10 hown hK hP 1 (gb_at b rfl) rfl 8 (by decide) (hq _ w_129) (fun _ h9 => h9) rfl dX11_fault_40 ?_
    obtain ⟨e1, e2⟩ := gb_eq2 h
    exact W.iret (v := (σ.1 1 8)) hx hb hr (fun t ht hW => gb_ri ht ⟨e2, by rw [← e1]; exact hP⟩ hS) hS.2.2 dX11_fault_43
  rw [if_neg c_2] at h
  refine lv_lookup (off := 43) (tgt := 44) hx hb dX11_fault_1 (by decide) ((lv_osw c_1 rfl).trans (lv_osw c_2 rfl)) (by decide) ?_
  refine lv_iconst (v := (-1)) hx hb dX11_fault_44 (by decide) ?_
  obtain ⟨e1, e2⟩ := gb_eq2 h
  exact W.iret (v := (-1)) hx hb hr (fun t ht hW => gb_ri ht ⟨e2, by rw [← e1]; exact hP⟩ hS) hS.2.2 dX11_fault_45
theorem dX11_count_0 : decode cX11_count 0 = .ok (.iload_n 1, 1) := dc_27 (show ((cX11_count.data.toList.drop 0).take 1).map UInt8.toNat = [27] by decide +kernel)
theorem dX11_count_1 : decode cX11_count 1 = .ok (.ifCond .lt 20, 3) := dc_155 (show ((cX11_count.data.toList.drop 1).take 3).map UInt8.toNat = [155, 0, 20] by decide +kernel) rfl
theorem dX11_count_21 : decode cX11_count 21 = .ok (.bipush (-2), 2) := dc_16 (show ((cX11_count.data.toList.drop 21).take 2).map UInt8.toNat = [16, 254] by decide +kernel) rfl
theorem dX11_count_23 : decode cX11_count 23 = .ok (.ireturn, 1) := dc_172 (show ((cX11_count.data.toList.drop 23).take 1).map UInt8.toNat = [172] by decide +kernel)
theorem dX11_count_4 : decode cX11_count 4 = .ok (.iload_n 1, 1) := dc_27 (show ((cX11_count.data.toList.drop 4).take 1).map UInt8.toNat = [27] by decide +kernel)
theorem dX11_count_5 : decode cX11_count 5 = .ok (.iconst 4, 1) := dc_7 (show ((cX11_count.data.toList.drop 5).take 1).map UInt8.toNat = [7] by decide +kernel)
theorem dX11_count_6 : decode cX11_count 6 = .ok (.if_icmp .ge 15, 3) := dc_162 (show ((cX11_count.data.toList.drop 6).take 3).map UInt8.toNat = [162, 0, 15] by decide +kernel) rfl
theorem dX11_count_9 : decode cX11_count 9 = .ok (.aload_n 0, 1) := dc_42 (show ((cX11_count.data.toList.drop 9).take 1).map UInt8.toNat = [42] by decide +kernel)
theorem dX11_count_10 : decode cX11_count 10 = .ok (.getfield 12, 3) := dc_180 (show ((cX11_count.data.toList.drop 10).take 3).map UInt8.toNat = [180, 0, 12] by decide +kernel) rfl
theorem dX11_count_13 : decode cX11_count 13 = .ok (.getfield 88, 3) := dc_180 (show ((cX11_count.data.toList.drop 13).take 3).map UInt8.toNat = [180, 0, 88] by decide +kernel) rfl
theorem dX11_count_16 : decode cX11_count 16 = .ok (.iload_n 1, 1) := dc_27 (show ((cX11_count.data.toList.drop 16).take 1).map UInt8.toNat = [27] by decide +kernel)
theorem dX11_count_17 : decode cX11_count 17 = .ok (.iaload, 1) := dc_46 (show ((cX11_count.data.toList.drop 17).take 1).map UInt8.toNat = [46] by decide +kernel)
theorem dX11_count_18 : decode cX11_count 18 = .ok (.goto 5, 3) := dc_167 (show ((cX11_count.data.toList.drop 18).take 3).map UInt8.toNat = [167, 0, 5] by decide +kernel) rfl
def cs_Face_count (n : Nat) (σ : gb_S) (p1 : Int32) : gb_CR Int32 := (if p1 < 0 then some (σ, (-2)) else (if (4 : Int32) ≤ p1 then some (σ, (-2)) else gb_ck p1 4 (gb_lt ((σ.1 22) (Int32.toNatClampNeg p1)) (fun x_4 => some (σ, x_4)))))
set_option maxHeartbeats 8000000 in
set_option maxRecDepth 100000 in
theorem cc_Face_count (l : Launch) (D : va_G) (cT : Nat → ClassId) (tt : Nat → Nat) (b1 b : Nat) (hb1 : b1 ≤ b) (n : Nat) (σ : gb_S) (p1 : Int32) (σE : gb_S) (rE : Int32) (h : cs_Face_count n σ p1 = some (σE, rE)) : Met l yX11_count (.code yX11_count cX11_count 2 (some FieldType.int) :: gb_wA) ({ frames := 0, cells := 0, slots := 0, locals := 0 }) (gb_Pc D cT tt b1 [.ref (b + 0), .int p1] (fun h => va_P D vwCl (gb_wl b (gb_CW cT b σ)) h)) (gb_Qi (fun r h => r = rE ∧ va_P D vwCl (gb_wl b (gb_CW cT b σE)) h) (gb_fr b 135)) 0 0 (gb_fr b 135) := by
  refine Met.ofW (cc := cX11_count) (maxL := 2) (ret := (some FieldType.int)) (by decide) rfl ?_
  intro p e s m args below meth c s₁ B hml hv
  obtain ⟨rfl, hSt, hP⟩ := hv
  have hx := B.exec
  have hb := B.bytes
  have hr := B.returns
  have hts := atoms_spec (ws := .code yX11_count cX11_count 2 (some FieldType.int) :: gb_wA) B.pre
  have hq : ∀ w ∈ gb_wA, w.before _ s = true := fun w h => hts w (List.mem_cons_of_mem _ h)
  have hown : s.vm.findClass RX11 = some m.cls := findClass_of_methodNamed B.named
  have hlocks := B.notSynchronized
  clear B hts
  have hK := hSt.1
  have hS : va_S (gb_fr b 135) s.heap s.heap [] := va_S.rf
  have hl := lv_entry ([.ref (b + 0), .int p1]) (n := 2) (Nat.le_of_ble_eq_true rfl)
  rw [lg_entry_eq]
  generalize (lg_sl ([.ref (b + 0), .int p1]) ++ List.replicate (2 - (lg_sl ([.ref (b + 0), .int p1])).length) Slot.unset).toArray = ls at hl ⊢
  replace hl : lv_has ls 2 [(0, .ref (b + 0)), (1, .int p1)] := hl
  unfold cs_Face_count at h
  refine lv_iload_n hx hb dX11_count_0 rfl (lv_at hl 1 rfl) ?_
  refine lv_if_lt (tgt := 21) hx hb dX11_count_1 (by decide) (fun c_1 => ?_) (fun c_1 => ?_)
  · rw [if_pos c_1] at h
    refine lv_bipush (v := (-2)) hx hb dX11_count_21 (by decide) ?_
    obtain ⟨e1, e2⟩ := gb_eq2 h
    exact W.iret (v := (-2)) hx hb hr (fun t ht hW => gb_ri ht ⟨e2, by rw [← e1]; exact hP⟩ hS) hS.2.2 dX11_count_23
  · rw [if_neg c_1] at h
    refine lv_iload_n hx hb dX11_count_4 rfl (lv_at hl 1 rfl) ?_
    refine lv_iconst (v := 4) hx hb dX11_count_5 (by decide) ?_
    refine lv_icmp_ge (tgt := 21) hx hb dX11_count_6 (by decide) (fun c_2 => ?_) (fun c_2 => ?_)
    · rw [if_pos c_2] at h
      refine lv_bipush (v := (-2)) hx hb dX11_count_21 (by decide) ?_
      obtain ⟨e1, e2⟩ := gb_eq2 h
      exact W.iret (v := (-2)) hx hb hr (fun t ht hW => gb_ri ht ⟨e2, by rw [← e1]; exact hP⟩ hS) hS.2.2 dX11_count_23
    · rw [if_neg c_2] at h
      refine lv_aload_n hx hb dX11_count_9 rfl (lv_at hl 0 rfl) ?_
      refine va_get (ci := 9) (v := (.ref (b + 1))) (C := RX11) (T := TX11) (N := 10) hx hb hq i_X11 hown hK hP 0 (gb_at b rfl) rfl 0 (by decide) (hq _ w_315) (fun _ h9 => h9) rfl dX11_count_10 ?_
      refine va_get (ci := 8) (v := (.ref (b + 22))) (C := RX10) (T := TX10) (N := 9) hx hb hq i_X10 hown hK hP 1 (gb_at b rfl) rfl 4 (by decide) (hq _ w_121) (fun _ h9 => h9) rfl dX11_count_13 ?_
      refine lv_iload_n hx hb dX11_count_16 rfl (lv_at hl 1 rfl) ?_
      obtain ⟨z_3, h⟩ := gb_ck_s h
      refine va_iald hx hb hK hP 22 0 (gb_at b rfl) rfl z_3 dX11_count_17 ?_
      refine lv_topi (fun x_4 ex_4 => ?_)
      replace h := gb_lt_s ex_4 h
      refine lv_goto (tgt := 23) hx hb dX11_count_18 (by decide) ?_
      obtain ⟨e1, e2⟩ := gb_eq2 h
      exact W.iret (v := x_4) hx hb hr (fun t ht hW => gb_ri ht ⟨e2, by rw [← e1]; exact hP⟩ hS) hS.2.2 dX11_count_23
theorem dX11_image_0 : decode cX11_image 0 = .ok (.iload_n 1, 1) := dc_27 (show ((cX11_image.data.toList.drop 0).take 1).map UInt8.toNat = [27] by decide +kernel)
theorem dX11_image_1 : decode cX11_image 1 = .ok (.ifCond .lt 8, 3) := dc_155 (show ((cX11_image.data.toList.drop 1).take 3).map UInt8.toNat = [155, 0, 8] by decide +kernel) rfl
theorem dX11_image_9 : decode cX11_image 9 = .ok (.iconst 0, 1) := dc_3 (show ((cX11_image.data.toList.drop 9).take 1).map UInt8.toNat = [3] by decide +kernel)
theorem dX11_image_10 : decode cX11_image 10 = .ok (.ireturn, 1) := dc_172 (show ((cX11_image.data.toList.drop 10).take 1).map UInt8.toNat = [172] by decide +kernel)
theorem dX11_image_4 : decode cX11_image 4 = .ok (.iload_n 1, 1) := dc_27 (show ((cX11_image.data.toList.drop 4).take 1).map UInt8.toNat = [27] by decide +kernel)
theorem dX11_image_5 : decode cX11_image 5 = .ok (.iconst 3, 1) := dc_6 (show ((cX11_image.data.toList.drop 5).take 1).map UInt8.toNat = [6] by decide +kernel)
theorem dX11_image_6 : decode cX11_image 6 = .ok (.if_icmp .lt 5, 3) := dc_161 (show ((cX11_image.data.toList.drop 6).take 3).map UInt8.toNat = [161, 0, 5] by decide +kernel) rfl
theorem dX11_image_11 : decode cX11_image 11 = .ok (.aload_n 0, 1) := dc_42 (show ((cX11_image.data.toList.drop 11).take 1).map UInt8.toNat = [42] by decide +kernel)
theorem dX11_image_12 : decode cX11_image 12 = .ok (.getfield 16, 3) := dc_180 (show ((cX11_image.data.toList.drop 12).take 3).map UInt8.toNat = [180, 0, 16] by decide +kernel) rfl
theorem dX11_image_15 : decode cX11_image 15 = .ok (.iload_n 1, 1) := dc_27 (show ((cX11_image.data.toList.drop 15).take 1).map UInt8.toNat = [27] by decide +kernel)
theorem dX11_image_16 : decode cX11_image 16 = .ok (.aaload, 1) := dc_50 (show ((cX11_image.data.toList.drop 16).take 1).map UInt8.toNat = [50] by decide +kernel)
theorem dX11_image_17 : decode cX11_image 17 = .ok (.aload_n 0, 1) := dc_42 (show ((cX11_image.data.toList.drop 17).take 1).map UInt8.toNat = [42] by decide +kernel)
theorem dX11_image_18 : decode cX11_image 18 = .ok (.getfield 12, 3) := dc_180 (show ((cX11_image.data.toList.drop 18).take 3).map UInt8.toNat = [180, 0, 12] by decide +kernel) rfl
theorem dX11_image_21 : decode cX11_image 21 = .ok (.invokevirtual 110, 3) := dc_182 (show ((cX11_image.data.toList.drop 21).take 3).map UInt8.toNat = [182, 0, 110] by decide +kernel) rfl
theorem dX10_copyFrom_0 : decode cX10_copyFrom 0 = .ok (.iconst 0, 1) := dc_3 (show ((cX10_copyFrom.data.toList.drop 0).take 1).map UInt8.toNat = [3] by decide +kernel)
theorem dX10_copyFrom_1 : decode cX10_copyFrom 1 = .ok (.istore_n 2, 1) := dc_61 (show ((cX10_copyFrom.data.toList.drop 1).take 1).map UInt8.toNat = [61] by decide +kernel)
theorem dX10_copyFrom_2 : decode cX10_copyFrom 2 = .ok (.iload_n 2, 1) := dc_28 (show ((cX10_copyFrom.data.toList.drop 2).take 1).map UInt8.toNat = [28] by decide +kernel)
theorem dX10_copyFrom_3 : decode cX10_copyFrom 3 = .ok (.iconst 4, 1) := dc_7 (show ((cX10_copyFrom.data.toList.drop 3).take 1).map UInt8.toNat = [7] by decide +kernel)
theorem dX10_copyFrom_4 : decode cX10_copyFrom 4 = .ok (.if_icmp .ge 49, 3) := dc_162 (show ((cX10_copyFrom.data.toList.drop 4).take 3).map UInt8.toNat = [162, 0, 49] by decide +kernel) rfl
theorem dX10_copyFrom_53 : decode cX10_copyFrom 53 = .ok (.aload_n 1, 1) := dc_43 (show ((cX10_copyFrom.data.toList.drop 53).take 1).map UInt8.toNat = [43] by decide +kernel)
theorem dX10_copyFrom_54 : decode cX10_copyFrom 54 = .ok (.getfield 43, 3) := dc_180 (show ((cX10_copyFrom.data.toList.drop 54).take 3).map UInt8.toNat = [180, 0, 43] by decide +kernel) rfl
theorem dX10_copyFrom_57 : decode cX10_copyFrom 57 = .ok (.iconst 0, 1) := dc_3 (show ((cX10_copyFrom.data.toList.drop 57).take 1).map UInt8.toNat = [3] by decide +kernel)
theorem dX10_copyFrom_58 : decode cX10_copyFrom 58 = .ok (.aload_n 0, 1) := dc_42 (show ((cX10_copyFrom.data.toList.drop 58).take 1).map UInt8.toNat = [42] by decide +kernel)
theorem dX10_copyFrom_59 : decode cX10_copyFrom 59 = .ok (.getfield 43, 3) := dc_180 (show ((cX10_copyFrom.data.toList.drop 59).take 3).map UInt8.toNat = [180, 0, 43] by decide +kernel) rfl
theorem dX10_copyFrom_62 : decode cX10_copyFrom 62 = .ok (.iconst 0, 1) := dc_3 (show ((cX10_copyFrom.data.toList.drop 62).take 1).map UInt8.toNat = [3] by decide +kernel)
theorem dX10_copyFrom_63 : decode cX10_copyFrom 63 = .ok (.sipush 600, 3) := dc_17 (show ((cX10_copyFrom.data.toList.drop 63).take 3).map UInt8.toNat = [17, 2, 88] by decide +kernel) rfl
theorem dX10_copyFrom_66 : decode cX10_copyFrom 66 = .ok (.invokestatic 64, 3) := dc_184 (show ((cX10_copyFrom.data.toList.drop 66).take 3).map UInt8.toNat = [184, 0, 64] by decide +kernel) rfl
theorem w_584 : (Cond.methodLink "GooseBorder$Told" (64 : Nat) ({ cls := "java/lang/System", name := "arraycopy", desc := "(Ljava/lang/Object;ILjava/lang/Object;II)V" } : MethodName)) ∈ gb_wA := gb_t3 104 rfl rfl
theorem w_517 : (Cond.native ({ cls := "java/lang/System", name := "arraycopy", desc := "(Ljava/lang/Object;ILjava/lang/Object;II)V" } : MethodName)) ∈ gb_wA := gb_t3 37 rfl rfl
theorem w_516 : (Cond.static ({ cls := "java/lang/System", name := "arraycopy", desc := "(Ljava/lang/Object;ILjava/lang/Object;II)V" } : MethodName)) ∈ gb_wA := gb_t3 36 rfl rfl
theorem w_19 : (Cond.initialized "java/lang/System") ∈ gb_wA := gb_t1 19 rfl rfl
theorem dX10_copyFrom_69 : decode cX10_copyFrom 69 = .ok (.aload_n 0, 1) := dc_42 (show ((cX10_copyFrom.data.toList.drop 69).take 1).map UInt8.toNat = [42] by decide +kernel)
theorem dX10_copyFrom_70 : decode cX10_copyFrom 70 = .ok (.aload_n 1, 1) := dc_43 (show ((cX10_copyFrom.data.toList.drop 70).take 1).map UInt8.toNat = [43] by decide +kernel)
theorem dX10_copyFrom_71 : decode cX10_copyFrom 71 = .ok (.getfield 51, 3) := dc_180 (show ((cX10_copyFrom.data.toList.drop 71).take 3).map UInt8.toNat = [180, 0, 51] by decide +kernel) rfl
theorem dX10_copyFrom_74 : decode cX10_copyFrom 74 = .ok (.putfield 51, 3) := dc_181 (show ((cX10_copyFrom.data.toList.drop 74).take 3).map UInt8.toNat = [181, 0, 51] by decide +kernel) rfl
theorem dX10_copyFrom_77 : decode cX10_copyFrom 77 = .ok (.aload_n 0, 1) := dc_42 (show ((cX10_copyFrom.data.toList.drop 77).take 1).map UInt8.toNat = [42] by decide +kernel)
theorem dX10_copyFrom_78 : decode cX10_copyFrom 78 = .ok (.aload_n 1, 1) := dc_43 (show ((cX10_copyFrom.data.toList.drop 78).take 1).map UInt8.toNat = [43] by decide +kernel)
theorem dX10_copyFrom_79 : decode cX10_copyFrom 79 = .ok (.getfield 70, 3) := dc_180 (show ((cX10_copyFrom.data.toList.drop 79).take 3).map UInt8.toNat = [180, 0, 70] by decide +kernel) rfl
theorem w_127 : (Cond.fieldLink "GooseBorder$Told" (70 : Nat) "GooseBorder$Told" "fault" "I") ∈ gb_wA := gb_t1 127 rfl rfl
theorem dX10_copyFrom_82 : decode cX10_copyFrom 82 = .ok (.putfield 70, 3) := dc_181 (show ((cX10_copyFrom.data.toList.drop 82).take 3).map UInt8.toNat = [181, 0, 70] by decide +kernel) rfl
theorem dX10_copyFrom_85 : decode cX10_copyFrom 85 = .ok (.aload_n 0, 1) := dc_42 (show ((cX10_copyFrom.data.toList.drop 85).take 1).map UInt8.toNat = [42] by decide +kernel)
theorem dX10_copyFrom_86 : decode cX10_copyFrom 86 = .ok (.aload_n 1, 1) := dc_43 (show ((cX10_copyFrom.data.toList.drop 86).take 1).map UInt8.toNat = [43] by decide +kernel)
theorem dX10_copyFrom_87 : decode cX10_copyFrom 87 = .ok (.getfield 47, 3) := dc_180 (show ((cX10_copyFrom.data.toList.drop 87).take 3).map UInt8.toNat = [180, 0, 47] by decide +kernel) rfl
theorem dX10_copyFrom_90 : decode cX10_copyFrom 90 = .ok (.putfield 47, 3) := dc_181 (show ((cX10_copyFrom.data.toList.drop 90).take 3).map UInt8.toNat = [181, 0, 47] by decide +kernel) rfl
theorem dX10_copyFrom_93 : decode cX10_copyFrom 93 = .ok (.return_, 1) := dc_177 (show ((cX10_copyFrom.data.toList.drop 93).take 1).map UInt8.toNat = [177] by decide +kernel)
theorem dX10_copyFrom_7 : decode cX10_copyFrom 7 = .ok (.iconst 0, 1) := dc_3 (show ((cX10_copyFrom.data.toList.drop 7).take 1).map UInt8.toNat = [3] by decide +kernel)
theorem dX10_copyFrom_8 : decode cX10_copyFrom 8 = .ok (.istore_n 3, 1) := dc_62 (show ((cX10_copyFrom.data.toList.drop 8).take 1).map UInt8.toNat = [62] by decide +kernel)
theorem dX10_copyFrom_9 : decode cX10_copyFrom 9 = .ok (.iload_n 3, 1) := dc_29 (show ((cX10_copyFrom.data.toList.drop 9).take 1).map UInt8.toNat = [29] by decide +kernel)
theorem dX10_copyFrom_10 : decode cX10_copyFrom 10 = .ok (.iconst 2, 1) := dc_5 (show ((cX10_copyFrom.data.toList.drop 10).take 1).map UInt8.toNat = [5] by decide +kernel)
theorem dX10_copyFrom_11 : decode cX10_copyFrom 11 = .ok (.if_icmp .ge 24, 3) := dc_162 (show ((cX10_copyFrom.data.toList.drop 11).take 3).map UInt8.toNat = [162, 0, 24] by decide +kernel) rfl
theorem dX10_copyFrom_35 : decode cX10_copyFrom 35 = .ok (.aload_n 0, 1) := dc_42 (show ((cX10_copyFrom.data.toList.drop 35).take 1).map UInt8.toNat = [42] by decide +kernel)
theorem dX10_copyFrom_36 : decode cX10_copyFrom 36 = .ok (.getfield 39, 3) := dc_180 (show ((cX10_copyFrom.data.toList.drop 36).take 3).map UInt8.toNat = [180, 0, 39] by decide +kernel) rfl
theorem dX10_copyFrom_39 : decode cX10_copyFrom 39 = .ok (.iload_n 2, 1) := dc_28 (show ((cX10_copyFrom.data.toList.drop 39).take 1).map UInt8.toNat = [28] by decide +kernel)
theorem dX10_copyFrom_40 : decode cX10_copyFrom 40 = .ok (.aload_n 1, 1) := dc_43 (show ((cX10_copyFrom.data.toList.drop 40).take 1).map UInt8.toNat = [43] by decide +kernel)
theorem dX10_copyFrom_41 : decode cX10_copyFrom 41 = .ok (.getfield 39, 3) := dc_180 (show ((cX10_copyFrom.data.toList.drop 41).take 3).map UInt8.toNat = [180, 0, 39] by decide +kernel) rfl
theorem dX10_copyFrom_44 : decode cX10_copyFrom 44 = .ok (.iload_n 2, 1) := dc_28 (show ((cX10_copyFrom.data.toList.drop 44).take 1).map UInt8.toNat = [28] by decide +kernel)
theorem dX10_copyFrom_45 : decode cX10_copyFrom 45 = .ok (.iaload, 1) := dc_46 (show ((cX10_copyFrom.data.toList.drop 45).take 1).map UInt8.toNat = [46] by decide +kernel)
theorem dX10_copyFrom_46 : decode cX10_copyFrom 46 = .ok (.iastore, 1) := dc_79 (show ((cX10_copyFrom.data.toList.drop 46).take 1).map UInt8.toNat = [79] by decide +kernel)
theorem dX10_copyFrom_47 : decode cX10_copyFrom 47 = .ok (.iinc 2 1, 3) := dc_132 (show ((cX10_copyFrom.data.toList.drop 47).take 3).map UInt8.toNat = [132, 2, 1] by decide +kernel) rfl
theorem dX10_copyFrom_50 : decode cX10_copyFrom 50 = .ok (.goto (-48), 3) := dc_167 (show ((cX10_copyFrom.data.toList.drop 50).take 3).map UInt8.toNat = [167, 255, 208] by decide +kernel) rfl
theorem dX10_copyFrom_14 : decode cX10_copyFrom 14 = .ok (.aload_n 0, 1) := dc_42 (show ((cX10_copyFrom.data.toList.drop 14).take 1).map UInt8.toNat = [42] by decide +kernel)
theorem dX10_copyFrom_15 : decode cX10_copyFrom 15 = .ok (.iload_n 2, 1) := dc_28 (show ((cX10_copyFrom.data.toList.drop 15).take 1).map UInt8.toNat = [28] by decide +kernel)
theorem dX10_copyFrom_16 : decode cX10_copyFrom 16 = .ok (.iload_n 3, 1) := dc_29 (show ((cX10_copyFrom.data.toList.drop 16).take 1).map UInt8.toNat = [29] by decide +kernel)
theorem dX10_copyFrom_17 : decode cX10_copyFrom 17 = .ok (.invokevirtual 54, 3) := dc_182 (show ((cX10_copyFrom.data.toList.drop 17).take 3).map UInt8.toNat = [182, 0, 54] by decide +kernel) rfl
theorem dX10_sheetOf_0 : decode cX10_sheetOf 0 = .ok (.iload_n 1, 1) := dc_27 (show ((cX10_sheetOf.data.toList.drop 0).take 1).map UInt8.toNat = [27] by decide +kernel)
theorem dX10_sheetOf_1 : decode cX10_sheetOf 1 = .ok (.tableswitch 48 0 2 #[27, 34, 41], 27) := by decide +kernel
theorem dX10_sheetOf_28 : decode cX10_sheetOf 28 = .ok (.aload_n 0, 1) := dc_42 (show ((cX10_sheetOf.data.toList.drop 28).take 1).map UInt8.toNat = [42] by decide +kernel)
theorem dX10_sheetOf_29 : decode cX10_sheetOf 29 = .ok (.getfield 12, 3) := dc_180 (show ((cX10_sheetOf.data.toList.drop 29).take 3).map UInt8.toNat = [180, 0, 12] by decide +kernel) rfl
theorem dX10_sheetOf_32 : decode cX10_sheetOf 32 = .ok (.iload_n 2, 1) := dc_28 (show ((cX10_sheetOf.data.toList.drop 32).take 1).map UInt8.toNat = [28] by decide +kernel)
theorem dX10_sheetOf_33 : decode cX10_sheetOf 33 = .ok (.aaload, 1) := dc_50 (show ((cX10_sheetOf.data.toList.drop 33).take 1).map UInt8.toNat = [50] by decide +kernel)
theorem dX10_sheetOf_34 : decode cX10_sheetOf 34 = .ok (.areturn, 1) := dc_176 (show ((cX10_sheetOf.data.toList.drop 34).take 1).map UInt8.toNat = [176] by decide +kernel)
theorem dX10_sheetOf_35 : decode cX10_sheetOf 35 = .ok (.aload_n 0, 1) := dc_42 (show ((cX10_sheetOf.data.toList.drop 35).take 1).map UInt8.toNat = [42] by decide +kernel)
theorem dX10_sheetOf_36 : decode cX10_sheetOf 36 = .ok (.getfield 21, 3) := dc_180 (show ((cX10_sheetOf.data.toList.drop 36).take 3).map UInt8.toNat = [180, 0, 21] by decide +kernel) rfl
theorem dX10_sheetOf_39 : decode cX10_sheetOf 39 = .ok (.iload_n 2, 1) := dc_28 (show ((cX10_sheetOf.data.toList.drop 39).take 1).map UInt8.toNat = [28] by decide +kernel)
theorem dX10_sheetOf_40 : decode cX10_sheetOf 40 = .ok (.aaload, 1) := dc_50 (show ((cX10_sheetOf.data.toList.drop 40).take 1).map UInt8.toNat = [50] by decide +kernel)
theorem dX10_sheetOf_41 : decode cX10_sheetOf 41 = .ok (.areturn, 1) := dc_176 (show ((cX10_sheetOf.data.toList.drop 41).take 1).map UInt8.toNat = [176] by decide +kernel)
theorem dX10_sheetOf_42 : decode cX10_sheetOf 42 = .ok (.aload_n 0, 1) := dc_42 (show ((cX10_sheetOf.data.toList.drop 42).take 1).map UInt8.toNat = [42] by decide +kernel)
theorem dX10_sheetOf_43 : decode cX10_sheetOf 43 = .ok (.getfield 28, 3) := dc_180 (show ((cX10_sheetOf.data.toList.drop 43).take 3).map UInt8.toNat = [180, 0, 28] by decide +kernel) rfl
theorem dX10_sheetOf_46 : decode cX10_sheetOf 46 = .ok (.iload_n 2, 1) := dc_28 (show ((cX10_sheetOf.data.toList.drop 46).take 1).map UInt8.toNat = [28] by decide +kernel)
theorem dX10_sheetOf_47 : decode cX10_sheetOf 47 = .ok (.aaload, 1) := dc_50 (show ((cX10_sheetOf.data.toList.drop 47).take 1).map UInt8.toNat = [50] by decide +kernel)
theorem dX10_sheetOf_48 : decode cX10_sheetOf 48 = .ok (.areturn, 1) := dc_176 (show ((cX10_sheetOf.data.toList.drop 48).take 1).map UInt8.toNat = [176] by decide +kernel)
theorem dX10_sheetOf_49 : decode cX10_sheetOf 49 = .ok (.aload_n 0, 1) := dc_42 (show ((cX10_sheetOf.data.toList.drop 49).take 1).map UInt8.toNat = [42] by decide +kernel)
theorem dX10_sheetOf_50 : decode cX10_sheetOf 50 = .ok (.getfield 35, 3) := dc_180 (show ((cX10_sheetOf.data.toList.drop 50).take 3).map UInt8.toNat = [180, 0, 35] by decide +kernel) rfl
theorem dX10_sheetOf_53 : decode cX10_sheetOf 53 = .ok (.iload_n 2, 1) := dc_28 (show ((cX10_sheetOf.data.toList.drop 53).take 1).map UInt8.toNat = [28] by decide +kernel)
theorem dX10_sheetOf_54 : decode cX10_sheetOf 54 = .ok (.aaload, 1) := dc_50 (show ((cX10_sheetOf.data.toList.drop 54).take 1).map UInt8.toNat = [50] by decide +kernel)
theorem dX10_sheetOf_55 : decode cX10_sheetOf 55 = .ok (.areturn, 1) := dc_176 (show ((cX10_sheetOf.data.toList.drop 55).take 1).map UInt8.toNat = [176] by decide +kernel)
def cs_Told_sheetOf_T (n : Nat) (σ : gb_S) (k0 : Nat) (p1 : Int32) (p2 : Int32) : gb_CR Nat := gb_kk (gb_kT k0) ((if p1 = (0 : Int32) then gb_ck p2 2 (gb_lt (([k0 + 2, k0 + 4] : List Nat).getD (Int32.toNatClampNeg p2) 0) (fun a_4 => gb_kk (gb_kB a_4) (some (σ, a_4)))) else (if p1 = (1 : Int32) then gb_ck p2 2 (gb_lt (([k0 + 7, k0 + 9] : List Nat).getD (Int32.toNatClampNeg p2) 0) (fun a_8 => gb_kk (gb_kN a_8) (some (σ, a_8)))) else (if p1 = (2 : Int32) then gb_ck p2 2 (gb_lt (([k0 + 12, k0 + 14] : List Nat).getD (Int32.toNatClampNeg p2) 0) (fun a_12 => gb_kk (gb_kL a_12) (some (σ, a_12)))) else gb_ck p2 2 (gb_lt (([k0 + 17, k0 + 19] : List Nat).getD (Int32.toNatClampNeg p2) 0) (fun a_15 => gb_kk (gb_kD a_15) (some (σ, a_15))))))))
set_option maxHeartbeats 8000000 in
set_option maxRecDepth 100000 in
theorem cc_Told_sheetOf_T (l : Launch) (D : va_G) (cT : Nat → ClassId) (tt : Nat → Nat) (b1 b : Nat) (hb1 : b1 ≤ b) (n : Nat) (σ : gb_S) (k0 : Nat) (p1 : Int32) (p2 : Int32) (σE : gb_S) (rE : Nat) (h : cs_Told_sheetOf_T n σ k0 p1 p2 = some (σE, rE)) : Met l yX10_sheetOf (.code yX10_sheetOf cX10_sheetOf 3 (some (FieldType.object "GooseBorder$Sheet")) :: gb_wA) ({ frames := 0, cells := 0, slots := 0, locals := 0 }) (gb_Pc D cT tt b1 [.ref (b + k0), .int p1, .int p2] (fun h => va_P D vwCl (gb_wl b (gb_CW cT b σ)) h)) (gb_Qq (fun r h => r = gb_on b rE ∧ va_P D vwCl (gb_wl b (gb_CW cT b σE)) h) (gb_fr b 135)) 0 0 (gb_fr b 135) := by
  refine Met.ofW (cc := cX10_sheetOf) (maxL := 3) (ret := (some (FieldType.object "GooseBorder$Sheet"))) (by decide) rfl ?_
  intro p e s m args below meth c s₁ B hml hv
  obtain ⟨rfl, hSt, hP⟩ := hv
  have hx := B.exec
  have hb := B.bytes
  have hr := B.returns
  have hts := atoms_spec (ws := .code yX10_sheetOf cX10_sheetOf 3 (some (FieldType.object "GooseBorder$Sheet")) :: gb_wA) B.pre
  have hq : ∀ w ∈ gb_wA, w.before _ s = true := fun w h => hts w (List.mem_cons_of_mem _ h)
  have hown : s.vm.findClass RX10 = some m.cls := findClass_of_methodNamed B.named
  have hlocks := B.notSynchronized
  clear B hts
  have hK := hSt.1
  have hS : va_S (gb_fr b 135) s.heap s.heap [] := va_S.rf
  have hl := lv_entry ([.ref (b + k0), .int p1, .int p2]) (n := 3) (Nat.le_of_ble_eq_true rfl)
  rw [lg_entry_eq]
  generalize (lg_sl ([.ref (b + k0), .int p1, .int p2]) ++ List.replicate (3 - (lg_sl ([.ref (b + k0), .int p1, .int p2])).length) Slot.unset).toArray = ls at hl ⊢
  replace hl : lv_has ls 3 [(0, .ref (b + k0)), (1, .int p1), (2, .int p2)] := hl
  unfold cs_Told_sheetOf_T at h
  obtain ⟨z_1, h⟩ := gb_kk_s h
  refine lv_iload_n hx hb dX10_sheetOf_0 rfl (lv_at hl 1 rfl) ?_
  by_cases c_2 : p1 = (0 : Int32)
  · rw [if_pos c_2] at h
    refine lv_tableIn (off := 27) (tgt := 28) hx hb dX10_sheetOf_1 (by rw [c_2]; decide) (by rw [c_2]; decide) (by rw [c_2]; decide) (by decide) ?_
    refine lv_aload_n hx hb dX10_sheetOf_28 rfl (lv_at hl 0 rfl) ?_
    refine va_get (ci := 8) (v := (.ref (b + (k0 + 1)))) (C := RX10) (T := TX10) (N := 9) hx hb hq i_X10 hown hK hP k0 (gb_at b (gb_cT z_1).1) rfl 0 (by decide) (hq _ w_112) (fun _ h9 => h9) rfl dX10_sheetOf_29 ?_
    refine lv_iload_n hx hb dX10_sheetOf_32 rfl (lv_at hl 2 rfl) ?_
    obtain ⟨z_3, h⟩ := gb_ck_s h
    refine gb_aald (v := .ref (b + (([k0 + 2, k0 + 4] : List Nat).getD (Int32.toNatClampNeg p2) 0))) hx hb hK hP (k0 + 1) 4 (gb_at b (gb_cT z_1).2.1) rfl z_3 (gb_ra_at (L := ([k0 + 2, k0 + 4] : List Nat)) z_3) dX10_sheetOf_33 ?_
    obtain ⟨a_4, ea_4⟩ : ∃ q, q = (([k0 + 2, k0 + 4] : List Nat).getD (Int32.toNatClampNeg p2) 0) := ⟨_, rfl⟩
    rw [← ea_4]
    replace h := gb_lt_s ea_4 h
    obtain ⟨z_5, h⟩ := gb_kk_s h
    obtain ⟨e1, e2⟩ := gb_eq2 h
    exact W.aret (v := (.ref (b + a_4))) hx hb hr (Or.inl ⟨_, rfl⟩) (Or.inr ⟨_, rfl⟩) (fun t ht hW => gb_rq (some (b + a_4)) ht ⟨by rw [← e2]; exact (gb_on1 (gb_nzB z_5)), by rw [← e1]; exact hP⟩ hS) hS.2.2 dX10_sheetOf_34
  rw [if_neg c_2] at h
  by_cases c_6 : p1 = (1 : Int32)
  · rw [if_pos c_6] at h
    refine lv_tableIn (off := 34) (tgt := 35) hx hb dX10_sheetOf_1 (by rw [c_6]; decide) (by rw [c_6]; decide) (by rw [c_6]; decide) (by decide) ?_
    refine lv_aload_n hx hb dX10_sheetOf_35 rfl (lv_at hl 0 rfl) ?_
    refine va_get (ci := 8) (v := (.ref (b + (k0 + 6)))) (C := RX10) (T := TX10) (N := 9) hx hb hq i_X10 hown hK hP k0 (gb_at b (gb_cT z_1).1) rfl 1 (by decide) (hq _ w_114) (fun _ h9 => h9) rfl dX10_sheetOf_36 ?_
    refine lv_iload_n hx hb dX10_sheetOf_39 rfl (lv_at hl 2 rfl) ?_
    obtain ⟨z_7, h⟩ := gb_ck_s h
    refine gb_aald (v := .ref (b + (([k0 + 7, k0 + 9] : List Nat).getD (Int32.toNatClampNeg p2) 0))) hx hb hK hP (k0 + 6) 5 (gb_at b (gb_cT z_1).2.2.1) rfl z_7 (gb_ra_at (L := ([k0 + 7, k0 + 9] : List Nat)) z_7) dX10_sheetOf_40 ?_
    obtain ⟨a_8, ea_8⟩ : ∃ q, q = (([k0 + 7, k0 + 9] : List Nat).getD (Int32.toNatClampNeg p2) 0) := ⟨_, rfl⟩
    rw [← ea_8]
    replace h := gb_lt_s ea_8 h
    obtain ⟨z_9, h⟩ := gb_kk_s h
    obtain ⟨e1, e2⟩ := gb_eq2 h
    exact W.aret (v := (.ref (b + a_8))) hx hb hr (Or.inl ⟨_, rfl⟩) (Or.inr ⟨_, rfl⟩) (fun t ht hW => gb_rq (some (b + a_8)) ht ⟨by rw [← e2]; exact (gb_on1 (gb_nzN z_9)), by rw [← e1]; exact hP⟩ hS) hS.2.2 dX10_sheetOf_41
  rw [if_neg c_6] at h
  by_cases c_10 : p1 = (2 : Int32)
  · rw [if_pos c_10] at h
    refine lv_tableIn (off := 41) (tgt := 42) hx hb dX10_sheetOf_1 (by rw [c_10]; decide) (by rw [c_10]; decide) (by rw [c_10]; decide) (by decide) ?_
    refine lv_aload_n hx hb dX10_sheetOf_42 rfl (lv_at hl 0 rfl) ?_
    refine va_get (ci := 8) (v := (.ref (b + (k0 + 11)))) (C := RX10) (T := TX10) (N := 9) hx hb hq i_X10 hown hK hP k0 (gb_at b (gb_cT z_1).1) rfl 2 (by decide) (hq _ w_116) (fun _ h9 => h9) rfl dX10_sheetOf_43 ?_
    refine lv_iload_n hx hb dX10_sheetOf_46 rfl (lv_at hl 2 rfl) ?_
    obtain ⟨z_11, h⟩ := gb_ck_s h
    refine gb_aald (v := .ref (b + (([k0 + 12, k0 + 14] : List Nat).getD (Int32.toNatClampNeg p2) 0))) hx hb hK hP (k0 + 11) 6 (gb_at b (gb_cT z_1).2.2.2.1) rfl z_11 (gb_ra_at (L := ([k0 + 12, k0 + 14] : List Nat)) z_11) dX10_sheetOf_47 ?_
    obtain ⟨a_12, ea_12⟩ : ∃ q, q = (([k0 + 12, k0 + 14] : List Nat).getD (Int32.toNatClampNeg p2) 0) := ⟨_, rfl⟩
    rw [← ea_12]
    replace h := gb_lt_s ea_12 h
    obtain ⟨z_13, h⟩ := gb_kk_s h
    obtain ⟨e1, e2⟩ := gb_eq2 h
    exact W.aret (v := (.ref (b + a_12))) hx hb hr (Or.inl ⟨_, rfl⟩) (Or.inr ⟨_, rfl⟩) (fun t ht hW => gb_rq (some (b + a_12)) ht ⟨by rw [← e2]; exact (gb_on1 (gb_nzL z_13)), by rw [← e1]; exact hP⟩ hS) hS.2.2 dX10_sheetOf_48
  rw [if_neg c_10] at h
  refine lv_tableOut (tgt := 49) hx hb dX10_sheetOf_1 (by have := lv_neT c_2 (a := 0) rfl; have := lv_neT c_6 (a := 1) rfl; have := lv_neT c_10 (a := 2) rfl; omega) (by decide) ?_
  refine lv_aload_n hx hb dX10_sheetOf_49 rfl (lv_at hl 0 rfl) ?_
  refine va_get (ci := 8) (v := (.ref (b + (k0 + 16)))) (C := RX10) (T := TX10) (N := 9) hx hb hq i_X10 hown hK hP k0 (gb_at b (gb_cT z_1).1) rfl 3 (by decide) (hq _ w_118) (fun _ h9 => h9) rfl dX10_sheetOf_50 ?_
  refine lv_iload_n hx hb dX10_sheetOf_53 rfl (lv_at hl 2 rfl) ?_
  obtain ⟨z_14, h⟩ := gb_ck_s h
  refine gb_aald (v := .ref (b + (([k0 + 17, k0 + 19] : List Nat).getD (Int32.toNatClampNeg p2) 0))) hx hb hK hP (k0 + 16) 7 (gb_at b (gb_cT z_1).2.2.2.2.1) rfl z_14 (gb_ra_at (L := ([k0 + 17, k0 + 19] : List Nat)) z_14) dX10_sheetOf_54 ?_
  obtain ⟨a_15, ea_15⟩ : ∃ q, q = (([k0 + 17, k0 + 19] : List Nat).getD (Int32.toNatClampNeg p2) 0) := ⟨_, rfl⟩
  rw [← ea_15]
  replace h := gb_lt_s ea_15 h
  obtain ⟨z_16, h⟩ := gb_kk_s h
  obtain ⟨e1, e2⟩ := gb_eq2 h
  exact W.aret (v := (.ref (b + a_15))) hx hb hr (Or.inl ⟨_, rfl⟩) (Or.inr ⟨_, rfl⟩) (fun t ht hW => gb_rq (some (b + a_15)) ht ⟨by rw [← e2]; exact (gb_on1 (gb_nzD z_16)), by rw [← e1]; exact hP⟩ hS) hS.2.2 dX10_sheetOf_55
theorem w_555 : (Cond.code ({ cls := "GooseBorder$Told", name := "sheetOf", desc := "(II)LGooseBorder$Sheet;" } : MethodName) prog_12_method_3_code (3 : Nat) (Option.some (FieldType.object "GooseBorder$Sheet"))) ∈ gb_wA := gb_t3 75 rfl rfl
theorem w_582 : (Cond.methodLink "GooseBorder$Told" (54 : Nat) ({ cls := "GooseBorder$Told", name := "sheetOf", desc := "(II)LGooseBorder$Sheet;" } : MethodName)) ∈ gb_wA := gb_t3 102 rfl rfl
theorem w_553 : (Cond.instanceMethod ({ cls := "GooseBorder$Told", name := "sheetOf", desc := "(II)LGooseBorder$Sheet;" } : MethodName)) ∈ gb_wA := gb_t3 73 rfl rfl
theorem w_554 : (Cond.selects "GooseBorder$Told" ({ cls := "GooseBorder$Told", name := "sheetOf", desc := "(II)LGooseBorder$Sheet;" } : MethodName) ({ cls := "GooseBorder$Told", name := "sheetOf", desc := "(II)LGooseBorder$Sheet;" } : MethodName)) ∈ gb_wA := gb_t3 74 rfl rfl
theorem dX10_copyFrom_20 : decode cX10_copyFrom 20 = .ok (.aload_n 1, 1) := dc_43 (show ((cX10_copyFrom.data.toList.drop 20).take 1).map UInt8.toNat = [43] by decide +kernel)
theorem dX10_copyFrom_21 : decode cX10_copyFrom 21 = .ok (.iload_n 2, 1) := dc_28 (show ((cX10_copyFrom.data.toList.drop 21).take 1).map UInt8.toNat = [28] by decide +kernel)
theorem dX10_copyFrom_22 : decode cX10_copyFrom 22 = .ok (.iload_n 3, 1) := dc_29 (show ((cX10_copyFrom.data.toList.drop 22).take 1).map UInt8.toNat = [29] by decide +kernel)
theorem dX10_copyFrom_23 : decode cX10_copyFrom 23 = .ok (.invokevirtual 54, 3) := dc_182 (show ((cX10_copyFrom.data.toList.drop 23).take 3).map UInt8.toNat = [182, 0, 54] by decide +kernel) rfl
theorem dX10_copyFrom_26 : decode cX10_copyFrom 26 = .ok (.invokevirtual 58, 3) := dc_182 (show ((cX10_copyFrom.data.toList.drop 26).take 3).map UInt8.toNat = [182, 0, 58] by decide +kernel) rfl
theorem dX9_copyFrom_0 : decode cX9_copyFrom 0 = .ok (.aload_n 1, 1) := dc_43 (show ((cX9_copyFrom.data.toList.drop 0).take 1).map UInt8.toNat = [43] by decide +kernel)
theorem dX9_copyFrom_1 : decode cX9_copyFrom 1 = .ok (.getfield 13, 3) := dc_180 (show ((cX9_copyFrom.data.toList.drop 1).take 3).map UInt8.toNat = [180, 0, 13] by decide +kernel) rfl
theorem dX9_copyFrom_4 : decode cX9_copyFrom 4 = .ok (.iconst 0, 1) := dc_3 (show ((cX9_copyFrom.data.toList.drop 4).take 1).map UInt8.toNat = [3] by decide +kernel)
theorem dX9_copyFrom_5 : decode cX9_copyFrom 5 = .ok (.aload_n 0, 1) := dc_42 (show ((cX9_copyFrom.data.toList.drop 5).take 1).map UInt8.toNat = [42] by decide +kernel)
theorem dX9_copyFrom_6 : decode cX9_copyFrom 6 = .ok (.getfield 13, 3) := dc_180 (show ((cX9_copyFrom.data.toList.drop 6).take 3).map UInt8.toNat = [180, 0, 13] by decide +kernel) rfl
theorem dX9_copyFrom_9 : decode cX9_copyFrom 9 = .ok (.iconst 0, 1) := dc_3 (show ((cX9_copyFrom.data.toList.drop 9).take 1).map UInt8.toNat = [3] by decide +kernel)
theorem dX9_copyFrom_10 : decode cX9_copyFrom 10 = .ok (.aload_n 0, 1) := dc_42 (show ((cX9_copyFrom.data.toList.drop 10).take 1).map UInt8.toNat = [42] by decide +kernel)
theorem dX9_copyFrom_11 : decode cX9_copyFrom 11 = .ok (.getfield 13, 3) := dc_180 (show ((cX9_copyFrom.data.toList.drop 11).take 3).map UInt8.toNat = [180, 0, 13] by decide +kernel) rfl
theorem dX9_copyFrom_14 : decode cX9_copyFrom 14 = .ok (.arraylength, 1) := dc_190 (show ((cX9_copyFrom.data.toList.drop 14).take 1).map UInt8.toNat = [190] by decide +kernel)
theorem dX9_copyFrom_15 : decode cX9_copyFrom 15 = .ok (.aload_n 1, 1) := dc_43 (show ((cX9_copyFrom.data.toList.drop 15).take 1).map UInt8.toNat = [43] by decide +kernel)
theorem dX9_copyFrom_16 : decode cX9_copyFrom 16 = .ok (.getfield 13, 3) := dc_180 (show ((cX9_copyFrom.data.toList.drop 16).take 3).map UInt8.toNat = [180, 0, 13] by decide +kernel) rfl
theorem dX9_copyFrom_19 : decode cX9_copyFrom 19 = .ok (.arraylength, 1) := dc_190 (show ((cX9_copyFrom.data.toList.drop 19).take 1).map UInt8.toNat = [190] by decide +kernel)
theorem dX9_copyFrom_20 : decode cX9_copyFrom 20 = .ok (.invokestatic 19, 3) := dc_184 (show ((cX9_copyFrom.data.toList.drop 20).take 3).map UInt8.toNat = [184, 0, 19] by decide +kernel) rfl
theorem w_564 : (Cond.methodLink "GooseBorder$Sheet" (19 : Nat) ({ cls := "java/lang/Math", name := "min", desc := "(II)I" } : MethodName)) ∈ gb_wA := gb_t3 84 rfl rfl
theorem dX9_copyFrom_23 : decode cX9_copyFrom 23 = .ok (.invokestatic 22, 3) := dc_184 (show ((cX9_copyFrom.data.toList.drop 23).take 3).map UInt8.toNat = [184, 0, 22] by decide +kernel) rfl
theorem w_565 : (Cond.methodLink "GooseBorder$Sheet" (22 : Nat) ({ cls := "java/lang/System", name := "arraycopy", desc := "(Ljava/lang/Object;ILjava/lang/Object;II)V" } : MethodName)) ∈ gb_wA := gb_t3 85 rfl rfl
theorem dX9_copyFrom_26 : decode cX9_copyFrom 26 = .ok (.return_, 1) := dc_177 (show ((cX9_copyFrom.data.toList.drop 26).take 1).map UInt8.toNat = [177] by decide +kernel)
def cs_Sheet_copyFrom_B_B (n : Nat) (σ : gb_S) (k0 : Nat) (p1 : Nat) : gb_CR Unit := gb_kk (gb_kB k0) (gb_kk (gb_kB p1) (gb_lt (if (58 : Int32) < (58 : Int32) then (58 : Int32) else (58 : Int32)) (fun x_3 => gb_ac 0 0 x_3 58 58 (gb_lt (gb_su σ (k0 + 1) (va_cpy (σ.1 (p1 + 1)) (σ.1 (k0 + 1)) (Int32.toNatClampNeg 0) (Int32.toNatClampNeg 0) (Int32.toNatClampNeg x_3))) (fun s_5 => some (s_5, ()))))))
set_option maxHeartbeats 8000000 in
set_option maxRecDepth 100000 in
theorem cc_Sheet_copyFrom_B_B (l : Launch) (D : va_G) (cT : Nat → ClassId) (tt : Nat → Nat) (b1 b : Nat) (hb1 : b1 ≤ b) (n : Nat) (σ : gb_S) (k0 : Nat) (p1 : Nat) (σE : gb_S) (rE : Unit) (h : cs_Sheet_copyFrom_B_B n σ k0 p1 = some (σE, rE)) : Met l yX9_copyFrom (.code yX9_copyFrom cX9_copyFrom 2 none :: gb_wA) ({ frames := 1, cells := 0, slots := 0, locals := 40 }) (gb_Pc D cT tt b1 [.ref (b + k0), .ref (b + p1)] (fun h => va_P D vwCl (gb_wl b (gb_CW cT b σ)) h)) (gb_Qv (fun h => va_P D vwCl (gb_wl b (gb_CW cT b σE)) h) (gb_fr b 135)) 0 0 (gb_fr b 135) := by
  refine Met.ofW (cc := cX9_copyFrom) (maxL := 2) (ret := none) (by decide) rfl ?_
  intro p e s m args below meth c s₁ B hml hv
  obtain ⟨rfl, hSt, hP⟩ := hv
  have hx := B.exec
  have hb := B.bytes
  have hr := B.returns
  have hts := atoms_spec (ws := .code yX9_copyFrom cX9_copyFrom 2 none :: gb_wA) B.pre
  have hq : ∀ w ∈ gb_wA, w.before _ s = true := fun w h => hts w (List.mem_cons_of_mem _ h)
  have hown : s.vm.findClass RX9 = some m.cls := findClass_of_methodNamed B.named
  have hlocks := B.notSynchronized
  clear B hts
  have hK := hSt.1
  have hS : va_S (gb_fr b 135) s.heap s.heap [] := va_S.rf
  have hl := lv_entry ([.ref (b + k0), .ref (b + p1)]) (n := 2) (Nat.le_of_ble_eq_true rfl)
  rw [lg_entry_eq]
  generalize (lg_sl ([.ref (b + k0), .ref (b + p1)]) ++ List.replicate (2 - (lg_sl ([.ref (b + k0), .ref (b + p1)])).length) Slot.unset).toArray = ls at hl ⊢
  replace hl : lv_has ls 2 [(0, .ref (b + k0)), (1, .ref (b + p1))] := hl
  unfold cs_Sheet_copyFrom_B_B at h
  obtain ⟨z_1, h⟩ := gb_kk_s h
  obtain ⟨z_2, h⟩ := gb_kk_s h
  refine lv_aload_n hx hb dX9_copyFrom_0 rfl (lv_at hl 1 rfl) ?_
  refine va_get (ci := 0) (v := (.ref (b + (p1 + 1)))) (C := RX0) (T := TX0) (N := 1) hx hb hq i_X0 hown hK hP p1 (gb_at b (gb_cB z_2).1) rfl 0 (by decide) (hq _ w_51) (fun _ h9 => h9) rfl dX9_copyFrom_1 ?_
  refine lv_iconst (v := 0) hx hb dX9_copyFrom_4 (by decide) ?_
  refine lv_aload_n hx hb dX9_copyFrom_5 rfl (lv_at hl 0 rfl) ?_
  refine va_get (ci := 0) (v := (.ref (b + (k0 + 1)))) (C := RX0) (T := TX0) (N := 1) hx hb hq i_X0 hown hK hP k0 (gb_at b (gb_cB z_1).1) rfl 0 (by decide) (hq _ w_51) (fun _ h9 => h9) rfl dX9_copyFrom_6 ?_
  refine lv_iconst (v := 0) hx hb dX9_copyFrom_9 (by decide) ?_
  refine lv_aload_n hx hb dX9_copyFrom_10 rfl (lv_at hl 0 rfl) ?_
  refine va_get (ci := 0) (v := (.ref (b + (k0 + 1)))) (C := RX0) (T := TX0) (N := 1) hx hb hq i_X0 hown hK hP k0 (gb_at b (gb_cB z_1).1) rfl 0 (by decide) (hq _ w_51) (fun _ h9 => h9) rfl dX9_copyFrom_11 ?_
  refine va_alen (v := 58) hx hb hK hP (k0 + 1) 0 (gb_at b (gb_cB z_1).2) rfl rfl dX9_copyFrom_14 ?_
  refine lv_aload_n hx hb dX9_copyFrom_15 rfl (lv_at hl 1 rfl) ?_
  refine va_get (ci := 0) (v := (.ref (b + (p1 + 1)))) (C := RX0) (T := TX0) (N := 1) hx hb hq i_X0 hown hK hP p1 (gb_at b (gb_cB z_2).1) rfl 0 (by decide) (hq _ w_51) (fun _ h9 => h9) rfl dX9_copyFrom_16 ?_
  refine va_alen (v := 58) hx hb hK hP (p1 + 1) 0 (gb_at b (gb_cB z_2).2) rfl rfl dX9_copyFrom_19 ?_
  refine va_mmin hx hb (hml.trans hl.1.symm) hown (hq _ w_564) (hq _ w_367) (hq _ w_5) (hq _ w_368) (Nat.le_of_ble_eq_true rfl) (Nat.le_of_ble_eq_true rfl) (Nat.le_of_ble_eq_true rfl) (Nat.le_of_ble_eq_true rfl) dX9_copyFrom_20 ?_
  refine lv_topi (fun x_3 ex_3 => ?_)
  replace h := gb_lt_s ex_3 h
  obtain ⟨z_4, h⟩ := gb_ac_s h
  refine va_copyi (ty := .int) hx hb (hml.trans hl.1.symm) hown (hq _ w_565) (hq _ w_517) (hq _ w_516) (hq _ w_19) hK hP (gb_D (fun k h => ⟨Nat.le_add_right b k, Nat.add_lt_add_left h b⟩)) hS (p1 + 1) (k0 + 1) 0 0 (gb_at b (gb_cB z_2).2) (gb_at b (gb_cB z_1).2) rfl rfl rfl z_4.1 z_4.2.1 z_4.2.2.1 z_4.2.2.2.1 z_4.2.2.2.2 (fun _ _ => rfl) (Nat.le_of_ble_eq_true rfl) (Nat.le_of_ble_eq_true rfl) dX9_copyFrom_23 (fun H locs hP hD hS => ?_)
  rw [gb_set] at hP
  obtain ⟨s_5, es_5⟩ : ∃ q, q = (gb_su σ (k0 + 1) (va_cpy (σ.1 (p1 + 1)) (σ.1 (k0 + 1)) (Int32.toNatClampNeg 0) (Int32.toNatClampNeg 0) (Int32.toNatClampNeg x_3))) := ⟨_, rfl⟩
  replace hP : va_P D vwCl (gb_wl b (gb_CW cT b s_5)) H := by rw [es_5, ← gb_wB z_1]; exact hP
  replace h := gb_lt_s es_5 h
  obtain ⟨e1, -⟩ := gb_eq2 h
  exact W.vret hx hb hr (fun t ht hW => gb_rv ht (by rw [← e1]; exact hP) hS) hS.2.2 dX9_copyFrom_26
theorem w_563 : (Cond.code ({ cls := "GooseBorder$Sheet", name := "copyFrom", desc := "(LGooseBorder$Sheet;)V" } : MethodName) prog_11_method_2_code (2 : Nat) (Option.none : Option FieldType)) ∈ gb_wA := gb_t3 83 rfl rfl
theorem w_583 : (Cond.methodLink "GooseBorder$Told" (58 : Nat) ({ cls := "GooseBorder$Sheet", name := "copyFrom", desc := "(LGooseBorder$Sheet;)V" } : MethodName)) ∈ gb_wA := gb_t3 103 rfl rfl
theorem w_558 : (Cond.sameMethod "GooseBorder$Sheet" "GooseBorder$Sheet" "copyFrom" "(LGooseBorder$Sheet;)V") ∈ gb_wA := gb_t3 78 rfl rfl
theorem w_559 : (Cond.selects "GooseBorder$Border" ({ cls := "GooseBorder$Sheet", name := "copyFrom", desc := "(LGooseBorder$Sheet;)V" } : MethodName) ({ cls := "GooseBorder$Sheet", name := "copyFrom", desc := "(LGooseBorder$Sheet;)V" } : MethodName)) ∈ gb_wA := gb_t3 79 rfl rfl
theorem w_557 : (Cond.instanceMethod ({ cls := "GooseBorder$Sheet", name := "copyFrom", desc := "(LGooseBorder$Sheet;)V" } : MethodName)) ∈ gb_wA := gb_t3 77 rfl rfl
theorem dX10_copyFrom_29 : decode cX10_copyFrom 29 = .ok (.iinc 3 1, 3) := dc_132 (show ((cX10_copyFrom.data.toList.drop 29).take 3).map UInt8.toNat = [132, 3, 1] by decide +kernel) rfl
theorem dX10_copyFrom_32 : decode cX10_copyFrom 32 = .ok (.goto (-23), 3) := dc_167 (show ((cX10_copyFrom.data.toList.drop 32).take 3).map UInt8.toNat = [167, 255, 233] by decide +kernel) rfl
def cs_Sheet_copyFrom_N_N (n : Nat) (σ : gb_S) (k0 : Nat) (p1 : Nat) : gb_CR Unit := gb_kk (gb_kN k0) (gb_kk (gb_kN p1) (gb_lt (if (97 : Int32) < (97 : Int32) then (97 : Int32) else (97 : Int32)) (fun x_3 => gb_ac 0 0 x_3 97 97 (gb_lt (gb_su σ (k0 + 1) (va_cpy (σ.1 (p1 + 1)) (σ.1 (k0 + 1)) (Int32.toNatClampNeg 0) (Int32.toNatClampNeg 0) (Int32.toNatClampNeg x_3))) (fun s_5 => some (s_5, ()))))))
set_option maxHeartbeats 8000000 in
set_option maxRecDepth 100000 in
theorem cc_Sheet_copyFrom_N_N (l : Launch) (D : va_G) (cT : Nat → ClassId) (tt : Nat → Nat) (b1 b : Nat) (hb1 : b1 ≤ b) (n : Nat) (σ : gb_S) (k0 : Nat) (p1 : Nat) (σE : gb_S) (rE : Unit) (h : cs_Sheet_copyFrom_N_N n σ k0 p1 = some (σE, rE)) : Met l yX9_copyFrom (.code yX9_copyFrom cX9_copyFrom 2 none :: gb_wA) ({ frames := 1, cells := 0, slots := 0, locals := 40 }) (gb_Pc D cT tt b1 [.ref (b + k0), .ref (b + p1)] (fun h => va_P D vwCl (gb_wl b (gb_CW cT b σ)) h)) (gb_Qv (fun h => va_P D vwCl (gb_wl b (gb_CW cT b σE)) h) (gb_fr b 135)) 0 0 (gb_fr b 135) := by
  refine Met.ofW (cc := cX9_copyFrom) (maxL := 2) (ret := none) (by decide) rfl ?_
  intro p e s m args below meth c s₁ B hml hv
  obtain ⟨rfl, hSt, hP⟩ := hv
  have hx := B.exec
  have hb := B.bytes
  have hr := B.returns
  have hts := atoms_spec (ws := .code yX9_copyFrom cX9_copyFrom 2 none :: gb_wA) B.pre
  have hq : ∀ w ∈ gb_wA, w.before _ s = true := fun w h => hts w (List.mem_cons_of_mem _ h)
  have hown : s.vm.findClass RX9 = some m.cls := findClass_of_methodNamed B.named
  have hlocks := B.notSynchronized
  clear B hts
  have hK := hSt.1
  have hS : va_S (gb_fr b 135) s.heap s.heap [] := va_S.rf
  have hl := lv_entry ([.ref (b + k0), .ref (b + p1)]) (n := 2) (Nat.le_of_ble_eq_true rfl)
  rw [lg_entry_eq]
  generalize (lg_sl ([.ref (b + k0), .ref (b + p1)]) ++ List.replicate (2 - (lg_sl ([.ref (b + k0), .ref (b + p1)])).length) Slot.unset).toArray = ls at hl ⊢
  replace hl : lv_has ls 2 [(0, .ref (b + k0)), (1, .ref (b + p1))] := hl
  unfold cs_Sheet_copyFrom_N_N at h
  obtain ⟨z_1, h⟩ := gb_kk_s h
  obtain ⟨z_2, h⟩ := gb_kk_s h
  refine lv_aload_n hx hb dX9_copyFrom_0 rfl (lv_at hl 1 rfl) ?_
  refine va_get (ci := 4) (v := (.ref (b + (p1 + 1)))) (C := RX5) (T := TX5) (N := 4) hx hb hq i_X5 hown hK hP p1 (gb_at b (gb_cN z_2).1) rfl 3 (by decide) (hq _ w_51) (fun _ h9 => h9) rfl dX9_copyFrom_1 ?_
  refine lv_iconst (v := 0) hx hb dX9_copyFrom_4 (by decide) ?_
  refine lv_aload_n hx hb dX9_copyFrom_5 rfl (lv_at hl 0 rfl) ?_
  refine va_get (ci := 4) (v := (.ref (b + (k0 + 1)))) (C := RX5) (T := TX5) (N := 4) hx hb hq i_X5 hown hK hP k0 (gb_at b (gb_cN z_1).1) rfl 3 (by decide) (hq _ w_51) (fun _ h9 => h9) rfl dX9_copyFrom_6 ?_
  refine lv_iconst (v := 0) hx hb dX9_copyFrom_9 (by decide) ?_
  refine lv_aload_n hx hb dX9_copyFrom_10 rfl (lv_at hl 0 rfl) ?_
  refine va_get (ci := 4) (v := (.ref (b + (k0 + 1)))) (C := RX5) (T := TX5) (N := 4) hx hb hq i_X5 hown hK hP k0 (gb_at b (gb_cN z_1).1) rfl 3 (by decide) (hq _ w_51) (fun _ h9 => h9) rfl dX9_copyFrom_11 ?_
  refine va_alen (v := 97) hx hb hK hP (k0 + 1) 0 (gb_at b (gb_cN z_1).2) rfl rfl dX9_copyFrom_14 ?_
  refine lv_aload_n hx hb dX9_copyFrom_15 rfl (lv_at hl 1 rfl) ?_
  refine va_get (ci := 4) (v := (.ref (b + (p1 + 1)))) (C := RX5) (T := TX5) (N := 4) hx hb hq i_X5 hown hK hP p1 (gb_at b (gb_cN z_2).1) rfl 3 (by decide) (hq _ w_51) (fun _ h9 => h9) rfl dX9_copyFrom_16 ?_
  refine va_alen (v := 97) hx hb hK hP (p1 + 1) 0 (gb_at b (gb_cN z_2).2) rfl rfl dX9_copyFrom_19 ?_
  refine va_mmin hx hb (hml.trans hl.1.symm) hown (hq _ w_564) (hq _ w_367) (hq _ w_5) (hq _ w_368) (Nat.le_of_ble_eq_true rfl) (Nat.le_of_ble_eq_true rfl) (Nat.le_of_ble_eq_true rfl) (Nat.le_of_ble_eq_true rfl) dX9_copyFrom_20 ?_
  refine lv_topi (fun x_3 ex_3 => ?_)
  replace h := gb_lt_s ex_3 h
  obtain ⟨z_4, h⟩ := gb_ac_s h
  refine va_copyi (ty := .int) hx hb (hml.trans hl.1.symm) hown (hq _ w_565) (hq _ w_517) (hq _ w_516) (hq _ w_19) hK hP (gb_D (fun k h => ⟨Nat.le_add_right b k, Nat.add_lt_add_left h b⟩)) hS (p1 + 1) (k0 + 1) 0 0 (gb_at b (gb_cN z_2).2) (gb_at b (gb_cN z_1).2) rfl rfl rfl z_4.1 z_4.2.1 z_4.2.2.1 z_4.2.2.2.1 z_4.2.2.2.2 (fun _ _ => rfl) (Nat.le_of_ble_eq_true rfl) (Nat.le_of_ble_eq_true rfl) dX9_copyFrom_23 (fun H locs hP hD hS => ?_)
  rw [gb_set] at hP
  obtain ⟨s_5, es_5⟩ : ∃ q, q = (gb_su σ (k0 + 1) (va_cpy (σ.1 (p1 + 1)) (σ.1 (k0 + 1)) (Int32.toNatClampNeg 0) (Int32.toNatClampNeg 0) (Int32.toNatClampNeg x_3))) := ⟨_, rfl⟩
  replace hP : va_P D vwCl (gb_wl b (gb_CW cT b s_5)) H := by rw [es_5, ← gb_wN z_1]; exact hP
  replace h := gb_lt_s es_5 h
  obtain ⟨e1, -⟩ := gb_eq2 h
  exact W.vret hx hb hr (fun t ht hW => gb_rv ht (by rw [← e1]; exact hP) hS) hS.2.2 dX9_copyFrom_26
theorem w_562 : (Cond.selects "GooseBorder$Night" ({ cls := "GooseBorder$Sheet", name := "copyFrom", desc := "(LGooseBorder$Sheet;)V" } : MethodName) ({ cls := "GooseBorder$Sheet", name := "copyFrom", desc := "(LGooseBorder$Sheet;)V" } : MethodName)) ∈ gb_wA := gb_t3 82 rfl rfl
def cs_Sheet_copyFrom_L_L (n : Nat) (σ : gb_S) (k0 : Nat) (p1 : Nat) : gb_CR Unit := gb_kk (gb_kL k0) (gb_kk (gb_kL p1) (gb_lt (if (25 : Int32) < (25 : Int32) then (25 : Int32) else (25 : Int32)) (fun x_3 => gb_ac 0 0 x_3 25 25 (gb_lt (gb_su σ (k0 + 1) (va_cpy (σ.1 (p1 + 1)) (σ.1 (k0 + 1)) (Int32.toNatClampNeg 0) (Int32.toNatClampNeg 0) (Int32.toNatClampNeg x_3))) (fun s_5 => some (s_5, ()))))))
set_option maxHeartbeats 8000000 in
set_option maxRecDepth 100000 in
theorem cc_Sheet_copyFrom_L_L (l : Launch) (D : va_G) (cT : Nat → ClassId) (tt : Nat → Nat) (b1 b : Nat) (hb1 : b1 ≤ b) (n : Nat) (σ : gb_S) (k0 : Nat) (p1 : Nat) (σE : gb_S) (rE : Unit) (h : cs_Sheet_copyFrom_L_L n σ k0 p1 = some (σE, rE)) : Met l yX9_copyFrom (.code yX9_copyFrom cX9_copyFrom 2 none :: gb_wA) ({ frames := 1, cells := 0, slots := 0, locals := 40 }) (gb_Pc D cT tt b1 [.ref (b + k0), .ref (b + p1)] (fun h => va_P D vwCl (gb_wl b (gb_CW cT b σ)) h)) (gb_Qv (fun h => va_P D vwCl (gb_wl b (gb_CW cT b σE)) h) (gb_fr b 135)) 0 0 (gb_fr b 135) := by
  refine Met.ofW (cc := cX9_copyFrom) (maxL := 2) (ret := none) (by decide) rfl ?_
  intro p e s m args below meth c s₁ B hml hv
  obtain ⟨rfl, hSt, hP⟩ := hv
  have hx := B.exec
  have hb := B.bytes
  have hr := B.returns
  have hts := atoms_spec (ws := .code yX9_copyFrom cX9_copyFrom 2 none :: gb_wA) B.pre
  have hq : ∀ w ∈ gb_wA, w.before _ s = true := fun w h => hts w (List.mem_cons_of_mem _ h)
  have hown : s.vm.findClass RX9 = some m.cls := findClass_of_methodNamed B.named
  have hlocks := B.notSynchronized
  clear B hts
  have hK := hSt.1
  have hS : va_S (gb_fr b 135) s.heap s.heap [] := va_S.rf
  have hl := lv_entry ([.ref (b + k0), .ref (b + p1)]) (n := 2) (Nat.le_of_ble_eq_true rfl)
  rw [lg_entry_eq]
  generalize (lg_sl ([.ref (b + k0), .ref (b + p1)]) ++ List.replicate (2 - (lg_sl ([.ref (b + k0), .ref (b + p1)])).length) Slot.unset).toArray = ls at hl ⊢
  replace hl : lv_has ls 2 [(0, .ref (b + k0)), (1, .ref (b + p1))] := hl
  unfold cs_Sheet_copyFrom_L_L at h
  obtain ⟨z_1, h⟩ := gb_kk_s h
  obtain ⟨z_2, h⟩ := gb_kk_s h
  refine lv_aload_n hx hb dX9_copyFrom_0 rfl (lv_at hl 1 rfl) ?_
  refine va_get (ci := 3) (v := (.ref (b + (p1 + 1)))) (C := RX3) (T := TX3) (N := 4) hx hb hq i_X3 hown hK hP p1 (gb_at b (gb_cL z_2).1) rfl 3 (by decide) (hq _ w_51) (fun _ h9 => h9) rfl dX9_copyFrom_1 ?_
  refine lv_iconst (v := 0) hx hb dX9_copyFrom_4 (by decide) ?_
  refine lv_aload_n hx hb dX9_copyFrom_5 rfl (lv_at hl 0 rfl) ?_
  refine va_get (ci := 3) (v := (.ref (b + (k0 + 1)))) (C := RX3) (T := TX3) (N := 4) hx hb hq i_X3 hown hK hP k0 (gb_at b (gb_cL z_1).1) rfl 3 (by decide) (hq _ w_51) (fun _ h9 => h9) rfl dX9_copyFrom_6 ?_
  refine lv_iconst (v := 0) hx hb dX9_copyFrom_9 (by decide) ?_
  refine lv_aload_n hx hb dX9_copyFrom_10 rfl (lv_at hl 0 rfl) ?_
  refine va_get (ci := 3) (v := (.ref (b + (k0 + 1)))) (C := RX3) (T := TX3) (N := 4) hx hb hq i_X3 hown hK hP k0 (gb_at b (gb_cL z_1).1) rfl 3 (by decide) (hq _ w_51) (fun _ h9 => h9) rfl dX9_copyFrom_11 ?_
  refine va_alen (v := 25) hx hb hK hP (k0 + 1) 0 (gb_at b (gb_cL z_1).2) rfl rfl dX9_copyFrom_14 ?_
  refine lv_aload_n hx hb dX9_copyFrom_15 rfl (lv_at hl 1 rfl) ?_
  refine va_get (ci := 3) (v := (.ref (b + (p1 + 1)))) (C := RX3) (T := TX3) (N := 4) hx hb hq i_X3 hown hK hP p1 (gb_at b (gb_cL z_2).1) rfl 3 (by decide) (hq _ w_51) (fun _ h9 => h9) rfl dX9_copyFrom_16 ?_
  refine va_alen (v := 25) hx hb hK hP (p1 + 1) 0 (gb_at b (gb_cL z_2).2) rfl rfl dX9_copyFrom_19 ?_
  refine va_mmin hx hb (hml.trans hl.1.symm) hown (hq _ w_564) (hq _ w_367) (hq _ w_5) (hq _ w_368) (Nat.le_of_ble_eq_true rfl) (Nat.le_of_ble_eq_true rfl) (Nat.le_of_ble_eq_true rfl) (Nat.le_of_ble_eq_true rfl) dX9_copyFrom_20 ?_
  refine lv_topi (fun x_3 ex_3 => ?_)
  replace h := gb_lt_s ex_3 h
  obtain ⟨z_4, h⟩ := gb_ac_s h
  refine va_copyi (ty := .int) hx hb (hml.trans hl.1.symm) hown (hq _ w_565) (hq _ w_517) (hq _ w_516) (hq _ w_19) hK hP (gb_D (fun k h => ⟨Nat.le_add_right b k, Nat.add_lt_add_left h b⟩)) hS (p1 + 1) (k0 + 1) 0 0 (gb_at b (gb_cL z_2).2) (gb_at b (gb_cL z_1).2) rfl rfl rfl z_4.1 z_4.2.1 z_4.2.2.1 z_4.2.2.2.1 z_4.2.2.2.2 (fun _ _ => rfl) (Nat.le_of_ble_eq_true rfl) (Nat.le_of_ble_eq_true rfl) dX9_copyFrom_23 (fun H locs hP hD hS => ?_)
  rw [gb_set] at hP
  obtain ⟨s_5, es_5⟩ : ∃ q, q = (gb_su σ (k0 + 1) (va_cpy (σ.1 (p1 + 1)) (σ.1 (k0 + 1)) (Int32.toNatClampNeg 0) (Int32.toNatClampNeg 0) (Int32.toNatClampNeg x_3))) := ⟨_, rfl⟩
  replace hP : va_P D vwCl (gb_wl b (gb_CW cT b s_5)) H := by rw [es_5, ← gb_wL z_1]; exact hP
  replace h := gb_lt_s es_5 h
  obtain ⟨e1, -⟩ := gb_eq2 h
  exact W.vret hx hb hr (fun t ht hW => gb_rv ht (by rw [← e1]; exact hP) hS) hS.2.2 dX9_copyFrom_26
theorem w_561 : (Cond.selects "GooseBorder$Law" ({ cls := "GooseBorder$Sheet", name := "copyFrom", desc := "(LGooseBorder$Sheet;)V" } : MethodName) ({ cls := "GooseBorder$Sheet", name := "copyFrom", desc := "(LGooseBorder$Sheet;)V" } : MethodName)) ∈ gb_wA := gb_t3 81 rfl rfl
def cs_Sheet_copyFrom_D_D (n : Nat) (σ : gb_S) (k0 : Nat) (p1 : Nat) : gb_CR Unit := gb_kk (gb_kD k0) (gb_kk (gb_kD p1) (gb_lt (if (16 : Int32) < (16 : Int32) then (16 : Int32) else (16 : Int32)) (fun x_3 => gb_ac 0 0 x_3 16 16 (gb_lt (gb_su σ (k0 + 1) (va_cpy (σ.1 (p1 + 1)) (σ.1 (k0 + 1)) (Int32.toNatClampNeg 0) (Int32.toNatClampNeg 0) (Int32.toNatClampNeg x_3))) (fun s_5 => some (s_5, ()))))))
set_option maxHeartbeats 8000000 in
set_option maxRecDepth 100000 in
theorem cc_Sheet_copyFrom_D_D (l : Launch) (D : va_G) (cT : Nat → ClassId) (tt : Nat → Nat) (b1 b : Nat) (hb1 : b1 ≤ b) (n : Nat) (σ : gb_S) (k0 : Nat) (p1 : Nat) (σE : gb_S) (rE : Unit) (h : cs_Sheet_copyFrom_D_D n σ k0 p1 = some (σE, rE)) : Met l yX9_copyFrom (.code yX9_copyFrom cX9_copyFrom 2 none :: gb_wA) ({ frames := 1, cells := 0, slots := 0, locals := 40 }) (gb_Pc D cT tt b1 [.ref (b + k0), .ref (b + p1)] (fun h => va_P D vwCl (gb_wl b (gb_CW cT b σ)) h)) (gb_Qv (fun h => va_P D vwCl (gb_wl b (gb_CW cT b σE)) h) (gb_fr b 135)) 0 0 (gb_fr b 135) := by
  refine Met.ofW (cc := cX9_copyFrom) (maxL := 2) (ret := none) (by decide) rfl ?_
  intro p e s m args below meth c s₁ B hml hv
  obtain ⟨rfl, hSt, hP⟩ := hv
  have hx := B.exec
  have hb := B.bytes
  have hr := B.returns
  have hts := atoms_spec (ws := .code yX9_copyFrom cX9_copyFrom 2 none :: gb_wA) B.pre
  have hq : ∀ w ∈ gb_wA, w.before _ s = true := fun w h => hts w (List.mem_cons_of_mem _ h)
  have hown : s.vm.findClass RX9 = some m.cls := findClass_of_methodNamed B.named
  have hlocks := B.notSynchronized
  clear B hts
  have hK := hSt.1
  have hS : va_S (gb_fr b 135) s.heap s.heap [] := va_S.rf
  have hl := lv_entry ([.ref (b + k0), .ref (b + p1)]) (n := 2) (Nat.le_of_ble_eq_true rfl)
  rw [lg_entry_eq]
  generalize (lg_sl ([.ref (b + k0), .ref (b + p1)]) ++ List.replicate (2 - (lg_sl ([.ref (b + k0), .ref (b + p1)])).length) Slot.unset).toArray = ls at hl ⊢
  replace hl : lv_has ls 2 [(0, .ref (b + k0)), (1, .ref (b + p1))] := hl
  unfold cs_Sheet_copyFrom_D_D at h
  obtain ⟨z_1, h⟩ := gb_kk_s h
  obtain ⟨z_2, h⟩ := gb_kk_s h
  refine lv_aload_n hx hb dX9_copyFrom_0 rfl (lv_at hl 1 rfl) ?_
  refine va_get (ci := 1) (v := (.ref (b + (p1 + 1)))) (C := RX1) (T := TX1) (N := 4) hx hb hq i_X1 hown hK hP p1 (gb_at b (gb_cD z_2).1) rfl 3 (by decide) (hq _ w_51) (fun _ h9 => h9) rfl dX9_copyFrom_1 ?_
  refine lv_iconst (v := 0) hx hb dX9_copyFrom_4 (by decide) ?_
  refine lv_aload_n hx hb dX9_copyFrom_5 rfl (lv_at hl 0 rfl) ?_
  refine va_get (ci := 1) (v := (.ref (b + (k0 + 1)))) (C := RX1) (T := TX1) (N := 4) hx hb hq i_X1 hown hK hP k0 (gb_at b (gb_cD z_1).1) rfl 3 (by decide) (hq _ w_51) (fun _ h9 => h9) rfl dX9_copyFrom_6 ?_
  refine lv_iconst (v := 0) hx hb dX9_copyFrom_9 (by decide) ?_
  refine lv_aload_n hx hb dX9_copyFrom_10 rfl (lv_at hl 0 rfl) ?_
  refine va_get (ci := 1) (v := (.ref (b + (k0 + 1)))) (C := RX1) (T := TX1) (N := 4) hx hb hq i_X1 hown hK hP k0 (gb_at b (gb_cD z_1).1) rfl 3 (by decide) (hq _ w_51) (fun _ h9 => h9) rfl dX9_copyFrom_11 ?_
  refine va_alen (v := 16) hx hb hK hP (k0 + 1) 0 (gb_at b (gb_cD z_1).2) rfl rfl dX9_copyFrom_14 ?_
  refine lv_aload_n hx hb dX9_copyFrom_15 rfl (lv_at hl 1 rfl) ?_
  refine va_get (ci := 1) (v := (.ref (b + (p1 + 1)))) (C := RX1) (T := TX1) (N := 4) hx hb hq i_X1 hown hK hP p1 (gb_at b (gb_cD z_2).1) rfl 3 (by decide) (hq _ w_51) (fun _ h9 => h9) rfl dX9_copyFrom_16 ?_
  refine va_alen (v := 16) hx hb hK hP (p1 + 1) 0 (gb_at b (gb_cD z_2).2) rfl rfl dX9_copyFrom_19 ?_
  refine va_mmin hx hb (hml.trans hl.1.symm) hown (hq _ w_564) (hq _ w_367) (hq _ w_5) (hq _ w_368) (Nat.le_of_ble_eq_true rfl) (Nat.le_of_ble_eq_true rfl) (Nat.le_of_ble_eq_true rfl) (Nat.le_of_ble_eq_true rfl) dX9_copyFrom_20 ?_
  refine lv_topi (fun x_3 ex_3 => ?_)
  replace h := gb_lt_s ex_3 h
  obtain ⟨z_4, h⟩ := gb_ac_s h
  refine va_copyi (ty := .int) hx hb (hml.trans hl.1.symm) hown (hq _ w_565) (hq _ w_517) (hq _ w_516) (hq _ w_19) hK hP (gb_D (fun k h => ⟨Nat.le_add_right b k, Nat.add_lt_add_left h b⟩)) hS (p1 + 1) (k0 + 1) 0 0 (gb_at b (gb_cD z_2).2) (gb_at b (gb_cD z_1).2) rfl rfl rfl z_4.1 z_4.2.1 z_4.2.2.1 z_4.2.2.2.1 z_4.2.2.2.2 (fun _ _ => rfl) (Nat.le_of_ble_eq_true rfl) (Nat.le_of_ble_eq_true rfl) dX9_copyFrom_23 (fun H locs hP hD hS => ?_)
  rw [gb_set] at hP
  obtain ⟨s_5, es_5⟩ : ∃ q, q = (gb_su σ (k0 + 1) (va_cpy (σ.1 (p1 + 1)) (σ.1 (k0 + 1)) (Int32.toNatClampNeg 0) (Int32.toNatClampNeg 0) (Int32.toNatClampNeg x_3))) := ⟨_, rfl⟩
  replace hP : va_P D vwCl (gb_wl b (gb_CW cT b s_5)) H := by rw [es_5, ← gb_wD z_1]; exact hP
  replace h := gb_lt_s es_5 h
  obtain ⟨e1, -⟩ := gb_eq2 h
  exact W.vret hx hb hr (fun t ht hW => gb_rv ht (by rw [← e1]; exact hP) hS) hS.2.2 dX9_copyFrom_26
theorem w_560 : (Cond.selects "GooseBorder$Dawn" ({ cls := "GooseBorder$Sheet", name := "copyFrom", desc := "(LGooseBorder$Sheet;)V" } : MethodName) ({ cls := "GooseBorder$Sheet", name := "copyFrom", desc := "(LGooseBorder$Sheet;)V" } : MethodName)) ∈ gb_wA := gb_t3 80 rfl rfl
def cs_Told_copyFrom_T_T_9 (n : Nat) (k2 : gb_S → Nat → Nat → Int32 → gb_CR Unit) : Nat → gb_S → Nat → Nat → Int32 → Int32 → gb_CR Unit
  | 0, _, _, _, _, _ => none
  | mm + 1, σ, v0, v1, v2, v3 => gb_kk (gb_kT v0) (gb_kk (gb_kT v1) ((if (2 : Int32) ≤ v3 then gb_ck v2 4 (gb_lt ((σ.1 (v1 + 21)) (Int32.toNatClampNeg v2)) (fun x_16 => gb_ck v2 4 (gb_lt (gb_su σ (v0 + 21) (upd (σ.1 (v0 + 21)) (Int32.toNatClampNeg v2) x_16)) (fun s_18 => gb_lt (v2 + 1) (fun x_19 => k2 s_18 v0 v1 x_19))))) else gb_cd (cs_Told_sheetOf_T n σ v0 v2 v3) (fun s_20 r_21 => (if r_21 = 0 then gb_cd (cs_Told_sheetOf_T n s_20 v1 v2 v3) (fun s_25 r_26 => (if r_26 = 0 then none else none)) else gb_cd (cs_Told_sheetOf_T n s_20 v1 v2 v3) (fun s_30 r_31 => (if r_31 = 0 then none else (if gb_kB r_21 = true then gb_kk (gb_kB r_31) (gb_cd (cs_Sheet_copyFrom_B_B n s_30 r_21 r_31) (fun s_37 _ => gb_lt (v3 + 1) (fun x_41 => cs_Told_copyFrom_T_T_9 n k2 mm s_37 v0 v1 v2 x_41))) else (if gb_kN r_21 = true then gb_kk (gb_kN r_31) (gb_cd (cs_Sheet_copyFrom_N_N n s_30 r_21 r_31) (fun s_44 _ => gb_lt (v3 + 1) (fun x_48 => cs_Told_copyFrom_T_T_9 n k2 mm s_44 v0 v1 v2 x_48))) else (if gb_kL r_21 = true then gb_kk (gb_kL r_31) (gb_cd (cs_Sheet_copyFrom_L_L n s_30 r_21 r_31) (fun s_51 _ => gb_lt (v3 + 1) (fun x_55 => cs_Told_copyFrom_T_T_9 n k2 mm s_51 v0 v1 v2 x_55))) else (if gb_kD r_21 = true then gb_kk (gb_kD r_31) (gb_cd (cs_Sheet_copyFrom_D_D n s_30 r_21 r_31) (fun s_58 _ => gb_lt (v3 + 1) (fun x_62 => cs_Told_copyFrom_T_T_9 n k2 mm s_58 v0 v1 v2 x_62))) else none)))))))))))
def cs_Told_copyFrom_T_T_2 (n : Nat) : Nat → gb_S → Nat → Nat → Int32 → gb_CR Unit
  | 0, _, _, _, _ => none
  | mm + 1, σ, v0, v1, v2 => gb_kk (gb_kT v0) (gb_kk (gb_kT v1) ((if (4 : Int32) ≤ v2 then gb_ac 0 0 600 600 600 (gb_kk ((List.range 600).all (fun i => fits .byte (.int ((σ.1 (v1 + 22)) i)))) (gb_lt (gb_su σ (v0 + 22) (va_cpy (σ.1 (v1 + 22)) (σ.1 (v0 + 22)) (Int32.toNatClampNeg 0) (Int32.toNatClampNeg 0) (Int32.toNatClampNeg 600))) (fun s_8 => gb_lt (gb_su s_8 v0 (upd (s_8.1 v0) 6 (s_8.1 v1 6))) (fun s_9 => gb_lt (gb_su s_9 v0 (upd (s_9.1 v0) 7 (s_9.1 v1 7))) (fun s_10 => gb_lt (gb_su s_10 v0 (upd (s_10.1 v0) 8 (s_10.1 v1 8))) (fun s_11 => some (s_11, ()))))))) else cs_Told_copyFrom_T_T_9 n (fun σ v0 v1 v2 => cs_Told_copyFrom_T_T_2 n mm σ v0 v1 v2) n σ v0 v1 v2 0)))
def cs_Told_copyFrom_T_T (n : Nat) (σ : gb_S) (k0 : Nat) (p1 : Nat) : gb_CR Unit := gb_kk (gb_kT k0) (gb_kk (gb_kT p1) (cs_Told_copyFrom_T_T_2 n n σ k0 p1 0))
set_option maxHeartbeats 8000000 in
set_option maxRecDepth 100000 in
theorem cc_Told_copyFrom_T_T (l : Launch) (D : va_G) (cT : Nat → ClassId) (tt : Nat → Nat) (b1 b : Nat) (hb1 : b1 ≤ b) (n : Nat) (σ : gb_S) (k0 : Nat) (p1 : Nat) (σE : gb_S) (rE : Unit) (h : cs_Told_copyFrom_T_T n σ k0 p1 = some (σE, rE)) : Met l yX10_copyFrom (.code yX10_copyFrom cX10_copyFrom 4 none :: gb_wA) ({ frames := 2, cells := 0, slots := 0, locals := 61 }) (gb_Pc D cT tt b1 [.ref (b + k0), .ref (b + p1)] (fun h => va_P D vwCl (gb_wl b (gb_CW cT b σ)) h)) (gb_Qv (fun h => va_P D vwCl (gb_wl b (gb_CW cT b σE)) h) (gb_fr b 135)) 0 0 (gb_fr b 135) := by
  refine Met.ofW (cc := cX10_copyFrom) (maxL := 4) (ret := none) (by decide) rfl ?_
  intro p e s m args below meth c s₁ B hml hv
  obtain ⟨rfl, hSt, hP⟩ := hv
  have hx := B.exec
  have hb := B.bytes
  have hr := B.returns
  have hts := atoms_spec (ws := .code yX10_copyFrom cX10_copyFrom 4 none :: gb_wA) B.pre
  have hq : ∀ w ∈ gb_wA, w.before _ s = true := fun w h => hts w (List.mem_cons_of_mem _ h)
  have hown : s.vm.findClass RX10 = some m.cls := findClass_of_methodNamed B.named
  have hlocks := B.notSynchronized
  clear B hts
  have hK := hSt.1
  have hS : va_S (gb_fr b 135) s.heap s.heap [] := va_S.rf
  have hl := lv_entry ([.ref (b + k0), .ref (b + p1)]) (n := 4) (Nat.le_of_ble_eq_true rfl)
  rw [lg_entry_eq]
  generalize (lg_sl ([.ref (b + k0), .ref (b + p1)]) ++ List.replicate (4 - (lg_sl ([.ref (b + k0), .ref (b + p1)])).length) Slot.unset).toArray = ls at hl ⊢
  replace hl : lv_has ls 4 [(0, .ref (b + k0)), (1, .ref (b + p1))] := hl
  have L9_2 : ∀ (k2 : gb_S → Nat → Nat → Int32 → gb_CR Unit) (hk2 : ∀ (σ : gb_S) (v0 : Nat) (v1 : Nat) (v2 : Int32) (H : Heap) (locs : List Loc) (ls : Array Slot), k2 σ v0 v1 v2 = some (σE, rE) → va_P D vwCl (gb_wl b (gb_CW cT b σ)) H → va_S (gb_fr b 135) s.heap H locs → lv_has ls 4 [(0, .ref (b + v0)), (1, .ref (b + v1)), (2, .int v2)] → W p l e (headSpec (.code yX10_copyFrom cX10_copyFrom 4 none :: gb_wA) ({ frames := 2, cells := 0, slots := 0, locals := 61 })).room s m ([.ref (b + k0), .ref (b + p1)]).toArray below meth c H locs 0 0 (MQ below (gb_Qv (fun h => va_P D vwCl (gb_wl b (gb_CW cT b σE)) h) (gb_fr b 135)) ([.ref (b + k0), .ref (b + p1)]).toArray s 0 0 (gb_fr b 135)) (F0 m 2 ls [])) (mm : Nat) (σ : gb_S) (v0 : Nat) (v1 : Nat) (v2 : Int32) (v3 : Int32) (H : Heap) (locs : List Loc) (ls : Array Slot), cs_Told_copyFrom_T_T_9 n k2 mm σ v0 v1 v2 v3 = some (σE, rE) → va_P D vwCl (gb_wl b (gb_CW cT b σ)) H → va_S (gb_fr b 135) s.heap H locs → lv_has ls 4 [(0, .ref (b + v0)), (1, .ref (b + v1)), (2, .int v2), (3, .int v3)] → W p l e (headSpec (.code yX10_copyFrom cX10_copyFrom 4 none :: gb_wA) ({ frames := 2, cells := 0, slots := 0, locals := 61 })).room s m ([.ref (b + k0), .ref (b + p1)]).toArray below meth c H locs 0 0 (MQ below (gb_Qv (fun h => va_P D vwCl (gb_wl b (gb_CW cT b σE)) h) (gb_fr b 135)) ([.ref (b + k0), .ref (b + p1)]).toArray s 0 0 (gb_fr b 135)) (F0 m 9 ls []) := by
    clear h hP hS hl ls
    intro k2 hk2 mm
    induction mm with
    | zero =>
      intro σ v0 v1 v2 v3 H locs ls h
      cases h
    | succ mm ih =>
      intro σ v0 v1 v2 v3 H locs ls h hP hS hl
      rw [cs_Told_copyFrom_T_T_9] at h
      obtain ⟨z_12, h⟩ := gb_kk_s h
      obtain ⟨z_13, h⟩ := gb_kk_s h
      refine lv_iload_n hx hb dX10_copyFrom_9 rfl (lv_at hl 3 rfl) ?_
      refine lv_iconst (v := 2) hx hb dX10_copyFrom_10 (by decide) ?_
      refine lv_icmp_ge (tgt := 35) hx hb dX10_copyFrom_11 (by decide) (fun c_14 => ?_) (fun c_14 => ?_)
      · rw [if_pos c_14] at h
        refine lv_aload_n hx hb dX10_copyFrom_35 rfl (lv_at hl 0 rfl) ?_
        refine va_get (ci := 8) (v := (.ref (b + (v0 + 21)))) (C := RX10) (T := TX10) (N := 9) hx hb hq i_X10 hown hK hP v0 (gb_at b (gb_cT z_12).1) rfl 4 (by decide) (hq _ w_120) (fun _ h9 => h9) rfl dX10_copyFrom_36 ?_
        refine lv_iload_n hx hb dX10_copyFrom_39 rfl (lv_at hl 2 rfl) ?_
        refine lv_aload_n hx hb dX10_copyFrom_40 rfl (lv_at hl 1 rfl) ?_
        refine va_get (ci := 8) (v := (.ref (b + (v1 + 21)))) (C := RX10) (T := TX10) (N := 9) hx hb hq i_X10 hown hK hP v1 (gb_at b (gb_cT z_13).1) rfl 4 (by decide) (hq _ w_120) (fun _ h9 => h9) rfl dX10_copyFrom_41 ?_
        refine lv_iload_n hx hb dX10_copyFrom_44 rfl (lv_at hl 2 rfl) ?_
        obtain ⟨z_15, h⟩ := gb_ck_s h
        refine va_iald hx hb hK hP (v1 + 21) 0 (gb_at b (gb_cT z_13).2.2.2.2.2.1) rfl z_15 dX10_copyFrom_45 ?_
        refine lv_topi (fun x_16 ex_16 => ?_)
        replace h := gb_lt_s ex_16 h
        obtain ⟨z_17, h⟩ := gb_ck_s h
        refine va_iast (x := x_16) hx hb hK hP (gb_D (fun k h => ⟨Nat.le_add_right b k, Nat.add_lt_add_left h b⟩)) hS (v0 + 21) 0 (gb_at b (gb_cT z_12).2.2.2.2.2.1) rfl z_17 dX10_copyFrom_46 (fun H locs hP hD hS => ?_)
        rw [gb_set] at hP
        obtain ⟨s_18, es_18⟩ : ∃ q, q = (gb_su σ (v0 + 21) (upd (σ.1 (v0 + 21)) (Int32.toNatClampNeg v2) x_16)) := ⟨_, rfl⟩
        replace hP : va_P D vwCl (gb_wl b (gb_CW cT b s_18)) H := by rw [es_18, ← gb_wT21 z_12]; exact hP
        replace h := gb_lt_s es_18 h
        obtain ⟨x_19, ex_19⟩ : ∃ q, q = (v2 + 1) := ⟨_, rfl⟩
        replace h := gb_lt_s ex_19 h
        refine lv_iinc (v := x_19) (lv' := [(2, .int x_19), (0, .ref (b + v0)), (1, .ref (b + v1)), (3, .int v3)]) hx hb dX10_copyFrom_47 hl (k := 2) rfl (by rw [ex_19]; rfl) (by decide) rfl (fun ls hl => ?_)
        refine lv_goto (tgt := 2) hx hb dX10_copyFrom_50 (by decide) ?_
        exact hk2 _ _ _ _ _ _ _ h hP hS (lv_sub hl [1, 2, 0] rfl)
      · rw [if_neg c_14] at h
        refine lv_aload_n hx hb dX10_copyFrom_14 rfl (lv_at hl 0 rfl) ?_
        refine lv_iload_n hx hb dX10_copyFrom_15 rfl (lv_at hl 2 rfl) ?_
        refine lv_iload_n hx hb dX10_copyFrom_16 rfl (lv_at hl 3 rfl) ?_
        obtain ⟨s_20, r_21, z_22, h⟩ := gb_cd_s h
        refine gb_callq (va_runV (C := RX10) (As := [.int v2, .int v3]) (rest := []) ⟨hx, hb, hml, hown, hq⟩ (cc_Told_sheetOf_T l D cT tt b1 b hb1 n σ v0 v2 v3 s_20 r_21 z_22) (cwV 2 hq (gb_gV w_582 w_553 w_554 w_2 w_555) rfl rfl rfl (by decide +kernel) ⟨Nat.le_of_ble_eq_true rfl, Nat.le_of_ble_eq_true rfl⟩) (gb_preV (r := (RX10, TX10, 9)) (ci := 8) (q0 := v0) hSt hP rfl (gb_at b (gb_cT z_12).1) hS (fun q h => Nat.le_trans hb1 h.1) hP) rfl rfl hl.1 rfl (lv_room (Nat.le_of_ble_eq_true rfl)) dX10_copyFrom_17 ⟨Nat.le_of_ble_eq_true rfl, Nat.le_of_ble_eq_true rfl⟩) hS (fun _ h => h) (fun _ h => h) (fun q_23 H locs hY hk hS => ?_)
        obtain ⟨hq_23, hP⟩ := hY
        subst hq_23
        rw [gb_onv]
        by_cases c_24 : r_21 = 0
        · rw [if_pos c_24] at h
          rw [gb_nv0 c_24]
          refine lv_aload_n hx hb dX10_copyFrom_20 rfl (lv_at hl 1 rfl) ?_
          refine lv_iload_n hx hb dX10_copyFrom_21 rfl (lv_at hl 2 rfl) ?_
          refine lv_iload_n hx hb dX10_copyFrom_22 rfl (lv_at hl 3 rfl) ?_
          obtain ⟨s_25, r_26, z_27, h⟩ := gb_cd_s h
          refine gb_callq (va_runV (C := RX10) (As := [.int v2, .int v3]) (rest := [.null]) ⟨hx, hb, hml, hown, hq⟩ (cc_Told_sheetOf_T l D cT tt b1 b hb1 n s_20 v1 v2 v3 s_25 r_26 z_27) (cwV 2 hq (gb_gV w_582 w_553 w_554 w_2 w_555) rfl rfl rfl (by decide +kernel) ⟨Nat.le_of_ble_eq_true rfl, Nat.le_of_ble_eq_true rfl⟩) (gb_preV (r := (RX10, TX10, 9)) (ci := 8) (q0 := v1) hSt hP rfl (gb_at b (gb_cT z_13).1) hS (fun q h => Nat.le_trans hb1 h.1) hP) rfl rfl hl.1 rfl (lv_room (Nat.le_of_ble_eq_true rfl)) dX10_copyFrom_23 ⟨Nat.le_of_ble_eq_true rfl, Nat.le_of_ble_eq_true rfl⟩) hS (fun _ h => h) (fun _ h => h) (fun q_28 H locs hY hk hS => ?_)
          obtain ⟨hq_28, hP⟩ := hY
          subst hq_28
          rw [gb_onv]
          by_cases c_29 : r_26 = 0
          · rw [if_pos c_29] at h
            rw [gb_nv0 c_29]
            cases h
          rw [if_neg c_29] at h
          rw [gb_nv1 c_29]
          cases h
        rw [if_neg c_24] at h
        rw [gb_nv1 c_24]
        refine lv_aload_n hx hb dX10_copyFrom_20 rfl (lv_at hl 1 rfl) ?_
        refine lv_iload_n hx hb dX10_copyFrom_21 rfl (lv_at hl 2 rfl) ?_
        refine lv_iload_n hx hb dX10_copyFrom_22 rfl (lv_at hl 3 rfl) ?_
        obtain ⟨s_30, r_31, z_32, h⟩ := gb_cd_s h
        refine gb_callq (va_runV (C := RX10) (As := [.int v2, .int v3]) (rest := [.ref (b + r_21)]) ⟨hx, hb, hml, hown, hq⟩ (cc_Told_sheetOf_T l D cT tt b1 b hb1 n s_20 v1 v2 v3 s_30 r_31 z_32) (cwV 2 hq (gb_gV w_582 w_553 w_554 w_2 w_555) rfl rfl rfl (by decide +kernel) ⟨Nat.le_of_ble_eq_true rfl, Nat.le_of_ble_eq_true rfl⟩) (gb_preV (r := (RX10, TX10, 9)) (ci := 8) (q0 := v1) hSt hP rfl (gb_at b (gb_cT z_13).1) hS (fun q h => Nat.le_trans hb1 h.1) hP) rfl rfl hl.1 rfl (lv_room (Nat.le_of_ble_eq_true rfl)) dX10_copyFrom_23 ⟨Nat.le_of_ble_eq_true rfl, Nat.le_of_ble_eq_true rfl⟩) hS (fun _ h => h) (fun _ h => h) (fun q_33 H locs hY hk hS => ?_)
        obtain ⟨hq_33, hP⟩ := hY
        subst hq_33
        rw [gb_onv]
        by_cases c_34 : r_31 = 0
        · rw [if_pos c_34] at h
          rw [gb_nv0 c_34]
          cases h
        rw [if_neg c_34] at h
        rw [gb_nv1 c_34]
        by_cases z_35 : gb_kB r_21 = true
        · rw [if_pos z_35] at h
          obtain ⟨z_36, h⟩ := gb_kk_s h
          obtain ⟨s_37, r_38, z_39, h⟩ := gb_cd_s h
          refine gb_callv (va_runU (x := yX9_copyFrom) (C := RX0) (owner := "GooseBorder$Sheet") (As := [.ref (b + r_31)]) (rest := []) ⟨hx, hb, hml, hown, hq⟩ (cc_Sheet_copyFrom_B_B l D cT tt b1 b hb1 n s_30 r_21 r_31 s_37 r_38 z_39) (va_cwU (owner := "GooseBorder$Sheet") (C := RX0) 1 hq (gb_gU w_583 w_558 w_559 w_557 w_3 w_563) rfl rfl rfl rfl (by decide +kernel) ⟨Nat.le_of_ble_eq_true rfl, Nat.le_of_ble_eq_true rfl⟩) (gb_preV (r := (RX0, TX0, 1)) (ci := 0) (q0 := r_21) hSt hP rfl (gb_at b (gb_cB z_35).1) hS (fun q h => Nat.le_trans hb1 h.1) hP) rfl rfl hl.1 rfl (lv_room (Nat.le_of_ble_eq_true rfl)) dX10_copyFrom_26 ⟨Nat.le_of_ble_eq_true rfl, Nat.le_of_ble_eq_true rfl⟩) hS (fun _ h => h) (fun _ h => h) (fun H locs hY hk hS => ?_)
          have hP := hY
          obtain ⟨x_41, ex_41⟩ : ∃ q, q = (v3 + 1) := ⟨_, rfl⟩
          replace h := gb_lt_s ex_41 h
          refine lv_iinc (v := x_41) (lv' := [(3, .int x_41), (0, .ref (b + v0)), (1, .ref (b + v1)), (2, .int v2)]) hx hb dX10_copyFrom_29 hl (k := 3) rfl (by rw [ex_41]; rfl) (by decide) rfl (fun ls hl => ?_)
          refine lv_goto (tgt := 9) hx hb dX10_copyFrom_32 (by decide) ?_
          exact ih _ _ _ _ _ _ _ _ h hP hS (lv_sub hl [1, 2, 3, 0] rfl)
        rw [if_neg z_35] at h
        by_cases z_42 : gb_kN r_21 = true
        · rw [if_pos z_42] at h
          obtain ⟨z_43, h⟩ := gb_kk_s h
          obtain ⟨s_44, r_45, z_46, h⟩ := gb_cd_s h
          refine gb_callv (va_runU (x := yX9_copyFrom) (C := RX5) (owner := "GooseBorder$Sheet") (As := [.ref (b + r_31)]) (rest := []) ⟨hx, hb, hml, hown, hq⟩ (cc_Sheet_copyFrom_N_N l D cT tt b1 b hb1 n s_30 r_21 r_31 s_44 r_45 z_46) (va_cwU (owner := "GooseBorder$Sheet") (C := RX5) 1 hq (gb_gU w_583 w_558 w_562 w_557 w_3 w_563) rfl rfl rfl rfl (by decide +kernel) ⟨Nat.le_of_ble_eq_true rfl, Nat.le_of_ble_eq_true rfl⟩) (gb_preV (r := (RX5, TX5, 4)) (ci := 4) (q0 := r_21) hSt hP rfl (gb_at b (gb_cN z_42).1) hS (fun q h => Nat.le_trans hb1 h.1) hP) rfl rfl hl.1 rfl (lv_room (Nat.le_of_ble_eq_true rfl)) dX10_copyFrom_26 ⟨Nat.le_of_ble_eq_true rfl, Nat.le_of_ble_eq_true rfl⟩) hS (fun _ h => h) (fun _ h => h) (fun H locs hY hk hS => ?_)
          have hP := hY
          obtain ⟨x_48, ex_48⟩ : ∃ q, q = (v3 + 1) := ⟨_, rfl⟩
          replace h := gb_lt_s ex_48 h
          refine lv_iinc (v := x_48) (lv' := [(3, .int x_48), (0, .ref (b + v0)), (1, .ref (b + v1)), (2, .int v2)]) hx hb dX10_copyFrom_29 hl (k := 3) rfl (by rw [ex_48]; rfl) (by decide) rfl (fun ls hl => ?_)
          refine lv_goto (tgt := 9) hx hb dX10_copyFrom_32 (by decide) ?_
          exact ih _ _ _ _ _ _ _ _ h hP hS (lv_sub hl [1, 2, 3, 0] rfl)
        rw [if_neg z_42] at h
        by_cases z_49 : gb_kL r_21 = true
        · rw [if_pos z_49] at h
          obtain ⟨z_50, h⟩ := gb_kk_s h
          obtain ⟨s_51, r_52, z_53, h⟩ := gb_cd_s h
          refine gb_callv (va_runU (x := yX9_copyFrom) (C := RX3) (owner := "GooseBorder$Sheet") (As := [.ref (b + r_31)]) (rest := []) ⟨hx, hb, hml, hown, hq⟩ (cc_Sheet_copyFrom_L_L l D cT tt b1 b hb1 n s_30 r_21 r_31 s_51 r_52 z_53) (va_cwU (owner := "GooseBorder$Sheet") (C := RX3) 1 hq (gb_gU w_583 w_558 w_561 w_557 w_3 w_563) rfl rfl rfl rfl (by decide +kernel) ⟨Nat.le_of_ble_eq_true rfl, Nat.le_of_ble_eq_true rfl⟩) (gb_preV (r := (RX3, TX3, 4)) (ci := 3) (q0 := r_21) hSt hP rfl (gb_at b (gb_cL z_49).1) hS (fun q h => Nat.le_trans hb1 h.1) hP) rfl rfl hl.1 rfl (lv_room (Nat.le_of_ble_eq_true rfl)) dX10_copyFrom_26 ⟨Nat.le_of_ble_eq_true rfl, Nat.le_of_ble_eq_true rfl⟩) hS (fun _ h => h) (fun _ h => h) (fun H locs hY hk hS => ?_)
          have hP := hY
          obtain ⟨x_55, ex_55⟩ : ∃ q, q = (v3 + 1) := ⟨_, rfl⟩
          replace h := gb_lt_s ex_55 h
          refine lv_iinc (v := x_55) (lv' := [(3, .int x_55), (0, .ref (b + v0)), (1, .ref (b + v1)), (2, .int v2)]) hx hb dX10_copyFrom_29 hl (k := 3) rfl (by rw [ex_55]; rfl) (by decide) rfl (fun ls hl => ?_)
          refine lv_goto (tgt := 9) hx hb dX10_copyFrom_32 (by decide) ?_
          exact ih _ _ _ _ _ _ _ _ h hP hS (lv_sub hl [1, 2, 3, 0] rfl)
        rw [if_neg z_49] at h
        by_cases z_56 : gb_kD r_21 = true
        · rw [if_pos z_56] at h
          obtain ⟨z_57, h⟩ := gb_kk_s h
          obtain ⟨s_58, r_59, z_60, h⟩ := gb_cd_s h
          refine gb_callv (va_runU (x := yX9_copyFrom) (C := RX1) (owner := "GooseBorder$Sheet") (As := [.ref (b + r_31)]) (rest := []) ⟨hx, hb, hml, hown, hq⟩ (cc_Sheet_copyFrom_D_D l D cT tt b1 b hb1 n s_30 r_21 r_31 s_58 r_59 z_60) (va_cwU (owner := "GooseBorder$Sheet") (C := RX1) 1 hq (gb_gU w_583 w_558 w_560 w_557 w_3 w_563) rfl rfl rfl rfl (by decide +kernel) ⟨Nat.le_of_ble_eq_true rfl, Nat.le_of_ble_eq_true rfl⟩) (gb_preV (r := (RX1, TX1, 4)) (ci := 1) (q0 := r_21) hSt hP rfl (gb_at b (gb_cD z_56).1) hS (fun q h => Nat.le_trans hb1 h.1) hP) rfl rfl hl.1 rfl (lv_room (Nat.le_of_ble_eq_true rfl)) dX10_copyFrom_26 ⟨Nat.le_of_ble_eq_true rfl, Nat.le_of_ble_eq_true rfl⟩) hS (fun _ h => h) (fun _ h => h) (fun H locs hY hk hS => ?_)
          have hP := hY
          obtain ⟨x_62, ex_62⟩ : ∃ q, q = (v3 + 1) := ⟨_, rfl⟩
          replace h := gb_lt_s ex_62 h
          refine lv_iinc (v := x_62) (lv' := [(3, .int x_62), (0, .ref (b + v0)), (1, .ref (b + v1)), (2, .int v2)]) hx hb dX10_copyFrom_29 hl (k := 3) rfl (by rw [ex_62]; rfl) (by decide) rfl (fun ls hl => ?_)
          refine lv_goto (tgt := 9) hx hb dX10_copyFrom_32 (by decide) ?_
          exact ih _ _ _ _ _ _ _ _ h hP hS (lv_sub hl [1, 2, 3, 0] rfl)
        rw [if_neg z_56] at h
        cases h
  have L2_1 : ∀ (mm : Nat) (σ : gb_S) (v0 : Nat) (v1 : Nat) (v2 : Int32) (H : Heap) (locs : List Loc) (ls : Array Slot), cs_Told_copyFrom_T_T_2 n mm σ v0 v1 v2 = some (σE, rE) → va_P D vwCl (gb_wl b (gb_CW cT b σ)) H → va_S (gb_fr b 135) s.heap H locs → lv_has ls 4 [(0, .ref (b + v0)), (1, .ref (b + v1)), (2, .int v2)] → W p l e (headSpec (.code yX10_copyFrom cX10_copyFrom 4 none :: gb_wA) ({ frames := 2, cells := 0, slots := 0, locals := 61 })).room s m ([.ref (b + k0), .ref (b + p1)]).toArray below meth c H locs 0 0 (MQ below (gb_Qv (fun h => va_P D vwCl (gb_wl b (gb_CW cT b σE)) h) (gb_fr b 135)) ([.ref (b + k0), .ref (b + p1)]).toArray s 0 0 (gb_fr b 135)) (F0 m 2 ls []) := by
    clear h hP hS hl ls
    intro mm
    induction mm with
    | zero =>
      intro σ v0 v1 v2 H locs ls h
      cases h
    | succ mm ih =>
      intro σ v0 v1 v2 H locs ls h hP hS hl
      rw [cs_Told_copyFrom_T_T_2] at h
      obtain ⟨z_3, h⟩ := gb_kk_s h
      obtain ⟨z_4, h⟩ := gb_kk_s h
      refine lv_iload_n hx hb dX10_copyFrom_2 rfl (lv_at hl 2 rfl) ?_
      refine lv_iconst (v := 4) hx hb dX10_copyFrom_3 (by decide) ?_
      refine lv_icmp_ge (tgt := 53) hx hb dX10_copyFrom_4 (by decide) (fun c_5 => ?_) (fun c_5 => ?_)
      · rw [if_pos c_5] at h
        refine lv_aload_n hx hb dX10_copyFrom_53 rfl (lv_at hl 1 rfl) ?_
        refine va_get (ci := 8) (v := (.ref (b + (v1 + 22)))) (C := RX10) (T := TX10) (N := 9) hx hb hq i_X10 hown hK hP v1 (gb_at b (gb_cT z_4).1) rfl 5 (by decide) (hq _ w_122) (fun _ h9 => h9) rfl dX10_copyFrom_54 ?_
        refine lv_iconst (v := 0) hx hb dX10_copyFrom_57 (by decide) ?_
        refine lv_aload_n hx hb dX10_copyFrom_58 rfl (lv_at hl 0 rfl) ?_
        refine va_get (ci := 8) (v := (.ref (b + (v0 + 22)))) (C := RX10) (T := TX10) (N := 9) hx hb hq i_X10 hown hK hP v0 (gb_at b (gb_cT z_3).1) rfl 5 (by decide) (hq _ w_122) (fun _ h9 => h9) rfl dX10_copyFrom_59 ?_
        refine lv_iconst (v := 0) hx hb dX10_copyFrom_62 (by decide) ?_
        refine lv_sipush (v := 600) hx hb dX10_copyFrom_63 (by decide) ?_
        obtain ⟨z_6, h⟩ := gb_ac_s h
        obtain ⟨z_7, h⟩ := gb_kk_s h
        refine va_copyi (ty := .byte) hx hb (hml.trans hl.1.symm) hown (hq _ w_584) (hq _ w_517) (hq _ w_516) (hq _ w_19) hK hP (gb_D (fun k h => ⟨Nat.le_add_right b k, Nat.add_lt_add_left h b⟩)) hS (v1 + 22) (v0 + 22) 1 1 (gb_at b (gb_cT z_4).2.2.2.2.2.2) (gb_at b (gb_cT z_3).2.2.2.2.2.2) rfl rfl rfl z_6.1 z_6.2.1 z_6.2.2.1 z_6.2.2.2.1 z_6.2.2.2.2 (gb_fitb z_7 (by decide) (by decide)) (Nat.le_of_ble_eq_true rfl) (Nat.le_of_ble_eq_true rfl) dX10_copyFrom_66 (fun H locs hP hD hS => ?_)
        rw [gb_set] at hP
        obtain ⟨s_8, es_8⟩ : ∃ q, q = (gb_su σ (v0 + 22) (va_cpy (σ.1 (v1 + 22)) (σ.1 (v0 + 22)) (Int32.toNatClampNeg 0) (Int32.toNatClampNeg 0) (Int32.toNatClampNeg 600))) := ⟨_, rfl⟩
        replace hP : va_P D vwCl (gb_wl b (gb_CW cT b s_8)) H := by rw [es_8, ← gb_wT22 z_3]; exact hP
        replace h := gb_lt_s es_8 h
        refine lv_aload_n hx hb dX10_copyFrom_69 rfl (lv_at hl 0 rfl) ?_
        refine lv_aload_n hx hb dX10_copyFrom_70 rfl (lv_at hl 1 rfl) ?_
        refine va_get (ci := 8) (v := (.int (s_8.1 v1 6))) (C := RX10) (T := TX10) (N := 9) hx hb hq i_X10 hown hK hP v1 (gb_at b (gb_cT z_4).1) rfl 6 (by decide) (hq _ w_124) (fun _ h9 => h9) rfl dX10_copyFrom_71 ?_
        refine gb_put (ci := 8) (v := (.int (s_8.1 v1 6))) (ty := .int) (C := RX10) (T := TX10) (N := 9) hx hb hq i_X10 tyX10 tyX10_ok nmX10 hown hK hP (fun k h => ⟨Nat.le_add_right b k, Nat.add_lt_add_left h b⟩) hS rfl v0 (gb_cT z_3).1 rfl 6 (by decide) (hq _ w_124) (fun _ h9 => h9) rfl (by decide +kernel) rfl rfl (Nat.le_of_ble_eq_true rfl) dX10_copyFrom_74 (fun H locs hP hz_ hS => ?_)
        obtain ⟨s_9, es_9⟩ : ∃ q, q = (gb_su s_8 v0 (upd (s_8.1 v0) 6 (s_8.1 v1 6))) := ⟨_, rfl⟩
        replace hP : va_P D vwCl (gb_wl b (gb_CW cT b s_9)) H := by rw [es_9, ← gb_wTo6 z_3]; exact hP
        replace h := gb_lt_s es_9 h
        refine lv_aload_n hx hb dX10_copyFrom_77 rfl (lv_at hl 0 rfl) ?_
        refine lv_aload_n hx hb dX10_copyFrom_78 rfl (lv_at hl 1 rfl) ?_
        refine va_get (ci := 8) (v := (.int (s_9.1 v1 7))) (C := RX10) (T := TX10) (N := 9) hx hb hq i_X10 hown hK hP v1 (gb_at b (gb_cT z_4).1) rfl 7 (by decide) (hq _ w_127) (fun _ h9 => h9) rfl dX10_copyFrom_79 ?_
        refine gb_put (ci := 8) (v := (.int (s_9.1 v1 7))) (ty := .int) (C := RX10) (T := TX10) (N := 9) hx hb hq i_X10 tyX10 tyX10_ok nmX10 hown hK hP (fun k h => ⟨Nat.le_add_right b k, Nat.add_lt_add_left h b⟩) hS rfl v0 (gb_cT z_3).1 rfl 7 (by decide) (hq _ w_127) (fun _ h9 => h9) rfl (by decide +kernel) rfl rfl (Nat.le_of_ble_eq_true rfl) dX10_copyFrom_82 (fun H locs hP hz_ hS => ?_)
        obtain ⟨s_10, es_10⟩ : ∃ q, q = (gb_su s_9 v0 (upd (s_9.1 v0) 7 (s_9.1 v1 7))) := ⟨_, rfl⟩
        replace hP : va_P D vwCl (gb_wl b (gb_CW cT b s_10)) H := by rw [es_10, ← gb_wTo7 z_3]; exact hP
        replace h := gb_lt_s es_10 h
        refine lv_aload_n hx hb dX10_copyFrom_85 rfl (lv_at hl 0 rfl) ?_
        refine lv_aload_n hx hb dX10_copyFrom_86 rfl (lv_at hl 1 rfl) ?_
        refine va_get (ci := 8) (v := (.int (s_10.1 v1 8))) (C := RX10) (T := TX10) (N := 9) hx hb hq i_X10 hown hK hP v1 (gb_at b (gb_cT z_4).1) rfl 8 (by decide) (hq _ w_128) (fun _ h9 => h9) rfl dX10_copyFrom_87 ?_
        refine gb_put (ci := 8) (v := (.int (s_10.1 v1 8))) (ty := .int) (C := RX10) (T := TX10) (N := 9) hx hb hq i_X10 tyX10 tyX10_ok nmX10 hown hK hP (fun k h => ⟨Nat.le_add_right b k, Nat.add_lt_add_left h b⟩) hS rfl v0 (gb_cT z_3).1 rfl 8 (by decide) (hq _ w_128) (fun _ h9 => h9) rfl (by decide +kernel) rfl rfl (Nat.le_of_ble_eq_true rfl) dX10_copyFrom_90 (fun H locs hP hz_ hS => ?_)
        obtain ⟨s_11, es_11⟩ : ∃ q, q = (gb_su s_10 v0 (upd (s_10.1 v0) 8 (s_10.1 v1 8))) := ⟨_, rfl⟩
        replace hP : va_P D vwCl (gb_wl b (gb_CW cT b s_11)) H := by rw [es_11, ← gb_wTo8 z_3]; exact hP
        replace h := gb_lt_s es_11 h
        obtain ⟨e1, -⟩ := gb_eq2 h
        exact W.vret hx hb hr (fun t ht hW => gb_rv ht (by rw [← e1]; exact hP) hS) hS.2.2 dX10_copyFrom_93
      · rw [if_neg c_5] at h
        refine lv_iconst (v := 0) hx hb dX10_copyFrom_7 (by decide) ?_
        refine lv_istore_n (lv' := [(3, .int 0), (0, .ref (b + v0)), (1, .ref (b + v1)), (2, .int v2)]) hx hb dX10_copyFrom_8 rfl hl (by decide) rfl (fun ls hl => ?_)
        exact L9_2 _ ih n _ _ _ _ _ _ _ _ h hP hS (lv_sub hl [1, 2, 3, 0] rfl)
  unfold cs_Told_copyFrom_T_T at h
  obtain ⟨z_1, h⟩ := gb_kk_s h
  obtain ⟨z_2, h⟩ := gb_kk_s h
  refine lv_iconst (v := 0) hx hb dX10_copyFrom_0 (by decide) ?_
  refine lv_istore_n (lv' := [(2, .int 0), (0, .ref (b + k0)), (1, .ref (b + p1))]) hx hb dX10_copyFrom_1 rfl hl (by decide) rfl (fun ls hl => ?_)
  exact L2_1 n _ _ _ _ _ _ _ h hP hS (lv_sub hl [1, 2, 0] rfl)
theorem w_581 : (Cond.code ({ cls := "GooseBorder$Told", name := "copyFrom", desc := "(LGooseBorder$Told;)V" } : MethodName) prog_12_method_4_code (4 : Nat) (Option.none : Option FieldType)) ∈ gb_wA := gb_t3 101 rfl rfl
theorem w_578 : (Cond.methodLink "GooseBorder" (110 : Nat) ({ cls := "GooseBorder$Told", name := "copyFrom", desc := "(LGooseBorder$Told;)V" } : MethodName)) ∈ gb_wA := gb_t3 98 rfl rfl
theorem w_579 : (Cond.instanceMethod ({ cls := "GooseBorder$Told", name := "copyFrom", desc := "(LGooseBorder$Told;)V" } : MethodName)) ∈ gb_wA := gb_t3 99 rfl rfl
theorem w_580 : (Cond.selects "GooseBorder$Told" ({ cls := "GooseBorder$Told", name := "copyFrom", desc := "(LGooseBorder$Told;)V" } : MethodName) ({ cls := "GooseBorder$Told", name := "copyFrom", desc := "(LGooseBorder$Told;)V" } : MethodName)) ∈ gb_wA := gb_t3 100 rfl rfl
theorem dX11_image_24 : decode cX11_image 24 = .ok (.aload_n 0, 1) := dc_42 (show ((cX11_image.data.toList.drop 24).take 1).map UInt8.toNat = [42] by decide +kernel)
theorem dX11_image_25 : decode cX11_image 25 = .ok (.getfield 20, 3) := dc_180 (show ((cX11_image.data.toList.drop 25).take 3).map UInt8.toNat = [180, 0, 20] by decide +kernel) rfl
theorem dX11_image_28 : decode cX11_image 28 = .ok (.iload_n 1, 1) := dc_27 (show ((cX11_image.data.toList.drop 28).take 1).map UInt8.toNat = [27] by decide +kernel)
theorem dX11_image_29 : decode cX11_image 29 = .ok (.iconst 1, 1) := dc_4 (show ((cX11_image.data.toList.drop 29).take 1).map UInt8.toNat = [4] by decide +kernel)
theorem dX11_image_30 : decode cX11_image 30 = .ok (.bastore, 1) := dc_84 (show ((cX11_image.data.toList.drop 30).take 1).map UInt8.toNat = [84] by decide +kernel)
theorem dX11_image_31 : decode cX11_image 31 = .ok (.iconst 1, 1) := dc_4 (show ((cX11_image.data.toList.drop 31).take 1).map UInt8.toNat = [4] by decide +kernel)
theorem dX11_image_32 : decode cX11_image 32 = .ok (.ireturn, 1) := dc_172 (show ((cX11_image.data.toList.drop 32).take 1).map UInt8.toNat = [172] by decide +kernel)
def cs_Face_image (n : Nat) (σ : gb_S) (p1 : Int32) : gb_CR Int32 := (if p1 < 0 then some (σ, 0) else (if p1 < 3 then gb_ck p1 3 (gb_lt (([25, 48, 71] : List Nat).getD (Int32.toNatClampNeg p1) 0) (fun a_4 => gb_kk (gb_kT a_4) (gb_cd (cs_Told_copyFrom_T_T n σ a_4 1) (fun s_6 _ => gb_ck p1 3 (gb_lt (gb_su s_6 94 (upd (s_6.1 94) (Int32.toNatClampNeg p1) (vp_nar .boolean 1))) (fun s_11 => some (s_11, 1))))))) else some (σ, 0)))
set_option maxHeartbeats 8000000 in
set_option maxRecDepth 100000 in
theorem cc_Face_image (l : Launch) (D : va_G) (cT : Nat → ClassId) (tt : Nat → Nat) (b1 b : Nat) (hb1 : b1 ≤ b) (n : Nat) (σ : gb_S) (p1 : Int32) (σE : gb_S) (rE : Int32) (h : cs_Face_image n σ p1 = some (σE, rE)) : Met l yX11_image (.code yX11_image cX11_image 2 (some FieldType.boolean) :: gb_wA) ({ frames := 3, cells := 0, slots := 0, locals := 84 }) (gb_Pc D cT tt b1 [.ref (b + 0), .int p1] (fun h => va_P D vwCl (gb_wl b (gb_CW cT b σ)) h)) (gb_Qi (fun r h => r = rE ∧ va_P D vwCl (gb_wl b (gb_CW cT b σE)) h) (gb_fr b 135)) 0 0 (gb_fr b 135) := by
  refine Met.ofW (cc := cX11_image) (maxL := 2) (ret := (some FieldType.boolean)) (by decide) rfl ?_
  intro p e s m args below meth c s₁ B hml hv
  obtain ⟨rfl, hSt, hP⟩ := hv
  have hx := B.exec
  have hb := B.bytes
  have hr := B.returns
  have hts := atoms_spec (ws := .code yX11_image cX11_image 2 (some FieldType.boolean) :: gb_wA) B.pre
  have hq : ∀ w ∈ gb_wA, w.before _ s = true := fun w h => hts w (List.mem_cons_of_mem _ h)
  have hown : s.vm.findClass RX11 = some m.cls := findClass_of_methodNamed B.named
  have hlocks := B.notSynchronized
  clear B hts
  have hK := hSt.1
  have hS : va_S (gb_fr b 135) s.heap s.heap [] := va_S.rf
  have hl := lv_entry ([.ref (b + 0), .int p1]) (n := 2) (Nat.le_of_ble_eq_true rfl)
  rw [lg_entry_eq]
  generalize (lg_sl ([.ref (b + 0), .int p1]) ++ List.replicate (2 - (lg_sl ([.ref (b + 0), .int p1])).length) Slot.unset).toArray = ls at hl ⊢
  replace hl : lv_has ls 2 [(0, .ref (b + 0)), (1, .int p1)] := hl
  unfold cs_Face_image at h
  refine lv_iload_n hx hb dX11_image_0 rfl (lv_at hl 1 rfl) ?_
  refine lv_if_lt (tgt := 9) hx hb dX11_image_1 (by decide) (fun c_1 => ?_) (fun c_1 => ?_)
  · rw [if_pos c_1] at h
    refine lv_iconst (v := 0) hx hb dX11_image_9 (by decide) ?_
    obtain ⟨e1, e2⟩ := gb_eq2 h
    exact W.zret (v := 0) hx hb hr (by decide) (fun t ht hW => gb_ri ht ⟨e2, by rw [← e1]; exact hP⟩ hS) hS.2.2 dX11_image_10
  · rw [if_neg c_1] at h
    refine lv_iload_n hx hb dX11_image_4 rfl (lv_at hl 1 rfl) ?_
    refine lv_iconst (v := 3) hx hb dX11_image_5 (by decide) ?_
    refine lv_icmp_lt (tgt := 11) hx hb dX11_image_6 (by decide) (fun c_2 => ?_) (fun c_2 => ?_)
    · rw [if_pos c_2] at h
      refine lv_aload_n hx hb dX11_image_11 rfl (lv_at hl 0 rfl) ?_
      refine va_get (ci := 9) (v := (.ref (b + 24))) (C := RX11) (T := TX11) (N := 10) hx hb hq i_X11 hown hK hP 0 (gb_at b rfl) rfl 1 (by decide) (hq _ w_316) (fun _ h9 => h9) rfl dX11_image_12 ?_
      refine lv_iload_n hx hb dX11_image_15 rfl (lv_at hl 1 rfl) ?_
      obtain ⟨z_3, h⟩ := gb_ck_s h
      refine gb_aald (v := .ref (b + (([25, 48, 71] : List Nat).getD (Int32.toNatClampNeg p1) 0))) hx hb hK hP 24 8 (gb_at b rfl) rfl z_3 (gb_ra_at (L := ([25, 48, 71] : List Nat)) z_3) dX11_image_16 ?_
      obtain ⟨a_4, ea_4⟩ : ∃ q, q = (([25, 48, 71] : List Nat).getD (Int32.toNatClampNeg p1) 0) := ⟨_, rfl⟩
      rw [← ea_4]
      replace h := gb_lt_s ea_4 h
      obtain ⟨z_5, h⟩ := gb_kk_s h
      refine lv_aload_n hx hb dX11_image_17 rfl (lv_at hl 0 rfl) ?_
      refine va_get (ci := 9) (v := (.ref (b + 1))) (C := RX11) (T := TX11) (N := 10) hx hb hq i_X11 hown hK hP 0 (gb_at b rfl) rfl 0 (by decide) (hq _ w_315) (fun _ h9 => h9) rfl dX11_image_18 ?_
      obtain ⟨s_6, r_7, z_8, h⟩ := gb_cd_s h
      refine gb_callv (va_runV (C := RX10) (As := [.ref (b + 1)]) (rest := []) ⟨hx, hb, hml, hown, hq⟩ (cc_Told_copyFrom_T_T l D cT tt b1 b hb1 n σ a_4 1 s_6 r_7 z_8) (cwV 1 hq (gb_gV w_578 w_579 w_580 w_2 w_581) rfl rfl rfl (by decide +kernel) ⟨Nat.le_of_ble_eq_true rfl, Nat.le_of_ble_eq_true rfl⟩) (gb_preV (r := (RX10, TX10, 9)) (ci := 8) (q0 := a_4) hSt hP rfl (gb_at b (gb_cT z_5).1) hS (fun q h => Nat.le_trans hb1 h.1) hP) rfl rfl hl.1 rfl (lv_room (Nat.le_of_ble_eq_true rfl)) dX11_image_21 ⟨Nat.le_of_ble_eq_true rfl, Nat.le_of_ble_eq_true rfl⟩) hS (fun _ h => h) (fun _ h => h) (fun H locs hY hk hS => ?_)
      have hP := hY
      refine lv_aload_n hx hb dX11_image_24 rfl (lv_at hl 0 rfl) ?_
      refine va_get (ci := 9) (v := (.ref (b + 94))) (C := RX11) (T := TX11) (N := 10) hx hb hq i_X11 hown hK hP 0 (gb_at b rfl) rfl 2 (by decide) (hq _ w_317) (fun _ h9 => h9) rfl dX11_image_25 ?_
      refine lv_iload_n hx hb dX11_image_28 rfl (lv_at hl 1 rfl) ?_
      refine lv_iconst (v := 1) hx hb dX11_image_29 (by decide) ?_
      obtain ⟨z_10, h⟩ := gb_ck_s h
      refine va_zast (x := 1) hx hb hK hP (gb_D (fun k h => ⟨Nat.le_add_right b k, Nat.add_lt_add_left h b⟩)) hS 94 2 (gb_at b rfl) rfl z_10 dX11_image_30 (fun H locs hP hD hS => ?_)
      rw [gb_set] at hP
      obtain ⟨s_11, es_11⟩ : ∃ q, q = (gb_su s_6 94 (upd (s_6.1 94) (Int32.toNatClampNeg p1) (vp_nar .boolean 1))) := ⟨_, rfl⟩
      replace hP : va_P D vwCl (gb_wl b (gb_CW cT b s_11)) H := by rw [es_11]; exact hP
      replace h := gb_lt_s es_11 h
      refine lv_iconst (v := 1) hx hb dX11_image_31 (by decide) ?_
      obtain ⟨e1, e2⟩ := gb_eq2 h
      exact W.zret (v := 1) hx hb hr (by decide) (fun t ht hW => gb_ri ht ⟨e2, by rw [← e1]; exact hP⟩ hS) hS.2.2 dX11_image_32
    · rw [if_neg c_2] at h
      refine lv_iconst (v := 0) hx hb dX11_image_9 (by decide) ?_
      obtain ⟨e1, e2⟩ := gb_eq2 h
      exact W.zret (v := 0) hx hb hr (by decide) (fun t ht hW => gb_ri ht ⟨e2, by rw [← e1]; exact hP⟩ hS) hS.2.2 dX11_image_10
theorem dX11_again_0 : decode cX11_again 0 = .ok (.iload_n 1, 1) := dc_27 (show ((cX11_again.data.toList.drop 0).take 1).map UInt8.toNat = [27] by decide +kernel)
theorem dX11_again_1 : decode cX11_again 1 = .ok (.ifCond .lt 17, 3) := dc_155 (show ((cX11_again.data.toList.drop 1).take 3).map UInt8.toNat = [155, 0, 17] by decide +kernel) rfl
theorem dX11_again_18 : decode cX11_again 18 = .ok (.iconst 0, 1) := dc_3 (show ((cX11_again.data.toList.drop 18).take 1).map UInt8.toNat = [3] by decide +kernel)
theorem dX11_again_19 : decode cX11_again 19 = .ok (.ireturn, 1) := dc_172 (show ((cX11_again.data.toList.drop 19).take 1).map UInt8.toNat = [172] by decide +kernel)
theorem dX11_again_4 : decode cX11_again 4 = .ok (.iload_n 1, 1) := dc_27 (show ((cX11_again.data.toList.drop 4).take 1).map UInt8.toNat = [27] by decide +kernel)
theorem dX11_again_5 : decode cX11_again 5 = .ok (.iconst 3, 1) := dc_6 (show ((cX11_again.data.toList.drop 5).take 1).map UInt8.toNat = [6] by decide +kernel)
theorem dX11_again_6 : decode cX11_again 6 = .ok (.if_icmp .ge 12, 3) := dc_162 (show ((cX11_again.data.toList.drop 6).take 3).map UInt8.toNat = [162, 0, 12] by decide +kernel) rfl
theorem dX11_again_9 : decode cX11_again 9 = .ok (.aload_n 0, 1) := dc_42 (show ((cX11_again.data.toList.drop 9).take 1).map UInt8.toNat = [42] by decide +kernel)
theorem dX11_again_10 : decode cX11_again 10 = .ok (.getfield 20, 3) := dc_180 (show ((cX11_again.data.toList.drop 10).take 3).map UInt8.toNat = [180, 0, 20] by decide +kernel) rfl
theorem dX11_again_13 : decode cX11_again 13 = .ok (.iload_n 1, 1) := dc_27 (show ((cX11_again.data.toList.drop 13).take 1).map UInt8.toNat = [27] by decide +kernel)
theorem dX11_again_14 : decode cX11_again 14 = .ok (.baload, 1) := dc_51 (show ((cX11_again.data.toList.drop 14).take 1).map UInt8.toNat = [51] by decide +kernel)
theorem dX11_again_15 : decode cX11_again 15 = .ok (.ifCond .ne 5, 3) := dc_154 (show ((cX11_again.data.toList.drop 15).take 3).map UInt8.toNat = [154, 0, 5] by decide +kernel) rfl
theorem dX11_again_20 : decode cX11_again 20 = .ok (.aload_n 0, 1) := dc_42 (show ((cX11_again.data.toList.drop 20).take 1).map UInt8.toNat = [42] by decide +kernel)
theorem dX11_again_21 : decode cX11_again 21 = .ok (.getfield 12, 3) := dc_180 (show ((cX11_again.data.toList.drop 21).take 3).map UInt8.toNat = [180, 0, 12] by decide +kernel) rfl
theorem dX11_again_24 : decode cX11_again 24 = .ok (.aload_n 0, 1) := dc_42 (show ((cX11_again.data.toList.drop 24).take 1).map UInt8.toNat = [42] by decide +kernel)
theorem dX11_again_25 : decode cX11_again 25 = .ok (.getfield 16, 3) := dc_180 (show ((cX11_again.data.toList.drop 25).take 3).map UInt8.toNat = [180, 0, 16] by decide +kernel) rfl
theorem dX11_again_28 : decode cX11_again 28 = .ok (.iload_n 1, 1) := dc_27 (show ((cX11_again.data.toList.drop 28).take 1).map UInt8.toNat = [27] by decide +kernel)
theorem dX11_again_29 : decode cX11_again 29 = .ok (.aaload, 1) := dc_50 (show ((cX11_again.data.toList.drop 29).take 1).map UInt8.toNat = [50] by decide +kernel)
theorem dX11_again_30 : decode cX11_again 30 = .ok (.invokevirtual 110, 3) := dc_182 (show ((cX11_again.data.toList.drop 30).take 3).map UInt8.toNat = [182, 0, 110] by decide +kernel) rfl
theorem dX11_again_33 : decode cX11_again 33 = .ok (.iconst 1, 1) := dc_4 (show ((cX11_again.data.toList.drop 33).take 1).map UInt8.toNat = [4] by decide +kernel)
theorem dX11_again_34 : decode cX11_again 34 = .ok (.ireturn, 1) := dc_172 (show ((cX11_again.data.toList.drop 34).take 1).map UInt8.toNat = [172] by decide +kernel)
def cs_Face_again (n : Nat) (σ : gb_S) (p1 : Int32) : gb_CR Int32 := (if p1 < 0 then some (σ, 0) else (if (3 : Int32) ≤ p1 then some (σ, 0) else gb_ck p1 3 (gb_lt ((σ.1 94) (Int32.toNatClampNeg p1)) (fun x_4 => (if x_4 = 0 then some (σ, 0) else gb_ck p1 3 (gb_lt (([25, 48, 71] : List Nat).getD (Int32.toNatClampNeg p1) 0) (fun a_7 => gb_kk (gb_kT a_7) (gb_cd (cs_Told_copyFrom_T_T n σ 1 a_7) (fun s_9 _ => some (s_9, 1))))))))))
set_option maxHeartbeats 8000000 in
set_option maxRecDepth 100000 in
theorem cc_Face_again (l : Launch) (D : va_G) (cT : Nat → ClassId) (tt : Nat → Nat) (b1 b : Nat) (hb1 : b1 ≤ b) (n : Nat) (σ : gb_S) (p1 : Int32) (σE : gb_S) (rE : Int32) (h : cs_Face_again n σ p1 = some (σE, rE)) : Met l yX11_again (.code yX11_again cX11_again 2 (some FieldType.boolean) :: gb_wA) ({ frames := 3, cells := 0, slots := 0, locals := 84 }) (gb_Pc D cT tt b1 [.ref (b + 0), .int p1] (fun h => va_P D vwCl (gb_wl b (gb_CW cT b σ)) h)) (gb_Qi (fun r h => r = rE ∧ va_P D vwCl (gb_wl b (gb_CW cT b σE)) h) (gb_fr b 135)) 0 0 (gb_fr b 135) := by
  refine Met.ofW (cc := cX11_again) (maxL := 2) (ret := (some FieldType.boolean)) (by decide) rfl ?_
  intro p e s m args below meth c s₁ B hml hv
  obtain ⟨rfl, hSt, hP⟩ := hv
  have hx := B.exec
  have hb := B.bytes
  have hr := B.returns
  have hts := atoms_spec (ws := .code yX11_again cX11_again 2 (some FieldType.boolean) :: gb_wA) B.pre
  have hq : ∀ w ∈ gb_wA, w.before _ s = true := fun w h => hts w (List.mem_cons_of_mem _ h)
  have hown : s.vm.findClass RX11 = some m.cls := findClass_of_methodNamed B.named
  have hlocks := B.notSynchronized
  clear B hts
  have hK := hSt.1
  have hS : va_S (gb_fr b 135) s.heap s.heap [] := va_S.rf
  have hl := lv_entry ([.ref (b + 0), .int p1]) (n := 2) (Nat.le_of_ble_eq_true rfl)
  rw [lg_entry_eq]
  generalize (lg_sl ([.ref (b + 0), .int p1]) ++ List.replicate (2 - (lg_sl ([.ref (b + 0), .int p1])).length) Slot.unset).toArray = ls at hl ⊢
  replace hl : lv_has ls 2 [(0, .ref (b + 0)), (1, .int p1)] := hl
  unfold cs_Face_again at h
  refine lv_iload_n hx hb dX11_again_0 rfl (lv_at hl 1 rfl) ?_
  refine lv_if_lt (tgt := 18) hx hb dX11_again_1 (by decide) (fun c_1 => ?_) (fun c_1 => ?_)
  · rw [if_pos c_1] at h
    refine lv_iconst (v := 0) hx hb dX11_again_18 (by decide) ?_
    obtain ⟨e1, e2⟩ := gb_eq2 h
    exact W.zret (v := 0) hx hb hr (by decide) (fun t ht hW => gb_ri ht ⟨e2, by rw [← e1]; exact hP⟩ hS) hS.2.2 dX11_again_19
  · rw [if_neg c_1] at h
    refine lv_iload_n hx hb dX11_again_4 rfl (lv_at hl 1 rfl) ?_
    refine lv_iconst (v := 3) hx hb dX11_again_5 (by decide) ?_
    refine lv_icmp_ge (tgt := 18) hx hb dX11_again_6 (by decide) (fun c_2 => ?_) (fun c_2 => ?_)
    · rw [if_pos c_2] at h
      refine lv_iconst (v := 0) hx hb dX11_again_18 (by decide) ?_
      obtain ⟨e1, e2⟩ := gb_eq2 h
      exact W.zret (v := 0) hx hb hr (by decide) (fun t ht hW => gb_ri ht ⟨e2, by rw [← e1]; exact hP⟩ hS) hS.2.2 dX11_again_19
    · rw [if_neg c_2] at h
      refine lv_aload_n hx hb dX11_again_9 rfl (lv_at hl 0 rfl) ?_
      refine va_get (ci := 9) (v := (.ref (b + 94))) (C := RX11) (T := TX11) (N := 10) hx hb hq i_X11 hown hK hP 0 (gb_at b rfl) rfl 2 (by decide) (hq _ w_317) (fun _ h9 => h9) rfl dX11_again_10 ?_
      refine lv_iload_n hx hb dX11_again_13 rfl (lv_at hl 1 rfl) ?_
      obtain ⟨z_3, h⟩ := gb_ck_s h
      refine va_zald hx hb hK hP 94 2 (gb_at b rfl) rfl z_3 dX11_again_14 ?_
      refine lv_topi (fun x_4 ex_4 => ?_)
      replace h := gb_lt_s ex_4 h
      refine lv_if_ne (tgt := 20) hx hb dX11_again_15 (by decide) (fun c_5 => ?_) (fun c_5 => ?_)
      · rw [if_neg c_5] at h
        refine lv_aload_n hx hb dX11_again_20 rfl (lv_at hl 0 rfl) ?_
        refine va_get (ci := 9) (v := (.ref (b + 1))) (C := RX11) (T := TX11) (N := 10) hx hb hq i_X11 hown hK hP 0 (gb_at b rfl) rfl 0 (by decide) (hq _ w_315) (fun _ h9 => h9) rfl dX11_again_21 ?_
        refine lv_aload_n hx hb dX11_again_24 rfl (lv_at hl 0 rfl) ?_
        refine va_get (ci := 9) (v := (.ref (b + 24))) (C := RX11) (T := TX11) (N := 10) hx hb hq i_X11 hown hK hP 0 (gb_at b rfl) rfl 1 (by decide) (hq _ w_316) (fun _ h9 => h9) rfl dX11_again_25 ?_
        refine lv_iload_n hx hb dX11_again_28 rfl (lv_at hl 1 rfl) ?_
        obtain ⟨z_6, h⟩ := gb_ck_s h
        refine gb_aald (v := .ref (b + (([25, 48, 71] : List Nat).getD (Int32.toNatClampNeg p1) 0))) hx hb hK hP 24 8 (gb_at b rfl) rfl z_6 (gb_ra_at (L := ([25, 48, 71] : List Nat)) z_6) dX11_again_29 ?_
        obtain ⟨a_7, ea_7⟩ : ∃ q, q = (([25, 48, 71] : List Nat).getD (Int32.toNatClampNeg p1) 0) := ⟨_, rfl⟩
        rw [← ea_7]
        replace h := gb_lt_s ea_7 h
        obtain ⟨z_8, h⟩ := gb_kk_s h
        obtain ⟨s_9, r_10, z_11, h⟩ := gb_cd_s h
        refine gb_callv (va_runV (C := RX10) (As := [.ref (b + a_7)]) (rest := []) ⟨hx, hb, hml, hown, hq⟩ (cc_Told_copyFrom_T_T l D cT tt b1 b hb1 n σ 1 a_7 s_9 r_10 z_11) (cwV 1 hq (gb_gV w_578 w_579 w_580 w_2 w_581) rfl rfl rfl (by decide +kernel) ⟨Nat.le_of_ble_eq_true rfl, Nat.le_of_ble_eq_true rfl⟩) (gb_preV (r := (RX10, TX10, 9)) (ci := 8) (q0 := 1) hSt hP rfl (gb_at b (gb_cT rfl).1) hS (fun q h => Nat.le_trans hb1 h.1) hP) rfl rfl hl.1 rfl (lv_room (Nat.le_of_ble_eq_true rfl)) dX11_again_30 ⟨Nat.le_of_ble_eq_true rfl, Nat.le_of_ble_eq_true rfl⟩) hS (fun _ h => h) (fun _ h => h) (fun H locs hY hk hS => ?_)
        have hP := hY
        refine lv_iconst (v := 1) hx hb dX11_again_33 (by decide) ?_
        obtain ⟨e1, e2⟩ := gb_eq2 h
        exact W.zret (v := 1) hx hb hr (by decide) (fun t ht hW => gb_ri ht ⟨e2, by rw [← e1]; exact hP⟩ hS) hS.2.2 dX11_again_34
      · rw [if_pos c_5] at h
        refine lv_iconst (v := 0) hx hb dX11_again_18 (by decide) ?_
        obtain ⟨e1, e2⟩ := gb_eq2 h
        exact W.zret (v := 0) hx hb hr (by decide) (fun t ht hW => gb_ri ht ⟨e2, by rw [← e1]; exact hP⟩ hS) hS.2.2 dX11_again_19
theorem dX11_border_0 : decode cX11_border 0 = .ok (.aload_n 0, 1) := dc_42 (show ((cX11_border.data.toList.drop 0).take 1).map UInt8.toNat = [42] by decide +kernel)
theorem dX11_border_1 : decode cX11_border 1 = .ok (.iload_n 1, 1) := dc_27 (show ((cX11_border.data.toList.drop 1).take 1).map UInt8.toNat = [27] by decide +kernel)
theorem dX11_border_2 : decode cX11_border 2 = .ok (.invokevirtual 113, 3) := dc_182 (show ((cX11_border.data.toList.drop 2).take 3).map UInt8.toNat = [182, 0, 113] by decide +kernel) rfl
theorem dX11_borderAt_0 : decode cX11_borderAt 0 = .ok (.iload_n 1, 1) := dc_27 (show ((cX11_borderAt.data.toList.drop 0).take 1).map UInt8.toNat = [27] by decide +kernel)
theorem dX11_borderAt_1 : decode cX11_borderAt 1 = .ok (.ifCond .lt 28, 3) := dc_155 (show ((cX11_borderAt.data.toList.drop 1).take 3).map UInt8.toNat = [155, 0, 28] by decide +kernel) rfl
theorem dX11_borderAt_29 : decode cX11_borderAt 29 = .ok (.aconst_null, 1) := dc_1 (show ((cX11_borderAt.data.toList.drop 29).take 1).map UInt8.toNat = [1] by decide +kernel)
theorem dX11_borderAt_30 : decode cX11_borderAt 30 = .ok (.areturn, 1) := dc_176 (show ((cX11_borderAt.data.toList.drop 30).take 1).map UInt8.toNat = [176] by decide +kernel)
theorem dX11_borderAt_4 : decode cX11_borderAt 4 = .ok (.iload_n 1, 1) := dc_27 (show ((cX11_borderAt.data.toList.drop 4).take 1).map UInt8.toNat = [27] by decide +kernel)
theorem dX11_borderAt_5 : decode cX11_borderAt 5 = .ok (.aload_n 0, 1) := dc_42 (show ((cX11_borderAt.data.toList.drop 5).take 1).map UInt8.toNat = [42] by decide +kernel)
theorem dX11_borderAt_6 : decode cX11_borderAt 6 = .ok (.getfield 12, 3) := dc_180 (show ((cX11_borderAt.data.toList.drop 6).take 3).map UInt8.toNat = [180, 0, 12] by decide +kernel) rfl
theorem dX11_borderAt_9 : decode cX11_borderAt 9 = .ok (.getfield 88, 3) := dc_180 (show ((cX11_borderAt.data.toList.drop 9).take 3).map UInt8.toNat = [180, 0, 88] by decide +kernel) rfl
theorem dX11_borderAt_12 : decode cX11_borderAt 12 = .ok (.iconst 0, 1) := dc_3 (show ((cX11_borderAt.data.toList.drop 12).take 1).map UInt8.toNat = [3] by decide +kernel)
theorem dX11_borderAt_13 : decode cX11_borderAt 13 = .ok (.iaload, 1) := dc_46 (show ((cX11_borderAt.data.toList.drop 13).take 1).map UInt8.toNat = [46] by decide +kernel)
theorem dX11_borderAt_14 : decode cX11_borderAt 14 = .ok (.if_icmp .ge 15, 3) := dc_162 (show ((cX11_borderAt.data.toList.drop 14).take 3).map UInt8.toNat = [162, 0, 15] by decide +kernel) rfl
theorem dX11_borderAt_17 : decode cX11_borderAt 17 = .ok (.aload_n 0, 1) := dc_42 (show ((cX11_borderAt.data.toList.drop 17).take 1).map UInt8.toNat = [42] by decide +kernel)
theorem dX11_borderAt_18 : decode cX11_borderAt 18 = .ok (.getfield 12, 3) := dc_180 (show ((cX11_borderAt.data.toList.drop 18).take 3).map UInt8.toNat = [180, 0, 12] by decide +kernel) rfl
theorem dX11_borderAt_21 : decode cX11_borderAt 21 = .ok (.getfield 179, 3) := dc_180 (show ((cX11_borderAt.data.toList.drop 21).take 3).map UInt8.toNat = [180, 0, 179] by decide +kernel) rfl
theorem w_113 : (Cond.fieldLink "GooseBorder" (179 : Nat) "GooseBorder$Told" "borders" "[LGooseBorder$Border;") ∈ gb_wA := gb_t1 113 rfl rfl
theorem dX11_borderAt_24 : decode cX11_borderAt 24 = .ok (.iload_n 1, 1) := dc_27 (show ((cX11_borderAt.data.toList.drop 24).take 1).map UInt8.toNat = [27] by decide +kernel)
theorem dX11_borderAt_25 : decode cX11_borderAt 25 = .ok (.aaload, 1) := dc_50 (show ((cX11_borderAt.data.toList.drop 25).take 1).map UInt8.toNat = [50] by decide +kernel)
theorem dX11_borderAt_26 : decode cX11_borderAt 26 = .ok (.goto 4, 3) := dc_167 (show ((cX11_borderAt.data.toList.drop 26).take 3).map UInt8.toNat = [167, 0, 4] by decide +kernel) rfl
def cs_Face_borderAt (n : Nat) (σ : gb_S) (p1 : Int32) : gb_CR Nat := (if p1 < 0 then some (σ, 0) else gb_lt ((σ.1 22) (Int32.toNatClampNeg 0)) (fun x_2 => (if x_2 ≤ p1 then some (σ, 0) else gb_ck p1 2 (gb_lt (([3, 5] : List Nat).getD (Int32.toNatClampNeg p1) 0) (fun a_5 => gb_kk (gb_kB a_5) (some (σ, a_5)))))))
set_option maxHeartbeats 8000000 in
set_option maxRecDepth 100000 in
theorem cc_Face_borderAt (l : Launch) (D : va_G) (cT : Nat → ClassId) (tt : Nat → Nat) (b1 b : Nat) (hb1 : b1 ≤ b) (n : Nat) (σ : gb_S) (p1 : Int32) (σE : gb_S) (rE : Nat) (h : cs_Face_borderAt n σ p1 = some (σE, rE)) : Met l yX11_borderAt (.code yX11_borderAt cX11_borderAt 2 (some (FieldType.object "GooseBorder$Border")) :: gb_wA) ({ frames := 0, cells := 0, slots := 0, locals := 0 }) (gb_Pc D cT tt b1 [.ref (b + 0), .int p1] (fun h => va_P D vwCl (gb_wl b (gb_CW cT b σ)) h)) (gb_Qq (fun r h => r = gb_on b rE ∧ va_P D vwCl (gb_wl b (gb_CW cT b σE)) h) (gb_fr b 135)) 0 0 (gb_fr b 135) := by
  refine Met.ofW (cc := cX11_borderAt) (maxL := 2) (ret := (some (FieldType.object "GooseBorder$Border"))) (by decide) rfl ?_
  intro p e s m args below meth c s₁ B hml hv
  obtain ⟨rfl, hSt, hP⟩ := hv
  have hx := B.exec
  have hb := B.bytes
  have hr := B.returns
  have hts := atoms_spec (ws := .code yX11_borderAt cX11_borderAt 2 (some (FieldType.object "GooseBorder$Border")) :: gb_wA) B.pre
  have hq : ∀ w ∈ gb_wA, w.before _ s = true := fun w h => hts w (List.mem_cons_of_mem _ h)
  have hown : s.vm.findClass RX11 = some m.cls := findClass_of_methodNamed B.named
  have hlocks := B.notSynchronized
  clear B hts
  have hK := hSt.1
  have hS : va_S (gb_fr b 135) s.heap s.heap [] := va_S.rf
  have hl := lv_entry ([.ref (b + 0), .int p1]) (n := 2) (Nat.le_of_ble_eq_true rfl)
  rw [lg_entry_eq]
  generalize (lg_sl ([.ref (b + 0), .int p1]) ++ List.replicate (2 - (lg_sl ([.ref (b + 0), .int p1])).length) Slot.unset).toArray = ls at hl ⊢
  replace hl : lv_has ls 2 [(0, .ref (b + 0)), (1, .int p1)] := hl
  unfold cs_Face_borderAt at h
  refine lv_iload_n hx hb dX11_borderAt_0 rfl (lv_at hl 1 rfl) ?_
  refine lv_if_lt (tgt := 29) hx hb dX11_borderAt_1 (by decide) (fun c_1 => ?_) (fun c_1 => ?_)
  · rw [if_pos c_1] at h
    refine lv_null hx hb dX11_borderAt_29 ?_
    obtain ⟨e1, e2⟩ := gb_eq2 h
    exact W.aret (v := .null) hx hb hr (Or.inl ⟨_, rfl⟩) (Or.inl rfl) (fun t ht hW => gb_rq none ht ⟨by rw [← e2]; rfl, by rw [← e1]; exact hP⟩ hS) hS.2.2 dX11_borderAt_30
  · rw [if_neg c_1] at h
    refine lv_iload_n hx hb dX11_borderAt_4 rfl (lv_at hl 1 rfl) ?_
    refine lv_aload_n hx hb dX11_borderAt_5 rfl (lv_at hl 0 rfl) ?_
    refine va_get (ci := 9) (v := (.ref (b + 1))) (C := RX11) (T := TX11) (N := 10) hx hb hq i_X11 hown hK hP 0 (gb_at b rfl) rfl 0 (by decide) (hq _ w_315) (fun _ h9 => h9) rfl dX11_borderAt_6 ?_
    refine va_get (ci := 8) (v := (.ref (b + 22))) (C := RX10) (T := TX10) (N := 9) hx hb hq i_X10 hown hK hP 1 (gb_at b rfl) rfl 4 (by decide) (hq _ w_121) (fun _ h9 => h9) rfl dX11_borderAt_9 ?_
    refine lv_iconst (v := 0) hx hb dX11_borderAt_12 (by decide) ?_
    refine va_iald hx hb hK hP 22 0 (gb_at b rfl) rfl (gb_in rfl) dX11_borderAt_13 ?_
    refine lv_topi (fun x_2 ex_2 => ?_)
    replace h := gb_lt_s ex_2 h
    refine lv_icmp_ge (tgt := 29) hx hb dX11_borderAt_14 (by decide) (fun c_3 => ?_) (fun c_3 => ?_)
    · rw [if_pos c_3] at h
      refine lv_null hx hb dX11_borderAt_29 ?_
      obtain ⟨e1, e2⟩ := gb_eq2 h
      exact W.aret (v := .null) hx hb hr (Or.inl ⟨_, rfl⟩) (Or.inl rfl) (fun t ht hW => gb_rq none ht ⟨by rw [← e2]; rfl, by rw [← e1]; exact hP⟩ hS) hS.2.2 dX11_borderAt_30
    · rw [if_neg c_3] at h
      refine lv_aload_n hx hb dX11_borderAt_17 rfl (lv_at hl 0 rfl) ?_
      refine va_get (ci := 9) (v := (.ref (b + 1))) (C := RX11) (T := TX11) (N := 10) hx hb hq i_X11 hown hK hP 0 (gb_at b rfl) rfl 0 (by decide) (hq _ w_315) (fun _ h9 => h9) rfl dX11_borderAt_18 ?_
      refine va_get (ci := 8) (v := (.ref (b + 2))) (C := RX10) (T := TX10) (N := 9) hx hb hq i_X10 hown hK hP 1 (gb_at b rfl) rfl 0 (by decide) (hq _ w_113) (fun _ h9 => h9) rfl dX11_borderAt_21 ?_
      refine lv_iload_n hx hb dX11_borderAt_24 rfl (lv_at hl 1 rfl) ?_
      obtain ⟨z_4, h⟩ := gb_ck_s h
      refine gb_aald (v := .ref (b + (([3, 5] : List Nat).getD (Int32.toNatClampNeg p1) 0))) hx hb hK hP 2 4 (gb_at b rfl) rfl z_4 (gb_ra_at (L := ([3, 5] : List Nat)) z_4) dX11_borderAt_25 ?_
      obtain ⟨a_5, ea_5⟩ : ∃ q, q = (([3, 5] : List Nat).getD (Int32.toNatClampNeg p1) 0) := ⟨_, rfl⟩
      rw [← ea_5]
      replace h := gb_lt_s ea_5 h
      obtain ⟨z_6, h⟩ := gb_kk_s h
      refine lv_goto (tgt := 30) hx hb dX11_borderAt_26 (by decide) ?_
      obtain ⟨e1, e2⟩ := gb_eq2 h
      exact W.aret (v := (.ref (b + a_5))) hx hb hr (Or.inl ⟨_, rfl⟩) (Or.inr ⟨_, rfl⟩) (fun t ht hW => gb_rq (some (b + a_5)) ht ⟨by rw [← e2]; exact (gb_on1 (gb_nzB z_6)), by rw [← e1]; exact hP⟩ hS) hS.2.2 dX11_borderAt_30
theorem w_596 : (Cond.code ({ cls := "GooseBorder", name := "borderAt", desc := "(I)LGooseBorder$Border;" } : MethodName) prog_1_method_16_code (2 : Nat) (Option.some (FieldType.object "GooseBorder$Border"))) ∈ gb_wA := gb_t3 116 rfl rfl
theorem w_593 : (Cond.methodLink "GooseBorder" (113 : Nat) ({ cls := "GooseBorder", name := "borderAt", desc := "(I)LGooseBorder$Border;" } : MethodName)) ∈ gb_wA := gb_t3 113 rfl rfl
theorem w_595 : (Cond.instanceMethod ({ cls := "GooseBorder", name := "borderAt", desc := "(I)LGooseBorder$Border;" } : MethodName)) ∈ gb_wA := gb_t3 115 rfl rfl
theorem s_1_7 : Cond.selects "GooseBorder" (⟨"GooseBorder", "borderAt", "(I)LGooseBorder$Border;"⟩ : MethodName) (⟨"GooseBorder", "borderAt", "(I)LGooseBorder$Border;"⟩ : MethodName) ∈ gb_wA := gb_s1 7 rfl rfl
theorem w_1 : (Cond.initialized "GooseBorder") ∈ gb_wA := gb_t1 1 rfl rfl
theorem dX11_border_5 : decode cX11_border 5 = .ok (.astore_n 3, 1) := dc_78 (show ((cX11_border.data.toList.drop 5).take 1).map UInt8.toNat = [78] by decide +kernel)
theorem dX11_border_6 : decode cX11_border 6 = .ok (.aload_n 3, 1) := dc_45 (show ((cX11_border.data.toList.drop 6).take 1).map UInt8.toNat = [45] by decide +kernel)
theorem dX11_border_7 : decode cX11_border 7 = .ok (.ifnonnull 6, 3) := dc_199 (show ((cX11_border.data.toList.drop 7).take 3).map UInt8.toNat = [199, 0, 6] by decide +kernel) rfl
theorem dX11_border_10 : decode cX11_border 10 = .ok (.bipush (-2), 2) := dc_16 (show ((cX11_border.data.toList.drop 10).take 2).map UInt8.toNat = [16, 254] by decide +kernel) rfl
theorem dX11_border_12 : decode cX11_border 12 = .ok (.ireturn, 1) := dc_172 (show ((cX11_border.data.toList.drop 12).take 1).map UInt8.toNat = [172] by decide +kernel)
theorem dX11_border_13 : decode cX11_border 13 = .ok (.iload_n 2, 1) := dc_28 (show ((cX11_border.data.toList.drop 13).take 1).map UInt8.toNat = [28] by decide +kernel)
theorem dX11_border_14 : decode cX11_border 14 = .ok (.tableswitch 41 0 2 #[26, 31, 36], 26) := by decide +kernel
theorem dX11_border_40 : decode cX11_border 40 = .ok (.aload_n 3, 1) := dc_45 (show ((cX11_border.data.toList.drop 40).take 1).map UInt8.toNat = [45] by decide +kernel)
theorem dX11_border_41 : decode cX11_border 41 = .ok (.invokevirtual 117, 3) := dc_182 (show ((cX11_border.data.toList.drop 41).take 3).map UInt8.toNat = [182, 0, 117] by decide +kernel) rfl
theorem w_597 : (Cond.methodLink "GooseBorder" (117 : Nat) ({ cls := "GooseBorder$Border", name := "paths", desc := "()I" } : MethodName)) ∈ gb_wA := gb_t3 117 rfl rfl
theorem dX11_border_44 : decode cX11_border 44 = .ok (.ireturn, 1) := dc_172 (show ((cX11_border.data.toList.drop 44).take 1).map UInt8.toNat = [172] by decide +kernel)
theorem dX11_border_45 : decode cX11_border 45 = .ok (.aload_n 3, 1) := dc_45 (show ((cX11_border.data.toList.drop 45).take 1).map UInt8.toNat = [45] by decide +kernel)
theorem dX11_border_46 : decode cX11_border 46 = .ok (.invokevirtual 121, 3) := dc_182 (show ((cX11_border.data.toList.drop 46).take 3).map UInt8.toNat = [182, 0, 121] by decide +kernel) rfl
theorem w_598 : (Cond.methodLink "GooseBorder" (121 : Nat) ({ cls := "GooseBorder$Border", name := "geese", desc := "()I" } : MethodName)) ∈ gb_wA := gb_t3 118 rfl rfl
theorem dX11_border_49 : decode cX11_border 49 = .ok (.ireturn, 1) := dc_172 (show ((cX11_border.data.toList.drop 49).take 1).map UInt8.toNat = [172] by decide +kernel)
theorem dX11_border_50 : decode cX11_border 50 = .ok (.aload_n 3, 1) := dc_45 (show ((cX11_border.data.toList.drop 50).take 1).map UInt8.toNat = [45] by decide +kernel)
theorem dX11_border_51 : decode cX11_border 51 = .ok (.invokevirtual 124, 3) := dc_182 (show ((cX11_border.data.toList.drop 51).take 3).map UInt8.toNat = [182, 0, 124] by decide +kernel) rfl
theorem w_602 : (Cond.code ({ cls := "GooseBorder$Border", name := "cap", desc := "()I" } : MethodName) prog_2_method_8_code (1 : Nat) (Option.some FieldType.int)) ∈ gb_wA := gb_t3 122 rfl rfl
theorem w_599 : (Cond.methodLink "GooseBorder" (124 : Nat) ({ cls := "GooseBorder$Border", name := "cap", desc := "()I" } : MethodName)) ∈ gb_wA := gb_t3 119 rfl rfl
theorem w_600 : (Cond.instanceMethod ({ cls := "GooseBorder$Border", name := "cap", desc := "()I" } : MethodName)) ∈ gb_wA := gb_t3 120 rfl rfl
theorem w_601 : (Cond.selects "GooseBorder$Border" ({ cls := "GooseBorder$Border", name := "cap", desc := "()I" } : MethodName) ({ cls := "GooseBorder$Border", name := "cap", desc := "()I" } : MethodName)) ∈ gb_wA := gb_t3 121 rfl rfl
theorem dX11_border_54 : decode cX11_border 54 = .ok (.ireturn, 1) := dc_172 (show ((cX11_border.data.toList.drop 54).take 1).map UInt8.toNat = [172] by decide +kernel)
theorem dX11_border_55 : decode cX11_border 55 = .ok (.aload_n 3, 1) := dc_45 (show ((cX11_border.data.toList.drop 55).take 1).map UInt8.toNat = [45] by decide +kernel)
theorem dX11_border_56 : decode cX11_border 56 = .ok (.iload_n 2, 1) := dc_28 (show ((cX11_border.data.toList.drop 56).take 1).map UInt8.toNat = [28] by decide +kernel)
theorem dX11_border_57 : decode cX11_border 57 = .ok (.invokevirtual 127, 3) := dc_182 (show ((cX11_border.data.toList.drop 57).take 3).map UInt8.toNat = [182, 0, 127] by decide +kernel) rfl
theorem w_606 : (Cond.code ({ cls := "GooseBorder$Border", name := "numberTold", desc := "(I)I" } : MethodName) prog_2_method_11_code (5 : Nat) (Option.some FieldType.int)) ∈ gb_wA := gb_t3 126 rfl rfl
theorem w_603 : (Cond.methodLink "GooseBorder" (127 : Nat) ({ cls := "GooseBorder$Border", name := "numberTold", desc := "(I)I" } : MethodName)) ∈ gb_wA := gb_t3 123 rfl rfl
theorem w_604 : (Cond.instanceMethod ({ cls := "GooseBorder$Border", name := "numberTold", desc := "(I)I" } : MethodName)) ∈ gb_wA := gb_t3 124 rfl rfl
theorem w_605 : (Cond.selects "GooseBorder$Border" ({ cls := "GooseBorder$Border", name := "numberTold", desc := "(I)I" } : MethodName) ({ cls := "GooseBorder$Border", name := "numberTold", desc := "(I)I" } : MethodName)) ∈ gb_wA := gb_t3 125 rfl rfl
theorem dX11_border_60 : decode cX11_border 60 = .ok (.ireturn, 1) := dc_172 (show ((cX11_border.data.toList.drop 60).take 1).map UInt8.toNat = [172] by decide +kernel)
def cs_Face_border (n : Nat) (σ : gb_S) (p1 : Int32) (p2 : Int32) : gb_CR Int32 := gb_cd (cs_Face_borderAt n σ p1) (fun s_1 r_2 => (if r_2 = 0 then some (s_1, (-2)) else gb_kk (gb_kB r_2) ((if p2 = (0 : Int32) then gb_cd (cs_Border_paths_B n s_1 r_2) (fun s_8 r_9 => some (s_8, r_9)) else (if p2 = (1 : Int32) then gb_cd (cs_Border_geese_B n s_1 r_2) (fun s_13 r_14 => some (s_13, r_14)) else (if p2 = (2 : Int32) then gb_cd (cs_Border_cap_B n s_1 r_2) (fun s_18 r_19 => some (s_18, r_19)) else gb_cd (cs_Border_numberTold_B n s_1 r_2 p2) (fun s_22 r_23 => some (s_22, r_23))))))))
set_option maxHeartbeats 8000000 in
set_option maxRecDepth 100000 in
theorem cc_Face_border (l : Launch) (D : va_G) (cT : Nat → ClassId) (tt : Nat → Nat) (b1 b : Nat) (hb1 : b1 ≤ b) (n : Nat) (σ : gb_S) (p1 : Int32) (p2 : Int32) (σE : gb_S) (rE : Int32) (h : cs_Face_border n σ p1 p2 = some (σE, rE)) : Met l yX11_border (.code yX11_border cX11_border 4 (some FieldType.int) :: gb_wA) ({ frames := 3, cells := 0, slots := 0, locals := 65 }) (gb_Pc D cT tt b1 [.ref (b + 0), .int p1, .int p2] (fun h => va_P D vwCl (gb_wl b (gb_CW cT b σ)) h)) (gb_Qi (fun r h => r = rE ∧ va_P D vwCl (gb_wl b (gb_CW cT b σE)) h) (gb_fr b 135)) 0 0 (gb_fr b 135) := by
  refine Met.ofW (cc := cX11_border) (maxL := 4) (ret := (some FieldType.int)) (by decide) rfl ?_
  intro p e s m args below meth c s₁ B hml hv
  obtain ⟨rfl, hSt, hP⟩ := hv
  have hx := B.exec
  have hb := B.bytes
  have hr := B.returns
  have hts := atoms_spec (ws := .code yX11_border cX11_border 4 (some FieldType.int) :: gb_wA) B.pre
  have hq : ∀ w ∈ gb_wA, w.before _ s = true := fun w h => hts w (List.mem_cons_of_mem _ h)
  have hown : s.vm.findClass RX11 = some m.cls := findClass_of_methodNamed B.named
  have hlocks := B.notSynchronized
  clear B hts
  have hK := hSt.1
  have hS : va_S (gb_fr b 135) s.heap s.heap [] := va_S.rf
  have hl := lv_entry ([.ref (b + 0), .int p1, .int p2]) (n := 4) (Nat.le_of_ble_eq_true rfl)
  rw [lg_entry_eq]
  generalize (lg_sl ([.ref (b + 0), .int p1, .int p2]) ++ List.replicate (4 - (lg_sl ([.ref (b + 0), .int p1, .int p2])).length) Slot.unset).toArray = ls at hl ⊢
  replace hl : lv_has ls 4 [(0, .ref (b + 0)), (1, .int p1), (2, .int p2)] := hl
  unfold cs_Face_border at h
  refine lv_aload_n hx hb dX11_border_0 rfl (lv_at hl 0 rfl) ?_
  refine lv_iload_n hx hb dX11_border_1 rfl (lv_at hl 1 rfl) ?_
  obtain ⟨s_1, r_2, z_3, h⟩ := gb_cd_s h
  refine gb_callq (va_runV (C := RX11) (As := [.int p1]) (rest := []) ⟨hx, hb, hml, hown, hq⟩ (cc_Face_borderAt l D cT tt b1 b hb1 n σ p1 s_1 r_2 z_3) (cwV 1 hq (gb_gV w_593 w_595 s_1_7 w_1 w_596) rfl rfl rfl (by decide +kernel) ⟨Nat.le_of_ble_eq_true rfl, Nat.le_of_ble_eq_true rfl⟩) (gb_preV (r := (RX11, TX11, 10)) (ci := 9) (q0 := 0) hSt hP rfl (gb_at b rfl) hS (fun q h => Nat.le_trans hb1 h.1) hP) rfl rfl hl.1 rfl (lv_room (Nat.le_of_ble_eq_true rfl)) dX11_border_2 ⟨Nat.le_of_ble_eq_true rfl, Nat.le_of_ble_eq_true rfl⟩) hS (fun _ h => h) (fun _ h => h) (fun q_4 H locs hY hk hS => ?_)
  obtain ⟨hq_4, hP⟩ := hY
  subst hq_4
  rw [gb_onv]
  by_cases c_5 : r_2 = 0
  · rw [if_pos c_5] at h
    rw [gb_nv0 c_5]
    refine lv_astore_nN (lv' := [(3, .null), (0, .ref (b + 0)), (1, .int p1), (2, .int p2)]) hx hb dX11_border_5 rfl hl (by decide) rfl (fun ls hl => ?_)
    refine lv_aload_nN hx hb dX11_border_6 rfl (lv_at hl 0 rfl) ?_
    refine lv_ifnonnullN hx hb dX11_border_7 ?_
    refine lv_bipush (v := (-2)) hx hb dX11_border_10 (by decide) ?_
    obtain ⟨e1, e2⟩ := gb_eq2 h
    exact W.iret (v := (-2)) hx hb hr (fun t ht hW => gb_ri ht ⟨e2, by rw [← e1]; exact hP⟩ hS) hS.2.2 dX11_border_12
  rw [if_neg c_5] at h
  rw [gb_nv1 c_5]
  obtain ⟨z_6, h⟩ := gb_kk_s h
  refine lv_astore_n (lv' := [(3, .ref (b + r_2)), (0, .ref (b + 0)), (1, .int p1), (2, .int p2)]) hx hb dX11_border_5 rfl hl (by decide) rfl (fun ls hl => ?_)
  refine lv_aload_n hx hb dX11_border_6 rfl (lv_at hl 0 rfl) ?_
  refine lv_ifnonnull (tgt := 13) hx hb dX11_border_7 (by decide) ?_
  refine lv_iload_n hx hb dX11_border_13 rfl (lv_at hl 3 rfl) ?_
  by_cases c_7 : p2 = (0 : Int32)
  · rw [if_pos c_7] at h
    refine lv_tableIn (off := 26) (tgt := 40) hx hb dX11_border_14 (by rw [c_7]; decide) (by rw [c_7]; decide) (by rw [c_7]; decide) (by decide) ?_
    refine lv_aload_n hx hb dX11_border_40 rfl (lv_at hl 0 rfl) ?_
    obtain ⟨s_8, r_9, z_10, h⟩ := gb_cd_s h
    refine gb_calli (va_runV (C := RX0) (As := []) (rest := []) ⟨hx, hb, hml, hown, hq⟩ (cc_Border_paths_B l D cT tt b1 b hb1 n s_1 r_2 s_8 r_9 z_10) (cwV 0 hq (gb_gV w_597 w_473 w_474 w_4 w_475) rfl rfl rfl (by decide +kernel) ⟨Nat.le_of_ble_eq_true rfl, Nat.le_of_ble_eq_true rfl⟩) (gb_preV (r := (RX0, TX0, 1)) (ci := 0) (q0 := r_2) hSt hP rfl (gb_at b (gb_cB z_6).1) hS (fun q h => Nat.le_trans hb1 h.1) hP) rfl rfl hl.1 rfl (lv_room (Nat.le_of_ble_eq_true rfl)) dX11_border_41 ⟨Nat.le_of_ble_eq_true rfl, Nat.le_of_ble_eq_true rfl⟩) hS (fun _ h => h) (fun _ h => h) (fun q_11 H locs hY hk hS => ?_)
    obtain ⟨hq_11, hP⟩ := hY
    replace hq_11 := hq_11.symm
    subst hq_11
    obtain ⟨e1, e2⟩ := gb_eq2 h
    exact W.iret (v := r_9) hx hb hr (fun t ht hW => gb_ri ht ⟨e2, by rw [← e1]; exact hP⟩ hS) hS.2.2 dX11_border_44
  rw [if_neg c_7] at h
  by_cases c_12 : p2 = (1 : Int32)
  · rw [if_pos c_12] at h
    refine lv_tableIn (off := 31) (tgt := 45) hx hb dX11_border_14 (by rw [c_12]; decide) (by rw [c_12]; decide) (by rw [c_12]; decide) (by decide) ?_
    refine lv_aload_n hx hb dX11_border_45 rfl (lv_at hl 0 rfl) ?_
    obtain ⟨s_13, r_14, z_15, h⟩ := gb_cd_s h
    refine gb_calli (va_runV (C := RX0) (As := []) (rest := []) ⟨hx, hb, hml, hown, hq⟩ (cc_Border_geese_B l D cT tt b1 b hb1 n s_1 r_2 s_13 r_14 z_15) (cwV 0 hq (gb_gV w_598 w_477 w_478 w_4 w_479) rfl rfl rfl (by decide +kernel) ⟨Nat.le_of_ble_eq_true rfl, Nat.le_of_ble_eq_true rfl⟩) (gb_preV (r := (RX0, TX0, 1)) (ci := 0) (q0 := r_2) hSt hP rfl (gb_at b (gb_cB z_6).1) hS (fun q h => Nat.le_trans hb1 h.1) hP) rfl rfl hl.1 rfl (lv_room (Nat.le_of_ble_eq_true rfl)) dX11_border_46 ⟨Nat.le_of_ble_eq_true rfl, Nat.le_of_ble_eq_true rfl⟩) hS (fun _ h => h) (fun _ h => h) (fun q_16 H locs hY hk hS => ?_)
    obtain ⟨hq_16, hP⟩ := hY
    replace hq_16 := hq_16.symm
    subst hq_16
    obtain ⟨e1, e2⟩ := gb_eq2 h
    exact W.iret (v := r_14) hx hb hr (fun t ht hW => gb_ri ht ⟨e2, by rw [← e1]; exact hP⟩ hS) hS.2.2 dX11_border_49
  rw [if_neg c_12] at h
  by_cases c_17 : p2 = (2 : Int32)
  · rw [if_pos c_17] at h
    refine lv_tableIn (off := 36) (tgt := 50) hx hb dX11_border_14 (by rw [c_17]; decide) (by rw [c_17]; decide) (by rw [c_17]; decide) (by decide) ?_
    refine lv_aload_n hx hb dX11_border_50 rfl (lv_at hl 0 rfl) ?_
    obtain ⟨s_18, r_19, z_20, h⟩ := gb_cd_s h
    refine gb_calli (va_runV (C := RX0) (As := []) (rest := []) ⟨hx, hb, hml, hown, hq⟩ (cc_Border_cap_B l D cT tt b1 b hb1 n s_1 r_2 s_18 r_19 z_20) (cwV 0 hq (gb_gV w_599 w_600 w_601 w_4 w_602) rfl rfl rfl (by decide +kernel) ⟨Nat.le_of_ble_eq_true rfl, Nat.le_of_ble_eq_true rfl⟩) (gb_preV (r := (RX0, TX0, 1)) (ci := 0) (q0 := r_2) hSt hP rfl (gb_at b (gb_cB z_6).1) hS (fun q h => Nat.le_trans hb1 h.1) hP) rfl rfl hl.1 rfl (lv_room (Nat.le_of_ble_eq_true rfl)) dX11_border_51 ⟨Nat.le_of_ble_eq_true rfl, Nat.le_of_ble_eq_true rfl⟩) hS (fun _ h => h) (fun _ h => h) (fun q_21 H locs hY hk hS => ?_)
    obtain ⟨hq_21, hP⟩ := hY
    replace hq_21 := hq_21.symm
    subst hq_21
    obtain ⟨e1, e2⟩ := gb_eq2 h
    exact W.iret (v := r_19) hx hb hr (fun t ht hW => gb_ri ht ⟨e2, by rw [← e1]; exact hP⟩ hS) hS.2.2 dX11_border_54
  rw [if_neg c_17] at h
  refine lv_tableOut (tgt := 55) hx hb dX11_border_14 (by have := lv_neT c_7 (a := 0) rfl; have := lv_neT c_12 (a := 1) rfl; have := lv_neT c_17 (a := 2) rfl; omega) (by decide) ?_
  refine lv_aload_n hx hb dX11_border_55 rfl (lv_at hl 0 rfl) ?_
  refine lv_iload_n hx hb dX11_border_56 rfl (lv_at hl 3 rfl) ?_
  obtain ⟨s_22, r_23, z_24, h⟩ := gb_cd_s h
  refine gb_calli (va_runV (C := RX0) (As := [.int p2]) (rest := []) ⟨hx, hb, hml, hown, hq⟩ (cc_Border_numberTold_B l D cT tt b1 b hb1 n s_1 r_2 p2 s_22 r_23 z_24) (cwV 1 hq (gb_gV w_603 w_604 w_605 w_4 w_606) rfl rfl rfl (by decide +kernel) ⟨Nat.le_of_ble_eq_true rfl, Nat.le_of_ble_eq_true rfl⟩) (gb_preV (r := (RX0, TX0, 1)) (ci := 0) (q0 := r_2) hSt hP rfl (gb_at b (gb_cB z_6).1) hS (fun q h => Nat.le_trans hb1 h.1) hP) rfl rfl hl.1 rfl (lv_room (Nat.le_of_ble_eq_true rfl)) dX11_border_57 ⟨Nat.le_of_ble_eq_true rfl, Nat.le_of_ble_eq_true rfl⟩) hS (fun _ h => h) (fun _ h => h) (fun q_25 H locs hY hk hS => ?_)
  obtain ⟨hq_25, hP⟩ := hY
  replace hq_25 := hq_25.symm
  subst hq_25
  obtain ⟨e1, e2⟩ := gb_eq2 h
  exact W.iret (v := r_23) hx hb hr (fun t ht hW => gb_ri ht ⟨e2, by rw [← e1]; exact hP⟩ hS) hS.2.2 dX11_border_60
