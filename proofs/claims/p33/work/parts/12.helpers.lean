theorem dX7_init_0 : decode cX7_init 0 = .ok (.aload_n 0, 1) := dc_42 (show ((cX7_init.data.toList.drop 0).take 1).map UInt8.toNat = [42] by decide +kernel)
theorem dX7_init_1 : decode cX7_init 1 = .ok (.invokespecial 3, 3) := dc_183 (show ((cX7_init.data.toList.drop 1).take 3).map UInt8.toNat = [183, 0, 3] by decide +kernel) rfl
theorem w_166 : (Cond.methodLink "GooseBorder$Reader" (3 : Nat) ({ cls := "java/lang/Object", name := "<init>", desc := "()V" } : MethodName)) ∈ gb_wA := gb_t1 166 rfl rfl
theorem dX7_init_4 : decode cX7_init 4 = .ok (.aload_n 0, 1) := dc_42 (show ((cX7_init.data.toList.drop 4).take 1).map UInt8.toNat = [42] by decide +kernel)
theorem dX7_init_5 : decode cX7_init 5 = .ok (.iconst 5, 1) := dc_8 (show ((cX7_init.data.toList.drop 5).take 1).map UInt8.toNat = [8] by decide +kernel)
theorem dX7_init_6 : decode cX7_init 6 = .ok (.newarray .int, 2) := dc_188_10 (show ((cX7_init.data.toList.drop 6).take 2).map UInt8.toNat = [188, 10] by decide +kernel)
theorem dX7_init_8 : decode cX7_init 8 = .ok (.putfield 9, 3) := dc_181 (show ((cX7_init.data.toList.drop 8).take 3).map UInt8.toNat = [181, 0, 9] by decide +kernel) rfl
theorem w_175 : (Cond.laysFinal "GooseBorder$Reader" "GooseBorder$Reader" "numbers" "[I") ∈ gb_wA := gb_t1 175 rfl rfl
theorem w_177 : (Cond.lays "GooseBorder$Reader" "GooseBorder$Reader" "tape" "[B") ∈ gb_wA := gb_t1 177 rfl rfl
theorem w_179 : (Cond.lays "GooseBorder$Reader" "GooseBorder$Reader" "length" "I") ∈ gb_wA := gb_t1 179 rfl rfl
theorem w_181 : (Cond.lays "GooseBorder$Reader" "GooseBorder$Reader" "at" "I") ∈ gb_wA := gb_t1 181 rfl rfl
theorem w_183 : (Cond.lays "GooseBorder$Reader" "GooseBorder$Reader" "fault" "I") ∈ gb_wA := gb_t1 183 rfl rfl
theorem w_185 : (Cond.lays "GooseBorder$Reader" "GooseBorder$Reader" "place" "I") ∈ gb_wA := gb_t1 185 rfl rfl
theorem i_X7 : ∀ w ∈ u_ws RX7 TX7 6, w ∈ gb_wA := (List.forall_mem_cons.mpr ⟨w_175, List.forall_mem_cons.mpr ⟨w_177, List.forall_mem_cons.mpr ⟨w_179, List.forall_mem_cons.mpr ⟨w_181, List.forall_mem_cons.mpr ⟨w_183, List.forall_mem_cons.mpr ⟨w_185, fun _ h => absurd h List.not_mem_nil⟩⟩⟩⟩⟩⟩ : ∀ w ∈ ([Cond.laysFinal "GooseBorder$Reader" "GooseBorder$Reader" "numbers" "[I", Cond.lays "GooseBorder$Reader" "GooseBorder$Reader" "tape" "[B", Cond.lays "GooseBorder$Reader" "GooseBorder$Reader" "length" "I", Cond.lays "GooseBorder$Reader" "GooseBorder$Reader" "at" "I", Cond.lays "GooseBorder$Reader" "GooseBorder$Reader" "fault" "I", Cond.lays "GooseBorder$Reader" "GooseBorder$Reader" "place" "I"] : List Cond), w ∈ gb_wA)
theorem w_167 : (Cond.fieldLink "GooseBorder$Reader" (9 : Nat) "GooseBorder$Reader" "numbers" "[I") ∈ gb_wA := gb_t1 167 rfl rfl
theorem dX7_init_11 : decode cX7_init 11 = .ok (.aload_n 0, 1) := dc_42 (show ((cX7_init.data.toList.drop 11).take 1).map UInt8.toNat = [42] by decide +kernel)
theorem dX7_init_12 : decode cX7_init 12 = .ok (.iconst 0, 1) := dc_3 (show ((cX7_init.data.toList.drop 12).take 1).map UInt8.toNat = [3] by decide +kernel)
theorem dX7_init_13 : decode cX7_init 13 = .ok (.newarray .byte, 2) := dc_188_8 (show ((cX7_init.data.toList.drop 13).take 2).map UInt8.toNat = [188, 8] by decide +kernel)
theorem dX7_init_15 : decode cX7_init 15 = .ok (.putfield 15, 3) := dc_181 (show ((cX7_init.data.toList.drop 15).take 3).map UInt8.toNat = [181, 0, 15] by decide +kernel) rfl
theorem w_168 : (Cond.fieldLink "GooseBorder$Reader" (15 : Nat) "GooseBorder$Reader" "tape" "[B") ∈ gb_wA := gb_t1 168 rfl rfl
theorem dX7_init_18 : decode cX7_init 18 = .ok (.return_, 1) := dc_177 (show ((cX7_init.data.toList.drop 18).take 1).map UInt8.toNat = [177] by decide +kernel)
set_option maxHeartbeats 4000000 in
set_option maxRecDepth 100000 in
theorem k_X7_init (l : Launch) (D : va_G) (cT : Nat → ClassId) (tt : Nat → Nat) (b1 b : Nat) (hb1 : b1 ≤ b) : Met l yX7_init (.code yX7_init cX7_init 1 none :: gb_wA) ({ frames := 1, cells := 2, slots := 5, locals := 12 }) (gb_Pc D cT tt b1 [.ref (b + 0)] (fun h => va_P D vwCl (gb_wl b [.inr (6, [.null, .null, .int 0, .int 0, .int 0, .int 0])]) h ∧ Array.size h = b + 1)) (gb_Qv (fun h => va_P D vwCl (gb_wl b [.inr (6, [.ref (b + 1), .ref (b + 2), .int 0, .int 0, .int 0, .int 0]), .inl (cT 0, 5, .inl (fun _ => 0)), .inl (cT 1, 0, .inl (fun _ => 0))]) h ∧ Array.size h = b + 3) (gb_ge b)) 2 5 (gb_ge b) := by
  refine Met.ofW (cc := cX7_init) (maxL := 1) (ret := none) (by decide) rfl ?_
  intro p e s m args below meth c s₁ B hml hv
  obtain ⟨rfl, hSt, hP, hz⟩ := hv
  have hx := B.exec
  have hb := B.bytes
  have hr := B.returns
  have hts := atoms_spec (ws := .code yX7_init cX7_init 1 none :: gb_wA) B.pre
  have hq : ∀ w ∈ gb_wA, w.before _ s = true := fun w h => hts w (List.mem_cons_of_mem _ h)
  have hown : s.vm.findClass RX7 = some m.cls := findClass_of_methodNamed B.named
  have hlocks := B.notSynchronized
  have hin : meth.name = "<init>" := (name_of_methodNamed B.named B.method).1
  have hK := hSt.1
  have hS : va_S (gb_ge b) s.heap s.heap [] := va_S.rf
  have hl := lv_entry ([.ref (b + 0)]) (n := 1) (Nat.le_of_ble_eq_true rfl)
  rw [lg_entry_eq]
  generalize (lg_sl ([.ref (b + 0)]) ++ List.replicate (1 - (lg_sl ([.ref (b + 0)])).length) Slot.unset).toArray = ls at hl ⊢
  have hl : lv_has ls 1 [(0, .ref (b + 0))] := hl
  refine lv_aload_n hx hb dX7_init_0 rfl (lv_at hl 0 rfl) ?_
  refine W.objInit hx hb hown (hq _ w_166) (hq _ w_28) (hq _ w_29) rfl (by rw [hml]; exact hl.1) rfl dX7_init_1 (Nat.le_of_ble_eq_true rfl) (Nat.le_of_ble_eq_true rfl) ?_
  refine W.eq (g2 := F0 m 4 ls []) rfl ?_
  refine lv_aload_n hx hb dX7_init_4 rfl (lv_at hl 0 rfl) ?_
  refine lv_iconst (v := 5) hx hb dX7_init_5 (by decide) ?_
  refine gb_newa (atype := .int) (a0 := (5, .inl (fun _ => 0))) hx hb (hq _ w_59) (ty := .int) rfl hK hP hS 1 hz rfl 0 rfl (fun h => h) (fun _ => rfl) (by decide) (by decide) (Nat.le_of_ble_eq_true rfl) (Nat.le_of_ble_eq_true rfl) (Nat.le_of_ble_eq_true rfl) dX7_init_6 (fun H hP hz hS => ?_)
  have hP : va_P D vwCl (gb_wl b [.inr (6, [.null, .null, .int 0, .int 0, .int 0, .int 0]), .inl (cT 0, 5, .inl (fun _ => 0))]) H := hP
  refine W.widen (k := 1) (n := 5) (Nat.le_of_ble_eq_true rfl) (Nat.le_of_ble_eq_true rfl) ?_
  refine gb_putF (ci := 6) (v := (.ref (b + 1))) (ty := .array .int) (C := RX7) (T := TX7) (N := 6) hx hb hq i_X7 tyX7 tyX7_ok nmX7 hown hK hP (fun k _ => Nat.le_add_right b k) hS hz 0 rfl rfl 0 (by decide) (hq _ w_167) (fun _ h9 => h9) rfl hin rfl (by decide +kernel) rfl rfl (Nat.le_of_ble_eq_true rfl) dX7_init_8 (fun H locs hP hz hS => ?_)
  have hP : va_P D vwCl (gb_wl b [.inr (6, [.ref (b + 1), .null, .int 0, .int 0, .int 0, .int 0]), .inl (cT 0, 5, .inl (fun _ => 0))]) H := hP
  refine lv_aload_n hx hb dX7_init_11 rfl (lv_at hl 0 rfl) ?_
  refine lv_iconst (v := 0) hx hb dX7_init_12 (by decide) ?_
  refine gb_newa (atype := .byte) (a0 := (0, .inl (fun _ => 0))) hx hb (hq _ w_149) (ty := .byte) rfl hK hP hS 2 hz rfl 1 rfl (fun h => h) (fun _ => rfl) (by decide) (by decide) (Nat.le_of_ble_eq_true rfl) (Nat.le_of_ble_eq_true rfl) (Nat.le_of_ble_eq_true rfl) dX7_init_13 (fun H hP hz hS => ?_)
  have hP : va_P D vwCl (gb_wl b [.inr (6, [.ref (b + 1), .null, .int 0, .int 0, .int 0, .int 0]), .inl (cT 0, 5, .inl (fun _ => 0)), .inl (cT 1, 0, .inl (fun _ => 0))]) H := hP
  refine W.widen (k := 2) (n := 5) (Nat.le_of_ble_eq_true rfl) (Nat.le_of_ble_eq_true rfl) ?_
  refine gb_put (ci := 6) (v := (.ref (b + 2))) (ty := .array .byte) (C := RX7) (T := TX7) (N := 6) hx hb hq i_X7 tyX7 tyX7_ok nmX7 hown hK hP (fun k _ => Nat.le_add_right b k) hS hz 0 rfl rfl 1 (by decide) (hq _ w_168) (fun _ h9 => h9) rfl (by decide +kernel) rfl (by first | rfl | decide) (Nat.le_of_ble_eq_true rfl) dX7_init_15 (fun H locs hP hz hS => ?_)
  have hP : va_P D vwCl (gb_wl b [.inr (6, [.ref (b + 1), .ref (b + 2), .int 0, .int 0, .int 0, .int 0]), .inl (cT 0, 5, .inl (fun _ => 0)), .inl (cT 1, 0, .inl (fun _ => 0))]) H := hP
  exact W.vret hx hb hr (fun t ht hW => gb_rv ht ⟨hP, hz⟩ hS) hS.2.2 dX7_init_18
theorem dX6_init_0 : decode cX6_init 0 = .ok (.aload_n 0, 1) := dc_42 (show ((cX6_init.data.toList.drop 0).take 1).map UInt8.toNat = [42] by decide +kernel)
theorem dX6_init_1 : decode cX6_init 1 = .ok (.invokespecial 3, 3) := dc_183 (show ((cX6_init.data.toList.drop 1).take 3).map UInt8.toNat = [183, 0, 3] by decide +kernel) rfl
theorem w_194 : (Cond.methodLink "GooseBorder$Play" (3 : Nat) ({ cls := "java/lang/Object", name := "<init>", desc := "()V" } : MethodName)) ∈ gb_wA := gb_t1 194 rfl rfl
theorem dX6_init_4 : decode cX6_init 4 = .ok (.aload_n 0, 1) := dc_42 (show ((cX6_init.data.toList.drop 4).take 1).map UInt8.toNat = [42] by decide +kernel)
theorem dX6_init_5 : decode cX6_init 5 = .ok (.new 9, 3) := dc_187 (show ((cX6_init.data.toList.drop 5).take 3).map UInt8.toNat = [187, 0, 9] by decide +kernel) rfl
theorem w_195 : (Cond.classLink "GooseBorder$Play" (9 : Nat) "GooseBorder$Border") ∈ gb_wA := gb_t1 195 rfl rfl
theorem dX6_init_8 : decode cX6_init 8 = .ok (.dup, 1) := dc_89 (show ((cX6_init.data.toList.drop 8).take 1).map UInt8.toNat = [89] by decide +kernel)
theorem dX6_init_9 : decode cX6_init 9 = .ok (.invokespecial 11, 3) := dc_183 (show ((cX6_init.data.toList.drop 9).take 3).map UInt8.toNat = [183, 0, 11] by decide +kernel) rfl
theorem w_196 : (Cond.methodLink "GooseBorder$Play" (11 : Nat) ({ cls := "GooseBorder$Border", name := "<init>", desc := "()V" } : MethodName)) ∈ gb_wA := gb_t1 196 rfl rfl
theorem dX6_init_12 : decode cX6_init 12 = .ok (.putfield 12, 3) := dc_181 (show ((cX6_init.data.toList.drop 12).take 3).map UInt8.toNat = [181, 0, 12] by decide +kernel) rfl
theorem w_218 : (Cond.lays "GooseBorder$Play" "GooseBorder$Play" "border" "LGooseBorder$Border;") ∈ gb_wA := gb_t1 218 rfl rfl
theorem w_220 : (Cond.laysFinal "GooseBorder$Play" "GooseBorder$Play" "where" "[I") ∈ gb_wA := gb_t1 220 rfl rfl
theorem w_222 : (Cond.laysFinal "GooseBorder$Play" "GooseBorder$Play" "boots" "[I") ∈ gb_wA := gb_t1 222 rfl rfl
theorem w_224 : (Cond.laysFinal "GooseBorder$Play" "GooseBorder$Play" "trail" "[I") ∈ gb_wA := gb_t1 224 rfl rfl
theorem w_226 : (Cond.laysFinal "GooseBorder$Play" "GooseBorder$Play" "latest" "[I") ∈ gb_wA := gb_t1 226 rfl rfl
theorem w_228 : (Cond.laysFinal "GooseBorder$Play" "GooseBorder$Play" "marks" "[I") ∈ gb_wA := gb_t1 228 rfl rfl
theorem w_230 : (Cond.laysFinal "GooseBorder$Play" "GooseBorder$Play" "exports" "[I") ∈ gb_wA := gb_t1 230 rfl rfl
theorem w_232 : (Cond.laysFinal "GooseBorder$Play" "GooseBorder$Play" "washed" "[I") ∈ gb_wA := gb_t1 232 rfl rfl
theorem w_234 : (Cond.laysFinal "GooseBorder$Play" "GooseBorder$Play" "gone" "[I") ∈ gb_wA := gb_t1 234 rfl rfl
theorem w_236 : (Cond.lays "GooseBorder$Play" "GooseBorder$Play" "recast" "I") ∈ gb_wA := gb_t1 236 rfl rfl
theorem w_238 : (Cond.lays "GooseBorder$Play" "GooseBorder$Play" "frost" "Z") ∈ gb_wA := gb_t1 238 rfl rfl
theorem w_240 : (Cond.lays "GooseBorder$Play" "GooseBorder$Play" "done" "I") ∈ gb_wA := gb_t2 0 rfl rfl
theorem i_X6 : ∀ w ∈ u_ws RX6 TX6 12, w ∈ gb_wA := (List.forall_mem_cons.mpr ⟨w_218, List.forall_mem_cons.mpr ⟨w_220, List.forall_mem_cons.mpr ⟨w_222, List.forall_mem_cons.mpr ⟨w_224, List.forall_mem_cons.mpr ⟨w_226, List.forall_mem_cons.mpr ⟨w_228, List.forall_mem_cons.mpr ⟨w_230, List.forall_mem_cons.mpr ⟨w_232, List.forall_mem_cons.mpr ⟨w_234, List.forall_mem_cons.mpr ⟨w_236, List.forall_mem_cons.mpr ⟨w_238, List.forall_mem_cons.mpr ⟨w_240, fun _ h => absurd h List.not_mem_nil⟩⟩⟩⟩⟩⟩⟩⟩⟩⟩⟩⟩ : ∀ w ∈ ([Cond.lays "GooseBorder$Play" "GooseBorder$Play" "border" "LGooseBorder$Border;", Cond.laysFinal "GooseBorder$Play" "GooseBorder$Play" "where" "[I", Cond.laysFinal "GooseBorder$Play" "GooseBorder$Play" "boots" "[I", Cond.laysFinal "GooseBorder$Play" "GooseBorder$Play" "trail" "[I", Cond.laysFinal "GooseBorder$Play" "GooseBorder$Play" "latest" "[I", Cond.laysFinal "GooseBorder$Play" "GooseBorder$Play" "marks" "[I", Cond.laysFinal "GooseBorder$Play" "GooseBorder$Play" "exports" "[I", Cond.laysFinal "GooseBorder$Play" "GooseBorder$Play" "washed" "[I", Cond.laysFinal "GooseBorder$Play" "GooseBorder$Play" "gone" "[I", Cond.lays "GooseBorder$Play" "GooseBorder$Play" "recast" "I", Cond.lays "GooseBorder$Play" "GooseBorder$Play" "frost" "Z", Cond.lays "GooseBorder$Play" "GooseBorder$Play" "done" "I"] : List Cond), w ∈ gb_wA)
theorem w_197 : (Cond.fieldLink "GooseBorder$Play" (12 : Nat) "GooseBorder$Play" "border" "LGooseBorder$Border;") ∈ gb_wA := gb_t1 197 rfl rfl
theorem dX6_init_15 : decode cX6_init 15 = .ok (.aload_n 0, 1) := dc_42 (show ((cX6_init.data.toList.drop 15).take 1).map UInt8.toNat = [42] by decide +kernel)
theorem dX6_init_16 : decode cX6_init 16 = .ok (.bipush 8, 2) := dc_16 (show ((cX6_init.data.toList.drop 16).take 2).map UInt8.toNat = [16, 8] by decide +kernel) rfl
theorem dX6_init_18 : decode cX6_init 18 = .ok (.newarray .int, 2) := dc_188_10 (show ((cX6_init.data.toList.drop 18).take 2).map UInt8.toNat = [188, 10] by decide +kernel)
theorem dX6_init_20 : decode cX6_init 20 = .ok (.putfield 18, 3) := dc_181 (show ((cX6_init.data.toList.drop 20).take 3).map UInt8.toNat = [181, 0, 18] by decide +kernel) rfl
theorem w_198 : (Cond.fieldLink "GooseBorder$Play" (18 : Nat) "GooseBorder$Play" "where" "[I") ∈ gb_wA := gb_t1 198 rfl rfl
theorem dX6_init_23 : decode cX6_init 23 = .ok (.aload_n 0, 1) := dc_42 (show ((cX6_init.data.toList.drop 23).take 1).map UInt8.toNat = [42] by decide +kernel)
theorem dX6_init_24 : decode cX6_init 24 = .ok (.bipush 8, 2) := dc_16 (show ((cX6_init.data.toList.drop 24).take 2).map UInt8.toNat = [16, 8] by decide +kernel) rfl
theorem dX6_init_26 : decode cX6_init 26 = .ok (.newarray .int, 2) := dc_188_10 (show ((cX6_init.data.toList.drop 26).take 2).map UInt8.toNat = [188, 10] by decide +kernel)
theorem dX6_init_28 : decode cX6_init 28 = .ok (.putfield 22, 3) := dc_181 (show ((cX6_init.data.toList.drop 28).take 3).map UInt8.toNat = [181, 0, 22] by decide +kernel) rfl
theorem w_200 : (Cond.fieldLink "GooseBorder$Play" (22 : Nat) "GooseBorder$Play" "boots" "[I") ∈ gb_wA := gb_t1 200 rfl rfl
theorem dX6_init_31 : decode cX6_init 31 = .ok (.aload_n 0, 1) := dc_42 (show ((cX6_init.data.toList.drop 31).take 1).map UInt8.toNat = [42] by decide +kernel)
theorem dX6_init_32 : decode cX6_init 32 = .ok (.bipush 8, 2) := dc_16 (show ((cX6_init.data.toList.drop 32).take 2).map UInt8.toNat = [16, 8] by decide +kernel) rfl
theorem dX6_init_34 : decode cX6_init 34 = .ok (.newarray .int, 2) := dc_188_10 (show ((cX6_init.data.toList.drop 34).take 2).map UInt8.toNat = [188, 10] by decide +kernel)
theorem dX6_init_36 : decode cX6_init 36 = .ok (.putfield 25, 3) := dc_181 (show ((cX6_init.data.toList.drop 36).take 3).map UInt8.toNat = [181, 0, 25] by decide +kernel) rfl
theorem w_202 : (Cond.fieldLink "GooseBorder$Play" (25 : Nat) "GooseBorder$Play" "trail" "[I") ∈ gb_wA := gb_t1 202 rfl rfl
theorem dX6_init_39 : decode cX6_init 39 = .ok (.aload_n 0, 1) := dc_42 (show ((cX6_init.data.toList.drop 39).take 1).map UInt8.toNat = [42] by decide +kernel)
theorem dX6_init_40 : decode cX6_init 40 = .ok (.bipush 8, 2) := dc_16 (show ((cX6_init.data.toList.drop 40).take 2).map UInt8.toNat = [16, 8] by decide +kernel) rfl
theorem dX6_init_42 : decode cX6_init 42 = .ok (.newarray .int, 2) := dc_188_10 (show ((cX6_init.data.toList.drop 42).take 2).map UInt8.toNat = [188, 10] by decide +kernel)
theorem dX6_init_44 : decode cX6_init 44 = .ok (.putfield 28, 3) := dc_181 (show ((cX6_init.data.toList.drop 44).take 3).map UInt8.toNat = [181, 0, 28] by decide +kernel) rfl
theorem w_204 : (Cond.fieldLink "GooseBorder$Play" (28 : Nat) "GooseBorder$Play" "latest" "[I") ∈ gb_wA := gb_t1 204 rfl rfl
theorem dX6_init_47 : decode cX6_init 47 = .ok (.aload_n 0, 1) := dc_42 (show ((cX6_init.data.toList.drop 47).take 1).map UInt8.toNat = [42] by decide +kernel)
theorem dX6_init_48 : decode cX6_init 48 = .ok (.iconst 5, 1) := dc_8 (show ((cX6_init.data.toList.drop 48).take 1).map UInt8.toNat = [8] by decide +kernel)
theorem dX6_init_49 : decode cX6_init 49 = .ok (.newarray .int, 2) := dc_188_10 (show ((cX6_init.data.toList.drop 49).take 2).map UInt8.toNat = [188, 10] by decide +kernel)
theorem dX6_init_51 : decode cX6_init 51 = .ok (.putfield 31, 3) := dc_181 (show ((cX6_init.data.toList.drop 51).take 3).map UInt8.toNat = [181, 0, 31] by decide +kernel) rfl
theorem w_206 : (Cond.fieldLink "GooseBorder$Play" (31 : Nat) "GooseBorder$Play" "marks" "[I") ∈ gb_wA := gb_t1 206 rfl rfl
theorem dX6_init_54 : decode cX6_init 54 = .ok (.aload_n 0, 1) := dc_42 (show ((cX6_init.data.toList.drop 54).take 1).map UInt8.toNat = [42] by decide +kernel)
theorem dX6_init_55 : decode cX6_init 55 = .ok (.iconst 5, 1) := dc_8 (show ((cX6_init.data.toList.drop 55).take 1).map UInt8.toNat = [8] by decide +kernel)
theorem dX6_init_56 : decode cX6_init 56 = .ok (.newarray .int, 2) := dc_188_10 (show ((cX6_init.data.toList.drop 56).take 2).map UInt8.toNat = [188, 10] by decide +kernel)
theorem dX6_init_58 : decode cX6_init 58 = .ok (.putfield 34, 3) := dc_181 (show ((cX6_init.data.toList.drop 58).take 3).map UInt8.toNat = [181, 0, 34] by decide +kernel) rfl
theorem w_208 : (Cond.fieldLink "GooseBorder$Play" (34 : Nat) "GooseBorder$Play" "exports" "[I") ∈ gb_wA := gb_t1 208 rfl rfl
theorem dX6_init_61 : decode cX6_init 61 = .ok (.aload_n 0, 1) := dc_42 (show ((cX6_init.data.toList.drop 61).take 1).map UInt8.toNat = [42] by decide +kernel)
theorem dX6_init_62 : decode cX6_init 62 = .ok (.iconst 5, 1) := dc_8 (show ((cX6_init.data.toList.drop 62).take 1).map UInt8.toNat = [8] by decide +kernel)
theorem dX6_init_63 : decode cX6_init 63 = .ok (.newarray .int, 2) := dc_188_10 (show ((cX6_init.data.toList.drop 63).take 2).map UInt8.toNat = [188, 10] by decide +kernel)
theorem dX6_init_65 : decode cX6_init 65 = .ok (.putfield 37, 3) := dc_181 (show ((cX6_init.data.toList.drop 65).take 3).map UInt8.toNat = [181, 0, 37] by decide +kernel) rfl
theorem w_210 : (Cond.fieldLink "GooseBorder$Play" (37 : Nat) "GooseBorder$Play" "washed" "[I") ∈ gb_wA := gb_t1 210 rfl rfl
theorem dX6_init_68 : decode cX6_init 68 = .ok (.aload_n 0, 1) := dc_42 (show ((cX6_init.data.toList.drop 68).take 1).map UInt8.toNat = [42] by decide +kernel)
theorem dX6_init_69 : decode cX6_init 69 = .ok (.bipush 40, 2) := dc_16 (show ((cX6_init.data.toList.drop 69).take 2).map UInt8.toNat = [16, 40] by decide +kernel) rfl
theorem dX6_init_71 : decode cX6_init 71 = .ok (.newarray .int, 2) := dc_188_10 (show ((cX6_init.data.toList.drop 71).take 2).map UInt8.toNat = [188, 10] by decide +kernel)
theorem dX6_init_73 : decode cX6_init 73 = .ok (.putfield 40, 3) := dc_181 (show ((cX6_init.data.toList.drop 73).take 3).map UInt8.toNat = [181, 0, 40] by decide +kernel) rfl
theorem w_212 : (Cond.fieldLink "GooseBorder$Play" (40 : Nat) "GooseBorder$Play" "gone" "[I") ∈ gb_wA := gb_t1 212 rfl rfl
theorem dX6_init_76 : decode cX6_init 76 = .ok (.return_, 1) := dc_177 (show ((cX6_init.data.toList.drop 76).take 1).map UInt8.toNat = [177] by decide +kernel)
set_option maxHeartbeats 4000000 in
set_option maxRecDepth 100000 in
theorem k_X6_init (l : Launch) (D : va_G) (cT : Nat → ClassId) (tt : Nat → Nat) (b1 b : Nat) (hb1 : b1 ≤ b) : Met l yX6_init (.code yX6_init cX6_init 1 none :: gb_wA) ({ frames := 3, cells := 10, slots := 146, locals := 55 }) (gb_Pc D cT tt b1 [.ref (b + 0)] (fun h => va_P D vwCl (gb_wl b [.inr (5, [.null, .null, .null, .null, .null, .null, .null, .null, .null, .int 0, .int 0, .int 0])]) h ∧ Array.size h = b + 1)) (gb_Qv (fun h => va_P D vwCl (gb_wl b [.inr (5, [.ref (b + 1), .ref (b + 3), .ref (b + 4), .ref (b + 5), .ref (b + 6), .ref (b + 7), .ref (b + 8), .ref (b + 9), .ref (b + 10), .int 0, .int 0, .int 0]), .inr (0, [.ref (b + 2)]), .inl (cT 0, 58, .inl (upd (fun _ => 0) 2 (-1))), .inl (cT 0, 8, .inl (fun _ => 0)), .inl (cT 0, 8, .inl (fun _ => 0)), .inl (cT 0, 8, .inl (fun _ => 0)), .inl (cT 0, 8, .inl (fun _ => 0)), .inl (cT 0, 5, .inl (fun _ => 0)), .inl (cT 0, 5, .inl (fun _ => 0)), .inl (cT 0, 5, .inl (fun _ => 0)), .inl (cT 0, 40, .inl (fun _ => 0))]) h ∧ Array.size h = b + 11) (gb_ge b)) 10 146 (gb_ge b) := by
  refine Met.ofW (cc := cX6_init) (maxL := 1) (ret := none) (by decide) rfl ?_
  intro p e s m args below meth c s₁ B hml hv
  obtain ⟨rfl, hSt, hP, hz⟩ := hv
  have hx := B.exec
  have hb := B.bytes
  have hr := B.returns
  have hts := atoms_spec (ws := .code yX6_init cX6_init 1 none :: gb_wA) B.pre
  have hq : ∀ w ∈ gb_wA, w.before _ s = true := fun w h => hts w (List.mem_cons_of_mem _ h)
  have hown : s.vm.findClass RX6 = some m.cls := findClass_of_methodNamed B.named
  have hlocks := B.notSynchronized
  have hin : meth.name = "<init>" := (name_of_methodNamed B.named B.method).1
  have hK := hSt.1
  have hS : va_S (gb_ge b) s.heap s.heap [] := va_S.rf
  have hl := lv_entry ([.ref (b + 0)]) (n := 1) (Nat.le_of_ble_eq_true rfl)
  rw [lg_entry_eq]
  generalize (lg_sl ([.ref (b + 0)]) ++ List.replicate (1 - (lg_sl ([.ref (b + 0)])).length) Slot.unset).toArray = ls at hl ⊢
  have hl : lv_has ls 1 [(0, .ref (b + 0))] := hl
  refine lv_aload_n hx hb dX6_init_0 rfl (lv_at hl 0 rfl) ?_
  refine W.objInit hx hb hown (hq _ w_194) (hq _ w_28) (hq _ w_29) rfl (by rw [hml]; exact hl.1) rfl dX6_init_1 (Nat.le_of_ble_eq_true rfl) (Nat.le_of_ble_eq_true rfl) ?_
  refine W.eq (g2 := F0 m 4 ls []) rfl ?_
  refine lv_aload_n hx hb dX6_init_4 rfl (lv_at hl 0 rfl) ?_
  refine gb_new (ci := 0) (fs := [.null]) (C := RX0) (T := TX0) (N := 1) hx hb hq i_X0 tyX0 tyX0_ok hown (hq _ w_195) (hq _ w_38) (hq _ w_4) hK hP hS 1 hz rfl rfl (fun j hj => by rcases (show j = 0 by omega) with rfl <;> rfl) (Nat.le_of_ble_eq_true rfl) (Nat.le_of_ble_eq_true rfl) dX6_init_5 (fun H hP hz hS => ?_)
  have hP : va_P D vwCl (gb_wl b [.inr (5, [.null, .null, .null, .null, .null, .null, .null, .null, .null, .int 0, .int 0, .int 0]), .inr (0, [.null])]) H := hP
  refine W.widen (k := 1) (n := 1) (Nat.le_of_ble_eq_true rfl) (Nat.le_of_ble_eq_true rfl) ?_
  refine lv_dup hx hb dX6_init_8 rfl ?_
  have hPc := gb_drop hP 1 (suf := [.inr (0, [.null])]) rfl rfl
  refine gb_callv (va_runI (As := []) (rest := [.ref (b + 1), .ref (b + 0)]) ⟨hx, hb, hml, hown, hq⟩ (k_X0_init l D cT tt b1 (b + 1) (Nat.le_trans hb1 (Nat.le_add_right b 1))) (cwI 0 hq (gb_gI w_41) rfl rfl rfl (hq _ w_4) (hq _ w_196) (hq _ w_40) rfl (by decide +kernel) ⟨Nat.le_of_ble_eq_true rfl, Nat.le_of_ble_eq_true rfl⟩) (gb_preS hSt hS (fun q h => Nat.le_trans hb1 h) (show va_P D vwCl (gb_wl (b + 1) [.inr (0, [.null])]) H ∧ Array.size H = b + 1 + 1 from ⟨hPc, hz⟩)) rfl rfl hl.1 rfl (lv_room (Nat.le_of_ble_eq_true rfl)) dX6_init_9 ⟨Nat.le_of_ble_eq_true rfl, Nat.le_of_ble_eq_true rfl⟩) hS (fun q h => Nat.le_trans (Nat.le_add_right b 1) h) (fun q h => Nat.le_trans (Nat.le_add_right b 1) h) (fun H locs hY hk hS => ?_)
  have hP := gb_glue hP 1 (pre := [.inr (5, [.null, .null, .null, .null, .null, .null, .null, .null, .null, .int 0, .int 0, .int 0])]) rfl rfl hk hY.1
  have hP : va_P D vwCl (gb_wl b [.inr (5, [.null, .null, .null, .null, .null, .null, .null, .null, .null, .int 0, .int 0, .int 0]), .inr (0, [.ref (b + 2)]), .inl (cT 0, 58, .inl (upd (fun _ => 0) 2 (-1)))]) H := hP
  have hz : Array.size H = b + 3 := hY.2
  refine W.widen (k := 2) (n := 59) (Nat.le_of_ble_eq_true rfl) (Nat.le_of_ble_eq_true rfl) ?_
  refine gb_put (ci := 5) (v := (.ref (b + 1))) (ty := .object "GooseBorder$Border") (C := RX6) (T := TX6) (N := 12) hx hb hq i_X6 tyX6 tyX6_ok nmX6 hown hK hP (fun k _ => Nat.le_add_right b k) hS hz 0 rfl rfl 0 (by decide) (hq _ w_197) (fun _ h9 => h9) rfl (by decide +kernel) rfl (by first | rfl | decide) (Nat.le_of_ble_eq_true rfl) dX6_init_12 (fun H locs hP hz hS => ?_)
  have hP : va_P D vwCl (gb_wl b [.inr (5, [.ref (b + 1), .null, .null, .null, .null, .null, .null, .null, .null, .int 0, .int 0, .int 0]), .inr (0, [.ref (b + 2)]), .inl (cT 0, 58, .inl (upd (fun _ => 0) 2 (-1)))]) H := hP
  refine lv_aload_n hx hb dX6_init_15 rfl (lv_at hl 0 rfl) ?_
  refine lv_bipush (v := 8) hx hb dX6_init_16 (by decide) ?_
  refine gb_newa (atype := .int) (a0 := (8, .inl (fun _ => 0))) hx hb (hq _ w_59) (ty := .int) rfl hK hP hS 3 hz rfl 0 rfl (fun h => h) (fun _ => rfl) (by decide) (by decide) (Nat.le_of_ble_eq_true rfl) (Nat.le_of_ble_eq_true rfl) (Nat.le_of_ble_eq_true rfl) dX6_init_18 (fun H hP hz hS => ?_)
  have hP : va_P D vwCl (gb_wl b [.inr (5, [.ref (b + 1), .null, .null, .null, .null, .null, .null, .null, .null, .int 0, .int 0, .int 0]), .inr (0, [.ref (b + 2)]), .inl (cT 0, 58, .inl (upd (fun _ => 0) 2 (-1))), .inl (cT 0, 8, .inl (fun _ => 0))]) H := hP
  refine W.widen (k := 3) (n := 67) (Nat.le_of_ble_eq_true rfl) (Nat.le_of_ble_eq_true rfl) ?_
  refine gb_putF (ci := 5) (v := (.ref (b + 3))) (ty := .array .int) (C := RX6) (T := TX6) (N := 12) hx hb hq i_X6 tyX6 tyX6_ok nmX6 hown hK hP (fun k _ => Nat.le_add_right b k) hS hz 0 rfl rfl 1 (by decide) (hq _ w_198) (fun _ h9 => h9) rfl hin rfl (by decide +kernel) rfl rfl (Nat.le_of_ble_eq_true rfl) dX6_init_20 (fun H locs hP hz hS => ?_)
  have hP : va_P D vwCl (gb_wl b [.inr (5, [.ref (b + 1), .ref (b + 3), .null, .null, .null, .null, .null, .null, .null, .int 0, .int 0, .int 0]), .inr (0, [.ref (b + 2)]), .inl (cT 0, 58, .inl (upd (fun _ => 0) 2 (-1))), .inl (cT 0, 8, .inl (fun _ => 0))]) H := hP
  refine lv_aload_n hx hb dX6_init_23 rfl (lv_at hl 0 rfl) ?_
  refine lv_bipush (v := 8) hx hb dX6_init_24 (by decide) ?_
  refine gb_newa (atype := .int) (a0 := (8, .inl (fun _ => 0))) hx hb (hq _ w_59) (ty := .int) rfl hK hP hS 4 hz rfl 0 rfl (fun h => h) (fun _ => rfl) (by decide) (by decide) (Nat.le_of_ble_eq_true rfl) (Nat.le_of_ble_eq_true rfl) (Nat.le_of_ble_eq_true rfl) dX6_init_26 (fun H hP hz hS => ?_)
  have hP : va_P D vwCl (gb_wl b [.inr (5, [.ref (b + 1), .ref (b + 3), .null, .null, .null, .null, .null, .null, .null, .int 0, .int 0, .int 0]), .inr (0, [.ref (b + 2)]), .inl (cT 0, 58, .inl (upd (fun _ => 0) 2 (-1))), .inl (cT 0, 8, .inl (fun _ => 0)), .inl (cT 0, 8, .inl (fun _ => 0))]) H := hP
  refine W.widen (k := 4) (n := 75) (Nat.le_of_ble_eq_true rfl) (Nat.le_of_ble_eq_true rfl) ?_
  refine gb_putF (ci := 5) (v := (.ref (b + 4))) (ty := .array .int) (C := RX6) (T := TX6) (N := 12) hx hb hq i_X6 tyX6 tyX6_ok nmX6 hown hK hP (fun k _ => Nat.le_add_right b k) hS hz 0 rfl rfl 2 (by decide) (hq _ w_200) (fun _ h9 => h9) rfl hin rfl (by decide +kernel) rfl rfl (Nat.le_of_ble_eq_true rfl) dX6_init_28 (fun H locs hP hz hS => ?_)
  have hP : va_P D vwCl (gb_wl b [.inr (5, [.ref (b + 1), .ref (b + 3), .ref (b + 4), .null, .null, .null, .null, .null, .null, .int 0, .int 0, .int 0]), .inr (0, [.ref (b + 2)]), .inl (cT 0, 58, .inl (upd (fun _ => 0) 2 (-1))), .inl (cT 0, 8, .inl (fun _ => 0)), .inl (cT 0, 8, .inl (fun _ => 0))]) H := hP
  refine lv_aload_n hx hb dX6_init_31 rfl (lv_at hl 0 rfl) ?_
  refine lv_bipush (v := 8) hx hb dX6_init_32 (by decide) ?_
  refine gb_newa (atype := .int) (a0 := (8, .inl (fun _ => 0))) hx hb (hq _ w_59) (ty := .int) rfl hK hP hS 5 hz rfl 0 rfl (fun h => h) (fun _ => rfl) (by decide) (by decide) (Nat.le_of_ble_eq_true rfl) (Nat.le_of_ble_eq_true rfl) (Nat.le_of_ble_eq_true rfl) dX6_init_34 (fun H hP hz hS => ?_)
  have hP : va_P D vwCl (gb_wl b [.inr (5, [.ref (b + 1), .ref (b + 3), .ref (b + 4), .null, .null, .null, .null, .null, .null, .int 0, .int 0, .int 0]), .inr (0, [.ref (b + 2)]), .inl (cT 0, 58, .inl (upd (fun _ => 0) 2 (-1))), .inl (cT 0, 8, .inl (fun _ => 0)), .inl (cT 0, 8, .inl (fun _ => 0)), .inl (cT 0, 8, .inl (fun _ => 0))]) H := hP
  refine W.widen (k := 5) (n := 83) (Nat.le_of_ble_eq_true rfl) (Nat.le_of_ble_eq_true rfl) ?_
  refine gb_putF (ci := 5) (v := (.ref (b + 5))) (ty := .array .int) (C := RX6) (T := TX6) (N := 12) hx hb hq i_X6 tyX6 tyX6_ok nmX6 hown hK hP (fun k _ => Nat.le_add_right b k) hS hz 0 rfl rfl 3 (by decide) (hq _ w_202) (fun _ h9 => h9) rfl hin rfl (by decide +kernel) rfl rfl (Nat.le_of_ble_eq_true rfl) dX6_init_36 (fun H locs hP hz hS => ?_)
  have hP : va_P D vwCl (gb_wl b [.inr (5, [.ref (b + 1), .ref (b + 3), .ref (b + 4), .ref (b + 5), .null, .null, .null, .null, .null, .int 0, .int 0, .int 0]), .inr (0, [.ref (b + 2)]), .inl (cT 0, 58, .inl (upd (fun _ => 0) 2 (-1))), .inl (cT 0, 8, .inl (fun _ => 0)), .inl (cT 0, 8, .inl (fun _ => 0)), .inl (cT 0, 8, .inl (fun _ => 0))]) H := hP
  refine lv_aload_n hx hb dX6_init_39 rfl (lv_at hl 0 rfl) ?_
  refine lv_bipush (v := 8) hx hb dX6_init_40 (by decide) ?_
  refine gb_newa (atype := .int) (a0 := (8, .inl (fun _ => 0))) hx hb (hq _ w_59) (ty := .int) rfl hK hP hS 6 hz rfl 0 rfl (fun h => h) (fun _ => rfl) (by decide) (by decide) (Nat.le_of_ble_eq_true rfl) (Nat.le_of_ble_eq_true rfl) (Nat.le_of_ble_eq_true rfl) dX6_init_42 (fun H hP hz hS => ?_)
  have hP : va_P D vwCl (gb_wl b [.inr (5, [.ref (b + 1), .ref (b + 3), .ref (b + 4), .ref (b + 5), .null, .null, .null, .null, .null, .int 0, .int 0, .int 0]), .inr (0, [.ref (b + 2)]), .inl (cT 0, 58, .inl (upd (fun _ => 0) 2 (-1))), .inl (cT 0, 8, .inl (fun _ => 0)), .inl (cT 0, 8, .inl (fun _ => 0)), .inl (cT 0, 8, .inl (fun _ => 0)), .inl (cT 0, 8, .inl (fun _ => 0))]) H := hP
  refine W.widen (k := 6) (n := 91) (Nat.le_of_ble_eq_true rfl) (Nat.le_of_ble_eq_true rfl) ?_
  refine gb_putF (ci := 5) (v := (.ref (b + 6))) (ty := .array .int) (C := RX6) (T := TX6) (N := 12) hx hb hq i_X6 tyX6 tyX6_ok nmX6 hown hK hP (fun k _ => Nat.le_add_right b k) hS hz 0 rfl rfl 4 (by decide) (hq _ w_204) (fun _ h9 => h9) rfl hin rfl (by decide +kernel) rfl rfl (Nat.le_of_ble_eq_true rfl) dX6_init_44 (fun H locs hP hz hS => ?_)
  have hP : va_P D vwCl (gb_wl b [.inr (5, [.ref (b + 1), .ref (b + 3), .ref (b + 4), .ref (b + 5), .ref (b + 6), .null, .null, .null, .null, .int 0, .int 0, .int 0]), .inr (0, [.ref (b + 2)]), .inl (cT 0, 58, .inl (upd (fun _ => 0) 2 (-1))), .inl (cT 0, 8, .inl (fun _ => 0)), .inl (cT 0, 8, .inl (fun _ => 0)), .inl (cT 0, 8, .inl (fun _ => 0)), .inl (cT 0, 8, .inl (fun _ => 0))]) H := hP
  refine lv_aload_n hx hb dX6_init_47 rfl (lv_at hl 0 rfl) ?_
  refine lv_iconst (v := 5) hx hb dX6_init_48 (by decide) ?_
  refine gb_newa (atype := .int) (a0 := (5, .inl (fun _ => 0))) hx hb (hq _ w_59) (ty := .int) rfl hK hP hS 7 hz rfl 0 rfl (fun h => h) (fun _ => rfl) (by decide) (by decide) (Nat.le_of_ble_eq_true rfl) (Nat.le_of_ble_eq_true rfl) (Nat.le_of_ble_eq_true rfl) dX6_init_49 (fun H hP hz hS => ?_)
  have hP : va_P D vwCl (gb_wl b [.inr (5, [.ref (b + 1), .ref (b + 3), .ref (b + 4), .ref (b + 5), .ref (b + 6), .null, .null, .null, .null, .int 0, .int 0, .int 0]), .inr (0, [.ref (b + 2)]), .inl (cT 0, 58, .inl (upd (fun _ => 0) 2 (-1))), .inl (cT 0, 8, .inl (fun _ => 0)), .inl (cT 0, 8, .inl (fun _ => 0)), .inl (cT 0, 8, .inl (fun _ => 0)), .inl (cT 0, 8, .inl (fun _ => 0)), .inl (cT 0, 5, .inl (fun _ => 0))]) H := hP
  refine W.widen (k := 7) (n := 96) (Nat.le_of_ble_eq_true rfl) (Nat.le_of_ble_eq_true rfl) ?_
  refine gb_putF (ci := 5) (v := (.ref (b + 7))) (ty := .array .int) (C := RX6) (T := TX6) (N := 12) hx hb hq i_X6 tyX6 tyX6_ok nmX6 hown hK hP (fun k _ => Nat.le_add_right b k) hS hz 0 rfl rfl 5 (by decide) (hq _ w_206) (fun _ h9 => h9) rfl hin rfl (by decide +kernel) rfl rfl (Nat.le_of_ble_eq_true rfl) dX6_init_51 (fun H locs hP hz hS => ?_)
  have hP : va_P D vwCl (gb_wl b [.inr (5, [.ref (b + 1), .ref (b + 3), .ref (b + 4), .ref (b + 5), .ref (b + 6), .ref (b + 7), .null, .null, .null, .int 0, .int 0, .int 0]), .inr (0, [.ref (b + 2)]), .inl (cT 0, 58, .inl (upd (fun _ => 0) 2 (-1))), .inl (cT 0, 8, .inl (fun _ => 0)), .inl (cT 0, 8, .inl (fun _ => 0)), .inl (cT 0, 8, .inl (fun _ => 0)), .inl (cT 0, 8, .inl (fun _ => 0)), .inl (cT 0, 5, .inl (fun _ => 0))]) H := hP
  refine lv_aload_n hx hb dX6_init_54 rfl (lv_at hl 0 rfl) ?_
  refine lv_iconst (v := 5) hx hb dX6_init_55 (by decide) ?_
  refine gb_newa (atype := .int) (a0 := (5, .inl (fun _ => 0))) hx hb (hq _ w_59) (ty := .int) rfl hK hP hS 8 hz rfl 0 rfl (fun h => h) (fun _ => rfl) (by decide) (by decide) (Nat.le_of_ble_eq_true rfl) (Nat.le_of_ble_eq_true rfl) (Nat.le_of_ble_eq_true rfl) dX6_init_56 (fun H hP hz hS => ?_)
  have hP : va_P D vwCl (gb_wl b [.inr (5, [.ref (b + 1), .ref (b + 3), .ref (b + 4), .ref (b + 5), .ref (b + 6), .ref (b + 7), .null, .null, .null, .int 0, .int 0, .int 0]), .inr (0, [.ref (b + 2)]), .inl (cT 0, 58, .inl (upd (fun _ => 0) 2 (-1))), .inl (cT 0, 8, .inl (fun _ => 0)), .inl (cT 0, 8, .inl (fun _ => 0)), .inl (cT 0, 8, .inl (fun _ => 0)), .inl (cT 0, 8, .inl (fun _ => 0)), .inl (cT 0, 5, .inl (fun _ => 0)), .inl (cT 0, 5, .inl (fun _ => 0))]) H := hP
  refine W.widen (k := 8) (n := 101) (Nat.le_of_ble_eq_true rfl) (Nat.le_of_ble_eq_true rfl) ?_
  refine gb_putF (ci := 5) (v := (.ref (b + 8))) (ty := .array .int) (C := RX6) (T := TX6) (N := 12) hx hb hq i_X6 tyX6 tyX6_ok nmX6 hown hK hP (fun k _ => Nat.le_add_right b k) hS hz 0 rfl rfl 6 (by decide) (hq _ w_208) (fun _ h9 => h9) rfl hin rfl (by decide +kernel) rfl rfl (Nat.le_of_ble_eq_true rfl) dX6_init_58 (fun H locs hP hz hS => ?_)
  have hP : va_P D vwCl (gb_wl b [.inr (5, [.ref (b + 1), .ref (b + 3), .ref (b + 4), .ref (b + 5), .ref (b + 6), .ref (b + 7), .ref (b + 8), .null, .null, .int 0, .int 0, .int 0]), .inr (0, [.ref (b + 2)]), .inl (cT 0, 58, .inl (upd (fun _ => 0) 2 (-1))), .inl (cT 0, 8, .inl (fun _ => 0)), .inl (cT 0, 8, .inl (fun _ => 0)), .inl (cT 0, 8, .inl (fun _ => 0)), .inl (cT 0, 8, .inl (fun _ => 0)), .inl (cT 0, 5, .inl (fun _ => 0)), .inl (cT 0, 5, .inl (fun _ => 0))]) H := hP
  refine lv_aload_n hx hb dX6_init_61 rfl (lv_at hl 0 rfl) ?_
  refine lv_iconst (v := 5) hx hb dX6_init_62 (by decide) ?_
  refine gb_newa (atype := .int) (a0 := (5, .inl (fun _ => 0))) hx hb (hq _ w_59) (ty := .int) rfl hK hP hS 9 hz rfl 0 rfl (fun h => h) (fun _ => rfl) (by decide) (by decide) (Nat.le_of_ble_eq_true rfl) (Nat.le_of_ble_eq_true rfl) (Nat.le_of_ble_eq_true rfl) dX6_init_63 (fun H hP hz hS => ?_)
  have hP : va_P D vwCl (gb_wl b [.inr (5, [.ref (b + 1), .ref (b + 3), .ref (b + 4), .ref (b + 5), .ref (b + 6), .ref (b + 7), .ref (b + 8), .null, .null, .int 0, .int 0, .int 0]), .inr (0, [.ref (b + 2)]), .inl (cT 0, 58, .inl (upd (fun _ => 0) 2 (-1))), .inl (cT 0, 8, .inl (fun _ => 0)), .inl (cT 0, 8, .inl (fun _ => 0)), .inl (cT 0, 8, .inl (fun _ => 0)), .inl (cT 0, 8, .inl (fun _ => 0)), .inl (cT 0, 5, .inl (fun _ => 0)), .inl (cT 0, 5, .inl (fun _ => 0)), .inl (cT 0, 5, .inl (fun _ => 0))]) H := hP
  refine W.widen (k := 9) (n := 106) (Nat.le_of_ble_eq_true rfl) (Nat.le_of_ble_eq_true rfl) ?_
  refine gb_putF (ci := 5) (v := (.ref (b + 9))) (ty := .array .int) (C := RX6) (T := TX6) (N := 12) hx hb hq i_X6 tyX6 tyX6_ok nmX6 hown hK hP (fun k _ => Nat.le_add_right b k) hS hz 0 rfl rfl 7 (by decide) (hq _ w_210) (fun _ h9 => h9) rfl hin rfl (by decide +kernel) rfl rfl (Nat.le_of_ble_eq_true rfl) dX6_init_65 (fun H locs hP hz hS => ?_)
  have hP : va_P D vwCl (gb_wl b [.inr (5, [.ref (b + 1), .ref (b + 3), .ref (b + 4), .ref (b + 5), .ref (b + 6), .ref (b + 7), .ref (b + 8), .ref (b + 9), .null, .int 0, .int 0, .int 0]), .inr (0, [.ref (b + 2)]), .inl (cT 0, 58, .inl (upd (fun _ => 0) 2 (-1))), .inl (cT 0, 8, .inl (fun _ => 0)), .inl (cT 0, 8, .inl (fun _ => 0)), .inl (cT 0, 8, .inl (fun _ => 0)), .inl (cT 0, 8, .inl (fun _ => 0)), .inl (cT 0, 5, .inl (fun _ => 0)), .inl (cT 0, 5, .inl (fun _ => 0)), .inl (cT 0, 5, .inl (fun _ => 0))]) H := hP
  refine lv_aload_n hx hb dX6_init_68 rfl (lv_at hl 0 rfl) ?_
  refine lv_bipush (v := 40) hx hb dX6_init_69 (by decide) ?_
  refine gb_newa (atype := .int) (a0 := (40, .inl (fun _ => 0))) hx hb (hq _ w_59) (ty := .int) rfl hK hP hS 10 hz rfl 0 rfl (fun h => h) (fun _ => rfl) (by decide) (by decide) (Nat.le_of_ble_eq_true rfl) (Nat.le_of_ble_eq_true rfl) (Nat.le_of_ble_eq_true rfl) dX6_init_71 (fun H hP hz hS => ?_)
  have hP : va_P D vwCl (gb_wl b [.inr (5, [.ref (b + 1), .ref (b + 3), .ref (b + 4), .ref (b + 5), .ref (b + 6), .ref (b + 7), .ref (b + 8), .ref (b + 9), .null, .int 0, .int 0, .int 0]), .inr (0, [.ref (b + 2)]), .inl (cT 0, 58, .inl (upd (fun _ => 0) 2 (-1))), .inl (cT 0, 8, .inl (fun _ => 0)), .inl (cT 0, 8, .inl (fun _ => 0)), .inl (cT 0, 8, .inl (fun _ => 0)), .inl (cT 0, 8, .inl (fun _ => 0)), .inl (cT 0, 5, .inl (fun _ => 0)), .inl (cT 0, 5, .inl (fun _ => 0)), .inl (cT 0, 5, .inl (fun _ => 0)), .inl (cT 0, 40, .inl (fun _ => 0))]) H := hP
  refine W.widen (k := 10) (n := 146) (Nat.le_of_ble_eq_true rfl) (Nat.le_of_ble_eq_true rfl) ?_
  refine gb_putF (ci := 5) (v := (.ref (b + 10))) (ty := .array .int) (C := RX6) (T := TX6) (N := 12) hx hb hq i_X6 tyX6 tyX6_ok nmX6 hown hK hP (fun k _ => Nat.le_add_right b k) hS hz 0 rfl rfl 8 (by decide) (hq _ w_212) (fun _ h9 => h9) rfl hin rfl (by decide +kernel) rfl rfl (Nat.le_of_ble_eq_true rfl) dX6_init_73 (fun H locs hP hz hS => ?_)
  have hP : va_P D vwCl (gb_wl b [.inr (5, [.ref (b + 1), .ref (b + 3), .ref (b + 4), .ref (b + 5), .ref (b + 6), .ref (b + 7), .ref (b + 8), .ref (b + 9), .ref (b + 10), .int 0, .int 0, .int 0]), .inr (0, [.ref (b + 2)]), .inl (cT 0, 58, .inl (upd (fun _ => 0) 2 (-1))), .inl (cT 0, 8, .inl (fun _ => 0)), .inl (cT 0, 8, .inl (fun _ => 0)), .inl (cT 0, 8, .inl (fun _ => 0)), .inl (cT 0, 8, .inl (fun _ => 0)), .inl (cT 0, 5, .inl (fun _ => 0)), .inl (cT 0, 5, .inl (fun _ => 0)), .inl (cT 0, 5, .inl (fun _ => 0)), .inl (cT 0, 40, .inl (fun _ => 0))]) H := hP
  exact W.vret hx hb hr (fun t ht hW => gb_rv ht ⟨hP, hz⟩ hS) hS.2.2 dX6_init_76
theorem dX8_init_0 : decode cX8_init 0 = .ok (.aload_n 0, 1) := dc_42 (show ((cX8_init.data.toList.drop 0).take 1).map UInt8.toNat = [42] by decide +kernel)
theorem dX8_init_1 : decode cX8_init 1 = .ok (.invokespecial 3, 3) := dc_183 (show ((cX8_init.data.toList.drop 1).take 3).map UInt8.toNat = [183, 0, 3] by decide +kernel) rfl
theorem w_248 : (Cond.methodLink "GooseBorder$Sharing" (3 : Nat) ({ cls := "java/lang/Object", name := "<init>", desc := "()V" } : MethodName)) ∈ gb_wA := gb_t2 8 rfl rfl
theorem dX8_init_4 : decode cX8_init 4 = .ok (.aload_n 0, 1) := dc_42 (show ((cX8_init.data.toList.drop 4).take 1).map UInt8.toNat = [42] by decide +kernel)
theorem dX8_init_5 : decode cX8_init 5 = .ok (.new 9, 3) := dc_187 (show ((cX8_init.data.toList.drop 5).take 3).map UInt8.toNat = [187, 0, 9] by decide +kernel) rfl
theorem w_249 : (Cond.classLink "GooseBorder$Sharing" (9 : Nat) "GooseBorder$Border") ∈ gb_wA := gb_t2 9 rfl rfl
theorem dX8_init_8 : decode cX8_init 8 = .ok (.dup, 1) := dc_89 (show ((cX8_init.data.toList.drop 8).take 1).map UInt8.toNat = [89] by decide +kernel)
theorem dX8_init_9 : decode cX8_init 9 = .ok (.invokespecial 11, 3) := dc_183 (show ((cX8_init.data.toList.drop 9).take 3).map UInt8.toNat = [183, 0, 11] by decide +kernel) rfl
theorem w_250 : (Cond.methodLink "GooseBorder$Sharing" (11 : Nat) ({ cls := "GooseBorder$Border", name := "<init>", desc := "()V" } : MethodName)) ∈ gb_wA := gb_t2 10 rfl rfl
theorem dX8_init_12 : decode cX8_init 12 = .ok (.putfield 12, 3) := dc_181 (show ((cX8_init.data.toList.drop 12).take 3).map UInt8.toNat = [181, 0, 12] by decide +kernel) rfl
theorem w_265 : (Cond.lays "GooseBorder$Sharing" "GooseBorder$Sharing" "border" "LGooseBorder$Border;") ∈ gb_wA := gb_t2 25 rfl rfl
theorem w_267 : (Cond.lays "GooseBorder$Sharing" "GooseBorder$Sharing" "law" "LGooseBorder$Law;") ∈ gb_wA := gb_t2 27 rfl rfl
theorem w_269 : (Cond.laysFinal "GooseBorder$Sharing" "GooseBorder$Sharing" "marks" "[I") ∈ gb_wA := gb_t2 29 rfl rfl
theorem w_271 : (Cond.laysFinal "GooseBorder$Sharing" "GooseBorder$Sharing" "open" "[I") ∈ gb_wA := gb_t2 31 rfl rfl
theorem w_273 : (Cond.lays "GooseBorder$Sharing" "GooseBorder$Sharing" "opened" "I") ∈ gb_wA := gb_t2 33 rfl rfl
theorem w_275 : (Cond.laysFinal "GooseBorder$Sharing" "GooseBorder$Sharing" "row" "[I") ∈ gb_wA := gb_t2 35 rfl rfl
theorem w_277 : (Cond.laysFinal "GooseBorder$Sharing" "GooseBorder$Sharing" "tallies" "[I") ∈ gb_wA := gb_t2 37 rfl rfl
theorem w_279 : (Cond.laysFinal "GooseBorder$Sharing" "GooseBorder$Sharing" "pay" "[I") ∈ gb_wA := gb_t2 39 rfl rfl
theorem w_281 : (Cond.laysFinal "GooseBorder$Sharing" "GooseBorder$Sharing" "best" "[I") ∈ gb_wA := gb_t2 41 rfl rfl
theorem w_283 : (Cond.laysFinal "GooseBorder$Sharing" "GooseBorder$Sharing" "bestPay" "[I") ∈ gb_wA := gb_t2 43 rfl rfl
theorem w_285 : (Cond.lays "GooseBorder$Sharing" "GooseBorder$Sharing" "bestValue" "I") ∈ gb_wA := gb_t2 45 rfl rfl
theorem i_X8 : ∀ w ∈ u_ws RX8 TX8 11, w ∈ gb_wA := (List.forall_mem_cons.mpr ⟨w_265, List.forall_mem_cons.mpr ⟨w_267, List.forall_mem_cons.mpr ⟨w_269, List.forall_mem_cons.mpr ⟨w_271, List.forall_mem_cons.mpr ⟨w_273, List.forall_mem_cons.mpr ⟨w_275, List.forall_mem_cons.mpr ⟨w_277, List.forall_mem_cons.mpr ⟨w_279, List.forall_mem_cons.mpr ⟨w_281, List.forall_mem_cons.mpr ⟨w_283, List.forall_mem_cons.mpr ⟨w_285, fun _ h => absurd h List.not_mem_nil⟩⟩⟩⟩⟩⟩⟩⟩⟩⟩⟩ : ∀ w ∈ ([Cond.lays "GooseBorder$Sharing" "GooseBorder$Sharing" "border" "LGooseBorder$Border;", Cond.lays "GooseBorder$Sharing" "GooseBorder$Sharing" "law" "LGooseBorder$Law;", Cond.laysFinal "GooseBorder$Sharing" "GooseBorder$Sharing" "marks" "[I", Cond.laysFinal "GooseBorder$Sharing" "GooseBorder$Sharing" "open" "[I", Cond.lays "GooseBorder$Sharing" "GooseBorder$Sharing" "opened" "I", Cond.laysFinal "GooseBorder$Sharing" "GooseBorder$Sharing" "row" "[I", Cond.laysFinal "GooseBorder$Sharing" "GooseBorder$Sharing" "tallies" "[I", Cond.laysFinal "GooseBorder$Sharing" "GooseBorder$Sharing" "pay" "[I", Cond.laysFinal "GooseBorder$Sharing" "GooseBorder$Sharing" "best" "[I", Cond.laysFinal "GooseBorder$Sharing" "GooseBorder$Sharing" "bestPay" "[I", Cond.lays "GooseBorder$Sharing" "GooseBorder$Sharing" "bestValue" "I"] : List Cond), w ∈ gb_wA)
theorem w_251 : (Cond.fieldLink "GooseBorder$Sharing" (12 : Nat) "GooseBorder$Sharing" "border" "LGooseBorder$Border;") ∈ gb_wA := gb_t2 11 rfl rfl
theorem dX8_init_15 : decode cX8_init 15 = .ok (.aload_n 0, 1) := dc_42 (show ((cX8_init.data.toList.drop 15).take 1).map UInt8.toNat = [42] by decide +kernel)
theorem dX8_init_16 : decode cX8_init 16 = .ok (.bipush 40, 2) := dc_16 (show ((cX8_init.data.toList.drop 16).take 2).map UInt8.toNat = [16, 40] by decide +kernel) rfl
theorem dX8_init_18 : decode cX8_init 18 = .ok (.newarray .int, 2) := dc_188_10 (show ((cX8_init.data.toList.drop 18).take 2).map UInt8.toNat = [188, 10] by decide +kernel)
theorem dX8_init_20 : decode cX8_init 20 = .ok (.putfield 18, 3) := dc_181 (show ((cX8_init.data.toList.drop 20).take 3).map UInt8.toNat = [181, 0, 18] by decide +kernel) rfl
theorem w_253 : (Cond.fieldLink "GooseBorder$Sharing" (18 : Nat) "GooseBorder$Sharing" "marks" "[I") ∈ gb_wA := gb_t2 13 rfl rfl
theorem dX8_init_23 : decode cX8_init 23 = .ok (.aload_n 0, 1) := dc_42 (show ((cX8_init.data.toList.drop 23).take 1).map UInt8.toNat = [42] by decide +kernel)
theorem dX8_init_24 : decode cX8_init 24 = .ok (.iconst 5, 1) := dc_8 (show ((cX8_init.data.toList.drop 24).take 1).map UInt8.toNat = [8] by decide +kernel)
theorem dX8_init_25 : decode cX8_init 25 = .ok (.newarray .int, 2) := dc_188_10 (show ((cX8_init.data.toList.drop 25).take 2).map UInt8.toNat = [188, 10] by decide +kernel)
theorem dX8_init_27 : decode cX8_init 27 = .ok (.putfield 22, 3) := dc_181 (show ((cX8_init.data.toList.drop 27).take 3).map UInt8.toNat = [181, 0, 22] by decide +kernel) rfl
theorem w_254 : (Cond.fieldLink "GooseBorder$Sharing" (22 : Nat) "GooseBorder$Sharing" "open" "[I") ∈ gb_wA := gb_t2 14 rfl rfl
theorem dX8_init_30 : decode cX8_init 30 = .ok (.aload_n 0, 1) := dc_42 (show ((cX8_init.data.toList.drop 30).take 1).map UInt8.toNat = [42] by decide +kernel)
theorem dX8_init_31 : decode cX8_init 31 = .ok (.bipush 8, 2) := dc_16 (show ((cX8_init.data.toList.drop 31).take 2).map UInt8.toNat = [16, 8] by decide +kernel) rfl
theorem dX8_init_33 : decode cX8_init 33 = .ok (.newarray .int, 2) := dc_188_10 (show ((cX8_init.data.toList.drop 33).take 2).map UInt8.toNat = [188, 10] by decide +kernel)
theorem dX8_init_35 : decode cX8_init 35 = .ok (.putfield 25, 3) := dc_181 (show ((cX8_init.data.toList.drop 35).take 3).map UInt8.toNat = [181, 0, 25] by decide +kernel) rfl
theorem w_256 : (Cond.fieldLink "GooseBorder$Sharing" (25 : Nat) "GooseBorder$Sharing" "row" "[I") ∈ gb_wA := gb_t2 16 rfl rfl
theorem dX8_init_38 : decode cX8_init 38 = .ok (.aload_n 0, 1) := dc_42 (show ((cX8_init.data.toList.drop 38).take 1).map UInt8.toNat = [42] by decide +kernel)
theorem dX8_init_39 : decode cX8_init 39 = .ok (.iconst 5, 1) := dc_8 (show ((cX8_init.data.toList.drop 39).take 1).map UInt8.toNat = [8] by decide +kernel)
theorem dX8_init_40 : decode cX8_init 40 = .ok (.newarray .int, 2) := dc_188_10 (show ((cX8_init.data.toList.drop 40).take 2).map UInt8.toNat = [188, 10] by decide +kernel)
theorem dX8_init_42 : decode cX8_init 42 = .ok (.putfield 28, 3) := dc_181 (show ((cX8_init.data.toList.drop 42).take 3).map UInt8.toNat = [181, 0, 28] by decide +kernel) rfl
theorem w_257 : (Cond.fieldLink "GooseBorder$Sharing" (28 : Nat) "GooseBorder$Sharing" "tallies" "[I") ∈ gb_wA := gb_t2 17 rfl rfl
theorem dX8_init_45 : decode cX8_init 45 = .ok (.aload_n 0, 1) := dc_42 (show ((cX8_init.data.toList.drop 45).take 1).map UInt8.toNat = [42] by decide +kernel)
theorem dX8_init_46 : decode cX8_init 46 = .ok (.iconst 5, 1) := dc_8 (show ((cX8_init.data.toList.drop 46).take 1).map UInt8.toNat = [8] by decide +kernel)
theorem dX8_init_47 : decode cX8_init 47 = .ok (.newarray .int, 2) := dc_188_10 (show ((cX8_init.data.toList.drop 47).take 2).map UInt8.toNat = [188, 10] by decide +kernel)
theorem dX8_init_49 : decode cX8_init 49 = .ok (.putfield 31, 3) := dc_181 (show ((cX8_init.data.toList.drop 49).take 3).map UInt8.toNat = [181, 0, 31] by decide +kernel) rfl
theorem w_258 : (Cond.fieldLink "GooseBorder$Sharing" (31 : Nat) "GooseBorder$Sharing" "pay" "[I") ∈ gb_wA := gb_t2 18 rfl rfl
theorem dX8_init_52 : decode cX8_init 52 = .ok (.aload_n 0, 1) := dc_42 (show ((cX8_init.data.toList.drop 52).take 1).map UInt8.toNat = [42] by decide +kernel)
theorem dX8_init_53 : decode cX8_init 53 = .ok (.bipush 8, 2) := dc_16 (show ((cX8_init.data.toList.drop 53).take 2).map UInt8.toNat = [16, 8] by decide +kernel) rfl
theorem dX8_init_55 : decode cX8_init 55 = .ok (.newarray .int, 2) := dc_188_10 (show ((cX8_init.data.toList.drop 55).take 2).map UInt8.toNat = [188, 10] by decide +kernel)
theorem dX8_init_57 : decode cX8_init 57 = .ok (.putfield 34, 3) := dc_181 (show ((cX8_init.data.toList.drop 57).take 3).map UInt8.toNat = [181, 0, 34] by decide +kernel) rfl
theorem w_259 : (Cond.fieldLink "GooseBorder$Sharing" (34 : Nat) "GooseBorder$Sharing" "best" "[I") ∈ gb_wA := gb_t2 19 rfl rfl
theorem dX8_init_60 : decode cX8_init 60 = .ok (.aload_n 0, 1) := dc_42 (show ((cX8_init.data.toList.drop 60).take 1).map UInt8.toNat = [42] by decide +kernel)
theorem dX8_init_61 : decode cX8_init 61 = .ok (.iconst 5, 1) := dc_8 (show ((cX8_init.data.toList.drop 61).take 1).map UInt8.toNat = [8] by decide +kernel)
theorem dX8_init_62 : decode cX8_init 62 = .ok (.newarray .int, 2) := dc_188_10 (show ((cX8_init.data.toList.drop 62).take 2).map UInt8.toNat = [188, 10] by decide +kernel)
theorem dX8_init_64 : decode cX8_init 64 = .ok (.putfield 37, 3) := dc_181 (show ((cX8_init.data.toList.drop 64).take 3).map UInt8.toNat = [181, 0, 37] by decide +kernel) rfl
theorem w_261 : (Cond.fieldLink "GooseBorder$Sharing" (37 : Nat) "GooseBorder$Sharing" "bestPay" "[I") ∈ gb_wA := gb_t2 21 rfl rfl
theorem dX8_init_67 : decode cX8_init 67 = .ok (.return_, 1) := dc_177 (show ((cX8_init.data.toList.drop 67).take 1).map UInt8.toNat = [177] by decide +kernel)
set_option maxHeartbeats 4000000 in
set_option maxRecDepth 100000 in
theorem k_X8_init (l : Launch) (D : va_G) (cT : Nat → ClassId) (tt : Nat → Nat) (b1 b : Nat) (hb1 : b1 ≤ b) : Met l yX8_init (.code yX8_init cX8_init 1 none :: gb_wA) ({ frames := 3, cells := 9, slots := 135, locals := 55 }) (gb_Pc D cT tt b1 [.ref (b + 0)] (fun h => va_P D vwCl (gb_wl b [.inr (7, [.null, .null, .null, .null, .int 0, .null, .null, .null, .null, .null, .int 0])]) h ∧ Array.size h = b + 1)) (gb_Qv (fun h => va_P D vwCl (gb_wl b [.inr (7, [.ref (b + 1), .null, .ref (b + 3), .ref (b + 4), .int 0, .ref (b + 5), .ref (b + 6), .ref (b + 7), .ref (b + 8), .ref (b + 9), .int 0]), .inr (0, [.ref (b + 2)]), .inl (cT 0, 58, .inl (upd (fun _ => 0) 2 (-1))), .inl (cT 0, 40, .inl (fun _ => 0)), .inl (cT 0, 5, .inl (fun _ => 0)), .inl (cT 0, 8, .inl (fun _ => 0)), .inl (cT 0, 5, .inl (fun _ => 0)), .inl (cT 0, 5, .inl (fun _ => 0)), .inl (cT 0, 8, .inl (fun _ => 0)), .inl (cT 0, 5, .inl (fun _ => 0))]) h ∧ Array.size h = b + 10) (gb_ge b)) 9 135 (gb_ge b) := by
  refine Met.ofW (cc := cX8_init) (maxL := 1) (ret := none) (by decide) rfl ?_
  intro p e s m args below meth c s₁ B hml hv
  obtain ⟨rfl, hSt, hP, hz⟩ := hv
  have hx := B.exec
  have hb := B.bytes
  have hr := B.returns
  have hts := atoms_spec (ws := .code yX8_init cX8_init 1 none :: gb_wA) B.pre
  have hq : ∀ w ∈ gb_wA, w.before _ s = true := fun w h => hts w (List.mem_cons_of_mem _ h)
  have hown : s.vm.findClass RX8 = some m.cls := findClass_of_methodNamed B.named
  have hlocks := B.notSynchronized
  have hin : meth.name = "<init>" := (name_of_methodNamed B.named B.method).1
  have hK := hSt.1
  have hS : va_S (gb_ge b) s.heap s.heap [] := va_S.rf
  have hl := lv_entry ([.ref (b + 0)]) (n := 1) (Nat.le_of_ble_eq_true rfl)
  rw [lg_entry_eq]
  generalize (lg_sl ([.ref (b + 0)]) ++ List.replicate (1 - (lg_sl ([.ref (b + 0)])).length) Slot.unset).toArray = ls at hl ⊢
  have hl : lv_has ls 1 [(0, .ref (b + 0))] := hl
  refine lv_aload_n hx hb dX8_init_0 rfl (lv_at hl 0 rfl) ?_
  refine W.objInit hx hb hown (hq _ w_248) (hq _ w_28) (hq _ w_29) rfl (by rw [hml]; exact hl.1) rfl dX8_init_1 (Nat.le_of_ble_eq_true rfl) (Nat.le_of_ble_eq_true rfl) ?_
  refine W.eq (g2 := F0 m 4 ls []) rfl ?_
  refine lv_aload_n hx hb dX8_init_4 rfl (lv_at hl 0 rfl) ?_
  refine gb_new (ci := 0) (fs := [.null]) (C := RX0) (T := TX0) (N := 1) hx hb hq i_X0 tyX0 tyX0_ok hown (hq _ w_249) (hq _ w_38) (hq _ w_4) hK hP hS 1 hz rfl rfl (fun j hj => by rcases (show j = 0 by omega) with rfl <;> rfl) (Nat.le_of_ble_eq_true rfl) (Nat.le_of_ble_eq_true rfl) dX8_init_5 (fun H hP hz hS => ?_)
  have hP : va_P D vwCl (gb_wl b [.inr (7, [.null, .null, .null, .null, .int 0, .null, .null, .null, .null, .null, .int 0]), .inr (0, [.null])]) H := hP
  refine W.widen (k := 1) (n := 1) (Nat.le_of_ble_eq_true rfl) (Nat.le_of_ble_eq_true rfl) ?_
  refine lv_dup hx hb dX8_init_8 rfl ?_
  have hPc := gb_drop hP 1 (suf := [.inr (0, [.null])]) rfl rfl
  refine gb_callv (va_runI (As := []) (rest := [.ref (b + 1), .ref (b + 0)]) ⟨hx, hb, hml, hown, hq⟩ (k_X0_init l D cT tt b1 (b + 1) (Nat.le_trans hb1 (Nat.le_add_right b 1))) (cwI 0 hq (gb_gI w_41) rfl rfl rfl (hq _ w_4) (hq _ w_250) (hq _ w_40) rfl (by decide +kernel) ⟨Nat.le_of_ble_eq_true rfl, Nat.le_of_ble_eq_true rfl⟩) (gb_preS hSt hS (fun q h => Nat.le_trans hb1 h) (show va_P D vwCl (gb_wl (b + 1) [.inr (0, [.null])]) H ∧ Array.size H = b + 1 + 1 from ⟨hPc, hz⟩)) rfl rfl hl.1 rfl (lv_room (Nat.le_of_ble_eq_true rfl)) dX8_init_9 ⟨Nat.le_of_ble_eq_true rfl, Nat.le_of_ble_eq_true rfl⟩) hS (fun q h => Nat.le_trans (Nat.le_add_right b 1) h) (fun q h => Nat.le_trans (Nat.le_add_right b 1) h) (fun H locs hY hk hS => ?_)
  have hP := gb_glue hP 1 (pre := [.inr (7, [.null, .null, .null, .null, .int 0, .null, .null, .null, .null, .null, .int 0])]) rfl rfl hk hY.1
  have hP : va_P D vwCl (gb_wl b [.inr (7, [.null, .null, .null, .null, .int 0, .null, .null, .null, .null, .null, .int 0]), .inr (0, [.ref (b + 2)]), .inl (cT 0, 58, .inl (upd (fun _ => 0) 2 (-1)))]) H := hP
  have hz : Array.size H = b + 3 := hY.2
  refine W.widen (k := 2) (n := 59) (Nat.le_of_ble_eq_true rfl) (Nat.le_of_ble_eq_true rfl) ?_
  refine gb_put (ci := 7) (v := (.ref (b + 1))) (ty := .object "GooseBorder$Border") (C := RX8) (T := TX8) (N := 11) hx hb hq i_X8 tyX8 tyX8_ok nmX8 hown hK hP (fun k _ => Nat.le_add_right b k) hS hz 0 rfl rfl 0 (by decide) (hq _ w_251) (fun _ h9 => h9) rfl (by decide +kernel) rfl (by first | rfl | decide) (Nat.le_of_ble_eq_true rfl) dX8_init_12 (fun H locs hP hz hS => ?_)
  have hP : va_P D vwCl (gb_wl b [.inr (7, [.ref (b + 1), .null, .null, .null, .int 0, .null, .null, .null, .null, .null, .int 0]), .inr (0, [.ref (b + 2)]), .inl (cT 0, 58, .inl (upd (fun _ => 0) 2 (-1)))]) H := hP
  refine lv_aload_n hx hb dX8_init_15 rfl (lv_at hl 0 rfl) ?_
  refine lv_bipush (v := 40) hx hb dX8_init_16 (by decide) ?_
  refine gb_newa (atype := .int) (a0 := (40, .inl (fun _ => 0))) hx hb (hq _ w_59) (ty := .int) rfl hK hP hS 3 hz rfl 0 rfl (fun h => h) (fun _ => rfl) (by decide) (by decide) (Nat.le_of_ble_eq_true rfl) (Nat.le_of_ble_eq_true rfl) (Nat.le_of_ble_eq_true rfl) dX8_init_18 (fun H hP hz hS => ?_)
  have hP : va_P D vwCl (gb_wl b [.inr (7, [.ref (b + 1), .null, .null, .null, .int 0, .null, .null, .null, .null, .null, .int 0]), .inr (0, [.ref (b + 2)]), .inl (cT 0, 58, .inl (upd (fun _ => 0) 2 (-1))), .inl (cT 0, 40, .inl (fun _ => 0))]) H := hP
  refine W.widen (k := 3) (n := 99) (Nat.le_of_ble_eq_true rfl) (Nat.le_of_ble_eq_true rfl) ?_
  refine gb_putF (ci := 7) (v := (.ref (b + 3))) (ty := .array .int) (C := RX8) (T := TX8) (N := 11) hx hb hq i_X8 tyX8 tyX8_ok nmX8 hown hK hP (fun k _ => Nat.le_add_right b k) hS hz 0 rfl rfl 2 (by decide) (hq _ w_253) (fun _ h9 => h9) rfl hin rfl (by decide +kernel) rfl rfl (Nat.le_of_ble_eq_true rfl) dX8_init_20 (fun H locs hP hz hS => ?_)
  have hP : va_P D vwCl (gb_wl b [.inr (7, [.ref (b + 1), .null, .ref (b + 3), .null, .int 0, .null, .null, .null, .null, .null, .int 0]), .inr (0, [.ref (b + 2)]), .inl (cT 0, 58, .inl (upd (fun _ => 0) 2 (-1))), .inl (cT 0, 40, .inl (fun _ => 0))]) H := hP
  refine lv_aload_n hx hb dX8_init_23 rfl (lv_at hl 0 rfl) ?_
  refine lv_iconst (v := 5) hx hb dX8_init_24 (by decide) ?_
  refine gb_newa (atype := .int) (a0 := (5, .inl (fun _ => 0))) hx hb (hq _ w_59) (ty := .int) rfl hK hP hS 4 hz rfl 0 rfl (fun h => h) (fun _ => rfl) (by decide) (by decide) (Nat.le_of_ble_eq_true rfl) (Nat.le_of_ble_eq_true rfl) (Nat.le_of_ble_eq_true rfl) dX8_init_25 (fun H hP hz hS => ?_)
  have hP : va_P D vwCl (gb_wl b [.inr (7, [.ref (b + 1), .null, .ref (b + 3), .null, .int 0, .null, .null, .null, .null, .null, .int 0]), .inr (0, [.ref (b + 2)]), .inl (cT 0, 58, .inl (upd (fun _ => 0) 2 (-1))), .inl (cT 0, 40, .inl (fun _ => 0)), .inl (cT 0, 5, .inl (fun _ => 0))]) H := hP
  refine W.widen (k := 4) (n := 104) (Nat.le_of_ble_eq_true rfl) (Nat.le_of_ble_eq_true rfl) ?_
  refine gb_putF (ci := 7) (v := (.ref (b + 4))) (ty := .array .int) (C := RX8) (T := TX8) (N := 11) hx hb hq i_X8 tyX8 tyX8_ok nmX8 hown hK hP (fun k _ => Nat.le_add_right b k) hS hz 0 rfl rfl 3 (by decide) (hq _ w_254) (fun _ h9 => h9) rfl hin rfl (by decide +kernel) rfl rfl (Nat.le_of_ble_eq_true rfl) dX8_init_27 (fun H locs hP hz hS => ?_)
  have hP : va_P D vwCl (gb_wl b [.inr (7, [.ref (b + 1), .null, .ref (b + 3), .ref (b + 4), .int 0, .null, .null, .null, .null, .null, .int 0]), .inr (0, [.ref (b + 2)]), .inl (cT 0, 58, .inl (upd (fun _ => 0) 2 (-1))), .inl (cT 0, 40, .inl (fun _ => 0)), .inl (cT 0, 5, .inl (fun _ => 0))]) H := hP
  refine lv_aload_n hx hb dX8_init_30 rfl (lv_at hl 0 rfl) ?_
  refine lv_bipush (v := 8) hx hb dX8_init_31 (by decide) ?_
  refine gb_newa (atype := .int) (a0 := (8, .inl (fun _ => 0))) hx hb (hq _ w_59) (ty := .int) rfl hK hP hS 5 hz rfl 0 rfl (fun h => h) (fun _ => rfl) (by decide) (by decide) (Nat.le_of_ble_eq_true rfl) (Nat.le_of_ble_eq_true rfl) (Nat.le_of_ble_eq_true rfl) dX8_init_33 (fun H hP hz hS => ?_)
  have hP : va_P D vwCl (gb_wl b [.inr (7, [.ref (b + 1), .null, .ref (b + 3), .ref (b + 4), .int 0, .null, .null, .null, .null, .null, .int 0]), .inr (0, [.ref (b + 2)]), .inl (cT 0, 58, .inl (upd (fun _ => 0) 2 (-1))), .inl (cT 0, 40, .inl (fun _ => 0)), .inl (cT 0, 5, .inl (fun _ => 0)), .inl (cT 0, 8, .inl (fun _ => 0))]) H := hP
  refine W.widen (k := 5) (n := 112) (Nat.le_of_ble_eq_true rfl) (Nat.le_of_ble_eq_true rfl) ?_
  refine gb_putF (ci := 7) (v := (.ref (b + 5))) (ty := .array .int) (C := RX8) (T := TX8) (N := 11) hx hb hq i_X8 tyX8 tyX8_ok nmX8 hown hK hP (fun k _ => Nat.le_add_right b k) hS hz 0 rfl rfl 5 (by decide) (hq _ w_256) (fun _ h9 => h9) rfl hin rfl (by decide +kernel) rfl rfl (Nat.le_of_ble_eq_true rfl) dX8_init_35 (fun H locs hP hz hS => ?_)
  have hP : va_P D vwCl (gb_wl b [.inr (7, [.ref (b + 1), .null, .ref (b + 3), .ref (b + 4), .int 0, .ref (b + 5), .null, .null, .null, .null, .int 0]), .inr (0, [.ref (b + 2)]), .inl (cT 0, 58, .inl (upd (fun _ => 0) 2 (-1))), .inl (cT 0, 40, .inl (fun _ => 0)), .inl (cT 0, 5, .inl (fun _ => 0)), .inl (cT 0, 8, .inl (fun _ => 0))]) H := hP
  refine lv_aload_n hx hb dX8_init_38 rfl (lv_at hl 0 rfl) ?_
  refine lv_iconst (v := 5) hx hb dX8_init_39 (by decide) ?_
  refine gb_newa (atype := .int) (a0 := (5, .inl (fun _ => 0))) hx hb (hq _ w_59) (ty := .int) rfl hK hP hS 6 hz rfl 0 rfl (fun h => h) (fun _ => rfl) (by decide) (by decide) (Nat.le_of_ble_eq_true rfl) (Nat.le_of_ble_eq_true rfl) (Nat.le_of_ble_eq_true rfl) dX8_init_40 (fun H hP hz hS => ?_)
  have hP : va_P D vwCl (gb_wl b [.inr (7, [.ref (b + 1), .null, .ref (b + 3), .ref (b + 4), .int 0, .ref (b + 5), .null, .null, .null, .null, .int 0]), .inr (0, [.ref (b + 2)]), .inl (cT 0, 58, .inl (upd (fun _ => 0) 2 (-1))), .inl (cT 0, 40, .inl (fun _ => 0)), .inl (cT 0, 5, .inl (fun _ => 0)), .inl (cT 0, 8, .inl (fun _ => 0)), .inl (cT 0, 5, .inl (fun _ => 0))]) H := hP
  refine W.widen (k := 6) (n := 117) (Nat.le_of_ble_eq_true rfl) (Nat.le_of_ble_eq_true rfl) ?_
  refine gb_putF (ci := 7) (v := (.ref (b + 6))) (ty := .array .int) (C := RX8) (T := TX8) (N := 11) hx hb hq i_X8 tyX8 tyX8_ok nmX8 hown hK hP (fun k _ => Nat.le_add_right b k) hS hz 0 rfl rfl 6 (by decide) (hq _ w_257) (fun _ h9 => h9) rfl hin rfl (by decide +kernel) rfl rfl (Nat.le_of_ble_eq_true rfl) dX8_init_42 (fun H locs hP hz hS => ?_)
  have hP : va_P D vwCl (gb_wl b [.inr (7, [.ref (b + 1), .null, .ref (b + 3), .ref (b + 4), .int 0, .ref (b + 5), .ref (b + 6), .null, .null, .null, .int 0]), .inr (0, [.ref (b + 2)]), .inl (cT 0, 58, .inl (upd (fun _ => 0) 2 (-1))), .inl (cT 0, 40, .inl (fun _ => 0)), .inl (cT 0, 5, .inl (fun _ => 0)), .inl (cT 0, 8, .inl (fun _ => 0)), .inl (cT 0, 5, .inl (fun _ => 0))]) H := hP
  refine lv_aload_n hx hb dX8_init_45 rfl (lv_at hl 0 rfl) ?_
  refine lv_iconst (v := 5) hx hb dX8_init_46 (by decide) ?_
  refine gb_newa (atype := .int) (a0 := (5, .inl (fun _ => 0))) hx hb (hq _ w_59) (ty := .int) rfl hK hP hS 7 hz rfl 0 rfl (fun h => h) (fun _ => rfl) (by decide) (by decide) (Nat.le_of_ble_eq_true rfl) (Nat.le_of_ble_eq_true rfl) (Nat.le_of_ble_eq_true rfl) dX8_init_47 (fun H hP hz hS => ?_)
  have hP : va_P D vwCl (gb_wl b [.inr (7, [.ref (b + 1), .null, .ref (b + 3), .ref (b + 4), .int 0, .ref (b + 5), .ref (b + 6), .null, .null, .null, .int 0]), .inr (0, [.ref (b + 2)]), .inl (cT 0, 58, .inl (upd (fun _ => 0) 2 (-1))), .inl (cT 0, 40, .inl (fun _ => 0)), .inl (cT 0, 5, .inl (fun _ => 0)), .inl (cT 0, 8, .inl (fun _ => 0)), .inl (cT 0, 5, .inl (fun _ => 0)), .inl (cT 0, 5, .inl (fun _ => 0))]) H := hP
  refine W.widen (k := 7) (n := 122) (Nat.le_of_ble_eq_true rfl) (Nat.le_of_ble_eq_true rfl) ?_
  refine gb_putF (ci := 7) (v := (.ref (b + 7))) (ty := .array .int) (C := RX8) (T := TX8) (N := 11) hx hb hq i_X8 tyX8 tyX8_ok nmX8 hown hK hP (fun k _ => Nat.le_add_right b k) hS hz 0 rfl rfl 7 (by decide) (hq _ w_258) (fun _ h9 => h9) rfl hin rfl (by decide +kernel) rfl rfl (Nat.le_of_ble_eq_true rfl) dX8_init_49 (fun H locs hP hz hS => ?_)
  have hP : va_P D vwCl (gb_wl b [.inr (7, [.ref (b + 1), .null, .ref (b + 3), .ref (b + 4), .int 0, .ref (b + 5), .ref (b + 6), .ref (b + 7), .null, .null, .int 0]), .inr (0, [.ref (b + 2)]), .inl (cT 0, 58, .inl (upd (fun _ => 0) 2 (-1))), .inl (cT 0, 40, .inl (fun _ => 0)), .inl (cT 0, 5, .inl (fun _ => 0)), .inl (cT 0, 8, .inl (fun _ => 0)), .inl (cT 0, 5, .inl (fun _ => 0)), .inl (cT 0, 5, .inl (fun _ => 0))]) H := hP
  refine lv_aload_n hx hb dX8_init_52 rfl (lv_at hl 0 rfl) ?_
  refine lv_bipush (v := 8) hx hb dX8_init_53 (by decide) ?_
  refine gb_newa (atype := .int) (a0 := (8, .inl (fun _ => 0))) hx hb (hq _ w_59) (ty := .int) rfl hK hP hS 8 hz rfl 0 rfl (fun h => h) (fun _ => rfl) (by decide) (by decide) (Nat.le_of_ble_eq_true rfl) (Nat.le_of_ble_eq_true rfl) (Nat.le_of_ble_eq_true rfl) dX8_init_55 (fun H hP hz hS => ?_)
  have hP : va_P D vwCl (gb_wl b [.inr (7, [.ref (b + 1), .null, .ref (b + 3), .ref (b + 4), .int 0, .ref (b + 5), .ref (b + 6), .ref (b + 7), .null, .null, .int 0]), .inr (0, [.ref (b + 2)]), .inl (cT 0, 58, .inl (upd (fun _ => 0) 2 (-1))), .inl (cT 0, 40, .inl (fun _ => 0)), .inl (cT 0, 5, .inl (fun _ => 0)), .inl (cT 0, 8, .inl (fun _ => 0)), .inl (cT 0, 5, .inl (fun _ => 0)), .inl (cT 0, 5, .inl (fun _ => 0)), .inl (cT 0, 8, .inl (fun _ => 0))]) H := hP
  refine W.widen (k := 8) (n := 130) (Nat.le_of_ble_eq_true rfl) (Nat.le_of_ble_eq_true rfl) ?_
  refine gb_putF (ci := 7) (v := (.ref (b + 8))) (ty := .array .int) (C := RX8) (T := TX8) (N := 11) hx hb hq i_X8 tyX8 tyX8_ok nmX8 hown hK hP (fun k _ => Nat.le_add_right b k) hS hz 0 rfl rfl 8 (by decide) (hq _ w_259) (fun _ h9 => h9) rfl hin rfl (by decide +kernel) rfl rfl (Nat.le_of_ble_eq_true rfl) dX8_init_57 (fun H locs hP hz hS => ?_)
  have hP : va_P D vwCl (gb_wl b [.inr (7, [.ref (b + 1), .null, .ref (b + 3), .ref (b + 4), .int 0, .ref (b + 5), .ref (b + 6), .ref (b + 7), .ref (b + 8), .null, .int 0]), .inr (0, [.ref (b + 2)]), .inl (cT 0, 58, .inl (upd (fun _ => 0) 2 (-1))), .inl (cT 0, 40, .inl (fun _ => 0)), .inl (cT 0, 5, .inl (fun _ => 0)), .inl (cT 0, 8, .inl (fun _ => 0)), .inl (cT 0, 5, .inl (fun _ => 0)), .inl (cT 0, 5, .inl (fun _ => 0)), .inl (cT 0, 8, .inl (fun _ => 0))]) H := hP
  refine lv_aload_n hx hb dX8_init_60 rfl (lv_at hl 0 rfl) ?_
  refine lv_iconst (v := 5) hx hb dX8_init_61 (by decide) ?_
  refine gb_newa (atype := .int) (a0 := (5, .inl (fun _ => 0))) hx hb (hq _ w_59) (ty := .int) rfl hK hP hS 9 hz rfl 0 rfl (fun h => h) (fun _ => rfl) (by decide) (by decide) (Nat.le_of_ble_eq_true rfl) (Nat.le_of_ble_eq_true rfl) (Nat.le_of_ble_eq_true rfl) dX8_init_62 (fun H hP hz hS => ?_)
  have hP : va_P D vwCl (gb_wl b [.inr (7, [.ref (b + 1), .null, .ref (b + 3), .ref (b + 4), .int 0, .ref (b + 5), .ref (b + 6), .ref (b + 7), .ref (b + 8), .null, .int 0]), .inr (0, [.ref (b + 2)]), .inl (cT 0, 58, .inl (upd (fun _ => 0) 2 (-1))), .inl (cT 0, 40, .inl (fun _ => 0)), .inl (cT 0, 5, .inl (fun _ => 0)), .inl (cT 0, 8, .inl (fun _ => 0)), .inl (cT 0, 5, .inl (fun _ => 0)), .inl (cT 0, 5, .inl (fun _ => 0)), .inl (cT 0, 8, .inl (fun _ => 0)), .inl (cT 0, 5, .inl (fun _ => 0))]) H := hP
  refine W.widen (k := 9) (n := 135) (Nat.le_of_ble_eq_true rfl) (Nat.le_of_ble_eq_true rfl) ?_
  refine gb_putF (ci := 7) (v := (.ref (b + 9))) (ty := .array .int) (C := RX8) (T := TX8) (N := 11) hx hb hq i_X8 tyX8 tyX8_ok nmX8 hown hK hP (fun k _ => Nat.le_add_right b k) hS hz 0 rfl rfl 9 (by decide) (hq _ w_261) (fun _ h9 => h9) rfl hin rfl (by decide +kernel) rfl rfl (Nat.le_of_ble_eq_true rfl) dX8_init_64 (fun H locs hP hz hS => ?_)
  have hP : va_P D vwCl (gb_wl b [.inr (7, [.ref (b + 1), .null, .ref (b + 3), .ref (b + 4), .int 0, .ref (b + 5), .ref (b + 6), .ref (b + 7), .ref (b + 8), .ref (b + 9), .int 0]), .inr (0, [.ref (b + 2)]), .inl (cT 0, 58, .inl (upd (fun _ => 0) 2 (-1))), .inl (cT 0, 40, .inl (fun _ => 0)), .inl (cT 0, 5, .inl (fun _ => 0)), .inl (cT 0, 8, .inl (fun _ => 0)), .inl (cT 0, 5, .inl (fun _ => 0)), .inl (cT 0, 5, .inl (fun _ => 0)), .inl (cT 0, 8, .inl (fun _ => 0)), .inl (cT 0, 5, .inl (fun _ => 0))]) H := hP
  exact W.vret hx hb hr (fun t ht hW => gb_rv ht ⟨hP, hz⟩ hS) hS.2.2 dX8_init_67
theorem dX2_init_0 : decode cX2_init 0 = .ok (.aload_n 0, 1) := dc_42 (show ((cX2_init.data.toList.drop 0).take 1).map UInt8.toNat = [42] by decide +kernel)
theorem dX2_init_1 : decode cX2_init 1 = .ok (.invokespecial 3, 3) := dc_183 (show ((cX2_init.data.toList.drop 1).take 3).map UInt8.toNat = [183, 0, 3] by decide +kernel) rfl
theorem w_293 : (Cond.methodLink "GooseBorder$Flocks" (3 : Nat) ({ cls := "java/lang/Object", name := "<init>", desc := "()V" } : MethodName)) ∈ gb_wA := gb_t2 53 rfl rfl
theorem dX2_init_4 : decode cX2_init 4 = .ok (.aload_n 0, 1) := dc_42 (show ((cX2_init.data.toList.drop 4).take 1).map UInt8.toNat = [42] by decide +kernel)
theorem dX2_init_5 : decode cX2_init 5 = .ok (.sipush 256, 3) := dc_17 (show ((cX2_init.data.toList.drop 5).take 3).map UInt8.toNat = [17, 1, 0] by decide +kernel) rfl
theorem dX2_init_8 : decode cX2_init 8 = .ok (.newarray .int, 2) := dc_188_10 (show ((cX2_init.data.toList.drop 8).take 2).map UInt8.toNat = [188, 10] by decide +kernel)
theorem dX2_init_10 : decode cX2_init 10 = .ok (.putfield 9, 3) := dc_181 (show ((cX2_init.data.toList.drop 10).take 3).map UInt8.toNat = [181, 0, 9] by decide +kernel) rfl
theorem w_301 : (Cond.laysFinal "GooseBorder$Flocks" "GooseBorder$Flocks" "sums" "[I") ∈ gb_wA := gb_t2 61 rfl rfl
theorem w_303 : (Cond.laysFinal "GooseBorder$Flocks" "GooseBorder$Flocks" "others" "[I") ∈ gb_wA := gb_t2 63 rfl rfl
theorem w_305 : (Cond.lays "GooseBorder$Flocks" "GooseBorder$Flocks" "ways" "[J") ∈ gb_wA := gb_t2 65 rfl rfl
theorem w_307 : (Cond.lays "GooseBorder$Flocks" "GooseBorder$Flocks" "next" "[J") ∈ gb_wA := gb_t2 67 rfl rfl
theorem w_309 : (Cond.lays "GooseBorder$Flocks" "GooseBorder$Flocks" "sets" "I") ∈ gb_wA := gb_t2 69 rfl rfl
theorem w_311 : (Cond.lays "GooseBorder$Flocks" "GooseBorder$Flocks" "apart" "I") ∈ gb_wA := gb_t2 71 rfl rfl
theorem i_X2 : ∀ w ∈ u_ws RX2 TX2 6, w ∈ gb_wA := (List.forall_mem_cons.mpr ⟨w_301, List.forall_mem_cons.mpr ⟨w_303, List.forall_mem_cons.mpr ⟨w_305, List.forall_mem_cons.mpr ⟨w_307, List.forall_mem_cons.mpr ⟨w_309, List.forall_mem_cons.mpr ⟨w_311, fun _ h => absurd h List.not_mem_nil⟩⟩⟩⟩⟩⟩ : ∀ w ∈ ([Cond.laysFinal "GooseBorder$Flocks" "GooseBorder$Flocks" "sums" "[I", Cond.laysFinal "GooseBorder$Flocks" "GooseBorder$Flocks" "others" "[I", Cond.lays "GooseBorder$Flocks" "GooseBorder$Flocks" "ways" "[J", Cond.lays "GooseBorder$Flocks" "GooseBorder$Flocks" "next" "[J", Cond.lays "GooseBorder$Flocks" "GooseBorder$Flocks" "sets" "I", Cond.lays "GooseBorder$Flocks" "GooseBorder$Flocks" "apart" "I"] : List Cond), w ∈ gb_wA)
theorem w_294 : (Cond.fieldLink "GooseBorder$Flocks" (9 : Nat) "GooseBorder$Flocks" "sums" "[I") ∈ gb_wA := gb_t2 54 rfl rfl
theorem dX2_init_13 : decode cX2_init 13 = .ok (.aload_n 0, 1) := dc_42 (show ((cX2_init.data.toList.drop 13).take 1).map UInt8.toNat = [42] by decide +kernel)
theorem dX2_init_14 : decode cX2_init 14 = .ok (.sipush 256, 3) := dc_17 (show ((cX2_init.data.toList.drop 14).take 3).map UInt8.toNat = [17, 1, 0] by decide +kernel) rfl
theorem dX2_init_17 : decode cX2_init 17 = .ok (.newarray .int, 2) := dc_188_10 (show ((cX2_init.data.toList.drop 17).take 2).map UInt8.toNat = [188, 10] by decide +kernel)
theorem dX2_init_19 : decode cX2_init 19 = .ok (.putfield 15, 3) := dc_181 (show ((cX2_init.data.toList.drop 19).take 3).map UInt8.toNat = [181, 0, 15] by decide +kernel) rfl
theorem w_295 : (Cond.fieldLink "GooseBorder$Flocks" (15 : Nat) "GooseBorder$Flocks" "others" "[I") ∈ gb_wA := gb_t2 55 rfl rfl
theorem dX2_init_22 : decode cX2_init 22 = .ok (.aload_n 0, 1) := dc_42 (show ((cX2_init.data.toList.drop 22).take 1).map UInt8.toNat = [42] by decide +kernel)
theorem dX2_init_23 : decode cX2_init 23 = .ok (.sipush 256, 3) := dc_17 (show ((cX2_init.data.toList.drop 23).take 3).map UInt8.toNat = [17, 1, 0] by decide +kernel) rfl
theorem dX2_init_26 : decode cX2_init 26 = .ok (.newarray .long, 2) := dc_188_11 (show ((cX2_init.data.toList.drop 26).take 2).map UInt8.toNat = [188, 11] by decide +kernel)
theorem w_314 : (Cond.arrayClass FieldType.long) ∈ gb_wA := gb_t2 74 rfl rfl
theorem dX2_init_28 : decode cX2_init 28 = .ok (.putfield 18, 3) := dc_181 (show ((cX2_init.data.toList.drop 28).take 3).map UInt8.toNat = [181, 0, 18] by decide +kernel) rfl
theorem w_296 : (Cond.fieldLink "GooseBorder$Flocks" (18 : Nat) "GooseBorder$Flocks" "ways" "[J") ∈ gb_wA := gb_t2 56 rfl rfl
theorem dX2_init_31 : decode cX2_init 31 = .ok (.aload_n 0, 1) := dc_42 (show ((cX2_init.data.toList.drop 31).take 1).map UInt8.toNat = [42] by decide +kernel)
theorem dX2_init_32 : decode cX2_init 32 = .ok (.sipush 256, 3) := dc_17 (show ((cX2_init.data.toList.drop 32).take 3).map UInt8.toNat = [17, 1, 0] by decide +kernel) rfl
theorem dX2_init_35 : decode cX2_init 35 = .ok (.newarray .long, 2) := dc_188_11 (show ((cX2_init.data.toList.drop 35).take 2).map UInt8.toNat = [188, 11] by decide +kernel)
theorem dX2_init_37 : decode cX2_init 37 = .ok (.putfield 22, 3) := dc_181 (show ((cX2_init.data.toList.drop 37).take 3).map UInt8.toNat = [181, 0, 22] by decide +kernel) rfl
theorem w_297 : (Cond.fieldLink "GooseBorder$Flocks" (22 : Nat) "GooseBorder$Flocks" "next" "[J") ∈ gb_wA := gb_t2 57 rfl rfl
theorem dX2_init_40 : decode cX2_init 40 = .ok (.return_, 1) := dc_177 (show ((cX2_init.data.toList.drop 40).take 1).map UInt8.toNat = [177] by decide +kernel)
set_option maxHeartbeats 4000000 in
set_option maxRecDepth 100000 in
theorem k_X2_init (l : Launch) (D : va_G) (cT : Nat → ClassId) (tt : Nat → Nat) (b1 b : Nat) (hb1 : b1 ≤ b) : Met l yX2_init (.code yX2_init cX2_init 1 none :: gb_wA) ({ frames := 1, cells := 4, slots := 1024, locals := 12 }) (gb_Pc D cT tt b1 [.ref (b + 0)] (fun h => va_P D vwCl (gb_wl b [.inr (2, [.null, .null, .null, .null, .int 0, .int 0])]) h ∧ Array.size h = b + 1)) (gb_Qv (fun h => va_P D vwCl (gb_wl b [.inr (2, [.ref (b + 1), .ref (b + 2), .ref (b + 3), .ref (b + 4), .int 0, .int 0]), .inl (cT 0, 256, .inl (fun _ => 0)), .inl (cT 0, 256, .inl (fun _ => 0)), .inl (cT 3, 256, .inr (.inl (fun _ => 0))), .inl (cT 3, 256, .inr (.inl (fun _ => 0)))]) h ∧ Array.size h = b + 5) (gb_ge b)) 4 1024 (gb_ge b) := by
  refine Met.ofW (cc := cX2_init) (maxL := 1) (ret := none) (by decide) rfl ?_
  intro p e s m args below meth c s₁ B hml hv
  obtain ⟨rfl, hSt, hP, hz⟩ := hv
  have hx := B.exec
  have hb := B.bytes
  have hr := B.returns
  have hts := atoms_spec (ws := .code yX2_init cX2_init 1 none :: gb_wA) B.pre
  have hq : ∀ w ∈ gb_wA, w.before _ s = true := fun w h => hts w (List.mem_cons_of_mem _ h)
  have hown : s.vm.findClass RX2 = some m.cls := findClass_of_methodNamed B.named
  have hlocks := B.notSynchronized
  have hin : meth.name = "<init>" := (name_of_methodNamed B.named B.method).1
  have hK := hSt.1
  have hS : va_S (gb_ge b) s.heap s.heap [] := va_S.rf
  have hl := lv_entry ([.ref (b + 0)]) (n := 1) (Nat.le_of_ble_eq_true rfl)
  rw [lg_entry_eq]
  generalize (lg_sl ([.ref (b + 0)]) ++ List.replicate (1 - (lg_sl ([.ref (b + 0)])).length) Slot.unset).toArray = ls at hl ⊢
  have hl : lv_has ls 1 [(0, .ref (b + 0))] := hl
  refine lv_aload_n hx hb dX2_init_0 rfl (lv_at hl 0 rfl) ?_
  refine W.objInit hx hb hown (hq _ w_293) (hq _ w_28) (hq _ w_29) rfl (by rw [hml]; exact hl.1) rfl dX2_init_1 (Nat.le_of_ble_eq_true rfl) (Nat.le_of_ble_eq_true rfl) ?_
  refine W.eq (g2 := F0 m 4 ls []) rfl ?_
  refine lv_aload_n hx hb dX2_init_4 rfl (lv_at hl 0 rfl) ?_
  refine lv_sipush (v := 256) hx hb dX2_init_5 (by decide) ?_
  refine gb_newa (atype := .int) (a0 := (256, .inl (fun _ => 0))) hx hb (hq _ w_59) (ty := .int) rfl hK hP hS 1 hz rfl 0 rfl (fun h => h) (fun _ => rfl) (by decide) (by decide) (Nat.le_of_ble_eq_true rfl) (Nat.le_of_ble_eq_true rfl) (Nat.le_of_ble_eq_true rfl) dX2_init_8 (fun H hP hz hS => ?_)
  have hP : va_P D vwCl (gb_wl b [.inr (2, [.null, .null, .null, .null, .int 0, .int 0]), .inl (cT 0, 256, .inl (fun _ => 0))]) H := hP
  refine W.widen (k := 1) (n := 256) (Nat.le_of_ble_eq_true rfl) (Nat.le_of_ble_eq_true rfl) ?_
  refine gb_putF (ci := 2) (v := (.ref (b + 1))) (ty := .array .int) (C := RX2) (T := TX2) (N := 6) hx hb hq i_X2 tyX2 tyX2_ok nmX2 hown hK hP (fun k _ => Nat.le_add_right b k) hS hz 0 rfl rfl 0 (by decide) (hq _ w_294) (fun _ h9 => h9) rfl hin rfl (by decide +kernel) rfl rfl (Nat.le_of_ble_eq_true rfl) dX2_init_10 (fun H locs hP hz hS => ?_)
  have hP : va_P D vwCl (gb_wl b [.inr (2, [.ref (b + 1), .null, .null, .null, .int 0, .int 0]), .inl (cT 0, 256, .inl (fun _ => 0))]) H := hP
  refine lv_aload_n hx hb dX2_init_13 rfl (lv_at hl 0 rfl) ?_
  refine lv_sipush (v := 256) hx hb dX2_init_14 (by decide) ?_
  refine gb_newa (atype := .int) (a0 := (256, .inl (fun _ => 0))) hx hb (hq _ w_59) (ty := .int) rfl hK hP hS 2 hz rfl 0 rfl (fun h => h) (fun _ => rfl) (by decide) (by decide) (Nat.le_of_ble_eq_true rfl) (Nat.le_of_ble_eq_true rfl) (Nat.le_of_ble_eq_true rfl) dX2_init_17 (fun H hP hz hS => ?_)
  have hP : va_P D vwCl (gb_wl b [.inr (2, [.ref (b + 1), .null, .null, .null, .int 0, .int 0]), .inl (cT 0, 256, .inl (fun _ => 0)), .inl (cT 0, 256, .inl (fun _ => 0))]) H := hP
  refine W.widen (k := 2) (n := 512) (Nat.le_of_ble_eq_true rfl) (Nat.le_of_ble_eq_true rfl) ?_
  refine gb_putF (ci := 2) (v := (.ref (b + 2))) (ty := .array .int) (C := RX2) (T := TX2) (N := 6) hx hb hq i_X2 tyX2 tyX2_ok nmX2 hown hK hP (fun k _ => Nat.le_add_right b k) hS hz 0 rfl rfl 1 (by decide) (hq _ w_295) (fun _ h9 => h9) rfl hin rfl (by decide +kernel) rfl rfl (Nat.le_of_ble_eq_true rfl) dX2_init_19 (fun H locs hP hz hS => ?_)
  have hP : va_P D vwCl (gb_wl b [.inr (2, [.ref (b + 1), .ref (b + 2), .null, .null, .int 0, .int 0]), .inl (cT 0, 256, .inl (fun _ => 0)), .inl (cT 0, 256, .inl (fun _ => 0))]) H := hP
  refine lv_aload_n hx hb dX2_init_22 rfl (lv_at hl 0 rfl) ?_
  refine lv_sipush (v := 256) hx hb dX2_init_23 (by decide) ?_
  refine gb_newa (atype := .long) (a0 := (256, .inr (.inl (fun _ => 0)))) hx hb (hq _ w_314) (ty := .long) rfl hK hP hS 3 hz rfl 3 rfl (fun h => h) (fun _ => rfl) (by decide) (by decide) (Nat.le_of_ble_eq_true rfl) (Nat.le_of_ble_eq_true rfl) (Nat.le_of_ble_eq_true rfl) dX2_init_26 (fun H hP hz hS => ?_)
  have hP : va_P D vwCl (gb_wl b [.inr (2, [.ref (b + 1), .ref (b + 2), .null, .null, .int 0, .int 0]), .inl (cT 0, 256, .inl (fun _ => 0)), .inl (cT 0, 256, .inl (fun _ => 0)), .inl (cT 3, 256, .inr (.inl (fun _ => 0)))]) H := hP
  refine W.widen (k := 3) (n := 768) (Nat.le_of_ble_eq_true rfl) (Nat.le_of_ble_eq_true rfl) ?_
  refine gb_put (ci := 2) (v := (.ref (b + 3))) (ty := .array .long) (C := RX2) (T := TX2) (N := 6) hx hb hq i_X2 tyX2 tyX2_ok nmX2 hown hK hP (fun k _ => Nat.le_add_right b k) hS hz 0 rfl rfl 2 (by decide) (hq _ w_296) (fun _ h9 => h9) rfl (by decide +kernel) rfl (by first | rfl | decide) (Nat.le_of_ble_eq_true rfl) dX2_init_28 (fun H locs hP hz hS => ?_)
  have hP : va_P D vwCl (gb_wl b [.inr (2, [.ref (b + 1), .ref (b + 2), .ref (b + 3), .null, .int 0, .int 0]), .inl (cT 0, 256, .inl (fun _ => 0)), .inl (cT 0, 256, .inl (fun _ => 0)), .inl (cT 3, 256, .inr (.inl (fun _ => 0)))]) H := hP
  refine lv_aload_n hx hb dX2_init_31 rfl (lv_at hl 0 rfl) ?_
  refine lv_sipush (v := 256) hx hb dX2_init_32 (by decide) ?_
  refine gb_newa (atype := .long) (a0 := (256, .inr (.inl (fun _ => 0)))) hx hb (hq _ w_314) (ty := .long) rfl hK hP hS 4 hz rfl 3 rfl (fun h => h) (fun _ => rfl) (by decide) (by decide) (Nat.le_of_ble_eq_true rfl) (Nat.le_of_ble_eq_true rfl) (Nat.le_of_ble_eq_true rfl) dX2_init_35 (fun H hP hz hS => ?_)
  have hP : va_P D vwCl (gb_wl b [.inr (2, [.ref (b + 1), .ref (b + 2), .ref (b + 3), .null, .int 0, .int 0]), .inl (cT 0, 256, .inl (fun _ => 0)), .inl (cT 0, 256, .inl (fun _ => 0)), .inl (cT 3, 256, .inr (.inl (fun _ => 0))), .inl (cT 3, 256, .inr (.inl (fun _ => 0)))]) H := hP
  refine W.widen (k := 4) (n := 1024) (Nat.le_of_ble_eq_true rfl) (Nat.le_of_ble_eq_true rfl) ?_
  refine gb_put (ci := 2) (v := (.ref (b + 4))) (ty := .array .long) (C := RX2) (T := TX2) (N := 6) hx hb hq i_X2 tyX2 tyX2_ok nmX2 hown hK hP (fun k _ => Nat.le_add_right b k) hS hz 0 rfl rfl 3 (by decide) (hq _ w_297) (fun _ h9 => h9) rfl (by decide +kernel) rfl (by first | rfl | decide) (Nat.le_of_ble_eq_true rfl) dX2_init_37 (fun H locs hP hz hS => ?_)
  have hP : va_P D vwCl (gb_wl b [.inr (2, [.ref (b + 1), .ref (b + 2), .ref (b + 3), .ref (b + 4), .int 0, .int 0]), .inl (cT 0, 256, .inl (fun _ => 0)), .inl (cT 0, 256, .inl (fun _ => 0)), .inl (cT 3, 256, .inr (.inl (fun _ => 0))), .inl (cT 3, 256, .inr (.inl (fun _ => 0)))]) H := hP
  exact W.vret hx hb hr (fun t ht hW => gb_rv ht ⟨hP, hz⟩ hS) hS.2.2 dX2_init_40
