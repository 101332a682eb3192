/-! STRING CONSTANTS: the second static context -/
def gb_slen : List Nat := [4, 5, 3, 5, 4, 4, 5, 6, 4, 5, 4, 3, 4, 5, 5, 3, 4, 4]
def gb_sbyt : List (List Int32) := [[112, 97, 116, 104], [103, 111, 111, 115, 101], [99, 97, 112], [109, 97, 114, 99, 104], [98, 97, 99, 107], [104, 111, 109, 101], [99, 97, 114, 114, 121], [114, 101, 99, 97, 115, 116], [114, 97, 105, 110], [102, 114, 111, 115, 116], [116, 104, 97, 119], [102, 111, 120], [101, 97, 99, 104], [97, 98, 111, 118, 101], [98, 101, 108, 111, 119], [111, 100, 100], [109, 111, 115, 116], [108, 101, 102, 116]]
def gb_six : List Nat := [104, 106, 108, 110, 112, 114, 116, 118, 120, 122, 124, 126, 128, 130, 132, 134, 136, 138]
def gb_stx : List String := ["path", "goose", "cap", "march", "back", "home", "carry", "recast", "rain", "frost", "thaw", "fox", "each", "above", "below", "odd", "most", "left"]
def gb_kW (k : Nat) : Bool := Nat.blt k 18
def gb_kV (k : Nat) : Bool := Nat.blt k 18
theorem gb_kW_lt {k : Nat} (h : gb_kW k = true) : k < 18 := Nat.lt_of_lt_of_le (Nat.lt_of_lt_of_le (Nat.lt_succ_self k) (Nat.le_of_ble_eq_true h)) (Nat.le_refl 18)
def gb_cc {β : Type} (v : Int32) (k : Option β) : Option β := if (v.toUInt32 % 65536).toInt32 = v then k else none
theorem gb_cc_s {β : Type} {v : Int32} {k : Option β} {y : β} (h : gb_cc v k = some y) : narrow .char (.int v) = .int v ∧ k = some y := by
  unfold gb_cc at h
  by_cases c : (v.toUInt32 % 65536).toInt32 = v
  · rw [if_pos c] at h
    have := pk_nc v
    rw [c] at this
    exact ⟨this, h⟩
  · rw [if_neg c] at h
    cases h
def gb_St2 (D : va_G) (cT : Nat → ClassId) (tt : Nat → Nat) (ak av : Nat → Nat) (b1 : Nat) (U : State) : Prop :=
  gb_St D cT tt b1 U ∧ vk_S 18 gb_slen gb_sbyt ak av (gb_ge b1) U U.heap ∧ (∀ i, i < 18 → vk_R "GooseBorder$Reader" (gb_six.getD i 0) (gb_stx.getD i "") (ak i) U) ∧ va_Z "java/lang/String" "COMPACT_STRINGS" "Z" (.int 1) (gb_ge b1) U U.heap ∧ va_Zq "jdk/internal/util/Preconditions" "SIOOBE_FORMATTER" "Ljava/util/function/BiFunction;" (gb_ge b1) U U.heap
theorem gb_St2.calling {D : va_G} {cT : Nat → ClassId} {tt ak av : Nat → Nat} {b1 : Nat} {U : State} (h : gb_St2 D cT tt ak av b1 U) (g : JFrame) (mk : MethodId) (a : Array Value) : gb_St2 D cT tt ak av b1 (U.calling g mk a) := by
  obtain ⟨h1, h2, h3, h4, h5⟩ := h
  exact ⟨h1.calling g mk a, vk_S.moved (U := U.calling g mk a) (Vm.Alike.refl U.vm) h2, fun i hi => vk_R.same (U := U.calling g mk a) rfl (h3 i hi), va_Z.moved (U := U.calling g mk a) (Vm.Alike.refl U.vm) h4, va_Zq.moved (U := U.calling g mk a) (Vm.Alike.refl U.vm) h5⟩
theorem gb_St2.warm {D : va_G} {cT : Nat → ClassId} {tt ak av : Nat → Nat} {b1 : Nat} {s U : State} {A : Nat → Prop} {H : Heap} {locs : List Loc} (h : gb_St2 D cT tt ak av b1 s) (hW : s.WarmedH U.vm) (hS : va_S A s.heap H locs) (hA : ∀ q, A q → b1 ≤ q) (hU : U.heap = H) : gb_St2 D cT tt ak av b1 U := by
  have hk : ∀ a : Nat, a < s.heap.size → ¬ gb_ge b1 a → U.heap[a]? = s.heap[a]? := fun a h1 h2 => by rw [hU]; exact hS.2.1 a h1 (fun z => h2 (hA a z))
  obtain ⟨h1, h2, h3, h4, h5⟩ := h
  exact ⟨h1.warm hW hS hA hU, (h2.kept hk).moved hW.alike, fun i hi => (h3 i hi).warm hW, (h4.kept hk).moved hW.alike, (h5.kept hk).moved hW.alike⟩
def gb_Pc2 (D : va_G) (cT : Nat → ClassId) (tt ak av : Nat → Nat) (b1 : Nat) (avs : List Value) (X : Heap → Prop) : Array Value → State → Prop := va_Pc avs (fun U => gb_St2 D cT tt ak av b1 U ∧ X U.heap)
theorem gb_blind2 {D : va_G} {cT : Nat → ClassId} {tt ak av : Nat → Nat} {b1 : Nat} {avs : List Value} {X : Heap → Prop} : FrameBlind (gb_Pc2 D cT tt ak av b1 avs X) := fun a U g mk h => ⟨h.1, h.2.1.calling g mk a, h.2.2⟩
theorem gb_preV2 {D : va_G} {cT : Nat → ClassId} {tt ak av : Nat → Nat} {b1 : Nat} {s : State} {H : Heap} {A : Nat → Prop} {locs : List Loc} {ws : va_W} {a ci q0 : Nat} {r : vw_C} {fs : List Value} {X : Heap → Prop} {As : List Value} (hSt : gb_St2 D cT tt ak av b1 s) (hP : va_P D vwCl ws H) (hc : vwCl[ci]? = some r) (he : ws[q0]? = some (a, .inr (ci, fs))) (hS : va_S A s.heap H locs) (hA : ∀ q, A q → b1 ≤ q) (hX : X H) : PreV s H r.1 a (gb_Pc2 D cT tt ak av b1 (.ref a :: As) X) As :=
  ⟨gb_blind2, va_recv hSt.1.1 hP hc he, fun U hU hW => ⟨rfl, hSt.warm hW hS hA hU, by rw [hU]; exact hX⟩⟩
theorem gb_preS2 {D : va_G} {cT : Nat → ClassId} {tt ak av : Nat → Nat} {b1 : Nat} {s : State} {H : Heap} {A : Nat → Prop} {locs : List Loc} {X : Heap → Prop} {As : List Value} (hSt : gb_St2 D cT tt ak av b1 s) (hS : va_S A s.heap H locs) (hA : ∀ q, A q → b1 ≤ q) (hX : X H) : PreS s H (gb_Pc2 D cT tt ak av b1 As X) As :=
  ⟨gb_blind2, fun U hU hW => ⟨rfl, hSt.warm hW hS hA hU, by rw [hU]; exact hX⟩⟩
theorem gb_preW {D : va_G} {cT : Nat → ClassId} {tt ak av : Nat → Nat} {b1 i : Nat} {s : State} {H : Heap} {A : Nat → Prop} {locs : List Loc} {X : Heap → Prop} {As : List Value} (hSt : gb_St2 D cT tt ak av b1 s) (hi : i < 18) (hS : va_S A s.heap H locs) (hA : ∀ q, A q → b1 ≤ q) (hX : X H) : PreV s H "java/lang/String" (ak i) (gb_Pc2 D cT tt ak av b1 (.ref (ak i) :: As) X) As :=
  ⟨gb_blind2, vk_recv (hSt.2.1.narrow hA) hi hS, fun U hU hW => ⟨rfl, hSt.warm hW hS hA hU, by rw [hU]; exact hX⟩⟩

theorem dX7_wordOf_86 : decode cX7_wordOf 86 = .ok (.areturn, 1) := dc_176 (show ((cX7_wordOf.data.toList.drop 86).take 1).map UInt8.toNat = [176] by decide +kernel)
theorem dX7_wordOf_87 : decode cX7_wordOf 87 = .ok (.ldc 106, 2) := dc_18 (show ((cX7_wordOf.data.toList.drop 87).take 2).map UInt8.toNat = [18, 106] by decide +kernel) rfl
theorem dX7_wordOf_89 : decode cX7_wordOf 89 = .ok (.areturn, 1) := dc_176 (show ((cX7_wordOf.data.toList.drop 89).take 1).map UInt8.toNat = [176] by decide +kernel)
theorem dX7_wordOf_90 : decode cX7_wordOf 90 = .ok (.ldc 108, 2) := dc_18 (show ((cX7_wordOf.data.toList.drop 90).take 2).map UInt8.toNat = [18, 108] by decide +kernel) rfl
theorem dX7_wordOf_92 : decode cX7_wordOf 92 = .ok (.areturn, 1) := dc_176 (show ((cX7_wordOf.data.toList.drop 92).take 1).map UInt8.toNat = [176] by decide +kernel)
theorem dX7_wordOf_93 : decode cX7_wordOf 93 = .ok (.ldc 110, 2) := dc_18 (show ((cX7_wordOf.data.toList.drop 93).take 2).map UInt8.toNat = [18, 110] by decide +kernel) rfl
theorem dX7_wordOf_95 : decode cX7_wordOf 95 = .ok (.areturn, 1) := dc_176 (show ((cX7_wordOf.data.toList.drop 95).take 1).map UInt8.toNat = [176] by decide +kernel)
theorem dX7_wordOf_96 : decode cX7_wordOf 96 = .ok (.ldc 112, 2) := dc_18 (show ((cX7_wordOf.data.toList.drop 96).take 2).map UInt8.toNat = [18, 112] by decide +kernel) rfl
theorem dX7_wordOf_98 : decode cX7_wordOf 98 = .ok (.areturn, 1) := dc_176 (show ((cX7_wordOf.data.toList.drop 98).take 1).map UInt8.toNat = [176] by decide +kernel)
theorem dX7_wordOf_99 : decode cX7_wordOf 99 = .ok (.ldc 114, 2) := dc_18 (show ((cX7_wordOf.data.toList.drop 99).take 2).map UInt8.toNat = [18, 114] by decide +kernel) rfl
theorem dX7_wordOf_101 : decode cX7_wordOf 101 = .ok (.areturn, 1) := dc_176 (show ((cX7_wordOf.data.toList.drop 101).take 1).map UInt8.toNat = [176] by decide +kernel)
theorem dX7_wordOf_102 : decode cX7_wordOf 102 = .ok (.ldc 116, 2) := dc_18 (show ((cX7_wordOf.data.toList.drop 102).take 2).map UInt8.toNat = [18, 116] by decide +kernel) rfl
theorem dX7_wordOf_104 : decode cX7_wordOf 104 = .ok (.areturn, 1) := dc_176 (show ((cX7_wordOf.data.toList.drop 104).take 1).map UInt8.toNat = [176] by decide +kernel)
theorem dX7_wordOf_105 : decode cX7_wordOf 105 = .ok (.ldc 118, 2) := dc_18 (show ((cX7_wordOf.data.toList.drop 105).take 2).map UInt8.toNat = [18, 118] by decide +kernel) rfl
theorem dX7_wordOf_107 : decode cX7_wordOf 107 = .ok (.areturn, 1) := dc_176 (show ((cX7_wordOf.data.toList.drop 107).take 1).map UInt8.toNat = [176] by decide +kernel)
theorem dX7_wordOf_108 : decode cX7_wordOf 108 = .ok (.ldc 120, 2) := dc_18 (show ((cX7_wordOf.data.toList.drop 108).take 2).map UInt8.toNat = [18, 120] by decide +kernel) rfl
theorem dX7_wordOf_110 : decode cX7_wordOf 110 = .ok (.areturn, 1) := dc_176 (show ((cX7_wordOf.data.toList.drop 110).take 1).map UInt8.toNat = [176] by decide +kernel)
theorem dX7_wordOf_111 : decode cX7_wordOf 111 = .ok (.ldc 122, 2) := dc_18 (show ((cX7_wordOf.data.toList.drop 111).take 2).map UInt8.toNat = [18, 122] by decide +kernel) rfl
theorem dX7_wordOf_113 : decode cX7_wordOf 113 = .ok (.areturn, 1) := dc_176 (show ((cX7_wordOf.data.toList.drop 113).take 1).map UInt8.toNat = [176] by decide +kernel)
theorem dX7_wordOf_114 : decode cX7_wordOf 114 = .ok (.ldc 124, 2) := dc_18 (show ((cX7_wordOf.data.toList.drop 114).take 2).map UInt8.toNat = [18, 124] by decide +kernel) rfl
theorem dX7_wordOf_116 : decode cX7_wordOf 116 = .ok (.areturn, 1) := dc_176 (show ((cX7_wordOf.data.toList.drop 116).take 1).map UInt8.toNat = [176] by decide +kernel)
theorem dX7_wordOf_117 : decode cX7_wordOf 117 = .ok (.ldc 126, 2) := dc_18 (show ((cX7_wordOf.data.toList.drop 117).take 2).map UInt8.toNat = [18, 126] by decide +kernel) rfl
theorem dX7_wordOf_119 : decode cX7_wordOf 119 = .ok (.areturn, 1) := dc_176 (show ((cX7_wordOf.data.toList.drop 119).take 1).map UInt8.toNat = [176] by decide +kernel)
theorem dX7_wordOf_120 : decode cX7_wordOf 120 = .ok (.ldc 128, 2) := dc_18 (show ((cX7_wordOf.data.toList.drop 120).take 2).map UInt8.toNat = [18, 128] by decide +kernel) rfl
theorem dX7_wordOf_122 : decode cX7_wordOf 122 = .ok (.areturn, 1) := dc_176 (show ((cX7_wordOf.data.toList.drop 122).take 1).map UInt8.toNat = [176] by decide +kernel)
theorem dX7_wordOf_123 : decode cX7_wordOf 123 = .ok (.ldc 130, 2) := dc_18 (show ((cX7_wordOf.data.toList.drop 123).take 2).map UInt8.toNat = [18, 130] by decide +kernel) rfl
theorem dX7_wordOf_125 : decode cX7_wordOf 125 = .ok (.areturn, 1) := dc_176 (show ((cX7_wordOf.data.toList.drop 125).take 1).map UInt8.toNat = [176] by decide +kernel)
theorem dX7_wordOf_126 : decode cX7_wordOf 126 = .ok (.ldc 132, 2) := dc_18 (show ((cX7_wordOf.data.toList.drop 126).take 2).map UInt8.toNat = [18, 132] by decide +kernel) rfl
theorem dX7_wordOf_128 : decode cX7_wordOf 128 = .ok (.areturn, 1) := dc_176 (show ((cX7_wordOf.data.toList.drop 128).take 1).map UInt8.toNat = [176] by decide +kernel)
theorem dX7_wordOf_129 : decode cX7_wordOf 129 = .ok (.ldc 134, 2) := dc_18 (show ((cX7_wordOf.data.toList.drop 129).take 2).map UInt8.toNat = [18, 134] by decide +kernel) rfl
theorem dX7_wordOf_131 : decode cX7_wordOf 131 = .ok (.areturn, 1) := dc_176 (show ((cX7_wordOf.data.toList.drop 131).take 1).map UInt8.toNat = [176] by decide +kernel)
theorem dX7_wordOf_132 : decode cX7_wordOf 132 = .ok (.ldc 136, 2) := dc_18 (show ((cX7_wordOf.data.toList.drop 132).take 2).map UInt8.toNat = [18, 136] by decide +kernel) rfl
theorem dX7_wordOf_134 : decode cX7_wordOf 134 = .ok (.areturn, 1) := dc_176 (show ((cX7_wordOf.data.toList.drop 134).take 1).map UInt8.toNat = [176] by decide +kernel)
theorem dX7_wordOf_135 : decode cX7_wordOf 135 = .ok (.ldc 138, 2) := dc_18 (show ((cX7_wordOf.data.toList.drop 135).take 2).map UInt8.toNat = [18, 138] by decide +kernel) rfl
theorem dX7_wordOf_137 : decode cX7_wordOf 137 = .ok (.areturn, 1) := dc_176 (show ((cX7_wordOf.data.toList.drop 137).take 1).map UInt8.toNat = [176] by decide +kernel)
def cs_Reader_wordOf (n : Nat) (σ : gb_S) (p1 : Int32) : gb_CR Nat := (if p1 = (0 : Int32) then some (σ, 0) else (if p1 = (1 : Int32) then some (σ, 1) else (if p1 = (2 : Int32) then some (σ, 2) else (if p1 = (3 : Int32) then some (σ, 3) else (if p1 = (4 : Int32) then some (σ, 4) else (if p1 = (5 : Int32) then some (σ, 5) else (if p1 = (6 : Int32) then some (σ, 6) else (if p1 = (7 : Int32) then some (σ, 7) else (if p1 = (8 : Int32) then some (σ, 8) else (if p1 = (9 : Int32) then some (σ, 9) else (if p1 = (10 : Int32) then some (σ, 10) else (if p1 = (11 : Int32) then some (σ, 11) else (if p1 = (12 : Int32) then some (σ, 12) else (if p1 = (13 : Int32) then some (σ, 13) else (if p1 = (14 : Int32) then some (σ, 14) else (if p1 = (15 : Int32) then some (σ, 15) else (if p1 = (16 : Int32) then some (σ, 16) else some (σ, 17))))))))))))))))))
set_option maxHeartbeats 8000000 in
set_option maxRecDepth 100000 in
theorem cc_Reader_wordOf (l : Launch) (D : va_G) (cT : Nat → ClassId) (tt : Nat → Nat) (ak av : Nat → Nat) (b1 b : Nat) (hb1 : b1 ≤ b) (n : Nat) (σ : gb_S) (p1 : Int32) (σE : gb_S) (rE : Nat) (h : cs_Reader_wordOf n σ p1 = some (σE, rE)) : Met l yX7_wordOf (.code yX7_wordOf cX7_wordOf 1 (some (FieldType.object "java/lang/String")) :: gb_wA) ({ frames := 0, cells := 0, slots := 0, locals := 0 }) (gb_Pc2 D cT tt ak av b1 [.int p1] (fun h => va_P D vwCl (gb_wl b (gb_CW cT b σ)) h)) (gb_Qq (fun r h => r = some (ak rE) ∧ va_P D vwCl (gb_wl b (gb_CW cT b σE)) h) (gb_fr b 135)) 0 0 (gb_fr b 135) := by
  refine Met.ofW (cc := cX7_wordOf) (maxL := 1) (ret := (some (FieldType.object "java/lang/String"))) (by decide) rfl ?_
  intro p e s m args below meth c s₁ B hml hv
  obtain ⟨rfl, hSt2, hP⟩ := hv
  have hSt := hSt2.1
  have hx := B.exec
  have hb := B.bytes
  have hr := B.returns
  have hts := atoms_spec (ws := .code yX7_wordOf cX7_wordOf 1 (some (FieldType.object "java/lang/String")) :: gb_wA) B.pre
  have hq : ∀ w ∈ gb_wA, w.before _ s = true := fun w h => hts w (List.mem_cons_of_mem _ h)
  have hown : s.vm.findClass RX7 = some m.cls := findClass_of_methodNamed B.named
  have hlocks := B.notSynchronized
  clear B hts
  have hK := hSt.1
  have hS : va_S (gb_fr b 135) s.heap s.heap [] := va_S.rf
  have hl := lv_entry ([.int p1]) (n := 1) (Nat.le_of_ble_eq_true rfl)
  rw [lg_entry_eq]
  generalize (lg_sl ([.int p1]) ++ List.replicate (1 - (lg_sl ([.int p1])).length) Slot.unset).toArray = ls at hl ⊢
  replace hl : lv_has ls 1 [(0, .int p1)] := hl
  unfold cs_Reader_wordOf at h
  refine lv_iload_n hx hb dX7_wordOf_0 rfl (lv_at hl 0 rfl) ?_
  by_cases c_1 : p1 = (0 : Int32)
  · rw [if_pos c_1] at h
    refine lv_tableIn (off := 83) (tgt := 84) hx hb dX7_wordOf_1 (by rw [c_1]; decide) (by rw [c_1]; decide) (by rw [c_1]; decide) (by decide) ?_
    refine va_ldcS (own := RX7) (tx := "path") (q := ak 0) hx hb hown (hSt2.2.2.1 0 (by decide)) dX7_wordOf_84 ?_
    obtain ⟨e1, e2⟩ := gb_eq2 h
    exact W.aret (v := (.ref (ak 0))) hx hb hr (Or.inl ⟨_, rfl⟩) (Or.inr ⟨_, rfl⟩) (fun t ht hW => gb_rq (some (ak 0)) ht ⟨by rw [← e2], by rw [← e1]; exact hP⟩ hS) hS.2.2 dX7_wordOf_86
  rw [if_neg c_1] at h
  by_cases c_2 : p1 = (1 : Int32)
  · rw [if_pos c_2] at h
    refine lv_tableIn (off := 86) (tgt := 87) hx hb dX7_wordOf_1 (by rw [c_2]; decide) (by rw [c_2]; decide) (by rw [c_2]; decide) (by decide) ?_
    refine va_ldcS (own := RX7) (tx := "goose") (q := ak 1) hx hb hown (hSt2.2.2.1 1 (by decide)) dX7_wordOf_87 ?_
    obtain ⟨e1, e2⟩ := gb_eq2 h
    exact W.aret (v := (.ref (ak 1))) hx hb hr (Or.inl ⟨_, rfl⟩) (Or.inr ⟨_, rfl⟩) (fun t ht hW => gb_rq (some (ak 1)) ht ⟨by rw [← e2], by rw [← e1]; exact hP⟩ hS) hS.2.2 dX7_wordOf_89
  rw [if_neg c_2] at h
  by_cases c_3 : p1 = (2 : Int32)
  · rw [if_pos c_3] at h
    refine lv_tableIn (off := 89) (tgt := 90) hx hb dX7_wordOf_1 (by rw [c_3]; decide) (by rw [c_3]; decide) (by rw [c_3]; decide) (by decide) ?_
    refine va_ldcS (own := RX7) (tx := "cap") (q := ak 2) hx hb hown (hSt2.2.2.1 2 (by decide)) dX7_wordOf_90 ?_
    obtain ⟨e1, e2⟩ := gb_eq2 h
    exact W.aret (v := (.ref (ak 2))) hx hb hr (Or.inl ⟨_, rfl⟩) (Or.inr ⟨_, rfl⟩) (fun t ht hW => gb_rq (some (ak 2)) ht ⟨by rw [← e2], by rw [← e1]; exact hP⟩ hS) hS.2.2 dX7_wordOf_92
  rw [if_neg c_3] at h
  by_cases c_4 : p1 = (3 : Int32)
  · rw [if_pos c_4] at h
    refine lv_tableIn (off := 92) (tgt := 93) hx hb dX7_wordOf_1 (by rw [c_4]; decide) (by rw [c_4]; decide) (by rw [c_4]; decide) (by decide) ?_
    refine va_ldcS (own := RX7) (tx := "march") (q := ak 3) hx hb hown (hSt2.2.2.1 3 (by decide)) dX7_wordOf_93 ?_
    obtain ⟨e1, e2⟩ := gb_eq2 h
    exact W.aret (v := (.ref (ak 3))) hx hb hr (Or.inl ⟨_, rfl⟩) (Or.inr ⟨_, rfl⟩) (fun t ht hW => gb_rq (some (ak 3)) ht ⟨by rw [← e2], by rw [← e1]; exact hP⟩ hS) hS.2.2 dX7_wordOf_95
  rw [if_neg c_4] at h
  by_cases c_5 : p1 = (4 : Int32)
  · rw [if_pos c_5] at h
    refine lv_tableIn (off := 95) (tgt := 96) hx hb dX7_wordOf_1 (by rw [c_5]; decide) (by rw [c_5]; decide) (by rw [c_5]; decide) (by decide) ?_
    refine va_ldcS (own := RX7) (tx := "back") (q := ak 4) hx hb hown (hSt2.2.2.1 4 (by decide)) dX7_wordOf_96 ?_
    obtain ⟨e1, e2⟩ := gb_eq2 h
    exact W.aret (v := (.ref (ak 4))) hx hb hr (Or.inl ⟨_, rfl⟩) (Or.inr ⟨_, rfl⟩) (fun t ht hW => gb_rq (some (ak 4)) ht ⟨by rw [← e2], by rw [← e1]; exact hP⟩ hS) hS.2.2 dX7_wordOf_98
  rw [if_neg c_5] at h
  by_cases c_6 : p1 = (5 : Int32)
  · rw [if_pos c_6] at h
    refine lv_tableIn (off := 98) (tgt := 99) hx hb dX7_wordOf_1 (by rw [c_6]; decide) (by rw [c_6]; decide) (by rw [c_6]; decide) (by decide) ?_
    refine va_ldcS (own := RX7) (tx := "home") (q := ak 5) hx hb hown (hSt2.2.2.1 5 (by decide)) dX7_wordOf_99 ?_
    obtain ⟨e1, e2⟩ := gb_eq2 h
    exact W.aret (v := (.ref (ak 5))) hx hb hr (Or.inl ⟨_, rfl⟩) (Or.inr ⟨_, rfl⟩) (fun t ht hW => gb_rq (some (ak 5)) ht ⟨by rw [← e2], by rw [← e1]; exact hP⟩ hS) hS.2.2 dX7_wordOf_101
  rw [if_neg c_6] at h
  by_cases c_7 : p1 = (6 : Int32)
  · rw [if_pos c_7] at h
    refine lv_tableIn (off := 101) (tgt := 102) hx hb dX7_wordOf_1 (by rw [c_7]; decide) (by rw [c_7]; decide) (by rw [c_7]; decide) (by decide) ?_
    refine va_ldcS (own := RX7) (tx := "carry") (q := ak 6) hx hb hown (hSt2.2.2.1 6 (by decide)) dX7_wordOf_102 ?_
    obtain ⟨e1, e2⟩ := gb_eq2 h
    exact W.aret (v := (.ref (ak 6))) hx hb hr (Or.inl ⟨_, rfl⟩) (Or.inr ⟨_, rfl⟩) (fun t ht hW => gb_rq (some (ak 6)) ht ⟨by rw [← e2], by rw [← e1]; exact hP⟩ hS) hS.2.2 dX7_wordOf_104
  rw [if_neg c_7] at h
  by_cases c_8 : p1 = (7 : Int32)
  · rw [if_pos c_8] at h
    refine lv_tableIn (off := 104) (tgt := 105) hx hb dX7_wordOf_1 (by rw [c_8]; decide) (by rw [c_8]; decide) (by rw [c_8]; decide) (by decide) ?_
    refine va_ldcS (own := RX7) (tx := "recast") (q := ak 7) hx hb hown (hSt2.2.2.1 7 (by decide)) dX7_wordOf_105 ?_
    obtain ⟨e1, e2⟩ := gb_eq2 h
    exact W.aret (v := (.ref (ak 7))) hx hb hr (Or.inl ⟨_, rfl⟩) (Or.inr ⟨_, rfl⟩) (fun t ht hW => gb_rq (some (ak 7)) ht ⟨by rw [← e2], by rw [← e1]; exact hP⟩ hS) hS.2.2 dX7_wordOf_107
  rw [if_neg c_8] at h
  by_cases c_9 : p1 = (8 : Int32)
  · rw [if_pos c_9] at h
    refine lv_tableIn (off := 107) (tgt := 108) hx hb dX7_wordOf_1 (by rw [c_9]; decide) (by rw [c_9]; decide) (by rw [c_9]; decide) (by decide) ?_
    refine va_ldcS (own := RX7) (tx := "rain") (q := ak 8) hx hb hown (hSt2.2.2.1 8 (by decide)) dX7_wordOf_108 ?_
    obtain ⟨e1, e2⟩ := gb_eq2 h
    exact W.aret (v := (.ref (ak 8))) hx hb hr (Or.inl ⟨_, rfl⟩) (Or.inr ⟨_, rfl⟩) (fun t ht hW => gb_rq (some (ak 8)) ht ⟨by rw [← e2], by rw [← e1]; exact hP⟩ hS) hS.2.2 dX7_wordOf_110
  rw [if_neg c_9] at h
  by_cases c_10 : p1 = (9 : Int32)
  · rw [if_pos c_10] at h
    refine lv_tableIn (off := 110) (tgt := 111) hx hb dX7_wordOf_1 (by rw [c_10]; decide) (by rw [c_10]; decide) (by rw [c_10]; decide) (by decide) ?_
    refine va_ldcS (own := RX7) (tx := "frost") (q := ak 9) hx hb hown (hSt2.2.2.1 9 (by decide)) dX7_wordOf_111 ?_
    obtain ⟨e1, e2⟩ := gb_eq2 h
    exact W.aret (v := (.ref (ak 9))) hx hb hr (Or.inl ⟨_, rfl⟩) (Or.inr ⟨_, rfl⟩) (fun t ht hW => gb_rq (some (ak 9)) ht ⟨by rw [← e2], by rw [← e1]; exact hP⟩ hS) hS.2.2 dX7_wordOf_113
  rw [if_neg c_10] at h
  by_cases c_11 : p1 = (10 : Int32)
  · rw [if_pos c_11] at h
    refine lv_tableIn (off := 113) (tgt := 114) hx hb dX7_wordOf_1 (by rw [c_11]; decide) (by rw [c_11]; decide) (by rw [c_11]; decide) (by decide) ?_
    refine va_ldcS (own := RX7) (tx := "thaw") (q := ak 10) hx hb hown (hSt2.2.2.1 10 (by decide)) dX7_wordOf_114 ?_
    obtain ⟨e1, e2⟩ := gb_eq2 h
    exact W.aret (v := (.ref (ak 10))) hx hb hr (Or.inl ⟨_, rfl⟩) (Or.inr ⟨_, rfl⟩) (fun t ht hW => gb_rq (some (ak 10)) ht ⟨by rw [← e2], by rw [← e1]; exact hP⟩ hS) hS.2.2 dX7_wordOf_116
  rw [if_neg c_11] at h
  by_cases c_12 : p1 = (11 : Int32)
  · rw [if_pos c_12] at h
    refine lv_tableIn (off := 116) (tgt := 117) hx hb dX7_wordOf_1 (by rw [c_12]; decide) (by rw [c_12]; decide) (by rw [c_12]; decide) (by decide) ?_
    refine va_ldcS (own := RX7) (tx := "fox") (q := ak 11) hx hb hown (hSt2.2.2.1 11 (by decide)) dX7_wordOf_117 ?_
    obtain ⟨e1, e2⟩ := gb_eq2 h
    exact W.aret (v := (.ref (ak 11))) hx hb hr (Or.inl ⟨_, rfl⟩) (Or.inr ⟨_, rfl⟩) (fun t ht hW => gb_rq (some (ak 11)) ht ⟨by rw [← e2], by rw [← e1]; exact hP⟩ hS) hS.2.2 dX7_wordOf_119
  rw [if_neg c_12] at h
  by_cases c_13 : p1 = (12 : Int32)
  · rw [if_pos c_13] at h
    refine lv_tableIn (off := 119) (tgt := 120) hx hb dX7_wordOf_1 (by rw [c_13]; decide) (by rw [c_13]; decide) (by rw [c_13]; decide) (by decide) ?_
    refine va_ldcS (own := RX7) (tx := "each") (q := ak 12) hx hb hown (hSt2.2.2.1 12 (by decide)) dX7_wordOf_120 ?_
    obtain ⟨e1, e2⟩ := gb_eq2 h
    exact W.aret (v := (.ref (ak 12))) hx hb hr (Or.inl ⟨_, rfl⟩) (Or.inr ⟨_, rfl⟩) (fun t ht hW => gb_rq (some (ak 12)) ht ⟨by rw [← e2], by rw [← e1]; exact hP⟩ hS) hS.2.2 dX7_wordOf_122
  rw [if_neg c_13] at h
  by_cases c_14 : p1 = (13 : Int32)
  · rw [if_pos c_14] at h
    refine lv_tableIn (off := 122) (tgt := 123) hx hb dX7_wordOf_1 (by rw [c_14]; decide) (by rw [c_14]; decide) (by rw [c_14]; decide) (by decide) ?_
    refine va_ldcS (own := RX7) (tx := "above") (q := ak 13) hx hb hown (hSt2.2.2.1 13 (by decide)) dX7_wordOf_123 ?_
    obtain ⟨e1, e2⟩ := gb_eq2 h
    exact W.aret (v := (.ref (ak 13))) hx hb hr (Or.inl ⟨_, rfl⟩) (Or.inr ⟨_, rfl⟩) (fun t ht hW => gb_rq (some (ak 13)) ht ⟨by rw [← e2], by rw [← e1]; exact hP⟩ hS) hS.2.2 dX7_wordOf_125
  rw [if_neg c_14] at h
  by_cases c_15 : p1 = (14 : Int32)
  · rw [if_pos c_15] at h
    refine lv_tableIn (off := 125) (tgt := 126) hx hb dX7_wordOf_1 (by rw [c_15]; decide) (by rw [c_15]; decide) (by rw [c_15]; decide) (by decide) ?_
    refine va_ldcS (own := RX7) (tx := "below") (q := ak 14) hx hb hown (hSt2.2.2.1 14 (by decide)) dX7_wordOf_126 ?_
    obtain ⟨e1, e2⟩ := gb_eq2 h
    exact W.aret (v := (.ref (ak 14))) hx hb hr (Or.inl ⟨_, rfl⟩) (Or.inr ⟨_, rfl⟩) (fun t ht hW => gb_rq (some (ak 14)) ht ⟨by rw [← e2], by rw [← e1]; exact hP⟩ hS) hS.2.2 dX7_wordOf_128
  rw [if_neg c_15] at h
  by_cases c_16 : p1 = (15 : Int32)
  · rw [if_pos c_16] at h
    refine lv_tableIn (off := 128) (tgt := 129) hx hb dX7_wordOf_1 (by rw [c_16]; decide) (by rw [c_16]; decide) (by rw [c_16]; decide) (by decide) ?_
    refine va_ldcS (own := RX7) (tx := "odd") (q := ak 15) hx hb hown (hSt2.2.2.1 15 (by decide)) dX7_wordOf_129 ?_
    obtain ⟨e1, e2⟩ := gb_eq2 h
    exact W.aret (v := (.ref (ak 15))) hx hb hr (Or.inl ⟨_, rfl⟩) (Or.inr ⟨_, rfl⟩) (fun t ht hW => gb_rq (some (ak 15)) ht ⟨by rw [← e2], by rw [← e1]; exact hP⟩ hS) hS.2.2 dX7_wordOf_131
  rw [if_neg c_16] at h
  by_cases c_17 : p1 = (16 : Int32)
  · rw [if_pos c_17] at h
    refine lv_tableIn (off := 131) (tgt := 132) hx hb dX7_wordOf_1 (by rw [c_17]; decide) (by rw [c_17]; decide) (by rw [c_17]; decide) (by decide) ?_
    refine va_ldcS (own := RX7) (tx := "most") (q := ak 16) hx hb hown (hSt2.2.2.1 16 (by decide)) dX7_wordOf_132 ?_
    obtain ⟨e1, e2⟩ := gb_eq2 h
    exact W.aret (v := (.ref (ak 16))) hx hb hr (Or.inl ⟨_, rfl⟩) (Or.inr ⟨_, rfl⟩) (fun t ht hW => gb_rq (some (ak 16)) ht ⟨by rw [← e2], by rw [← e1]; exact hP⟩ hS) hS.2.2 dX7_wordOf_134
  rw [if_neg c_17] at h
  refine lv_tableOut (tgt := 135) hx hb dX7_wordOf_1 (by have := lv_neT c_1 (a := 0) rfl; have := lv_neT c_2 (a := 1) rfl; have := lv_neT c_3 (a := 2) rfl; have := lv_neT c_4 (a := 3) rfl; have := lv_neT c_5 (a := 4) rfl; have := lv_neT c_6 (a := 5) rfl; have := lv_neT c_7 (a := 6) rfl; have := lv_neT c_8 (a := 7) rfl; have := lv_neT c_9 (a := 8) rfl; have := lv_neT c_10 (a := 9) rfl; have := lv_neT c_11 (a := 10) rfl; have := lv_neT c_12 (a := 11) rfl; have := lv_neT c_13 (a := 12) rfl; have := lv_neT c_14 (a := 13) rfl; have := lv_neT c_15 (a := 14) rfl; have := lv_neT c_16 (a := 15) rfl; have := lv_neT c_17 (a := 16) rfl; omega) (by decide) ?_
  refine va_ldcS (own := RX7) (tx := "left") (q := ak 17) hx hb hown (hSt2.2.2.1 17 (by decide)) dX7_wordOf_135 ?_
  obtain ⟨e1, e2⟩ := gb_eq2 h
  exact W.aret (v := (.ref (ak 17))) hx hb hr (Or.inl ⟨_, rfl⟩) (Or.inr ⟨_, rfl⟩) (fun t ht hW => gb_rq (some (ak 17)) ht ⟨by rw [← e2], by rw [← e1]; exact hP⟩ hS) hS.2.2 dX7_wordOf_137
theorem w_395 : (Cond.code ({ cls := "GooseBorder$Reader", name := "wordOf", desc := "(I)Ljava/lang/String;" } : MethodName) prog_9_method_10_code (1 : Nat) (Option.some (FieldType.object "java/lang/String"))) ∈ gb_wA := gb_t2 155 rfl rfl
theorem w_393 : (Cond.methodLink "GooseBorder$Reader" (80 : Nat) ({ cls := "GooseBorder$Reader", name := "wordOf", desc := "(I)Ljava/lang/String;" } : MethodName)) ∈ gb_wA := gb_t2 153 rfl rfl
theorem w_394 : (Cond.static ({ cls := "GooseBorder$Reader", name := "wordOf", desc := "(I)Ljava/lang/String;" } : MethodName)) ∈ gb_wA := gb_t2 154 rfl rfl
theorem dX7_takeWord_63 : decode cX7_takeWord 63 = .ok (.iload_n 2, 1) := dc_28 (show ((cX7_takeWord.data.toList.drop 63).take 1).map UInt8.toNat = [28] by decide +kernel)
theorem dX7_takeWord_64 : decode cX7_takeWord 64 = .ok (.invokevirtual 84, 3) := dc_182 (show ((cX7_takeWord.data.toList.drop 64).take 3).map UInt8.toNat = [182, 0, 84] by decide +kernel) rfl
theorem dX7_isWord_0 : decode cX7_isWord 0 = .ok (.iload_n 2, 1) := dc_28 (show ((cX7_isWord.data.toList.drop 0).take 1).map UInt8.toNat = [28] by decide +kernel)
theorem dX7_isWord_1 : decode cX7_isWord 1 = .ok (.aload_n 0, 1) := dc_42 (show ((cX7_isWord.data.toList.drop 1).take 1).map UInt8.toNat = [42] by decide +kernel)
theorem dX7_isWord_2 : decode cX7_isWord 2 = .ok (.getfield 29, 3) := dc_180 (show ((cX7_isWord.data.toList.drop 2).take 3).map UInt8.toNat = [180, 0, 29] by decide +kernel) rfl
theorem dX7_isWord_5 : decode cX7_isWord 5 = .ok (.isub, 1) := dc_100 (show ((cX7_isWord.data.toList.drop 5).take 1).map UInt8.toNat = [100] by decide +kernel)
theorem dX7_isWord_6 : decode cX7_isWord 6 = .ok (.aload_n 1, 1) := dc_43 (show ((cX7_isWord.data.toList.drop 6).take 1).map UInt8.toNat = [43] by decide +kernel)
theorem dX7_isWord_7 : decode cX7_isWord 7 = .ok (.invokevirtual 88, 3) := dc_182 (show ((cX7_isWord.data.toList.drop 7).take 3).map UInt8.toNat = [182, 0, 88] by decide +kernel) rfl
theorem dJ0_length_8abf5_0 : decode cJ0_length_8abf5 0 = .ok (.aload_n 0, 1) := dc_42 (show ((cJ0_length_8abf5.data.toList.drop 0).take 1).map UInt8.toNat = [42] by decide +kernel)
theorem dJ0_length_8abf5_1 : decode cJ0_length_8abf5 1 = .ok (.getfield 9, 3) := dc_180 (show ((cJ0_length_8abf5.data.toList.drop 1).take 3).map UInt8.toNat = [180, 0, 9] by decide +kernel) rfl
theorem w_1738 : (Cond.fieldLink "java/lang/String" (9 : Nat) "java/lang/String" "value" "[B") ∈ gb_wA := gb_t8 58 rfl rfl
theorem dJ0_length_8abf5_4 : decode cJ0_length_8abf5 4 = .ok (.arraylength, 1) := dc_190 (show ((cJ0_length_8abf5.data.toList.drop 4).take 1).map UInt8.toNat = [190] by decide +kernel)
theorem dJ0_length_8abf5_5 : decode cJ0_length_8abf5 5 = .ok (.aload_n 0, 1) := dc_42 (show ((cJ0_length_8abf5.data.toList.drop 5).take 1).map UInt8.toNat = [42] by decide +kernel)
theorem dJ0_length_8abf5_6 : decode cJ0_length_8abf5 6 = .ok (.invokevirtual 335, 3) := dc_182 (show ((cJ0_length_8abf5.data.toList.drop 6).take 3).map UInt8.toNat = [182, 1, 79] by decide +kernel) rfl
theorem dJ0_coder_7d493_0 : decode cJ0_coder_7d493 0 = .ok (.getstatic 38, 3) := dc_178 (show ((cJ0_coder_7d493.data.toList.drop 0).take 3).map UInt8.toNat = [178, 0, 38] by decide +kernel) rfl
theorem w_426 : (Cond.fieldLink "java/lang/String" (38 : Nat) "java/lang/String" "COMPACT_STRINGS" "Z") ∈ gb_wA := gb_t2 186 rfl rfl
theorem dJ0_coder_7d493_3 : decode cJ0_coder_7d493 3 = .ok (.ifCond .eq 10, 3) := dc_153 (show ((cJ0_coder_7d493.data.toList.drop 3).take 3).map UInt8.toNat = [153, 0, 10] by decide +kernel) rfl
theorem dJ0_coder_7d493_13 : decode cJ0_coder_7d493 13 = .ok (.iconst 1, 1) := dc_4 (show ((cJ0_coder_7d493.data.toList.drop 13).take 1).map UInt8.toNat = [4] by decide +kernel)
theorem dJ0_coder_7d493_14 : decode cJ0_coder_7d493 14 = .ok (.ireturn, 1) := dc_172 (show ((cJ0_coder_7d493.data.toList.drop 14).take 1).map UInt8.toNat = [172] by decide +kernel)
theorem dJ0_coder_7d493_6 : decode cJ0_coder_7d493 6 = .ok (.aload_n 0, 1) := dc_42 (show ((cJ0_coder_7d493.data.toList.drop 6).take 1).map UInt8.toNat = [42] by decide +kernel)
theorem dJ0_coder_7d493_7 : decode cJ0_coder_7d493 7 = .ok (.getfield 15, 3) := dc_180 (show ((cJ0_coder_7d493.data.toList.drop 7).take 3).map UInt8.toNat = [180, 0, 15] by decide +kernel) rfl
theorem w_1739 : (Cond.fieldLink "java/lang/String" (15 : Nat) "java/lang/String" "coder" "B") ∈ gb_wA := gb_t8 59 rfl rfl
theorem dJ0_coder_7d493_10 : decode cJ0_coder_7d493 10 = .ok (.goto 4, 3) := dc_167 (show ((cJ0_coder_7d493.data.toList.drop 10).take 3).map UInt8.toNat = [167, 0, 4] by decide +kernel) rfl
def cs_java_lang_String_coder_W (n : Nat) (σ : gb_S) (k0 : Nat) : gb_CR Int32 := gb_kk (gb_kW k0) ((if (1 : Int32) = 0 then some (σ, 1) else some (σ, 0)))
set_option maxHeartbeats 8000000 in
set_option maxRecDepth 100000 in
theorem cc_java_lang_String_coder_W (l : Launch) (D : va_G) (cT : Nat → ClassId) (tt : Nat → Nat) (ak av : Nat → Nat) (b1 b : Nat) (hb1 : b1 ≤ b) (n : Nat) (σ : gb_S) (k0 : Nat) (σE : gb_S) (rE : Int32) (h : cs_java_lang_String_coder_W n σ k0 = some (σE, rE)) : Met l yJ0_coder_7d493 (.code yJ0_coder_7d493 cJ0_coder_7d493 1 (some FieldType.byte) :: gb_wA) ({ frames := 0, cells := 0, slots := 0, locals := 0 }) (gb_Pc2 D cT tt ak av b1 [.ref (ak k0)] (fun h => va_P D vwCl (gb_wl b (gb_CW cT b σ)) h)) (gb_Qi (fun r h => r = rE ∧ va_P D vwCl (gb_wl b (gb_CW cT b σE)) h) (gb_fr b 135)) 0 0 (gb_fr b 135) := by
  refine Met.ofW (cc := cJ0_coder_7d493) (maxL := 1) (ret := (some FieldType.byte)) (by decide) rfl ?_
  intro p e s m args below meth c s₁ B hml hv
  obtain ⟨rfl, hSt2, hP⟩ := hv
  have hSt := hSt2.1
  have hx := B.exec
  have hb := B.bytes
  have hr := B.returns
  have hts := atoms_spec (ws := .code yJ0_coder_7d493 cJ0_coder_7d493 1 (some FieldType.byte) :: gb_wA) B.pre
  have hq : ∀ w ∈ gb_wA, w.before _ s = true := fun w h => hts w (List.mem_cons_of_mem _ h)
  have hown : s.vm.findClass RJ0 = some m.cls := findClass_of_methodNamed B.named
  have hlocks := B.notSynchronized
  clear B hts
  have hK := hSt.1
  have hS : va_S (gb_fr b 135) s.heap s.heap [] := va_S.rf
  have hl := lv_entry ([.ref (ak k0)]) (n := 1) (Nat.le_of_ble_eq_true rfl)
  rw [lg_entry_eq]
  generalize (lg_sl ([.ref (ak k0)]) ++ List.replicate (1 - (lg_sl ([.ref (ak k0)])).length) Slot.unset).toArray = ls at hl ⊢
  replace hl : lv_has ls 1 [(0, .ref (ak k0))] := hl
  unfold cs_java_lang_String_coder_W at h
  obtain ⟨z_1, h⟩ := gb_kk_s h
  refine va_gets hx hb (hSt2.2.2.2.1.narrow (fun q h => Nat.le_trans hb1 h.1)) hS hown (hq _ w_426) (fun _ h9 => h9) dJ0_coder_7d493_0 ?_
  refine lv_if_eq (tgt := 13) hx hb dJ0_coder_7d493_3 (by decide) (fun c_2 => ?_) (fun c_2 => ?_)
  · rw [if_pos c_2] at h
    refine lv_iconst (v := 1) hx hb dJ0_coder_7d493_13 (by decide) ?_
    obtain ⟨e1, e2⟩ := gb_eq2 h
    exact W.zret (v := 1) hx hb hr (by decide) (fun t ht hW => gb_ri ht ⟨e2, by rw [← e1]; exact hP⟩ hS) hS.2.2 dJ0_coder_7d493_14
  · rw [if_neg c_2] at h
    refine lv_aload_n hx hb dJ0_coder_7d493_6 rfl (lv_at hl 0 rfl) ?_
    refine vk_getf hx hb ((hSt2.2.1.1 k0 (gb_kW_lt z_1)).2.1.narrow (fun q h => Nat.le_trans hb1 h.1)) hS hown (hq _ w_1739) (fun _ h9 => h9) dJ0_coder_7d493_7 ?_
    refine lv_goto (tgt := 14) hx hb dJ0_coder_7d493_10 (by decide) ?_
    obtain ⟨e1, e2⟩ := gb_eq2 h
    exact W.zret (v := 0) hx hb hr (by decide) (fun t ht hW => gb_ri ht ⟨e2, by rw [← e1]; exact hP⟩ hS) hS.2.2 dJ0_coder_7d493_14
theorem w_425 : (Cond.code ({ cls := "java/lang/String", name := "coder", desc := "()B" } : MethodName) prog_17_method_152_code (1 : Nat) (Option.some FieldType.byte)) ∈ gb_wA := gb_t2 185 rfl rfl
theorem w_422 : (Cond.methodLink "java/lang/String" (335 : Nat) ({ cls := "java/lang/String", name := "coder", desc := "()B" } : MethodName)) ∈ gb_wA := gb_t2 182 rfl rfl
theorem w_423 : (Cond.instanceMethod ({ cls := "java/lang/String", name := "coder", desc := "()B" } : MethodName)) ∈ gb_wA := gb_t2 183 rfl rfl
theorem w_424 : (Cond.selects "java/lang/String" ({ cls := "java/lang/String", name := "coder", desc := "()B" } : MethodName) ({ cls := "java/lang/String", name := "coder", desc := "()B" } : MethodName)) ∈ gb_wA := gb_t2 184 rfl rfl
theorem w_15 : (Cond.initialized "java/lang/String") ∈ gb_wA := gb_t1 15 rfl rfl
theorem dJ0_length_8abf5_9 : decode cJ0_length_8abf5 9 = .ok (.ishr, 1) := dc_122 (show ((cJ0_length_8abf5.data.toList.drop 9).take 1).map UInt8.toNat = [122] by decide +kernel)
theorem dJ0_length_8abf5_10 : decode cJ0_length_8abf5 10 = .ok (.ireturn, 1) := dc_172 (show ((cJ0_length_8abf5.data.toList.drop 10).take 1).map UInt8.toNat = [172] by decide +kernel)
def cs_java_lang_String_length_W (n : Nat) (σ : gb_S) (k0 : Nat) : gb_CR Int32 := gb_kk (gb_kW k0) (gb_cd (cs_java_lang_String_coder_W n σ k0) (fun s_2 r_3 => some (s_2, ((Int32.ofNat (gb_slen.getD k0 0)) >>> (r_3 &&& 31)))))
set_option maxHeartbeats 8000000 in
set_option maxRecDepth 100000 in
theorem cc_java_lang_String_length_W (l : Launch) (D : va_G) (cT : Nat → ClassId) (tt : Nat → Nat) (ak av : Nat → Nat) (b1 b : Nat) (hb1 : b1 ≤ b) (n : Nat) (σ : gb_S) (k0 : Nat) (σE : gb_S) (rE : Int32) (h : cs_java_lang_String_length_W n σ k0 = some (σE, rE)) : Met l yJ0_length_8abf5 (.code yJ0_length_8abf5 cJ0_length_8abf5 1 (some FieldType.int) :: gb_wA) ({ frames := 1, cells := 0, slots := 0, locals := 20 }) (gb_Pc2 D cT tt ak av b1 [.ref (ak k0)] (fun h => va_P D vwCl (gb_wl b (gb_CW cT b σ)) h)) (gb_Qi (fun r h => r = rE ∧ va_P D vwCl (gb_wl b (gb_CW cT b σE)) h) (gb_fr b 135)) 0 0 (gb_fr b 135) := by
  refine Met.ofW (cc := cJ0_length_8abf5) (maxL := 1) (ret := (some FieldType.int)) (by decide) rfl ?_
  intro p e s m args below meth c s₁ B hml hv
  obtain ⟨rfl, hSt2, hP⟩ := hv
  have hSt := hSt2.1
  have hx := B.exec
  have hb := B.bytes
  have hr := B.returns
  have hts := atoms_spec (ws := .code yJ0_length_8abf5 cJ0_length_8abf5 1 (some FieldType.int) :: gb_wA) B.pre
  have hq : ∀ w ∈ gb_wA, w.before _ s = true := fun w h => hts w (List.mem_cons_of_mem _ h)
  have hown : s.vm.findClass RJ0 = some m.cls := findClass_of_methodNamed B.named
  have hlocks := B.notSynchronized
  clear B hts
  have hK := hSt.1
  have hS : va_S (gb_fr b 135) s.heap s.heap [] := va_S.rf
  have hl := lv_entry ([.ref (ak k0)]) (n := 1) (Nat.le_of_ble_eq_true rfl)
  rw [lg_entry_eq]
  generalize (lg_sl ([.ref (ak k0)]) ++ List.replicate (1 - (lg_sl ([.ref (ak k0)])).length) Slot.unset).toArray = ls at hl ⊢
  replace hl : lv_has ls 1 [(0, .ref (ak k0))] := hl
  unfold cs_java_lang_String_length_W at h
  obtain ⟨z_1, h⟩ := gb_kk_s h
  refine lv_aload_n hx hb dJ0_length_8abf5_0 rfl (lv_at hl 0 rfl) ?_
  refine vk_getf hx hb ((hSt2.2.1.1 k0 (gb_kW_lt z_1)).2.2.1.narrow (fun q h => Nat.le_trans hb1 h.1)) hS hown (hq _ w_1738) (fun _ h9 => h9) dJ0_length_8abf5_1 ?_
  refine va_tlen (v := (Int32.ofNat (gb_slen.getD k0 0))) hx hb ((hSt2.2.1.1 k0 (gb_kW_lt z_1)).2.2.2.narrow (fun q h => Nat.le_trans hb1 h.1)) hS rfl dJ0_length_8abf5_4 ?_
  refine lv_aload_n hx hb dJ0_length_8abf5_5 rfl (lv_at hl 0 rfl) ?_
  obtain ⟨s_2, r_3, z_4, h⟩ := gb_cd_s h
  refine gb_calli (va_runV (C := RJ0) (As := []) (rest := [.int (Int32.ofNat (gb_slen.getD k0 0))]) ⟨hx, hb, hml, hown, hq⟩ (cc_java_lang_String_coder_W l D cT tt ak av b1 b hb1 n σ k0 s_2 r_3 z_4) (cwV 0 hq (gb_gV w_422 w_423 w_424 w_15 w_425) rfl rfl rfl (by decide +kernel) ⟨Nat.le_of_ble_eq_true rfl, Nat.le_of_ble_eq_true rfl⟩) (gb_preW hSt2 (gb_kW_lt z_1) hS (fun q h => Nat.le_trans hb1 h.1) hP) rfl rfl hl.1 rfl (lv_room (Nat.le_of_ble_eq_true rfl)) dJ0_length_8abf5_6 ⟨Nat.le_of_ble_eq_true rfl, Nat.le_of_ble_eq_true rfl⟩) hS (fun _ h => h) (fun _ h => h) (fun q_5 H locs hY hk hS => ?_)
  obtain ⟨hq_5, hP⟩ := hY
  replace hq_5 := hq_5.symm
  subst hq_5
  refine lv_ishr hx hb dJ0_length_8abf5_9 ?_
  obtain ⟨e1, e2⟩ := gb_eq2 h
  exact W.iret (v := ((Int32.ofNat (gb_slen.getD k0 0)) >>> (r_3 &&& 31))) hx hb hr (fun t ht hW => gb_ri ht ⟨e2, by rw [← e1]; exact hP⟩ hS) hS.2.2 dJ0_length_8abf5_10
theorem w_421 : (Cond.code ({ cls := "java/lang/String", name := "length", desc := "()I" } : MethodName) prog_17_method_54_code (1 : Nat) (Option.some FieldType.int)) ∈ gb_wA := gb_t2 181 rfl rfl
theorem w_418 : (Cond.methodLink "GooseBorder$Reader" (88 : Nat) ({ cls := "java/lang/String", name := "length", desc := "()I" } : MethodName)) ∈ gb_wA := gb_t2 178 rfl rfl
theorem w_419 : (Cond.instanceMethod ({ cls := "java/lang/String", name := "length", desc := "()I" } : MethodName)) ∈ gb_wA := gb_t2 179 rfl rfl
theorem w_420 : (Cond.selects "java/lang/String" ({ cls := "java/lang/String", name := "length", desc := "()I" } : MethodName) ({ cls := "java/lang/String", name := "length", desc := "()I" } : MethodName)) ∈ gb_wA := gb_t2 180 rfl rfl
theorem dX7_isWord_10 : decode cX7_isWord 10 = .ok (.if_icmp .eq 5, 3) := dc_159 (show ((cX7_isWord.data.toList.drop 10).take 3).map UInt8.toNat = [159, 0, 5] by decide +kernel) rfl
theorem dX7_isWord_15 : decode cX7_isWord 15 = .ok (.iconst 0, 1) := dc_3 (show ((cX7_isWord.data.toList.drop 15).take 1).map UInt8.toNat = [3] by decide +kernel)
theorem dX7_isWord_16 : decode cX7_isWord 16 = .ok (.istore_n 3, 1) := dc_62 (show ((cX7_isWord.data.toList.drop 16).take 1).map UInt8.toNat = [62] by decide +kernel)
theorem dX7_isWord_17 : decode cX7_isWord 17 = .ok (.iload_n 3, 1) := dc_29 (show ((cX7_isWord.data.toList.drop 17).take 1).map UInt8.toNat = [29] by decide +kernel)
theorem dX7_isWord_18 : decode cX7_isWord 18 = .ok (.aload_n 1, 1) := dc_43 (show ((cX7_isWord.data.toList.drop 18).take 1).map UInt8.toNat = [43] by decide +kernel)
theorem dX7_isWord_19 : decode cX7_isWord 19 = .ok (.invokevirtual 88, 3) := dc_182 (show ((cX7_isWord.data.toList.drop 19).take 3).map UInt8.toNat = [182, 0, 88] by decide +kernel) rfl
theorem dX7_isWord_22 : decode cX7_isWord 22 = .ok (.if_icmp .ge 30, 3) := dc_162 (show ((cX7_isWord.data.toList.drop 22).take 3).map UInt8.toNat = [162, 0, 30] by decide +kernel) rfl
theorem dX7_isWord_52 : decode cX7_isWord 52 = .ok (.iconst 1, 1) := dc_4 (show ((cX7_isWord.data.toList.drop 52).take 1).map UInt8.toNat = [4] by decide +kernel)
theorem dX7_isWord_53 : decode cX7_isWord 53 = .ok (.ireturn, 1) := dc_172 (show ((cX7_isWord.data.toList.drop 53).take 1).map UInt8.toNat = [172] by decide +kernel)
theorem dX7_isWord_25 : decode cX7_isWord 25 = .ok (.aload_n 0, 1) := dc_42 (show ((cX7_isWord.data.toList.drop 25).take 1).map UInt8.toNat = [42] by decide +kernel)
theorem dX7_isWord_26 : decode cX7_isWord 26 = .ok (.getfield 15, 3) := dc_180 (show ((cX7_isWord.data.toList.drop 26).take 3).map UInt8.toNat = [180, 0, 15] by decide +kernel) rfl
theorem dX7_isWord_29 : decode cX7_isWord 29 = .ok (.aload_n 0, 1) := dc_42 (show ((cX7_isWord.data.toList.drop 29).take 1).map UInt8.toNat = [42] by decide +kernel)
theorem dX7_isWord_30 : decode cX7_isWord 30 = .ok (.getfield 29, 3) := dc_180 (show ((cX7_isWord.data.toList.drop 30).take 3).map UInt8.toNat = [180, 0, 29] by decide +kernel) rfl
theorem dX7_isWord_33 : decode cX7_isWord 33 = .ok (.iload_n 3, 1) := dc_29 (show ((cX7_isWord.data.toList.drop 33).take 1).map UInt8.toNat = [29] by decide +kernel)
theorem dX7_isWord_34 : decode cX7_isWord 34 = .ok (.iadd, 1) := dc_96 (show ((cX7_isWord.data.toList.drop 34).take 1).map UInt8.toNat = [96] by decide +kernel)
theorem dX7_isWord_35 : decode cX7_isWord 35 = .ok (.baload, 1) := dc_51 (show ((cX7_isWord.data.toList.drop 35).take 1).map UInt8.toNat = [51] by decide +kernel)
theorem dX7_isWord_36 : decode cX7_isWord 36 = .ok (.aload_n 1, 1) := dc_43 (show ((cX7_isWord.data.toList.drop 36).take 1).map UInt8.toNat = [43] by decide +kernel)
theorem dX7_isWord_37 : decode cX7_isWord 37 = .ok (.iload_n 3, 1) := dc_29 (show ((cX7_isWord.data.toList.drop 37).take 1).map UInt8.toNat = [29] by decide +kernel)
theorem dX7_isWord_38 : decode cX7_isWord 38 = .ok (.invokevirtual 93, 3) := dc_182 (show ((cX7_isWord.data.toList.drop 38).take 3).map UInt8.toNat = [182, 0, 93] by decide +kernel) rfl
theorem dJ0_charAt_5068e_0 : decode cJ0_charAt_5068e 0 = .ok (.aload_n 0, 1) := dc_42 (show ((cJ0_charAt_5068e.data.toList.drop 0).take 1).map UInt8.toNat = [42] by decide +kernel)
theorem dJ0_charAt_5068e_1 : decode cJ0_charAt_5068e 1 = .ok (.invokevirtual 492, 3) := dc_182 (show ((cJ0_charAt_5068e.data.toList.drop 1).take 3).map UInt8.toNat = [182, 1, 236] by decide +kernel) rfl
theorem dJ0_isLatin1_aae02_0 : decode cJ0_isLatin1_aae02 0 = .ok (.getstatic 38, 3) := dc_178 (show ((cJ0_isLatin1_aae02.data.toList.drop 0).take 3).map UInt8.toNat = [178, 0, 38] by decide +kernel) rfl
theorem dJ0_isLatin1_aae02_3 : decode cJ0_isLatin1_aae02 3 = .ok (.ifCond .eq 14, 3) := dc_153 (show ((cJ0_isLatin1_aae02.data.toList.drop 3).take 3).map UInt8.toNat = [153, 0, 14] by decide +kernel) rfl
theorem dJ0_isLatin1_aae02_17 : decode cJ0_isLatin1_aae02 17 = .ok (.iconst 0, 1) := dc_3 (show ((cJ0_isLatin1_aae02.data.toList.drop 17).take 1).map UInt8.toNat = [3] by decide +kernel)
theorem dJ0_isLatin1_aae02_18 : decode cJ0_isLatin1_aae02 18 = .ok (.ireturn, 1) := dc_172 (show ((cJ0_isLatin1_aae02.data.toList.drop 18).take 1).map UInt8.toNat = [172] by decide +kernel)
theorem dJ0_isLatin1_aae02_6 : decode cJ0_isLatin1_aae02 6 = .ok (.aload_n 0, 1) := dc_42 (show ((cJ0_isLatin1_aae02.data.toList.drop 6).take 1).map UInt8.toNat = [42] by decide +kernel)
theorem dJ0_isLatin1_aae02_7 : decode cJ0_isLatin1_aae02 7 = .ok (.getfield 15, 3) := dc_180 (show ((cJ0_isLatin1_aae02.data.toList.drop 7).take 3).map UInt8.toNat = [180, 0, 15] by decide +kernel) rfl
theorem dJ0_isLatin1_aae02_10 : decode cJ0_isLatin1_aae02 10 = .ok (.ifCond .ne 7, 3) := dc_154 (show ((cJ0_isLatin1_aae02.data.toList.drop 10).take 3).map UInt8.toNat = [154, 0, 7] by decide +kernel) rfl
theorem dJ0_isLatin1_aae02_13 : decode cJ0_isLatin1_aae02 13 = .ok (.iconst 1, 1) := dc_4 (show ((cJ0_isLatin1_aae02.data.toList.drop 13).take 1).map UInt8.toNat = [4] by decide +kernel)
theorem dJ0_isLatin1_aae02_14 : decode cJ0_isLatin1_aae02 14 = .ok (.goto 4, 3) := dc_167 (show ((cJ0_isLatin1_aae02.data.toList.drop 14).take 3).map UInt8.toNat = [167, 0, 4] by decide +kernel) rfl
def cs_java_lang_String_isLatin1_W (n : Nat) (σ : gb_S) (k0 : Nat) : gb_CR Int32 := gb_kk (gb_kW k0) ((if (1 : Int32) = 0 then some (σ, 0) else (if (0 : Int32) = 0 then some (σ, 1) else some (σ, 0))))
set_option maxHeartbeats 8000000 in
set_option maxRecDepth 100000 in
theorem cc_java_lang_String_isLatin1_W (l : Launch) (D : va_G) (cT : Nat → ClassId) (tt : Nat → Nat) (ak av : Nat → Nat) (b1 b : Nat) (hb1 : b1 ≤ b) (n : Nat) (σ : gb_S) (k0 : Nat) (σE : gb_S) (rE : Int32) (h : cs_java_lang_String_isLatin1_W n σ k0 = some (σE, rE)) : Met l yJ0_isLatin1_aae02 (.code yJ0_isLatin1_aae02 cJ0_isLatin1_aae02 1 (some FieldType.boolean) :: gb_wA) ({ frames := 0, cells := 0, slots := 0, locals := 0 }) (gb_Pc2 D cT tt ak av b1 [.ref (ak k0)] (fun h => va_P D vwCl (gb_wl b (gb_CW cT b σ)) h)) (gb_Qi (fun r h => r = rE ∧ va_P D vwCl (gb_wl b (gb_CW cT b σE)) h) (gb_fr b 135)) 0 0 (gb_fr b 135) := by
  refine Met.ofW (cc := cJ0_isLatin1_aae02) (maxL := 1) (ret := (some FieldType.boolean)) (by decide) rfl ?_
  intro p e s m args below meth c s₁ B hml hv
  obtain ⟨rfl, hSt2, hP⟩ := hv
  have hSt := hSt2.1
  have hx := B.exec
  have hb := B.bytes
  have hr := B.returns
  have hts := atoms_spec (ws := .code yJ0_isLatin1_aae02 cJ0_isLatin1_aae02 1 (some FieldType.boolean) :: gb_wA) B.pre
  have hq : ∀ w ∈ gb_wA, w.before _ s = true := fun w h => hts w (List.mem_cons_of_mem _ h)
  have hown : s.vm.findClass RJ0 = some m.cls := findClass_of_methodNamed B.named
  have hlocks := B.notSynchronized
  clear B hts
  have hK := hSt.1
  have hS : va_S (gb_fr b 135) s.heap s.heap [] := va_S.rf
  have hl := lv_entry ([.ref (ak k0)]) (n := 1) (Nat.le_of_ble_eq_true rfl)
  rw [lg_entry_eq]
  generalize (lg_sl ([.ref (ak k0)]) ++ List.replicate (1 - (lg_sl ([.ref (ak k0)])).length) Slot.unset).toArray = ls at hl ⊢
  replace hl : lv_has ls 1 [(0, .ref (ak k0))] := hl
  unfold cs_java_lang_String_isLatin1_W at h
  obtain ⟨z_1, h⟩ := gb_kk_s h
  refine va_gets hx hb (hSt2.2.2.2.1.narrow (fun q h => Nat.le_trans hb1 h.1)) hS hown (hq _ w_426) (fun _ h9 => h9) dJ0_isLatin1_aae02_0 ?_
  refine lv_if_eq (tgt := 17) hx hb dJ0_isLatin1_aae02_3 (by decide) (fun c_2 => ?_) (fun c_2 => ?_)
  · rw [if_pos c_2] at h
    refine lv_iconst (v := 0) hx hb dJ0_isLatin1_aae02_17 (by decide) ?_
    obtain ⟨e1, e2⟩ := gb_eq2 h
    exact W.zret (v := 0) hx hb hr (by decide) (fun t ht hW => gb_ri ht ⟨e2, by rw [← e1]; exact hP⟩ hS) hS.2.2 dJ0_isLatin1_aae02_18
  · rw [if_neg c_2] at h
    refine lv_aload_n hx hb dJ0_isLatin1_aae02_6 rfl (lv_at hl 0 rfl) ?_
    refine vk_getf hx hb ((hSt2.2.1.1 k0 (gb_kW_lt z_1)).2.1.narrow (fun q h => Nat.le_trans hb1 h.1)) hS hown (hq _ w_1739) (fun _ h9 => h9) dJ0_isLatin1_aae02_7 ?_
    refine lv_if_ne (tgt := 17) hx hb dJ0_isLatin1_aae02_10 (by decide) (fun c_3 => ?_) (fun c_3 => ?_)
    · rw [if_neg c_3] at h
      refine lv_iconst (v := 0) hx hb dJ0_isLatin1_aae02_17 (by decide) ?_
      obtain ⟨e1, e2⟩ := gb_eq2 h
      exact W.zret (v := 0) hx hb hr (by decide) (fun t ht hW => gb_ri ht ⟨e2, by rw [← e1]; exact hP⟩ hS) hS.2.2 dJ0_isLatin1_aae02_18
    · rw [if_pos c_3] at h
      refine lv_iconst (v := 1) hx hb dJ0_isLatin1_aae02_13 (by decide) ?_
      refine lv_goto (tgt := 18) hx hb dJ0_isLatin1_aae02_14 (by decide) ?_
      obtain ⟨e1, e2⟩ := gb_eq2 h
      exact W.zret (v := 1) hx hb hr (by decide) (fun t ht hW => gb_ri ht ⟨e2, by rw [← e1]; exact hP⟩ hS) hS.2.2 dJ0_isLatin1_aae02_18
theorem w_435 : (Cond.code ({ cls := "java/lang/String", name := "isLatin1", desc := "()Z" } : MethodName) prog_17_method_154_code (1 : Nat) (Option.some FieldType.boolean)) ∈ gb_wA := gb_t2 195 rfl rfl
theorem w_432 : (Cond.methodLink "java/lang/String" (492 : Nat) ({ cls := "java/lang/String", name := "isLatin1", desc := "()Z" } : MethodName)) ∈ gb_wA := gb_t2 192 rfl rfl
theorem w_433 : (Cond.instanceMethod ({ cls := "java/lang/String", name := "isLatin1", desc := "()Z" } : MethodName)) ∈ gb_wA := gb_t2 193 rfl rfl
theorem w_434 : (Cond.selects "java/lang/String" ({ cls := "java/lang/String", name := "isLatin1", desc := "()Z" } : MethodName) ({ cls := "java/lang/String", name := "isLatin1", desc := "()Z" } : MethodName)) ∈ gb_wA := gb_t2 194 rfl rfl
theorem dJ0_charAt_5068e_4 : decode cJ0_charAt_5068e 4 = .ok (.ifCond .eq 12, 3) := dc_153 (show ((cJ0_charAt_5068e.data.toList.drop 4).take 3).map UInt8.toNat = [153, 0, 12] by decide +kernel) rfl
theorem dJ0_charAt_5068e_16 : decode cJ0_charAt_5068e 16 = .ok (.aload_n 0, 1) := dc_42 (show ((cJ0_charAt_5068e.data.toList.drop 16).take 1).map UInt8.toNat = [42] by decide +kernel)
theorem dJ0_charAt_5068e_7 : decode cJ0_charAt_5068e 7 = .ok (.aload_n 0, 1) := dc_42 (show ((cJ0_charAt_5068e.data.toList.drop 7).take 1).map UInt8.toNat = [42] by decide +kernel)
theorem dJ0_charAt_5068e_8 : decode cJ0_charAt_5068e 8 = .ok (.getfield 9, 3) := dc_180 (show ((cJ0_charAt_5068e.data.toList.drop 8).take 3).map UInt8.toNat = [180, 0, 9] by decide +kernel) rfl
theorem dJ0_charAt_5068e_11 : decode cJ0_charAt_5068e 11 = .ok (.iload_n 1, 1) := dc_27 (show ((cJ0_charAt_5068e.data.toList.drop 11).take 1).map UInt8.toNat = [27] by decide +kernel)
theorem dJ0_charAt_5068e_12 : decode cJ0_charAt_5068e 12 = .ok (.invokestatic 495, 3) := dc_184 (show ((cJ0_charAt_5068e.data.toList.drop 12).take 3).map UInt8.toNat = [184, 1, 239] by decide +kernel) rfl
theorem dJ1_charAt_3b067_0 : decode cJ1_charAt_3b067 0 = .ok (.iload_n 1, 1) := dc_27 (show ((cJ1_charAt_3b067.data.toList.drop 0).take 1).map UInt8.toNat = [27] by decide +kernel)
theorem dJ1_charAt_3b067_1 : decode cJ1_charAt_3b067 1 = .ok (.aload_n 0, 1) := dc_42 (show ((cJ1_charAt_3b067.data.toList.drop 1).take 1).map UInt8.toNat = [42] by decide +kernel)
theorem dJ1_charAt_3b067_2 : decode cJ1_charAt_3b067 2 = .ok (.arraylength, 1) := dc_190 (show ((cJ1_charAt_3b067.data.toList.drop 2).take 1).map UInt8.toNat = [190] by decide +kernel)
theorem dJ1_charAt_3b067_3 : decode cJ1_charAt_3b067 3 = .ok (.invokestatic 9, 3) := dc_184 (show ((cJ1_charAt_3b067.data.toList.drop 3).take 3).map UInt8.toNat = [184, 0, 9] by decide +kernel) rfl
theorem dJ0_checkIndex_df160_0 : decode cJ0_checkIndex_df160 0 = .ok (.iload_n 0, 1) := dc_26 (show ((cJ0_checkIndex_df160.data.toList.drop 0).take 1).map UInt8.toNat = [26] by decide +kernel)
theorem dJ0_checkIndex_df160_1 : decode cJ0_checkIndex_df160 1 = .ok (.iload_n 1, 1) := dc_27 (show ((cJ0_checkIndex_df160.data.toList.drop 1).take 1).map UInt8.toNat = [27] by decide +kernel)
theorem dJ0_checkIndex_df160_2 : decode cJ0_checkIndex_df160 2 = .ok (.getstatic 1053, 3) := dc_178 (show ((cJ0_checkIndex_df160.data.toList.drop 2).take 3).map UInt8.toNat = [178, 4, 29] by decide +kernel) rfl
theorem w_442 : (Cond.fieldLink "java/lang/String" (1053 : Nat) "jdk/internal/util/Preconditions" "SIOOBE_FORMATTER" "Ljava/util/function/BiFunction;") ∈ gb_wA := gb_t2 202 rfl rfl
theorem dJ0_checkIndex_df160_5 : decode cJ0_checkIndex_df160 5 = .ok (.invokestatic 1059, 3) := dc_184 (show ((cJ0_checkIndex_df160.data.toList.drop 5).take 3).map UInt8.toNat = [184, 4, 35] by decide +kernel) rfl
theorem dJ3_checkIndex_8e157_0 : decode cJ3_checkIndex_8e157 0 = .ok (.iload_n 0, 1) := dc_26 (show ((cJ3_checkIndex_8e157.data.toList.drop 0).take 1).map UInt8.toNat = [26] by decide +kernel)
theorem dJ3_checkIndex_8e157_1 : decode cJ3_checkIndex_8e157 1 = .ok (.ifCond .lt 8, 3) := dc_155 (show ((cJ3_checkIndex_8e157.data.toList.drop 1).take 3).map UInt8.toNat = [155, 0, 8] by decide +kernel) rfl
theorem dJ3_checkIndex_8e157_9 : decode cJ3_checkIndex_8e157 9 = .ok (.aload_n 2, 1) := dc_44 (show ((cJ3_checkIndex_8e157.data.toList.drop 9).take 1).map UInt8.toNat = [44] by decide +kernel)
theorem dJ3_checkIndex_8e157_4 : decode cJ3_checkIndex_8e157 4 = .ok (.iload_n 0, 1) := dc_26 (show ((cJ3_checkIndex_8e157.data.toList.drop 4).take 1).map UInt8.toNat = [26] by decide +kernel)
theorem dJ3_checkIndex_8e157_5 : decode cJ3_checkIndex_8e157 5 = .ok (.iload_n 1, 1) := dc_27 (show ((cJ3_checkIndex_8e157.data.toList.drop 5).take 1).map UInt8.toNat = [27] by decide +kernel)
theorem dJ3_checkIndex_8e157_6 : decode cJ3_checkIndex_8e157 6 = .ok (.if_icmp .lt 10, 3) := dc_161 (show ((cJ3_checkIndex_8e157.data.toList.drop 6).take 3).map UInt8.toNat = [161, 0, 10] by decide +kernel) rfl
theorem dJ3_checkIndex_8e157_16 : decode cJ3_checkIndex_8e157 16 = .ok (.iload_n 0, 1) := dc_26 (show ((cJ3_checkIndex_8e157.data.toList.drop 16).take 1).map UInt8.toNat = [26] by decide +kernel)
theorem dJ3_checkIndex_8e157_17 : decode cJ3_checkIndex_8e157 17 = .ok (.ireturn, 1) := dc_172 (show ((cJ3_checkIndex_8e157.data.toList.drop 17).take 1).map UInt8.toNat = [172] by decide +kernel)
def cs_jdk_internal_util_Preconditions_checkIndex_n (n : Nat) (σ : gb_S) (p1 : Int32) (p2 : Int32) : gb_CR Int32 := (if p1 < 0 then none else (if p1 < p2 then some (σ, p1) else none))
set_option maxHeartbeats 8000000 in
set_option maxRecDepth 100000 in
theorem cc_jdk_internal_util_Preconditions_checkIndex_n (l : Launch) (D : va_G) (cT : Nat → ClassId) (tt : Nat → Nat) (ak av : Nat → Nat) (b1 b : Nat) (hb1 : b1 ≤ b) (n : Nat) (σ : gb_S) (p1 : Int32) (p2 : Int32) (σE : gb_S) (rE : Int32) (h : cs_jdk_internal_util_Preconditions_checkIndex_n n σ p1 p2 = some (σE, rE)) : Met l yJ3_checkIndex_8e157 (.code yJ3_checkIndex_8e157 cJ3_checkIndex_8e157 3 (some FieldType.int) :: gb_wA) ({ frames := 0, cells := 0, slots := 0, locals := 0 }) (gb_Pc2 D cT tt ak av b1 [.int p1, .int p2, .null] (fun h => va_P D vwCl (gb_wl b (gb_CW cT b σ)) h)) (gb_Qi (fun r h => r = rE ∧ va_P D vwCl (gb_wl b (gb_CW cT b σE)) h) (gb_fr b 135)) 0 0 (gb_fr b 135) := by
  refine Met.ofW (cc := cJ3_checkIndex_8e157) (maxL := 3) (ret := (some FieldType.int)) (by decide) rfl ?_
  intro p e s m args below meth c s₁ B hml hv
  obtain ⟨rfl, hSt2, hP⟩ := hv
  have hSt := hSt2.1
  have hx := B.exec
  have hb := B.bytes
  have hr := B.returns
  have hts := atoms_spec (ws := .code yJ3_checkIndex_8e157 cJ3_checkIndex_8e157 3 (some FieldType.int) :: gb_wA) B.pre
  have hq : ∀ w ∈ gb_wA, w.before _ s = true := fun w h => hts w (List.mem_cons_of_mem _ h)
  have hown : s.vm.findClass RJ3 = some m.cls := findClass_of_methodNamed B.named
  have hlocks := B.notSynchronized
  clear B hts
  have hK := hSt.1
  have hS : va_S (gb_fr b 135) s.heap s.heap [] := va_S.rf
  have hl := lv_entry ([.int p1, .int p2, .null]) (n := 3) (Nat.le_of_ble_eq_true rfl)
  rw [lg_entry_eq]
  generalize (lg_sl ([.int p1, .int p2, .null]) ++ List.replicate (3 - (lg_sl ([.int p1, .int p2, .null])).length) Slot.unset).toArray = ls at hl ⊢
  replace hl : lv_has ls 3 [(0, .int p1), (1, .int p2), (2, .null)] := hl
  unfold cs_jdk_internal_util_Preconditions_checkIndex_n at h
  refine lv_iload_n hx hb dJ3_checkIndex_8e157_0 rfl (lv_at hl 0 rfl) ?_
  refine lv_if_lt (tgt := 9) hx hb dJ3_checkIndex_8e157_1 (by decide) (fun c_1 => ?_) (fun c_1 => ?_)
  · rw [if_pos c_1] at h
    cases h
  · rw [if_neg c_1] at h
    refine lv_iload_n hx hb dJ3_checkIndex_8e157_4 rfl (lv_at hl 0 rfl) ?_
    refine lv_iload_n hx hb dJ3_checkIndex_8e157_5 rfl (lv_at hl 1 rfl) ?_
    refine lv_icmp_lt (tgt := 16) hx hb dJ3_checkIndex_8e157_6 (by decide) (fun c_2 => ?_) (fun c_2 => ?_)
    · rw [if_pos c_2] at h
      refine lv_iload_n hx hb dJ3_checkIndex_8e157_16 rfl (lv_at hl 0 rfl) ?_
      obtain ⟨e1, e2⟩ := gb_eq2 h
      exact W.iret (v := p1) hx hb hr (fun t ht hW => gb_ri ht ⟨e2, by rw [← e1]; exact hP⟩ hS) hS.2.2 dJ3_checkIndex_8e157_17
    · rw [if_neg c_2] at h
      cases h
theorem w_446 : (Cond.code ({ cls := "jdk/internal/util/Preconditions", name := "checkIndex", desc := "(IILjava/util/function/BiFunction;)I" } : MethodName) prog_22_method_11_code (3 : Nat) (Option.some FieldType.int)) ∈ gb_wA := gb_t2 206 rfl rfl
theorem w_444 : (Cond.methodLink "java/lang/String" (1059 : Nat) ({ cls := "jdk/internal/util/Preconditions", name := "checkIndex", desc := "(IILjava/util/function/BiFunction;)I" } : MethodName)) ∈ gb_wA := gb_t2 204 rfl rfl
theorem w_445 : (Cond.static ({ cls := "jdk/internal/util/Preconditions", name := "checkIndex", desc := "(IILjava/util/function/BiFunction;)I" } : MethodName)) ∈ gb_wA := gb_t2 205 rfl rfl
theorem w_17 : (Cond.initialized "jdk/internal/util/Preconditions") ∈ gb_wA := gb_t1 17 rfl rfl
theorem dJ0_checkIndex_df160_8 : decode cJ0_checkIndex_df160 8 = .ok (.pop, 1) := dc_87 (show ((cJ0_checkIndex_df160.data.toList.drop 8).take 1).map UInt8.toNat = [87] by decide +kernel)
theorem dJ0_checkIndex_df160_9 : decode cJ0_checkIndex_df160 9 = .ok (.return_, 1) := dc_177 (show ((cJ0_checkIndex_df160.data.toList.drop 9).take 1).map UInt8.toNat = [177] by decide +kernel)
set_option maxHeartbeats 8000000 in
set_option maxRecDepth 100000 in
theorem cc_jdk_internal_util_Preconditions_checkIndex_F (l : Launch) (D : va_G) (cT : Nat → ClassId) (tt : Nat → Nat) (ak av : Nat → Nat) (fm : Nat) (b1 b : Nat) (hb1 : b1 ≤ b) (n : Nat) (σ : gb_S) (p1 : Int32) (p2 : Int32) (σE : gb_S) (rE : Int32) (h : cs_jdk_internal_util_Preconditions_checkIndex_n n σ p1 p2 = some (σE, rE)) : Met l yJ3_checkIndex_8e157 (.code yJ3_checkIndex_8e157 cJ3_checkIndex_8e157 3 (some FieldType.int) :: gb_wA) ({ frames := 0, cells := 0, slots := 0, locals := 0 }) (gb_Pc2 D cT tt ak av b1 [.int p1, .int p2, .ref fm] (fun h => va_P D vwCl (gb_wl b (gb_CW cT b σ)) h)) (gb_Qi (fun r h => r = rE ∧ va_P D vwCl (gb_wl b (gb_CW cT b σE)) h) (gb_fr b 135)) 0 0 (gb_fr b 135) := by
  refine Met.ofW (cc := cJ3_checkIndex_8e157) (maxL := 3) (ret := (some FieldType.int)) (by decide) rfl ?_
  intro p e s m args below meth c s₁ B hml hv
  obtain ⟨rfl, hSt2, hP⟩ := hv
  have hSt := hSt2.1
  have hx := B.exec
  have hb := B.bytes
  have hr := B.returns
  have hts := atoms_spec (ws := .code yJ3_checkIndex_8e157 cJ3_checkIndex_8e157 3 (some FieldType.int) :: gb_wA) B.pre
  have hq : ∀ w ∈ gb_wA, w.before _ s = true := fun w h => hts w (List.mem_cons_of_mem _ h)
  have hown : s.vm.findClass RJ3 = some m.cls := findClass_of_methodNamed B.named
  have hlocks := B.notSynchronized
  clear B hts
  have hK := hSt.1
  have hS : va_S (gb_fr b 135) s.heap s.heap [] := va_S.rf
  have hl := lv_entry ([.int p1, .int p2, .ref fm]) (n := 3) (Nat.le_of_ble_eq_true rfl)
  rw [lg_entry_eq]
  generalize (lg_sl ([.int p1, .int p2, .ref fm]) ++ List.replicate (3 - (lg_sl ([.int p1, .int p2, .ref fm])).length) Slot.unset).toArray = ls at hl ⊢
  replace hl : lv_has ls 3 [(0, .int p1), (1, .int p2), (2, .ref fm)] := hl
  unfold cs_jdk_internal_util_Preconditions_checkIndex_n at h
  refine lv_iload_n hx hb dJ3_checkIndex_8e157_0 rfl (lv_at hl 0 rfl) ?_
  refine lv_if_lt (tgt := 9) hx hb dJ3_checkIndex_8e157_1 (by decide) (fun c_1 => ?_) (fun c_1 => ?_)
  · rw [if_pos c_1] at h
    cases h
  · rw [if_neg c_1] at h
    refine lv_iload_n hx hb dJ3_checkIndex_8e157_4 rfl (lv_at hl 0 rfl) ?_
    refine lv_iload_n hx hb dJ3_checkIndex_8e157_5 rfl (lv_at hl 1 rfl) ?_
    refine lv_icmp_lt (tgt := 16) hx hb dJ3_checkIndex_8e157_6 (by decide) (fun c_2 => ?_) (fun c_2 => ?_)
    · rw [if_pos c_2] at h
      refine lv_iload_n hx hb dJ3_checkIndex_8e157_16 rfl (lv_at hl 0 rfl) ?_
      obtain ⟨e1, e2⟩ := gb_eq2 h
      exact W.iret (v := p1) hx hb hr (fun t ht hW => gb_ri ht ⟨e2, by rw [← e1]; exact hP⟩ hS) hS.2.2 dJ3_checkIndex_8e157_17
    · rw [if_neg c_2] at h
      cases h
def cs_java_lang_String_checkIndex (n : Nat) (σ : gb_S) (p1 : Int32) (p2 : Int32) : gb_CR Unit := gb_cd (cs_jdk_internal_util_Preconditions_checkIndex_n n σ p1 p2) (fun s_1 r_2 => some (s_1, ()))
set_option maxHeartbeats 8000000 in
set_option maxRecDepth 100000 in
theorem cc_java_lang_String_checkIndex (l : Launch) (D : va_G) (cT : Nat → ClassId) (tt : Nat → Nat) (ak av : Nat → Nat) (b1 b : Nat) (hb1 : b1 ≤ b) (n : Nat) (σ : gb_S) (p1 : Int32) (p2 : Int32) (σE : gb_S) (rE : Unit) (h : cs_java_lang_String_checkIndex n σ p1 p2 = some (σE, rE)) : Met l yJ0_checkIndex_df160 (.code yJ0_checkIndex_df160 cJ0_checkIndex_df160 2 none :: gb_wA) ({ frames := 1, cells := 0, slots := 0, locals := 22 }) (gb_Pc2 D cT tt ak av b1 [.int p1, .int p2] (fun h => va_P D vwCl (gb_wl b (gb_CW cT b σ)) h)) (gb_Qv (fun h => va_P D vwCl (gb_wl b (gb_CW cT b σE)) h) (gb_fr b 135)) 0 0 (gb_fr b 135) := by
  refine Met.ofW (cc := cJ0_checkIndex_df160) (maxL := 2) (ret := none) (by decide) rfl ?_
  intro p e s m args below meth c s₁ B hml hv
  obtain ⟨rfl, hSt2, hP⟩ := hv
  have hSt := hSt2.1
  have hx := B.exec
  have hb := B.bytes
  have hr := B.returns
  have hts := atoms_spec (ws := .code yJ0_checkIndex_df160 cJ0_checkIndex_df160 2 none :: gb_wA) B.pre
  have hq : ∀ w ∈ gb_wA, w.before _ s = true := fun w h => hts w (List.mem_cons_of_mem _ h)
  have hown : s.vm.findClass RJ0 = some m.cls := findClass_of_methodNamed B.named
  have hlocks := B.notSynchronized
  clear B hts
  have hK := hSt.1
  have hS : va_S (gb_fr b 135) s.heap s.heap [] := va_S.rf
  have hl := lv_entry ([.int p1, .int p2]) (n := 2) (Nat.le_of_ble_eq_true rfl)
  rw [lg_entry_eq]
  generalize (lg_sl ([.int p1, .int p2]) ++ List.replicate (2 - (lg_sl ([.int p1, .int p2])).length) Slot.unset).toArray = ls at hl ⊢
  replace hl : lv_has ls 2 [(0, .int p1), (1, .int p2)] := hl
  unfold cs_java_lang_String_checkIndex at h
  refine lv_iload_n hx hb dJ0_checkIndex_df160_0 rfl (lv_at hl 0 rfl) ?_
  refine lv_iload_n hx hb dJ0_checkIndex_df160_1 rfl (lv_at hl 1 rfl) ?_
  rcases hSt2.2.2.2.2.narrow (B := gb_fr b 135) (fun q h => Nat.le_trans hb1 h.1) with hz_ | ⟨fm, hz_⟩
  · refine va_gets hx hb hz_ hS hown (hq _ w_442) (fun _ h9 => h9) dJ0_checkIndex_df160_2 ?_
    obtain ⟨s_1, r_2, z_3, h⟩ := gb_cd_s h
    refine gb_calli (va_runS (As := [.int p1, .int p2, .null]) (rest := []) ⟨hx, hb, hml, hown, hq⟩ (cc_jdk_internal_util_Preconditions_checkIndex_n l D cT tt ak av b1 b hb1 n σ p1 p2 s_1 r_2 z_3) (va_cwS 3 hq (gb_gS w_444 w_445 w_17 w_446) rfl rfl rfl (by decide +kernel) ⟨Nat.le_of_ble_eq_true rfl, Nat.le_of_ble_eq_true rfl⟩) (gb_preS2 hSt2 hS (fun q h => Nat.le_trans hb1 h.1) hP) rfl rfl hl.1 rfl (lv_room (Nat.le_of_ble_eq_true rfl)) dJ0_checkIndex_df160_5 ⟨Nat.le_of_ble_eq_true rfl, Nat.le_of_ble_eq_true rfl⟩) hS (fun _ h => h) (fun _ h => h) (fun q_4 H locs hY hk hS => ?_)
    obtain ⟨hq_4, hP⟩ := hY
    replace hq_4 := hq_4.symm
    subst hq_4
    refine lv_pop hx hb dJ0_checkIndex_df160_8 rfl ?_
    obtain ⟨e1, -⟩ := gb_eq2 h
    exact W.vret hx hb hr (fun t ht hW => gb_rv ht (by rw [← e1]; exact hP) hS) hS.2.2 dJ0_checkIndex_df160_9
  · refine va_gets hx hb hz_ hS hown (hq _ w_442) (fun _ h9 => h9) dJ0_checkIndex_df160_2 ?_
    obtain ⟨s_5, r_6, z_7, h⟩ := gb_cd_s h
    refine gb_calli (va_runS (As := [.int p1, .int p2, .ref fm]) (rest := []) ⟨hx, hb, hml, hown, hq⟩ (cc_jdk_internal_util_Preconditions_checkIndex_F l D cT tt ak av fm b1 b hb1 n σ p1 p2 s_5 r_6 z_7) (va_cwS 3 hq (gb_gS w_444 w_445 w_17 w_446) rfl rfl rfl (by decide +kernel) ⟨Nat.le_of_ble_eq_true rfl, Nat.le_of_ble_eq_true rfl⟩) (gb_preS2 hSt2 hS (fun q h => Nat.le_trans hb1 h.1) hP) rfl rfl hl.1 rfl (lv_room (Nat.le_of_ble_eq_true rfl)) dJ0_checkIndex_df160_5 ⟨Nat.le_of_ble_eq_true rfl, Nat.le_of_ble_eq_true rfl⟩) hS (fun _ h => h) (fun _ h => h) (fun q_8 H locs hY hk hS => ?_)
    obtain ⟨hq_8, hP⟩ := hY
    replace hq_8 := hq_8.symm
    subst hq_8
    refine lv_pop hx hb dJ0_checkIndex_df160_8 rfl ?_
    obtain ⟨e1, -⟩ := gb_eq2 h
    exact W.vret hx hb hr (fun t ht hW => gb_rv ht (by rw [← e1]; exact hP) hS) hS.2.2 dJ0_checkIndex_df160_9
theorem w_441 : (Cond.code ({ cls := "java/lang/String", name := "checkIndex", desc := "(II)V" } : MethodName) prog_17_method_155_code (2 : Nat) (Option.none : Option FieldType)) ∈ gb_wA := gb_t2 201 rfl rfl
theorem w_439 : (Cond.methodLink "java/lang/StringLatin1" (9 : Nat) ({ cls := "java/lang/String", name := "checkIndex", desc := "(II)V" } : MethodName)) ∈ gb_wA := gb_t2 199 rfl rfl
theorem w_440 : (Cond.static ({ cls := "java/lang/String", name := "checkIndex", desc := "(II)V" } : MethodName)) ∈ gb_wA := gb_t2 200 rfl rfl
theorem dJ1_charAt_3b067_6 : decode cJ1_charAt_3b067 6 = .ok (.aload_n 0, 1) := dc_42 (show ((cJ1_charAt_3b067.data.toList.drop 6).take 1).map UInt8.toNat = [42] by decide +kernel)
theorem dJ1_charAt_3b067_7 : decode cJ1_charAt_3b067 7 = .ok (.iload_n 1, 1) := dc_27 (show ((cJ1_charAt_3b067.data.toList.drop 7).take 1).map UInt8.toNat = [27] by decide +kernel)
theorem dJ1_charAt_3b067_8 : decode cJ1_charAt_3b067 8 = .ok (.baload, 1) := dc_51 (show ((cJ1_charAt_3b067.data.toList.drop 8).take 1).map UInt8.toNat = [51] by decide +kernel)
theorem dJ1_charAt_3b067_9 : decode cJ1_charAt_3b067 9 = .ok (.sipush 255, 3) := dc_17 (show ((cJ1_charAt_3b067.data.toList.drop 9).take 3).map UInt8.toNat = [17, 0, 255] by decide +kernel) rfl
theorem dJ1_charAt_3b067_12 : decode cJ1_charAt_3b067 12 = .ok (.iand, 1) := dc_126 (show ((cJ1_charAt_3b067.data.toList.drop 12).take 1).map UInt8.toNat = [126] by decide +kernel)
theorem dJ1_charAt_3b067_13 : decode cJ1_charAt_3b067 13 = .ok (.i2c, 1) := dc_146 (show ((cJ1_charAt_3b067.data.toList.drop 13).take 1).map UInt8.toNat = [146] by decide +kernel)
theorem dJ1_charAt_3b067_14 : decode cJ1_charAt_3b067 14 = .ok (.ireturn, 1) := dc_172 (show ((cJ1_charAt_3b067.data.toList.drop 14).take 1).map UInt8.toNat = [172] by decide +kernel)
def cs_java_lang_StringLatin1_charAt_V (n : Nat) (σ : gb_S) (p1 : Nat) (p2 : Int32) : gb_CR Int32 := gb_kk (gb_kV p1) (gb_cd (cs_java_lang_String_checkIndex n σ p2 (Int32.ofNat (gb_slen.getD p1 0))) (fun s_2 _ => gb_ck p2 (gb_slen.getD p1 0) (some (s_2, (((((gb_sbyt.getD p1 []).getD (Int32.toNatClampNeg p2) 0) &&& 255) : Int32).toUInt32 % 65536).toInt32))))
set_option maxHeartbeats 8000000 in
set_option maxRecDepth 100000 in
theorem cc_java_lang_StringLatin1_charAt_V (l : Launch) (D : va_G) (cT : Nat → ClassId) (tt : Nat → Nat) (ak av : Nat → Nat) (b1 b : Nat) (hb1 : b1 ≤ b) (n : Nat) (σ : gb_S) (p1 : Nat) (p2 : Int32) (σE : gb_S) (rE : Int32) (h : cs_java_lang_StringLatin1_charAt_V n σ p1 p2 = some (σE, rE)) : Met l yJ1_charAt_3b067 (.code yJ1_charAt_3b067 cJ1_charAt_3b067 2 (some FieldType.char) :: gb_wA) ({ frames := 2, cells := 0, slots := 0, locals := 43 }) (gb_Pc2 D cT tt ak av b1 [.ref (av p1), .int p2] (fun h => va_P D vwCl (gb_wl b (gb_CW cT b σ)) h)) (gb_Qi (fun r h => r = rE ∧ va_P D vwCl (gb_wl b (gb_CW cT b σE)) h) (gb_fr b 135)) 0 0 (gb_fr b 135) := by
  refine Met.ofW (cc := cJ1_charAt_3b067) (maxL := 2) (ret := (some FieldType.char)) (by decide) rfl ?_
  intro p e s m args below meth c s₁ B hml hv
  obtain ⟨rfl, hSt2, hP⟩ := hv
  have hSt := hSt2.1
  have hx := B.exec
  have hb := B.bytes
  have hr := B.returns
  have hts := atoms_spec (ws := .code yJ1_charAt_3b067 cJ1_charAt_3b067 2 (some FieldType.char) :: gb_wA) B.pre
  have hq : ∀ w ∈ gb_wA, w.before _ s = true := fun w h => hts w (List.mem_cons_of_mem _ h)
  have hown : s.vm.findClass RJ1 = some m.cls := findClass_of_methodNamed B.named
  have hlocks := B.notSynchronized
  clear B hts
  have hK := hSt.1
  have hS : va_S (gb_fr b 135) s.heap s.heap [] := va_S.rf
  have hl := lv_entry ([.ref (av p1), .int p2]) (n := 2) (Nat.le_of_ble_eq_true rfl)
  rw [lg_entry_eq]
  generalize (lg_sl ([.ref (av p1), .int p2]) ++ List.replicate (2 - (lg_sl ([.ref (av p1), .int p2])).length) Slot.unset).toArray = ls at hl ⊢
  replace hl : lv_has ls 2 [(0, .ref (av p1)), (1, .int p2)] := hl
  unfold cs_java_lang_StringLatin1_charAt_V at h
  obtain ⟨z_1, h⟩ := gb_kk_s h
  refine lv_iload_n hx hb dJ1_charAt_3b067_0 rfl (lv_at hl 1 rfl) ?_
  refine lv_aload_n hx hb dJ1_charAt_3b067_1 rfl (lv_at hl 0 rfl) ?_
  refine va_tlen (v := (Int32.ofNat (gb_slen.getD p1 0))) hx hb ((hSt2.2.1.1 p1 (gb_kW_lt z_1)).2.2.2.narrow (fun q h => Nat.le_trans hb1 h.1)) hS rfl dJ1_charAt_3b067_2 ?_
  obtain ⟨s_2, r_3, z_4, h⟩ := gb_cd_s h
  refine gb_callv (va_runS (As := [.int p2, .int (Int32.ofNat (gb_slen.getD p1 0))]) (rest := []) ⟨hx, hb, hml, hown, hq⟩ (cc_java_lang_String_checkIndex l D cT tt ak av b1 b hb1 n σ p2 (Int32.ofNat (gb_slen.getD p1 0)) s_2 r_3 z_4) (va_cwS 2 hq (gb_gS w_439 w_440 w_15 w_441) rfl rfl rfl (by decide +kernel) ⟨Nat.le_of_ble_eq_true rfl, Nat.le_of_ble_eq_true rfl⟩) (gb_preS2 hSt2 hS (fun q h => Nat.le_trans hb1 h.1) hP) rfl rfl hl.1 rfl (lv_room (Nat.le_of_ble_eq_true rfl)) dJ1_charAt_3b067_3 ⟨Nat.le_of_ble_eq_true rfl, Nat.le_of_ble_eq_true rfl⟩) hS (fun _ h => h) (fun _ h => h) (fun H locs hY hk hS => ?_)
  have hP := hY
  refine lv_aload_n hx hb dJ1_charAt_3b067_6 rfl (lv_at hl 0 rfl) ?_
  refine lv_iload_n hx hb dJ1_charAt_3b067_7 rfl (lv_at hl 1 rfl) ?_
  obtain ⟨z_6, h⟩ := gb_ck_s h
  refine va_tb (v := .int ((gb_sbyt.getD p1 []).getD (Int32.toNatClampNeg p2) 0)) hx hb ((hSt2.2.1.1 p1 (gb_kW_lt z_1)).2.2.2.narrow (fun q h => Nat.le_trans hb1 h.1)) hS z_6 rfl dJ1_charAt_3b067_8 ?_
  refine lv_sipush (v := 255) hx hb dJ1_charAt_3b067_9 (by decide) ?_
  refine lv_iand hx hb dJ1_charAt_3b067_12 ?_
  refine lv_i2c (v := (((((gb_sbyt.getD p1 []).getD (Int32.toNatClampNeg p2) 0) &&& 255) : Int32).toUInt32 % 65536).toInt32) hx hb dJ1_charAt_3b067_13 rfl ?_
  obtain ⟨e1, e2⟩ := gb_eq2 h
  exact W.zret (v := (((((gb_sbyt.getD p1 []).getD (Int32.toNatClampNeg p2) 0) &&& 255) : Int32).toUInt32 % 65536).toInt32) hx hb hr (pk_nc _) (fun t ht hW => gb_ri ht ⟨e2, by rw [← e1]; exact hP⟩ hS) hS.2.2 dJ1_charAt_3b067_14
theorem w_438 : (Cond.code ({ cls := "java/lang/StringLatin1", name := "charAt", desc := "([BI)C" } : MethodName) prog_18_method_2_code (2 : Nat) (Option.some FieldType.char)) ∈ gb_wA := gb_t2 198 rfl rfl
theorem w_436 : (Cond.methodLink "java/lang/String" (495 : Nat) ({ cls := "java/lang/StringLatin1", name := "charAt", desc := "([BI)C" } : MethodName)) ∈ gb_wA := gb_t2 196 rfl rfl
theorem w_437 : (Cond.static ({ cls := "java/lang/StringLatin1", name := "charAt", desc := "([BI)C" } : MethodName)) ∈ gb_wA := gb_t2 197 rfl rfl
theorem w_16 : (Cond.initialized "java/lang/StringLatin1") ∈ gb_wA := gb_t1 16 rfl rfl
theorem dJ0_charAt_5068e_15 : decode cJ0_charAt_5068e 15 = .ok (.ireturn, 1) := dc_172 (show ((cJ0_charAt_5068e.data.toList.drop 15).take 1).map UInt8.toNat = [172] by decide +kernel)
def cs_java_lang_String_charAt_W (n : Nat) (σ : gb_S) (k0 : Nat) (p1 : Int32) : gb_CR Int32 := gb_kk (gb_kW k0) (gb_cd (cs_java_lang_String_isLatin1_W n σ k0) (fun s_2 r_3 => (if r_3 = 0 then none else gb_cd (cs_java_lang_StringLatin1_charAt_V n s_2 k0 p1) (fun s_7 r_8 => gb_cc r_8 (some (s_7, r_8))))))
set_option maxHeartbeats 8000000 in
set_option maxRecDepth 100000 in
theorem cc_java_lang_String_charAt_W (l : Launch) (D : va_G) (cT : Nat → ClassId) (tt : Nat → Nat) (ak av : Nat → Nat) (b1 b : Nat) (hb1 : b1 ≤ b) (n : Nat) (σ : gb_S) (k0 : Nat) (p1 : Int32) (σE : gb_S) (rE : Int32) (h : cs_java_lang_String_charAt_W n σ k0 p1 = some (σE, rE)) : Met l yJ0_charAt_5068e (.code yJ0_charAt_5068e cJ0_charAt_5068e 2 (some FieldType.char) :: gb_wA) ({ frames := 3, cells := 0, slots := 0, locals := 64 }) (gb_Pc2 D cT tt ak av b1 [.ref (ak k0), .int p1] (fun h => va_P D vwCl (gb_wl b (gb_CW cT b σ)) h)) (gb_Qi (fun r h => r = rE ∧ va_P D vwCl (gb_wl b (gb_CW cT b σE)) h) (gb_fr b 135)) 0 0 (gb_fr b 135) := by
  refine Met.ofW (cc := cJ0_charAt_5068e) (maxL := 2) (ret := (some FieldType.char)) (by decide) rfl ?_
  intro p e s m args below meth c s₁ B hml hv
  obtain ⟨rfl, hSt2, hP⟩ := hv
  have hSt := hSt2.1
  have hx := B.exec
  have hb := B.bytes
  have hr := B.returns
  have hts := atoms_spec (ws := .code yJ0_charAt_5068e cJ0_charAt_5068e 2 (some FieldType.char) :: gb_wA) B.pre
  have hq : ∀ w ∈ gb_wA, w.before _ s = true := fun w h => hts w (List.mem_cons_of_mem _ h)
  have hown : s.vm.findClass RJ0 = some m.cls := findClass_of_methodNamed B.named
  have hlocks := B.notSynchronized
  clear B hts
  have hK := hSt.1
  have hS : va_S (gb_fr b 135) s.heap s.heap [] := va_S.rf
  have hl := lv_entry ([.ref (ak k0), .int p1]) (n := 2) (Nat.le_of_ble_eq_true rfl)
  rw [lg_entry_eq]
  generalize (lg_sl ([.ref (ak k0), .int p1]) ++ List.replicate (2 - (lg_sl ([.ref (ak k0), .int p1])).length) Slot.unset).toArray = ls at hl ⊢
  replace hl : lv_has ls 2 [(0, .ref (ak k0)), (1, .int p1)] := hl
  unfold cs_java_lang_String_charAt_W at h
  obtain ⟨z_1, h⟩ := gb_kk_s h
  refine lv_aload_n hx hb dJ0_charAt_5068e_0 rfl (lv_at hl 0 rfl) ?_
  obtain ⟨s_2, r_3, z_4, h⟩ := gb_cd_s h
  refine gb_calli (va_runV (C := RJ0) (As := []) (rest := []) ⟨hx, hb, hml, hown, hq⟩ (cc_java_lang_String_isLatin1_W l D cT tt ak av b1 b hb1 n σ k0 s_2 r_3 z_4) (cwV 0 hq (gb_gV w_432 w_433 w_434 w_15 w_435) rfl rfl rfl (by decide +kernel) ⟨Nat.le_of_ble_eq_true rfl, Nat.le_of_ble_eq_true rfl⟩) (gb_preW hSt2 (gb_kW_lt z_1) hS (fun q h => Nat.le_trans hb1 h.1) hP) rfl rfl hl.1 rfl (lv_room (Nat.le_of_ble_eq_true rfl)) dJ0_charAt_5068e_1 ⟨Nat.le_of_ble_eq_true rfl, Nat.le_of_ble_eq_true rfl⟩) hS (fun _ h => h) (fun _ h => h) (fun q_5 H locs hY hk hS => ?_)
  obtain ⟨hq_5, hP⟩ := hY
  replace hq_5 := hq_5.symm
  subst hq_5
  refine lv_if_eq (tgt := 16) hx hb dJ0_charAt_5068e_4 (by decide) (fun c_6 => ?_) (fun c_6 => ?_)
  · rw [if_pos c_6] at h
    cases h
  · rw [if_neg c_6] at h
    refine lv_aload_n hx hb dJ0_charAt_5068e_7 rfl (lv_at hl 0 rfl) ?_
    refine vk_getf hx hb ((hSt2.2.1.1 k0 (gb_kW_lt z_1)).2.2.1.narrow (fun q h => Nat.le_trans hb1 h.1)) hS hown (hq _ w_1738) (fun _ h9 => h9) dJ0_charAt_5068e_8 ?_
    refine lv_iload_n hx hb dJ0_charAt_5068e_11 rfl (lv_at hl 1 rfl) ?_
    obtain ⟨s_7, r_8, z_9, h⟩ := gb_cd_s h
    refine gb_calli (va_runS (As := [.ref (av k0), .int p1]) (rest := []) ⟨hx, hb, hml, hown, hq⟩ (cc_java_lang_StringLatin1_charAt_V l D cT tt ak av b1 b hb1 n s_2 k0 p1 s_7 r_8 z_9) (va_cwS 2 hq (gb_gS w_436 w_437 w_16 w_438) rfl rfl rfl (by decide +kernel) ⟨Nat.le_of_ble_eq_true rfl, Nat.le_of_ble_eq_true rfl⟩) (gb_preS2 hSt2 hS (fun q h => Nat.le_trans hb1 h.1) hP) rfl rfl hl.1 rfl (lv_room (Nat.le_of_ble_eq_true rfl)) dJ0_charAt_5068e_12 ⟨Nat.le_of_ble_eq_true rfl, Nat.le_of_ble_eq_true rfl⟩) hS (fun _ h => h) (fun _ h => h) (fun q_10 H locs hY hk hS => ?_)
    obtain ⟨hq_10, hP⟩ := hY
    replace hq_10 := hq_10.symm
    subst hq_10
    obtain ⟨z_11, h⟩ := gb_cc_s h
    obtain ⟨e1, e2⟩ := gb_eq2 h
    exact W.zret (v := r_8) hx hb hr z_11 (fun t ht hW => gb_ri ht ⟨e2, by rw [← e1]; exact hP⟩ hS) hS.2.2 dJ0_charAt_5068e_15
theorem w_431 : (Cond.code ({ cls := "java/lang/String", name := "charAt", desc := "(I)C" } : MethodName) prog_17_method_56_code (2 : Nat) (Option.some FieldType.char)) ∈ gb_wA := gb_t2 191 rfl rfl
theorem w_428 : (Cond.methodLink "GooseBorder$Reader" (93 : Nat) ({ cls := "java/lang/String", name := "charAt", desc := "(I)C" } : MethodName)) ∈ gb_wA := gb_t2 188 rfl rfl
theorem w_429 : (Cond.instanceMethod ({ cls := "java/lang/String", name := "charAt", desc := "(I)C" } : MethodName)) ∈ gb_wA := gb_t2 189 rfl rfl
theorem w_430 : (Cond.selects "java/lang/String" ({ cls := "java/lang/String", name := "charAt", desc := "(I)C" } : MethodName) ({ cls := "java/lang/String", name := "charAt", desc := "(I)C" } : MethodName)) ∈ gb_wA := gb_t2 190 rfl rfl
theorem dX7_isWord_41 : decode cX7_isWord 41 = .ok (.if_icmp .eq 5, 3) := dc_159 (show ((cX7_isWord.data.toList.drop 41).take 3).map UInt8.toNat = [159, 0, 5] by decide +kernel) rfl
theorem dX7_isWord_46 : decode cX7_isWord 46 = .ok (.iinc 3 1, 3) := dc_132 (show ((cX7_isWord.data.toList.drop 46).take 3).map UInt8.toNat = [132, 3, 1] by decide +kernel) rfl
theorem dX7_isWord_49 : decode cX7_isWord 49 = .ok (.goto (-32), 3) := dc_167 (show ((cX7_isWord.data.toList.drop 49).take 3).map UInt8.toNat = [167, 255, 224] by decide +kernel) rfl
theorem dX7_isWord_44 : decode cX7_isWord 44 = .ok (.iconst 0, 1) := dc_3 (show ((cX7_isWord.data.toList.drop 44).take 1).map UInt8.toNat = [3] by decide +kernel)
theorem dX7_isWord_45 : decode cX7_isWord 45 = .ok (.ireturn, 1) := dc_172 (show ((cX7_isWord.data.toList.drop 45).take 1).map UInt8.toNat = [172] by decide +kernel)
theorem dX7_isWord_13 : decode cX7_isWord 13 = .ok (.iconst 0, 1) := dc_3 (show ((cX7_isWord.data.toList.drop 13).take 1).map UInt8.toNat = [3] by decide +kernel)
theorem dX7_isWord_14 : decode cX7_isWord 14 = .ok (.ireturn, 1) := dc_172 (show ((cX7_isWord.data.toList.drop 14).take 1).map UInt8.toNat = [172] by decide +kernel)
def cs_Reader_isWord_W_17 (n : Nat) : Nat → gb_S → Nat → Int32 → gb_CR Int32
  | 0, _, _, _ => none
  | mm + 1, σ, v1, v3 => gb_kk (gb_kW v1) (gb_cd (cs_java_lang_String_length_W n σ v1) (fun s_8 r_9 => (if r_9 ≤ v3 then some (s_8, 1) else gb_kk (gb_kY (s_8.2.1 0)) (gb_ck ((s_8.1 106 3) + v3) 600 (gb_lt ((s_8.1 (s_8.2.1 0)) (Int32.toNatClampNeg ((s_8.1 106 3) + v3))) (fun x_15 => gb_cd (cs_java_lang_String_charAt_W n s_8 v1 v3) (fun s_16 r_17 => (if x_15 = r_17 then gb_lt (v3 + 1) (fun x_21 => cs_Reader_isWord_W_17 n mm s_16 v1 x_21) else some (s_16, 0)))))))))
def cs_Reader_isWord_W (n : Nat) (σ : gb_S) (p1 : Nat) (p2 : Int32) : gb_CR Int32 := gb_kk (gb_kW p1) (gb_cd (cs_java_lang_String_length_W n σ p1) (fun s_2 r_3 => (if (p2 - (σ.1 106 3)) = r_3 then cs_Reader_isWord_W_17 n n s_2 p1 0 else some (s_2, 0))))
set_option maxHeartbeats 8000000 in
set_option maxRecDepth 100000 in
theorem cc_Reader_isWord_W (l : Launch) (D : va_G) (cT : Nat → ClassId) (tt : Nat → Nat) (ak av : Nat → Nat) (b1 b : Nat) (hb1 : b1 ≤ b) (n : Nat) (σ : gb_S) (p1 : Nat) (p2 : Int32) (σE : gb_S) (rE : Int32) (h : cs_Reader_isWord_W n σ p1 p2 = some (σE, rE)) : Met l yX7_isWord (.code yX7_isWord cX7_isWord 4 (some FieldType.boolean) :: gb_wA) ({ frames := 4, cells := 0, slots := 0, locals := 85 }) (gb_Pc2 D cT tt ak av b1 [.ref (b + 106), .ref (ak p1), .int p2] (fun h => va_P D vwCl (gb_wl b (gb_CW cT b σ)) h)) (gb_Qi (fun r h => r = rE ∧ va_P D vwCl (gb_wl b (gb_CW cT b σE)) h) (gb_fr b 135)) 0 0 (gb_fr b 135) := by
  refine Met.ofW (cc := cX7_isWord) (maxL := 4) (ret := (some FieldType.boolean)) (by decide) rfl ?_
  intro p e s m args below meth c s₁ B hml hv
  obtain ⟨rfl, hSt2, hP⟩ := hv
  have hSt := hSt2.1
  have hx := B.exec
  have hb := B.bytes
  have hr := B.returns
  have hts := atoms_spec (ws := .code yX7_isWord cX7_isWord 4 (some FieldType.boolean) :: gb_wA) B.pre
  have hq : ∀ w ∈ gb_wA, w.before _ s = true := fun w h => hts w (List.mem_cons_of_mem _ h)
  have hown : s.vm.findClass RX7 = some m.cls := findClass_of_methodNamed B.named
  have hlocks := B.notSynchronized
  clear B hts
  have hK := hSt.1
  have hS : va_S (gb_fr b 135) s.heap s.heap [] := va_S.rf
  have hl := lv_entry ([.ref (b + 106), .ref (ak p1), .int p2]) (n := 4) (Nat.le_of_ble_eq_true rfl)
  rw [lg_entry_eq]
  generalize (lg_sl ([.ref (b + 106), .ref (ak p1), .int p2]) ++ List.replicate (4 - (lg_sl ([.ref (b + 106), .ref (ak p1), .int p2])).length) Slot.unset).toArray = ls at hl ⊢
  replace hl : lv_has ls 4 [(0, .ref (b + 106)), (1, .ref (ak p1)), (2, .int p2)] := hl
  have L17_1 : ∀ (mm : Nat) (σ : gb_S) (v1 : Nat) (v3 : Int32) (H : Heap) (locs : List Loc) (ls : Array Slot), cs_Reader_isWord_W_17 n mm σ v1 v3 = some (σE, rE) → va_P D vwCl (gb_wl b (gb_CW cT b σ)) H → va_S (gb_fr b 135) s.heap H locs → lv_has ls 4 [(0, .ref (b + 106)), (1, .ref (ak v1)), (3, .int v3)] → W p l e (headSpec (.code yX7_isWord cX7_isWord 4 (some FieldType.boolean) :: gb_wA) ({ frames := 4, cells := 0, slots := 0, locals := 85 })).room s m ([.ref (b + 106), .ref (ak p1), .int p2]).toArray below meth c H locs 0 0 (MQ below (gb_Qi (fun r h => r = rE ∧ va_P D vwCl (gb_wl b (gb_CW cT b σE)) h) (gb_fr b 135)) ([.ref (b + 106), .ref (ak p1), .int p2]).toArray s 0 0 (gb_fr b 135)) (F0 m 17 ls []) := by
    clear h hP hS hl ls
    intro mm
    induction mm with
    | zero =>
      intro σ v1 v3 H locs ls h
      cases h
    | succ mm ih =>
      intro σ v1 v3 H locs ls h hP hS hl
      rw [cs_Reader_isWord_W_17] at h
      obtain ⟨z_7, h⟩ := gb_kk_s h
      refine lv_iload_n hx hb dX7_isWord_17 rfl (lv_at hl 2 rfl) ?_
      refine lv_aload_n hx hb dX7_isWord_18 rfl (lv_at hl 1 rfl) ?_
      obtain ⟨s_8, r_9, z_10, h⟩ := gb_cd_s h
      refine gb_calli (va_runV (C := RJ0) (As := []) (rest := [.int v3]) ⟨hx, hb, hml, hown, hq⟩ (cc_java_lang_String_length_W l D cT tt ak av b1 b hb1 n σ v1 s_8 r_9 z_10) (cwV 0 hq (gb_gV w_418 w_419 w_420 w_15 w_421) rfl rfl rfl (by decide +kernel) ⟨Nat.le_of_ble_eq_true rfl, Nat.le_of_ble_eq_true rfl⟩) (gb_preW hSt2 (gb_kW_lt z_7) hS (fun q h => Nat.le_trans hb1 h.1) hP) rfl rfl hl.1 rfl (lv_room (Nat.le_of_ble_eq_true rfl)) dX7_isWord_19 ⟨Nat.le_of_ble_eq_true rfl, Nat.le_of_ble_eq_true rfl⟩) hS (fun _ h => h) (fun _ h => h) (fun q_11 H locs hY hk hS => ?_)
      obtain ⟨hq_11, hP⟩ := hY
      replace hq_11 := hq_11.symm
      subst hq_11
      refine lv_icmp_ge (tgt := 52) hx hb dX7_isWord_22 (by decide) (fun c_12 => ?_) (fun c_12 => ?_)
      · rw [if_pos c_12] at h
        refine lv_iconst (v := 1) hx hb dX7_isWord_52 (by decide) ?_
        obtain ⟨e1, e2⟩ := gb_eq2 h
        exact W.zret (v := 1) hx hb hr (by decide) (fun t ht hW => gb_ri ht ⟨e2, by rw [← e1]; exact hP⟩ hS) hS.2.2 dX7_isWord_53
      · rw [if_neg c_12] at h
        refine lv_aload_n hx hb dX7_isWord_25 rfl (lv_at hl 0 rfl) ?_
        obtain ⟨z_13, h⟩ := gb_kk_s h
        refine va_get (ci := 6) (v := (.ref (b + (s_8.2.1 0)))) (C := RX7) (T := TX7) (N := 6) hx hb hq i_X7 hown hK hP 106 (gb_at b rfl) rfl 1 (by decide) (hq _ w_168) (fun _ h9 => h9) rfl dX7_isWord_26 ?_
        refine lv_aload_n hx hb dX7_isWord_29 rfl (lv_at hl 0 rfl) ?_
        refine va_get (ci := 6) (v := (.int (s_8.1 106 3))) (C := RX7) (T := TX7) (N := 6) hx hb hq i_X7 hown hK hP 106 (gb_at b rfl) rfl 3 (by decide) (hq _ w_170) (fun _ h9 => h9) rfl dX7_isWord_30 ?_
        refine lv_iload_n hx hb dX7_isWord_33 rfl (lv_at hl 2 rfl) ?_
        refine lv_iadd hx hb dX7_isWord_34 ?_
        obtain ⟨z_14, h⟩ := gb_ck_s h
        refine va_bald hx hb hK hP (s_8.2.1 0) 1 (gb_at b (gb_cY z_13)) rfl z_14 dX7_isWord_35 ?_
        refine lv_topi (fun x_15 ex_15 => ?_)
        replace h := gb_lt_s ex_15 h
        refine lv_aload_n hx hb dX7_isWord_36 rfl (lv_at hl 1 rfl) ?_
        refine lv_iload_n hx hb dX7_isWord_37 rfl (lv_at hl 2 rfl) ?_
        obtain ⟨s_16, r_17, z_18, h⟩ := gb_cd_s h
        refine gb_calli (va_runV (C := RJ0) (As := [.int v3]) (rest := [.int x_15]) ⟨hx, hb, hml, hown, hq⟩ (cc_java_lang_String_charAt_W l D cT tt ak av b1 b hb1 n s_8 v1 v3 s_16 r_17 z_18) (cwV 1 hq (gb_gV w_428 w_429 w_430 w_15 w_431) rfl rfl rfl (by decide +kernel) ⟨Nat.le_of_ble_eq_true rfl, Nat.le_of_ble_eq_true rfl⟩) (gb_preW hSt2 (gb_kW_lt z_7) hS (fun q h => Nat.le_trans hb1 h.1) hP) rfl rfl hl.1 rfl (lv_room (Nat.le_of_ble_eq_true rfl)) dX7_isWord_38 ⟨Nat.le_of_ble_eq_true rfl, Nat.le_of_ble_eq_true rfl⟩) hS (fun _ h => h) (fun _ h => h) (fun q_19 H locs hY hk hS => ?_)
        obtain ⟨hq_19, hP⟩ := hY
        replace hq_19 := hq_19.symm
        subst hq_19
        refine lv_icmp_eq (tgt := 46) hx hb dX7_isWord_41 (by decide) (fun c_20 => ?_) (fun c_20 => ?_)
        · rw [if_pos c_20] at h
          obtain ⟨x_21, ex_21⟩ : ∃ q, q = (v3 + 1) := ⟨_, rfl⟩
          replace h := gb_lt_s ex_21 h
          refine lv_iinc (v := x_21) (lv' := [(3, .int x_21), (0, .ref (b + 106)), (1, .ref (ak v1))]) hx hb dX7_isWord_46 hl (k := 2) rfl (by rw [ex_21]; rfl) (by decide) rfl (fun ls hl => ?_)
          refine lv_goto (tgt := 17) hx hb dX7_isWord_49 (by decide) ?_
          exact ih _ _ _ _ _ _ h hP hS (lv_sub hl [1, 2, 0] rfl)
        · rw [if_neg c_20] at h
          refine lv_iconst (v := 0) hx hb dX7_isWord_44 (by decide) ?_
          obtain ⟨e1, e2⟩ := gb_eq2 h
          exact W.zret (v := 0) hx hb hr (by decide) (fun t ht hW => gb_ri ht ⟨e2, by rw [← e1]; exact hP⟩ hS) hS.2.2 dX7_isWord_45
  unfold cs_Reader_isWord_W at h
  obtain ⟨z_1, h⟩ := gb_kk_s h
  refine lv_iload_n hx hb dX7_isWord_0 rfl (lv_at hl 2 rfl) ?_
  refine lv_aload_n hx hb dX7_isWord_1 rfl (lv_at hl 0 rfl) ?_
  refine va_get (ci := 6) (v := (.int (σ.1 106 3))) (C := RX7) (T := TX7) (N := 6) hx hb hq i_X7 hown hK hP 106 (gb_at b rfl) rfl 3 (by decide) (hq _ w_170) (fun _ h9 => h9) rfl dX7_isWord_2 ?_
  refine lv_isub hx hb dX7_isWord_5 ?_
  refine lv_aload_n hx hb dX7_isWord_6 rfl (lv_at hl 1 rfl) ?_
  obtain ⟨s_2, r_3, z_4, h⟩ := gb_cd_s h
  refine gb_calli (va_runV (C := RJ0) (As := []) (rest := [.int (p2 - (σ.1 106 3))]) ⟨hx, hb, hml, hown, hq⟩ (cc_java_lang_String_length_W l D cT tt ak av b1 b hb1 n σ p1 s_2 r_3 z_4) (cwV 0 hq (gb_gV w_418 w_419 w_420 w_15 w_421) rfl rfl rfl (by decide +kernel) ⟨Nat.le_of_ble_eq_true rfl, Nat.le_of_ble_eq_true rfl⟩) (gb_preW hSt2 (gb_kW_lt z_1) hS (fun q h => Nat.le_trans hb1 h.1) hP) rfl rfl hl.1 rfl (lv_room (Nat.le_of_ble_eq_true rfl)) dX7_isWord_7 ⟨Nat.le_of_ble_eq_true rfl, Nat.le_of_ble_eq_true rfl⟩) hS (fun _ h => h) (fun _ h => h) (fun q_5 H locs hY hk hS => ?_)
  obtain ⟨hq_5, hP⟩ := hY
  replace hq_5 := hq_5.symm
  subst hq_5
  refine lv_icmp_eq (tgt := 15) hx hb dX7_isWord_10 (by decide) (fun c_6 => ?_) (fun c_6 => ?_)
  · rw [if_pos c_6] at h
    refine lv_iconst (v := 0) hx hb dX7_isWord_15 (by decide) ?_
    refine lv_istore_n (lv' := [(3, .int 0), (0, .ref (b + 106)), (1, .ref (ak p1)), (2, .int p2)]) hx hb dX7_isWord_16 rfl hl (by decide) rfl (fun ls hl => ?_)
    exact L17_1 n _ _ _ _ _ _ h hP hS (lv_sub hl [1, 2, 0] rfl)
  · rw [if_neg c_6] at h
    refine lv_iconst (v := 0) hx hb dX7_isWord_13 (by decide) ?_
    obtain ⟨e1, e2⟩ := gb_eq2 h
    exact W.zret (v := 0) hx hb hr (by decide) (fun t ht hW => gb_ri ht ⟨e2, by rw [← e1]; exact hP⟩ hS) hS.2.2 dX7_isWord_14
theorem w_417 : (Cond.code ({ cls := "GooseBorder$Reader", name := "isWord", desc := "(Ljava/lang/String;I)Z" } : MethodName) prog_9_method_5_code (4 : Nat) (Option.some FieldType.boolean)) ∈ gb_wA := gb_t2 177 rfl rfl
theorem w_414 : (Cond.methodLink "GooseBorder$Reader" (84 : Nat) ({ cls := "GooseBorder$Reader", name := "isWord", desc := "(Ljava/lang/String;I)Z" } : MethodName)) ∈ gb_wA := gb_t2 174 rfl rfl
theorem w_416 : (Cond.instanceMethod ({ cls := "GooseBorder$Reader", name := "isWord", desc := "(Ljava/lang/String;I)Z" } : MethodName)) ∈ gb_wA := gb_t2 176 rfl rfl
theorem s_1_3 : Cond.selects "GooseBorder$Reader" (⟨"GooseBorder$Reader", "isWord", "(Ljava/lang/String;I)Z"⟩ : MethodName) (⟨"GooseBorder$Reader", "isWord", "(Ljava/lang/String;I)Z"⟩ : MethodName) ∈ gb_wA := gb_s1 3 rfl rfl
theorem dX7_takeWord_67 : decode cX7_takeWord 67 = .ok (.ifCond .eq 10, 3) := dc_153 (show ((cX7_takeWord.data.toList.drop 67).take 3).map UInt8.toNat = [153, 0, 10] by decide +kernel) rfl
theorem dX7_takeWord_77 : decode cX7_takeWord 77 = .ok (.iinc 3 1, 3) := dc_132 (show ((cX7_takeWord.data.toList.drop 77).take 3).map UInt8.toNat = [132, 3, 1] by decide +kernel) rfl
theorem dX7_takeWord_80 : decode cX7_takeWord 80 = .ok (.goto (-33), 3) := dc_167 (show ((cX7_takeWord.data.toList.drop 80).take 3).map UInt8.toNat = [167, 255, 223] by decide +kernel) rfl
theorem dX7_takeWord_70 : decode cX7_takeWord 70 = .ok (.aload_n 0, 1) := dc_42 (show ((cX7_takeWord.data.toList.drop 70).take 1).map UInt8.toNat = [42] by decide +kernel)
theorem dX7_takeWord_71 : decode cX7_takeWord 71 = .ok (.iload_n 2, 1) := dc_28 (show ((cX7_takeWord.data.toList.drop 71).take 1).map UInt8.toNat = [28] by decide +kernel)
theorem dX7_takeWord_72 : decode cX7_takeWord 72 = .ok (.putfield 29, 3) := dc_181 (show ((cX7_takeWord.data.toList.drop 72).take 3).map UInt8.toNat = [181, 0, 29] by decide +kernel) rfl
theorem dX7_takeWord_75 : decode cX7_takeWord 75 = .ok (.iload_n 3, 1) := dc_29 (show ((cX7_takeWord.data.toList.drop 75).take 1).map UInt8.toNat = [29] by decide +kernel)
theorem dX7_takeWord_76 : decode cX7_takeWord 76 = .ok (.ireturn, 1) := dc_172 (show ((cX7_takeWord.data.toList.drop 76).take 1).map UInt8.toNat = [172] by decide +kernel)
theorem dX7_takeWord_13 : decode cX7_takeWord 13 = .ok (.aload_n 0, 1) := dc_42 (show ((cX7_takeWord.data.toList.drop 13).take 1).map UInt8.toNat = [42] by decide +kernel)
theorem dX7_takeWord_14 : decode cX7_takeWord 14 = .ok (.getfield 15, 3) := dc_180 (show ((cX7_takeWord.data.toList.drop 14).take 3).map UInt8.toNat = [180, 0, 15] by decide +kernel) rfl
theorem dX7_takeWord_17 : decode cX7_takeWord 17 = .ok (.iload_n 2, 1) := dc_28 (show ((cX7_takeWord.data.toList.drop 17).take 1).map UInt8.toNat = [28] by decide +kernel)
theorem dX7_takeWord_18 : decode cX7_takeWord 18 = .ok (.baload, 1) := dc_51 (show ((cX7_takeWord.data.toList.drop 18).take 1).map UInt8.toNat = [51] by decide +kernel)
theorem dX7_takeWord_19 : decode cX7_takeWord 19 = .ok (.bipush 97, 2) := dc_16 (show ((cX7_takeWord.data.toList.drop 19).take 2).map UInt8.toNat = [16, 97] by decide +kernel) rfl
theorem dX7_takeWord_21 : decode cX7_takeWord 21 = .ok (.if_icmp .lt 20, 3) := dc_161 (show ((cX7_takeWord.data.toList.drop 21).take 3).map UInt8.toNat = [161, 0, 20] by decide +kernel) rfl
theorem dX7_takeWord_24 : decode cX7_takeWord 24 = .ok (.aload_n 0, 1) := dc_42 (show ((cX7_takeWord.data.toList.drop 24).take 1).map UInt8.toNat = [42] by decide +kernel)
theorem dX7_takeWord_25 : decode cX7_takeWord 25 = .ok (.getfield 15, 3) := dc_180 (show ((cX7_takeWord.data.toList.drop 25).take 3).map UInt8.toNat = [180, 0, 15] by decide +kernel) rfl
theorem dX7_takeWord_28 : decode cX7_takeWord 28 = .ok (.iload_n 2, 1) := dc_28 (show ((cX7_takeWord.data.toList.drop 28).take 1).map UInt8.toNat = [28] by decide +kernel)
theorem dX7_takeWord_29 : decode cX7_takeWord 29 = .ok (.baload, 1) := dc_51 (show ((cX7_takeWord.data.toList.drop 29).take 1).map UInt8.toNat = [51] by decide +kernel)
theorem dX7_takeWord_30 : decode cX7_takeWord 30 = .ok (.bipush 122, 2) := dc_16 (show ((cX7_takeWord.data.toList.drop 30).take 2).map UInt8.toNat = [16, 122] by decide +kernel) rfl
theorem dX7_takeWord_32 : decode cX7_takeWord 32 = .ok (.if_icmp .gt 9, 3) := dc_163 (show ((cX7_takeWord.data.toList.drop 32).take 3).map UInt8.toNat = [163, 0, 9] by decide +kernel) rfl
theorem dX7_takeWord_35 : decode cX7_takeWord 35 = .ok (.iinc 2 1, 3) := dc_132 (show ((cX7_takeWord.data.toList.drop 35).take 3).map UInt8.toNat = [132, 2, 1] by decide +kernel) rfl
theorem dX7_takeWord_38 : decode cX7_takeWord 38 = .ok (.goto (-33), 3) := dc_167 (show ((cX7_takeWord.data.toList.drop 38).take 3).map UInt8.toNat = [167, 255, 223] by decide +kernel) rfl
def cs_Reader_takeWord_47 (n : Nat) : Nat → gb_S → Int32 → Int32 → Int32 → gb_CR Int32
  | 0, _, _, _, _ => none
  | mm + 1, σ, v1, v2, v3 => gb_ck (v1 + 1) 5 (gb_lt (gb_tb0 (Int32.toNatClampNeg (v1 + 1))) (fun x_6 => (if x_6 ≤ v3 then some (σ, (-1)) else gb_cd (cs_Reader_wordOf n σ v3) (fun s_8 r_9 => gb_kk (gb_kW r_9) (gb_cd (cs_Reader_isWord_W n s_8 r_9 v2) (fun s_13 r_14 => (if r_14 = 0 then gb_lt (v3 + 1) (fun x_18 => cs_Reader_takeWord_47 n mm s_13 v1 v2 x_18) else gb_lt (gb_su s_13 106 (upd (s_13.1 106) 3 v2)) (fun s_19 => some (s_19, v3)))))))))
def cs_Reader_takeWord_5 (n : Nat) : Nat → gb_S → Int32 → Int32 → gb_CR Int32
  | 0, _, _, _ => none
  | mm + 1, σ, v1, v2 => (if (σ.1 106 2) ≤ v2 then gb_ck v1 5 (gb_lt (gb_tb0 (Int32.toNatClampNeg v1)) (fun x_4 => cs_Reader_takeWord_47 n n σ v1 v2 x_4)) else gb_kk (gb_kY (σ.2.1 0)) (gb_ck v2 600 (gb_lt ((σ.1 (σ.2.1 0)) (Int32.toNatClampNeg v2)) (fun x_22 => (if x_22 < 97 then gb_ck v1 5 (gb_lt (gb_tb0 (Int32.toNatClampNeg v1)) (fun x_25 => cs_Reader_takeWord_47 n n σ v1 v2 x_25)) else gb_kk (gb_kY (σ.2.1 0)) (gb_ck v2 600 (gb_lt ((σ.1 (σ.2.1 0)) (Int32.toNatClampNeg v2)) (fun x_28 => (if (122 : Int32) < x_28 then gb_ck v1 5 (gb_lt (gb_tb0 (Int32.toNatClampNeg v1)) (fun x_31 => cs_Reader_takeWord_47 n n σ v1 v2 x_31)) else gb_lt (v2 + 1) (fun x_32 => cs_Reader_takeWord_5 n mm σ v1 x_32))))))))))
def cs_Reader_takeWord (n : Nat) (σ : gb_S) (p1 : Int32) : gb_CR Int32 := gb_lt (σ.1 106 3) (fun x_1 => cs_Reader_takeWord_5 n n σ p1 x_1)
set_option maxHeartbeats 8000000 in
set_option maxRecDepth 100000 in
theorem cc_Reader_takeWord (l : Launch) (D : va_G) (cT : Nat → ClassId) (tt : Nat → Nat) (ak av : Nat → Nat) (b1 b : Nat) (hb1 : b1 ≤ b) (n : Nat) (σ : gb_S) (p1 : Int32) (σE : gb_S) (rE : Int32) (h : cs_Reader_takeWord n σ p1 = some (σE, rE)) : Met l yX7_takeWord (.code yX7_takeWord cX7_takeWord 4 (some FieldType.int) :: gb_wA) ({ frames := 5, cells := 0, slots := 0, locals := 108 }) (gb_Pc2 D cT tt ak av b1 [.ref (b + 106), .int p1] (fun h => va_P D vwCl (gb_wl b (gb_CW cT b σ)) h)) (gb_Qi (fun r h => r = rE ∧ va_P D vwCl (gb_wl b (gb_CW cT b σE)) h) (gb_fr b 135)) 0 0 (gb_fr b 135) := by
  refine Met.ofW (cc := cX7_takeWord) (maxL := 4) (ret := (some FieldType.int)) (by decide) rfl ?_
  intro p e s m args below meth c s₁ B hml hv
  obtain ⟨rfl, hSt2, hP⟩ := hv
  have hSt := hSt2.1
  have hx := B.exec
  have hb := B.bytes
  have hr := B.returns
  have hts := atoms_spec (ws := .code yX7_takeWord cX7_takeWord 4 (some FieldType.int) :: gb_wA) B.pre
  have hq : ∀ w ∈ gb_wA, w.before _ s = true := fun w h => hts w (List.mem_cons_of_mem _ h)
  have hown : s.vm.findClass RX7 = some m.cls := findClass_of_methodNamed B.named
  have hlocks := B.notSynchronized
  clear B hts
  have hK := hSt.1
  have hS : va_S (gb_fr b 135) s.heap s.heap [] := va_S.rf
  have hl := lv_entry ([.ref (b + 106), .int p1]) (n := 4) (Nat.le_of_ble_eq_true rfl)
  rw [lg_entry_eq]
  generalize (lg_sl ([.ref (b + 106), .int p1]) ++ List.replicate (4 - (lg_sl ([.ref (b + 106), .int p1])).length) Slot.unset).toArray = ls at hl ⊢
  replace hl : lv_has ls 4 [(0, .ref (b + 106)), (1, .int p1)] := hl
  have L47_2 : ∀ (mm : Nat) (σ : gb_S) (v1 : Int32) (v2 : Int32) (v3 : Int32) (H : Heap) (locs : List Loc) (ls : Array Slot), cs_Reader_takeWord_47 n mm σ v1 v2 v3 = some (σE, rE) → va_P D vwCl (gb_wl b (gb_CW cT b σ)) H → va_S (gb_fr b 135) s.heap H locs → lv_has ls 4 [(0, .ref (b + 106)), (1, .int v1), (2, .int v2), (3, .int v3)] → W p l e (headSpec (.code yX7_takeWord cX7_takeWord 4 (some FieldType.int) :: gb_wA) ({ frames := 5, cells := 0, slots := 0, locals := 108 })).room s m ([.ref (b + 106), .int p1]).toArray below meth c H locs 0 0 (MQ below (gb_Qi (fun r h => r = rE ∧ va_P D vwCl (gb_wl b (gb_CW cT b σE)) h) (gb_fr b 135)) ([.ref (b + 106), .int p1]).toArray s 0 0 (gb_fr b 135)) (F0 m 47 ls []) := by
    clear h hP hS hl ls
    intro mm
    induction mm with
    | zero =>
      intro σ v1 v2 v3 H locs ls h
      cases h
    | succ mm ih =>
      intro σ v1 v2 v3 H locs ls h hP hS hl
      rw [cs_Reader_takeWord_47] at h
      refine lv_iload_n hx hb dX7_takeWord_47 rfl (lv_at hl 3 rfl) ?_
      refine va_getsN hx hb (hSt.2.2.2.1.1.narrow (fun q h => Nat.le_trans hb1 h.1)) hS hown (va_Nw.use rfl (hSt.2.1 _ gb_n392)) (fun _ h9 => h9) dX7_takeWord_48 ?_
      refine lv_iload_n hx hb dX7_takeWord_51 rfl (lv_at hl 1 rfl) ?_
      refine lv_iconst (v := 1) hx hb dX7_takeWord_52 (by decide) ?_
      refine lv_iadd hx hb dX7_takeWord_53 ?_
      obtain ⟨z_5, h⟩ := gb_ck_s h
      refine va_ti (v := .int (gb_tb0 (Int32.toNatClampNeg (v1 + 1)))) hx hb (hSt.2.2.2.1.2.narrow (fun q h => Nat.le_trans hb1 h.1)) hS z_5 rfl dX7_takeWord_54 ?_
      refine lv_topi (fun x_6 ex_6 => ?_)
      replace h := gb_lt_s ex_6 h
      refine lv_icmp_ge (tgt := 83) hx hb dX7_takeWord_55 (by decide) (fun c_7 => ?_) (fun c_7 => ?_)
      · rw [if_pos c_7] at h
        refine lv_iconst (v := (-1)) hx hb dX7_takeWord_83 (by decide) ?_
        obtain ⟨e1, e2⟩ := gb_eq2 h
        exact W.iret (v := (-1)) hx hb hr (fun t ht hW => gb_ri ht ⟨e2, by rw [← e1]; exact hP⟩ hS) hS.2.2 dX7_takeWord_84
      · rw [if_neg c_7] at h
        refine lv_aload_n hx hb dX7_takeWord_58 rfl (lv_at hl 0 rfl) ?_
        refine lv_iload_n hx hb dX7_takeWord_59 rfl (lv_at hl 3 rfl) ?_
        obtain ⟨s_8, r_9, z_10, h⟩ := gb_cd_s h
        refine gb_callq (va_runS (As := [.int v3]) (rest := [.ref (b + 106)]) ⟨hx, hb, hml, hown, hq⟩ (cc_Reader_wordOf l D cT tt ak av b1 b hb1 n σ v3 s_8 r_9 z_10) (va_cwS 1 hq (gb_gS w_393 w_394 w_10 w_395) rfl rfl rfl (by decide +kernel) ⟨Nat.le_of_ble_eq_true rfl, Nat.le_of_ble_eq_true rfl⟩) (gb_preS2 hSt2 hS (fun q h => Nat.le_trans hb1 h.1) hP) rfl rfl hl.1 rfl (lv_room (Nat.le_of_ble_eq_true rfl)) dX7_takeWord_60 ⟨Nat.le_of_ble_eq_true rfl, Nat.le_of_ble_eq_true rfl⟩) hS (fun _ h => h) (fun _ h => h) (fun q_11 H locs hY hk hS => ?_)
        obtain ⟨hq_11, hP⟩ := hY
        subst hq_11
        obtain ⟨z_12, h⟩ := gb_kk_s h
        refine lv_iload_n hx hb dX7_takeWord_63 rfl (lv_at hl 2 rfl) ?_
        obtain ⟨s_13, r_14, z_15, h⟩ := gb_cd_s h
        refine gb_calli (va_runV (C := RX7) (As := [.ref (ak r_9), .int v2]) (rest := []) ⟨hx, hb, hml, hown, hq⟩ (cc_Reader_isWord_W l D cT tt ak av b1 b hb1 n s_8 r_9 v2 s_13 r_14 z_15) (cwV 2 hq (gb_gV w_414 w_416 s_1_3 w_10 w_417) rfl rfl rfl (by decide +kernel) ⟨Nat.le_of_ble_eq_true rfl, Nat.le_of_ble_eq_true rfl⟩) (gb_preV2 (r := (RX7, TX7, 6)) (ci := 6) (q0 := 106) hSt2 hP rfl (gb_at b rfl) hS (fun q h => Nat.le_trans hb1 h.1) hP) rfl rfl hl.1 rfl (lv_room (Nat.le_of_ble_eq_true rfl)) dX7_takeWord_64 ⟨Nat.le_of_ble_eq_true rfl, Nat.le_of_ble_eq_true rfl⟩) hS (fun _ h => h) (fun _ h => h) (fun q_16 H locs hY hk hS => ?_)
        obtain ⟨hq_16, hP⟩ := hY
        replace hq_16 := hq_16.symm
        subst hq_16
        refine lv_if_eq (tgt := 77) hx hb dX7_takeWord_67 (by decide) (fun c_17 => ?_) (fun c_17 => ?_)
        · rw [if_pos c_17] at h
          obtain ⟨x_18, ex_18⟩ : ∃ q, q = (v3 + 1) := ⟨_, rfl⟩
          replace h := gb_lt_s ex_18 h
          refine lv_iinc (v := x_18) (lv' := [(3, .int x_18), (0, .ref (b + 106)), (1, .int v1), (2, .int v2)]) hx hb dX7_takeWord_77 hl (k := 3) rfl (by rw [ex_18]; rfl) (by decide) rfl (fun ls hl => ?_)
          refine lv_goto (tgt := 47) hx hb dX7_takeWord_80 (by decide) ?_
          exact ih _ _ _ _ _ _ _ h hP hS (lv_sub hl [1, 2, 3, 0] rfl)
        · rw [if_neg c_17] at h
          refine lv_aload_n hx hb dX7_takeWord_70 rfl (lv_at hl 0 rfl) ?_
          refine lv_iload_n hx hb dX7_takeWord_71 rfl (lv_at hl 2 rfl) ?_
          refine gb_put (ci := 6) (v := (.int v2)) (ty := .int) (C := RX7) (T := TX7) (N := 6) hx hb hq i_X7 tyX7 tyX7_ok nmX7 hown hK hP (fun k h => ⟨Nat.le_add_right b k, Nat.add_lt_add_left h b⟩) hS rfl 106 rfl rfl 3 (by decide) (hq _ w_170) (fun _ h9 => h9) rfl (by decide +kernel) rfl rfl (Nat.le_of_ble_eq_true rfl) dX7_takeWord_72 (fun H locs hP hz_ hS => ?_)
          obtain ⟨s_19, es_19⟩ : ∃ q, q = (gb_su s_13 106 (upd (s_13.1 106) 3 v2)) := ⟨_, rfl⟩
          replace hP : va_P D vwCl (gb_wl b (gb_CW cT b s_19)) H := by rw [es_19]; exact hP
          replace h := gb_lt_s es_19 h
          refine lv_iload_n hx hb dX7_takeWord_75 rfl (lv_at hl 3 rfl) ?_
          obtain ⟨e1, e2⟩ := gb_eq2 h
          exact W.iret (v := v3) hx hb hr (fun t ht hW => gb_ri ht ⟨e2, by rw [← e1]; exact hP⟩ hS) hS.2.2 dX7_takeWord_76
  have L5_1 : ∀ (mm : Nat) (σ : gb_S) (v1 : Int32) (v2 : Int32) (H : Heap) (locs : List Loc) (ls : Array Slot), cs_Reader_takeWord_5 n mm σ v1 v2 = some (σE, rE) → va_P D vwCl (gb_wl b (gb_CW cT b σ)) H → va_S (gb_fr b 135) s.heap H locs → lv_has ls 4 [(0, .ref (b + 106)), (1, .int v1), (2, .int v2)] → W p l e (headSpec (.code yX7_takeWord cX7_takeWord 4 (some FieldType.int) :: gb_wA) ({ frames := 5, cells := 0, slots := 0, locals := 108 })).room s m ([.ref (b + 106), .int p1]).toArray below meth c H locs 0 0 (MQ below (gb_Qi (fun r h => r = rE ∧ va_P D vwCl (gb_wl b (gb_CW cT b σE)) h) (gb_fr b 135)) ([.ref (b + 106), .int p1]).toArray s 0 0 (gb_fr b 135)) (F0 m 5 ls []) := by
    clear h hP hS hl ls
    intro mm
    induction mm with
    | zero =>
      intro σ v1 v2 H locs ls h
      cases h
    | succ mm ih =>
      intro σ v1 v2 H locs ls h hP hS hl
      rw [cs_Reader_takeWord_5] at h
      refine lv_iload_n hx hb dX7_takeWord_5 rfl (lv_at hl 2 rfl) ?_
      refine lv_aload_n hx hb dX7_takeWord_6 rfl (lv_at hl 0 rfl) ?_
      refine va_get (ci := 6) (v := (.int (σ.1 106 2))) (C := RX7) (T := TX7) (N := 6) hx hb hq i_X7 hown hK hP 106 (gb_at b rfl) rfl 2 (by decide) (hq _ w_169) (fun _ h9 => h9) rfl dX7_takeWord_7 ?_
      refine lv_icmp_ge (tgt := 41) hx hb dX7_takeWord_10 (by decide) (fun c_2 => ?_) (fun c_2 => ?_)
      · rw [if_pos c_2] at h
        refine va_getsN hx hb (hSt.2.2.2.1.1.narrow (fun q h => Nat.le_trans hb1 h.1)) hS hown (va_Nw.use rfl (hSt.2.1 _ gb_n392)) (fun _ h9 => h9) dX7_takeWord_41 ?_
        refine lv_iload_n hx hb dX7_takeWord_44 rfl (lv_at hl 1 rfl) ?_
        obtain ⟨z_3, h⟩ := gb_ck_s h
        refine va_ti (v := .int (gb_tb0 (Int32.toNatClampNeg v1))) hx hb (hSt.2.2.2.1.2.narrow (fun q h => Nat.le_trans hb1 h.1)) hS z_3 rfl dX7_takeWord_45 ?_
        refine lv_topi (fun x_4 ex_4 => ?_)
        replace h := gb_lt_s ex_4 h
        refine lv_istore_n (lv' := [(3, .int x_4), (0, .ref (b + 106)), (1, .int v1), (2, .int v2)]) hx hb dX7_takeWord_46 rfl hl (by decide) rfl (fun ls hl => ?_)
        exact L47_2 n _ _ _ _ _ _ _ h hP hS (lv_sub hl [1, 2, 3, 0] rfl)
      · rw [if_neg c_2] at h
        refine lv_aload_n hx hb dX7_takeWord_13 rfl (lv_at hl 0 rfl) ?_
        obtain ⟨z_20, h⟩ := gb_kk_s h
        refine va_get (ci := 6) (v := (.ref (b + (σ.2.1 0)))) (C := RX7) (T := TX7) (N := 6) hx hb hq i_X7 hown hK hP 106 (gb_at b rfl) rfl 1 (by decide) (hq _ w_168) (fun _ h9 => h9) rfl dX7_takeWord_14 ?_
        refine lv_iload_n hx hb dX7_takeWord_17 rfl (lv_at hl 2 rfl) ?_
        obtain ⟨z_21, h⟩ := gb_ck_s h
        refine va_bald hx hb hK hP (σ.2.1 0) 1 (gb_at b (gb_cY z_20)) rfl z_21 dX7_takeWord_18 ?_
        refine lv_topi (fun x_22 ex_22 => ?_)
        replace h := gb_lt_s ex_22 h
        refine lv_bipush (v := 97) hx hb dX7_takeWord_19 (by decide) ?_
        refine lv_icmp_lt (tgt := 41) hx hb dX7_takeWord_21 (by decide) (fun c_23 => ?_) (fun c_23 => ?_)
        · rw [if_pos c_23] at h
          refine va_getsN hx hb (hSt.2.2.2.1.1.narrow (fun q h => Nat.le_trans hb1 h.1)) hS hown (va_Nw.use rfl (hSt.2.1 _ gb_n392)) (fun _ h9 => h9) dX7_takeWord_41 ?_
          refine lv_iload_n hx hb dX7_takeWord_44 rfl (lv_at hl 1 rfl) ?_
          obtain ⟨z_24, h⟩ := gb_ck_s h
          refine va_ti (v := .int (gb_tb0 (Int32.toNatClampNeg v1))) hx hb (hSt.2.2.2.1.2.narrow (fun q h => Nat.le_trans hb1 h.1)) hS z_24 rfl dX7_takeWord_45 ?_
          refine lv_topi (fun x_25 ex_25 => ?_)
          replace h := gb_lt_s ex_25 h
          refine lv_istore_n (lv' := [(3, .int x_25), (0, .ref (b + 106)), (1, .int v1), (2, .int v2)]) hx hb dX7_takeWord_46 rfl hl (by decide) rfl (fun ls hl => ?_)
          exact L47_2 n _ _ _ _ _ _ _ h hP hS (lv_sub hl [1, 2, 3, 0] rfl)
        · rw [if_neg c_23] at h
          refine lv_aload_n hx hb dX7_takeWord_24 rfl (lv_at hl 0 rfl) ?_
          obtain ⟨z_26, h⟩ := gb_kk_s h
          refine va_get (ci := 6) (v := (.ref (b + (σ.2.1 0)))) (C := RX7) (T := TX7) (N := 6) hx hb hq i_X7 hown hK hP 106 (gb_at b rfl) rfl 1 (by decide) (hq _ w_168) (fun _ h9 => h9) rfl dX7_takeWord_25 ?_
          refine lv_iload_n hx hb dX7_takeWord_28 rfl (lv_at hl 2 rfl) ?_
          obtain ⟨z_27, h⟩ := gb_ck_s h
          refine va_bald hx hb hK hP (σ.2.1 0) 1 (gb_at b (gb_cY z_26)) rfl z_27 dX7_takeWord_29 ?_
          refine lv_topi (fun x_28 ex_28 => ?_)
          replace h := gb_lt_s ex_28 h
          refine lv_bipush (v := 122) hx hb dX7_takeWord_30 (by decide) ?_
          refine lv_icmp_gt (tgt := 41) hx hb dX7_takeWord_32 (by decide) (fun c_29 => ?_) (fun c_29 => ?_)
          · rw [if_pos c_29] at h
            refine va_getsN hx hb (hSt.2.2.2.1.1.narrow (fun q h => Nat.le_trans hb1 h.1)) hS hown (va_Nw.use rfl (hSt.2.1 _ gb_n392)) (fun _ h9 => h9) dX7_takeWord_41 ?_
            refine lv_iload_n hx hb dX7_takeWord_44 rfl (lv_at hl 1 rfl) ?_
            obtain ⟨z_30, h⟩ := gb_ck_s h
            refine va_ti (v := .int (gb_tb0 (Int32.toNatClampNeg v1))) hx hb (hSt.2.2.2.1.2.narrow (fun q h => Nat.le_trans hb1 h.1)) hS z_30 rfl dX7_takeWord_45 ?_
            refine lv_topi (fun x_31 ex_31 => ?_)
            replace h := gb_lt_s ex_31 h
            refine lv_istore_n (lv' := [(3, .int x_31), (0, .ref (b + 106)), (1, .int v1), (2, .int v2)]) hx hb dX7_takeWord_46 rfl hl (by decide) rfl (fun ls hl => ?_)
            exact L47_2 n _ _ _ _ _ _ _ h hP hS (lv_sub hl [1, 2, 3, 0] rfl)
          · rw [if_neg c_29] at h
            obtain ⟨x_32, ex_32⟩ : ∃ q, q = (v2 + 1) := ⟨_, rfl⟩
            replace h := gb_lt_s ex_32 h
            refine lv_iinc (v := x_32) (lv' := [(2, .int x_32), (0, .ref (b + 106)), (1, .int v1)]) hx hb dX7_takeWord_35 hl (k := 2) rfl (by rw [ex_32]; rfl) (by decide) rfl (fun ls hl => ?_)
            refine lv_goto (tgt := 5) hx hb dX7_takeWord_38 (by decide) ?_
            exact ih _ _ _ _ _ _ h hP hS (lv_sub hl [1, 2, 0] rfl)
  unfold cs_Reader_takeWord at h
  refine lv_aload_n hx hb dX7_takeWord_0 rfl (lv_at hl 0 rfl) ?_
  refine va_get (ci := 6) (v := (.int (σ.1 106 3))) (C := RX7) (T := TX7) (N := 6) hx hb hq i_X7 hown hK hP 106 (gb_at b rfl) rfl 3 (by decide) (hq _ w_170) (fun _ h9 => h9) rfl dX7_takeWord_1 ?_
  refine lv_topi (fun x_1 ex_1 => ?_)
  replace h := gb_lt_s ex_1 h
  refine lv_istore_n (lv' := [(2, .int x_1), (0, .ref (b + 106)), (1, .int p1)]) hx hb dX7_takeWord_4 rfl hl (by decide) rfl (fun ls hl => ?_)
  exact L5_1 n _ _ _ _ _ _ h hP hS (lv_sub hl [1, 2, 0] rfl)
theorem w_391 : (Cond.code ({ cls := "GooseBorder$Reader", name := "takeWord", desc := "(I)I" } : MethodName) prog_9_method_4_code (4 : Nat) (Option.some FieldType.int)) ∈ gb_wA := gb_t2 151 rfl rfl
theorem w_388 : (Cond.methodLink "GooseBorder$Reader" (58 : Nat) ({ cls := "GooseBorder$Reader", name := "takeWord", desc := "(I)I" } : MethodName)) ∈ gb_wA := gb_t2 148 rfl rfl
theorem w_390 : (Cond.instanceMethod ({ cls := "GooseBorder$Reader", name := "takeWord", desc := "(I)I" } : MethodName)) ∈ gb_wA := gb_t2 150 rfl rfl
theorem s_1_2 : Cond.selects "GooseBorder$Reader" (⟨"GooseBorder$Reader", "takeWord", "(I)I"⟩ : MethodName) (⟨"GooseBorder$Reader", "takeWord", "(I)I"⟩ : MethodName) ∈ gb_wA := gb_s1 2 rfl rfl
theorem dX7_readLine_10 : decode cX7_readLine 10 = .ok (.istore 4, 2) := dc_54 (show ((cX7_readLine.data.toList.drop 10).take 2).map UInt8.toNat = [54, 4] by decide +kernel) rfl
theorem dX7_readLine_12 : decode cX7_readLine 12 = .ok (.iload 4, 2) := dc_21 (show ((cX7_readLine.data.toList.drop 12).take 2).map UInt8.toNat = [21, 4] by decide +kernel) rfl
theorem dX7_readLine_14 : decode cX7_readLine 14 = .ok (.iconst (-1), 1) := dc_2 (show ((cX7_readLine.data.toList.drop 14).take 1).map UInt8.toNat = [2] by decide +kernel)
theorem dX7_readLine_15 : decode cX7_readLine 15 = .ok (.if_icmp .ne 5, 3) := dc_160 (show ((cX7_readLine.data.toList.drop 15).take 3).map UInt8.toNat = [160, 0, 5] by decide +kernel) rfl
theorem dX7_readLine_20 : decode cX7_readLine 20 = .ok (.aload_n 2, 1) := dc_44 (show ((cX7_readLine.data.toList.drop 20).take 1).map UInt8.toNat = [44] by decide +kernel)
theorem dX7_readLine_21 : decode cX7_readLine 21 = .ok (.iload 4, 2) := dc_21 (show ((cX7_readLine.data.toList.drop 21).take 2).map UInt8.toNat = [21, 4] by decide +kernel) rfl
theorem dX7_readLine_23 : decode cX7_readLine 23 = .ok (.invokevirtual 62, 3) := dc_182 (show ((cX7_readLine.data.toList.drop 23).take 3).map UInt8.toNat = [182, 0, 62] by decide +kernel) rfl
theorem w_471 : (Cond.code ({ cls := "GooseBorder$Border", name := "hasRoomFor", desc := "(I)Z" } : MethodName) prog_2_method_3_code (2 : Nat) (Option.some FieldType.boolean)) ∈ gb_wA := gb_t2 231 rfl rfl
theorem w_466 : (Cond.methodLink "GooseBorder$Reader" (62 : Nat) ({ cls := "GooseBorder$Sheet", name := "hasRoomFor", desc := "(I)Z" } : MethodName)) ∈ gb_wA := gb_t2 226 rfl rfl
theorem w_468 : (Cond.sameMethod "GooseBorder$Sheet" "GooseBorder$Sheet" "hasRoomFor" "(I)Z") ∈ gb_wA := gb_t2 228 rfl rfl
theorem w_469 : (Cond.selects "GooseBorder$Border" ({ cls := "GooseBorder$Sheet", name := "hasRoomFor", desc := "(I)Z" } : MethodName) ({ cls := "GooseBorder$Border", name := "hasRoomFor", desc := "(I)Z" } : MethodName)) ∈ gb_wA := gb_t2 229 rfl rfl
theorem w_470 : (Cond.instanceMethod ({ cls := "GooseBorder$Border", name := "hasRoomFor", desc := "(I)Z" } : MethodName)) ∈ gb_wA := gb_t2 230 rfl rfl
theorem dX7_readLine_26 : decode cX7_readLine 26 = .ok (.ifCond .ne 9, 3) := dc_154 (show ((cX7_readLine.data.toList.drop 26).take 3).map UInt8.toNat = [154, 0, 9] by decide +kernel) rfl
theorem dX7_readLine_35 : decode cX7_readLine 35 = .ok (.iconst 0, 1) := dc_3 (show ((cX7_readLine.data.toList.drop 35).take 1).map UInt8.toNat = [3] by decide +kernel)
theorem dX7_readLine_36 : decode cX7_readLine 36 = .ok (.istore 5, 2) := dc_54 (show ((cX7_readLine.data.toList.drop 36).take 2).map UInt8.toNat = [54, 5] by decide +kernel) rfl
theorem dX7_readLine_38 : decode cX7_readLine 38 = .ok (.iload 5, 2) := dc_21 (show ((cX7_readLine.data.toList.drop 38).take 2).map UInt8.toNat = [21, 5] by decide +kernel) rfl
theorem dX7_readLine_40 : decode cX7_readLine 40 = .ok (.getstatic 66, 3) := dc_178 (show ((cX7_readLine.data.toList.drop 40).take 3).map UInt8.toNat = [178, 0, 66] by decide +kernel) rfl
theorem dX7_readLine_43 : decode cX7_readLine 43 = .ok (.iload 4, 2) := dc_21 (show ((cX7_readLine.data.toList.drop 43).take 2).map UInt8.toNat = [21, 4] by decide +kernel) rfl
theorem dX7_readLine_45 : decode cX7_readLine 45 = .ok (.iaload, 1) := dc_46 (show ((cX7_readLine.data.toList.drop 45).take 1).map UInt8.toNat = [46] by decide +kernel)
theorem dX7_readLine_46 : decode cX7_readLine 46 = .ok (.if_icmp .ge 26, 3) := dc_162 (show ((cX7_readLine.data.toList.drop 46).take 3).map UInt8.toNat = [162, 0, 26] by decide +kernel) rfl
theorem dX7_readLine_72 : decode cX7_readLine 72 = .ok (.aload_n 0, 1) := dc_42 (show ((cX7_readLine.data.toList.drop 72).take 1).map UInt8.toNat = [42] by decide +kernel)
theorem dX7_readLine_73 : decode cX7_readLine 73 = .ok (.invokevirtual 43, 3) := dc_182 (show ((cX7_readLine.data.toList.drop 73).take 3).map UInt8.toNat = [182, 0, 43] by decide +kernel) rfl
theorem dX7_readLine_76 : decode cX7_readLine 76 = .ok (.aload_n 0, 1) := dc_42 (show ((cX7_readLine.data.toList.drop 76).take 1).map UInt8.toNat = [42] by decide +kernel)
theorem dX7_readLine_77 : decode cX7_readLine 77 = .ok (.getfield 29, 3) := dc_180 (show ((cX7_readLine.data.toList.drop 77).take 3).map UInt8.toNat = [180, 0, 29] by decide +kernel) rfl
theorem dX7_readLine_80 : decode cX7_readLine 80 = .ok (.aload_n 0, 1) := dc_42 (show ((cX7_readLine.data.toList.drop 80).take 1).map UInt8.toNat = [42] by decide +kernel)
theorem dX7_readLine_81 : decode cX7_readLine 81 = .ok (.getfield 25, 3) := dc_180 (show ((cX7_readLine.data.toList.drop 81).take 3).map UInt8.toNat = [180, 0, 25] by decide +kernel) rfl
theorem dX7_readLine_84 : decode cX7_readLine 84 = .ok (.if_icmp .ge 17, 3) := dc_162 (show ((cX7_readLine.data.toList.drop 84).take 3).map UInt8.toNat = [162, 0, 17] by decide +kernel) rfl
theorem dX7_readLine_101 : decode cX7_readLine 101 = .ok (.iconst 0, 1) := dc_3 (show ((cX7_readLine.data.toList.drop 101).take 1).map UInt8.toNat = [3] by decide +kernel)
theorem dX7_readLine_102 : decode cX7_readLine 102 = .ok (.ireturn, 1) := dc_172 (show ((cX7_readLine.data.toList.drop 102).take 1).map UInt8.toNat = [172] by decide +kernel)
theorem dX7_readLine_87 : decode cX7_readLine 87 = .ok (.aload_n 0, 1) := dc_42 (show ((cX7_readLine.data.toList.drop 87).take 1).map UInt8.toNat = [42] by decide +kernel)
theorem dX7_readLine_88 : decode cX7_readLine 88 = .ok (.getfield 15, 3) := dc_180 (show ((cX7_readLine.data.toList.drop 88).take 3).map UInt8.toNat = [180, 0, 15] by decide +kernel) rfl
theorem dX7_readLine_91 : decode cX7_readLine 91 = .ok (.aload_n 0, 1) := dc_42 (show ((cX7_readLine.data.toList.drop 91).take 1).map UInt8.toNat = [42] by decide +kernel)
theorem dX7_readLine_92 : decode cX7_readLine 92 = .ok (.getfield 29, 3) := dc_180 (show ((cX7_readLine.data.toList.drop 92).take 3).map UInt8.toNat = [180, 0, 29] by decide +kernel) rfl
theorem dX7_readLine_95 : decode cX7_readLine 95 = .ok (.baload, 1) := dc_51 (show ((cX7_readLine.data.toList.drop 95).take 1).map UInt8.toNat = [51] by decide +kernel)
theorem dX7_readLine_96 : decode cX7_readLine 96 = .ok (.bipush 59, 2) := dc_16 (show ((cX7_readLine.data.toList.drop 96).take 2).map UInt8.toNat = [16, 59] by decide +kernel) rfl
theorem dX7_readLine_98 : decode cX7_readLine 98 = .ok (.if_icmp .eq 5, 3) := dc_159 (show ((cX7_readLine.data.toList.drop 98).take 3).map UInt8.toNat = [159, 0, 5] by decide +kernel) rfl
theorem dX7_readLine_103 : decode cX7_readLine 103 = .ok (.aload_n 0, 1) := dc_42 (show ((cX7_readLine.data.toList.drop 103).take 1).map UInt8.toNat = [42] by decide +kernel)
theorem dX7_readLine_104 : decode cX7_readLine 104 = .ok (.dup, 1) := dc_89 (show ((cX7_readLine.data.toList.drop 104).take 1).map UInt8.toNat = [89] by decide +kernel)
theorem dX7_readLine_105 : decode cX7_readLine 105 = .ok (.getfield 29, 3) := dc_180 (show ((cX7_readLine.data.toList.drop 105).take 3).map UInt8.toNat = [180, 0, 29] by decide +kernel) rfl
theorem dX7_readLine_108 : decode cX7_readLine 108 = .ok (.iconst 1, 1) := dc_4 (show ((cX7_readLine.data.toList.drop 108).take 1).map UInt8.toNat = [4] by decide +kernel)
theorem dX7_readLine_109 : decode cX7_readLine 109 = .ok (.iadd, 1) := dc_96 (show ((cX7_readLine.data.toList.drop 109).take 1).map UInt8.toNat = [96] by decide +kernel)
theorem dX7_readLine_110 : decode cX7_readLine 110 = .ok (.putfield 29, 3) := dc_181 (show ((cX7_readLine.data.toList.drop 110).take 3).map UInt8.toNat = [181, 0, 29] by decide +kernel) rfl
theorem dX7_readLine_113 : decode cX7_readLine 113 = .ok (.aload_n 2, 1) := dc_44 (show ((cX7_readLine.data.toList.drop 113).take 1).map UInt8.toNat = [44] by decide +kernel)
theorem dX7_readLine_114 : decode cX7_readLine 114 = .ok (.iload 4, 2) := dc_21 (show ((cX7_readLine.data.toList.drop 114).take 2).map UInt8.toNat = [21, 4] by decide +kernel) rfl
theorem dX7_readLine_116 : decode cX7_readLine 116 = .ok (.aload_n 0, 1) := dc_42 (show ((cX7_readLine.data.toList.drop 116).take 1).map UInt8.toNat = [42] by decide +kernel)
theorem dX7_readLine_117 : decode cX7_readLine 117 = .ok (.getfield 9, 3) := dc_180 (show ((cX7_readLine.data.toList.drop 117).take 3).map UInt8.toNat = [180, 0, 9] by decide +kernel) rfl
theorem dX7_readLine_120 : decode cX7_readLine 120 = .ok (.invokevirtual 73, 3) := dc_182 (show ((cX7_readLine.data.toList.drop 120).take 3).map UInt8.toNat = [182, 0, 73] by decide +kernel) rfl
theorem dX0_addLine_0 : decode cX0_addLine 0 = .ok (.aload_n 0, 1) := dc_42 (show ((cX0_addLine.data.toList.drop 0).take 1).map UInt8.toNat = [42] by decide +kernel)
theorem dX0_addLine_1 : decode cX0_addLine 1 = .ok (.iload_n 1, 1) := dc_27 (show ((cX0_addLine.data.toList.drop 1).take 1).map UInt8.toNat = [27] by decide +kernel)
theorem dX0_addLine_2 : decode cX0_addLine 2 = .ok (.invokevirtual 22, 3) := dc_182 (show ((cX0_addLine.data.toList.drop 2).take 3).map UInt8.toNat = [182, 0, 22] by decide +kernel) rfl
theorem w_514 : (Cond.methodLink "GooseBorder$Border" (22 : Nat) ({ cls := "GooseBorder$Border", name := "hasRoomFor", desc := "(I)Z" } : MethodName)) ∈ gb_wA := gb_t3 34 rfl rfl
theorem w_1725 : (Cond.selects "GooseBorder$Border" ({ cls := "GooseBorder$Border", name := "hasRoomFor", desc := "(I)Z" } : MethodName) ({ cls := "GooseBorder$Border", name := "hasRoomFor", desc := "(I)Z" } : MethodName)) ∈ gb_wA := gb_t8 45 rfl rfl
theorem dX0_addLine_5 : decode cX0_addLine 5 = .ok (.ifCond .ne 4, 3) := dc_154 (show ((cX0_addLine.data.toList.drop 5).take 3).map UInt8.toNat = [154, 0, 4] by decide +kernel) rfl
theorem dX0_addLine_9 : decode cX0_addLine 9 = .ok (.iload_n 1, 1) := dc_27 (show ((cX0_addLine.data.toList.drop 9).take 1).map UInt8.toNat = [27] by decide +kernel)
theorem dX0_addLine_10 : decode cX0_addLine 10 = .ok (.iconst 2, 1) := dc_5 (show ((cX0_addLine.data.toList.drop 10).take 1).map UInt8.toNat = [5] by decide +kernel)
theorem dX0_addLine_11 : decode cX0_addLine 11 = .ok (.if_icmp .ne 15, 3) := dc_160 (show ((cX0_addLine.data.toList.drop 11).take 3).map UInt8.toNat = [160, 0, 15] by decide +kernel) rfl
theorem dX0_addLine_26 : decode cX0_addLine 26 = .ok (.iload_n 1, 1) := dc_27 (show ((cX0_addLine.data.toList.drop 26).take 1).map UInt8.toNat = [27] by decide +kernel)
theorem dX0_addLine_27 : decode cX0_addLine 27 = .ok (.ifCond .ne 34, 3) := dc_154 (show ((cX0_addLine.data.toList.drop 27).take 3).map UInt8.toNat = [154, 0, 34] by decide +kernel) rfl
theorem dX0_addLine_61 : decode cX0_addLine 61 = .ok (.iload_n 1, 1) := dc_27 (show ((cX0_addLine.data.toList.drop 61).take 1).map UInt8.toNat = [27] by decide +kernel)
theorem dX0_addLine_62 : decode cX0_addLine 62 = .ok (.iconst 1, 1) := dc_4 (show ((cX0_addLine.data.toList.drop 62).take 1).map UInt8.toNat = [4] by decide +kernel)
theorem dX0_addLine_63 : decode cX0_addLine 63 = .ok (.if_icmp .ne 32, 3) := dc_160 (show ((cX0_addLine.data.toList.drop 63).take 3).map UInt8.toNat = [160, 0, 32] by decide +kernel) rfl
theorem dX0_addLine_95 : decode cX0_addLine 95 = .ok (.return_, 1) := dc_177 (show ((cX0_addLine.data.toList.drop 95).take 1).map UInt8.toNat = [177] by decide +kernel)
theorem dX0_addLine_66 : decode cX0_addLine 66 = .ok (.aload_n 2, 1) := dc_44 (show ((cX0_addLine.data.toList.drop 66).take 1).map UInt8.toNat = [44] by decide +kernel)
theorem dX0_addLine_67 : decode cX0_addLine 67 = .ok (.iconst 0, 1) := dc_3 (show ((cX0_addLine.data.toList.drop 67).take 1).map UInt8.toNat = [3] by decide +kernel)
theorem dX0_addLine_68 : decode cX0_addLine 68 = .ok (.aload_n 0, 1) := dc_42 (show ((cX0_addLine.data.toList.drop 68).take 1).map UInt8.toNat = [42] by decide +kernel)
theorem dX0_addLine_69 : decode cX0_addLine 69 = .ok (.getfield 11, 3) := dc_180 (show ((cX0_addLine.data.toList.drop 69).take 3).map UInt8.toNat = [180, 0, 11] by decide +kernel) rfl
theorem dX0_addLine_72 : decode cX0_addLine 72 = .ok (.bipush 18, 2) := dc_16 (show ((cX0_addLine.data.toList.drop 72).take 2).map UInt8.toNat = [16, 18] by decide +kernel) rfl
theorem dX0_addLine_74 : decode cX0_addLine 74 = .ok (.aload_n 0, 1) := dc_42 (show ((cX0_addLine.data.toList.drop 74).take 1).map UInt8.toNat = [42] by decide +kernel)
theorem dX0_addLine_75 : decode cX0_addLine 75 = .ok (.invokevirtual 19, 3) := dc_182 (show ((cX0_addLine.data.toList.drop 75).take 3).map UInt8.toNat = [182, 0, 19] by decide +kernel) rfl
theorem dX0_addLine_78 : decode cX0_addLine 78 = .ok (.iconst 5, 1) := dc_8 (show ((cX0_addLine.data.toList.drop 78).take 1).map UInt8.toNat = [8] by decide +kernel)
theorem dX0_addLine_79 : decode cX0_addLine 79 = .ok (.imul, 1) := dc_104 (show ((cX0_addLine.data.toList.drop 79).take 1).map UInt8.toNat = [104] by decide +kernel)
theorem dX0_addLine_80 : decode cX0_addLine 80 = .ok (.iadd, 1) := dc_96 (show ((cX0_addLine.data.toList.drop 80).take 1).map UInt8.toNat = [96] by decide +kernel)
theorem dX0_addLine_81 : decode cX0_addLine 81 = .ok (.iconst 5, 1) := dc_8 (show ((cX0_addLine.data.toList.drop 81).take 1).map UInt8.toNat = [8] by decide +kernel)
theorem dX0_addLine_82 : decode cX0_addLine 82 = .ok (.invokestatic 26, 3) := dc_184 (show ((cX0_addLine.data.toList.drop 82).take 3).map UInt8.toNat = [184, 0, 26] by decide +kernel) rfl
theorem w_515 : (Cond.methodLink "GooseBorder$Border" (26 : Nat) ({ cls := "java/lang/System", name := "arraycopy", desc := "(Ljava/lang/Object;ILjava/lang/Object;II)V" } : MethodName)) ∈ gb_wA := gb_t3 35 rfl rfl
theorem dX0_addLine_85 : decode cX0_addLine 85 = .ok (.aload_n 0, 1) := dc_42 (show ((cX0_addLine.data.toList.drop 85).take 1).map UInt8.toNat = [42] by decide +kernel)
theorem dX0_addLine_86 : decode cX0_addLine 86 = .ok (.getfield 11, 3) := dc_180 (show ((cX0_addLine.data.toList.drop 86).take 3).map UInt8.toNat = [180, 0, 11] by decide +kernel) rfl
theorem dX0_addLine_89 : decode cX0_addLine 89 = .ok (.iconst 1, 1) := dc_4 (show ((cX0_addLine.data.toList.drop 89).take 1).map UInt8.toNat = [4] by decide +kernel)
theorem dX0_addLine_90 : decode cX0_addLine 90 = .ok (.dup2, 1) := dc_92 (show ((cX0_addLine.data.toList.drop 90).take 1).map UInt8.toNat = [92] by decide +kernel)
theorem dX0_addLine_91 : decode cX0_addLine 91 = .ok (.iaload, 1) := dc_46 (show ((cX0_addLine.data.toList.drop 91).take 1).map UInt8.toNat = [46] by decide +kernel)
theorem dX0_addLine_92 : decode cX0_addLine 92 = .ok (.iconst 1, 1) := dc_4 (show ((cX0_addLine.data.toList.drop 92).take 1).map UInt8.toNat = [4] by decide +kernel)
theorem dX0_addLine_93 : decode cX0_addLine 93 = .ok (.iadd, 1) := dc_96 (show ((cX0_addLine.data.toList.drop 93).take 1).map UInt8.toNat = [96] by decide +kernel)
theorem dX0_addLine_94 : decode cX0_addLine 94 = .ok (.iastore, 1) := dc_79 (show ((cX0_addLine.data.toList.drop 94).take 1).map UInt8.toNat = [79] by decide +kernel)
theorem dX0_addLine_30 : decode cX0_addLine 30 = .ok (.aload_n 2, 1) := dc_44 (show ((cX0_addLine.data.toList.drop 30).take 1).map UInt8.toNat = [44] by decide +kernel)
theorem dX0_addLine_31 : decode cX0_addLine 31 = .ok (.iconst 0, 1) := dc_3 (show ((cX0_addLine.data.toList.drop 31).take 1).map UInt8.toNat = [3] by decide +kernel)
theorem dX0_addLine_32 : decode cX0_addLine 32 = .ok (.aload_n 0, 1) := dc_42 (show ((cX0_addLine.data.toList.drop 32).take 1).map UInt8.toNat = [42] by decide +kernel)
theorem dX0_addLine_33 : decode cX0_addLine 33 = .ok (.getfield 11, 3) := dc_180 (show ((cX0_addLine.data.toList.drop 33).take 3).map UInt8.toNat = [180, 0, 11] by decide +kernel) rfl
theorem dX0_addLine_36 : decode cX0_addLine 36 = .ok (.iconst 3, 1) := dc_6 (show ((cX0_addLine.data.toList.drop 36).take 1).map UInt8.toNat = [6] by decide +kernel)
theorem dX0_addLine_37 : decode cX0_addLine 37 = .ok (.aload_n 0, 1) := dc_42 (show ((cX0_addLine.data.toList.drop 37).take 1).map UInt8.toNat = [42] by decide +kernel)
theorem dX0_addLine_38 : decode cX0_addLine 38 = .ok (.invokevirtual 15, 3) := dc_182 (show ((cX0_addLine.data.toList.drop 38).take 3).map UInt8.toNat = [182, 0, 15] by decide +kernel) rfl
theorem dX0_addLine_41 : decode cX0_addLine 41 = .ok (.iconst 3, 1) := dc_6 (show ((cX0_addLine.data.toList.drop 41).take 1).map UInt8.toNat = [6] by decide +kernel)
theorem dX0_addLine_42 : decode cX0_addLine 42 = .ok (.imul, 1) := dc_104 (show ((cX0_addLine.data.toList.drop 42).take 1).map UInt8.toNat = [104] by decide +kernel)
theorem dX0_addLine_43 : decode cX0_addLine 43 = .ok (.iadd, 1) := dc_96 (show ((cX0_addLine.data.toList.drop 43).take 1).map UInt8.toNat = [96] by decide +kernel)
theorem dX0_addLine_44 : decode cX0_addLine 44 = .ok (.iconst 3, 1) := dc_6 (show ((cX0_addLine.data.toList.drop 44).take 1).map UInt8.toNat = [6] by decide +kernel)
theorem dX0_addLine_45 : decode cX0_addLine 45 = .ok (.invokestatic 26, 3) := dc_184 (show ((cX0_addLine.data.toList.drop 45).take 3).map UInt8.toNat = [184, 0, 26] by decide +kernel) rfl
theorem dX0_addLine_48 : decode cX0_addLine 48 = .ok (.aload_n 0, 1) := dc_42 (show ((cX0_addLine.data.toList.drop 48).take 1).map UInt8.toNat = [42] by decide +kernel)
theorem dX0_addLine_49 : decode cX0_addLine 49 = .ok (.getfield 11, 3) := dc_180 (show ((cX0_addLine.data.toList.drop 49).take 3).map UInt8.toNat = [180, 0, 11] by decide +kernel) rfl
theorem dX0_addLine_52 : decode cX0_addLine 52 = .ok (.iconst 0, 1) := dc_3 (show ((cX0_addLine.data.toList.drop 52).take 1).map UInt8.toNat = [3] by decide +kernel)
theorem dX0_addLine_53 : decode cX0_addLine 53 = .ok (.dup2, 1) := dc_92 (show ((cX0_addLine.data.toList.drop 53).take 1).map UInt8.toNat = [92] by decide +kernel)
theorem dX0_addLine_54 : decode cX0_addLine 54 = .ok (.iaload, 1) := dc_46 (show ((cX0_addLine.data.toList.drop 54).take 1).map UInt8.toNat = [46] by decide +kernel)
theorem dX0_addLine_55 : decode cX0_addLine 55 = .ok (.iconst 1, 1) := dc_4 (show ((cX0_addLine.data.toList.drop 55).take 1).map UInt8.toNat = [4] by decide +kernel)
theorem dX0_addLine_56 : decode cX0_addLine 56 = .ok (.iadd, 1) := dc_96 (show ((cX0_addLine.data.toList.drop 56).take 1).map UInt8.toNat = [96] by decide +kernel)
theorem dX0_addLine_57 : decode cX0_addLine 57 = .ok (.iastore, 1) := dc_79 (show ((cX0_addLine.data.toList.drop 57).take 1).map UInt8.toNat = [79] by decide +kernel)
theorem dX0_addLine_58 : decode cX0_addLine 58 = .ok (.goto 37, 3) := dc_167 (show ((cX0_addLine.data.toList.drop 58).take 3).map UInt8.toNat = [167, 0, 37] by decide +kernel) rfl
theorem dX0_addLine_14 : decode cX0_addLine 14 = .ok (.aload_n 0, 1) := dc_42 (show ((cX0_addLine.data.toList.drop 14).take 1).map UInt8.toNat = [42] by decide +kernel)
theorem dX0_addLine_15 : decode cX0_addLine 15 = .ok (.getfield 11, 3) := dc_180 (show ((cX0_addLine.data.toList.drop 15).take 3).map UInt8.toNat = [180, 0, 11] by decide +kernel) rfl
theorem dX0_addLine_18 : decode cX0_addLine 18 = .ok (.iconst 2, 1) := dc_5 (show ((cX0_addLine.data.toList.drop 18).take 1).map UInt8.toNat = [5] by decide +kernel)
theorem dX0_addLine_19 : decode cX0_addLine 19 = .ok (.aload_n 2, 1) := dc_44 (show ((cX0_addLine.data.toList.drop 19).take 1).map UInt8.toNat = [44] by decide +kernel)
theorem dX0_addLine_20 : decode cX0_addLine 20 = .ok (.iconst 0, 1) := dc_3 (show ((cX0_addLine.data.toList.drop 20).take 1).map UInt8.toNat = [3] by decide +kernel)
theorem dX0_addLine_21 : decode cX0_addLine 21 = .ok (.iaload, 1) := dc_46 (show ((cX0_addLine.data.toList.drop 21).take 1).map UInt8.toNat = [46] by decide +kernel)
theorem dX0_addLine_22 : decode cX0_addLine 22 = .ok (.iastore, 1) := dc_79 (show ((cX0_addLine.data.toList.drop 22).take 1).map UInt8.toNat = [79] by decide +kernel)
theorem dX0_addLine_23 : decode cX0_addLine 23 = .ok (.goto 72, 3) := dc_167 (show ((cX0_addLine.data.toList.drop 23).take 3).map UInt8.toNat = [167, 0, 72] by decide +kernel) rfl
theorem dX0_addLine_8 : decode cX0_addLine 8 = .ok (.return_, 1) := dc_177 (show ((cX0_addLine.data.toList.drop 8).take 1).map UInt8.toNat = [177] by decide +kernel)
def cs_Border_addLine_B_c107 (n : Nat) (σ : gb_S) (k0 : Nat) (p1 : Int32) : gb_CR Unit := gb_kk (gb_kB k0) (gb_cd (cs_Border_hasRoomFor_B n σ k0 p1) (fun s_2 r_3 => (if r_3 = 0 then some (s_2, ()) else (if p1 = 2 then gb_lt ((s_2.1 107) (Int32.toNatClampNeg 0)) (fun x_26 => gb_lt (gb_su s_2 (k0 + 1) (upd (s_2.1 (k0 + 1)) (Int32.toNatClampNeg 2) x_26)) (fun s_27 => some (s_27, ()))) else (if p1 = 0 then gb_cd (cs_Border_paths_B n s_2 k0) (fun s_18 r_19 => gb_ac 0 ((3 : Int32) + (r_19 * 3)) 3 5 58 (gb_lt (gb_su s_18 (k0 + 1) (va_cpy (s_18.1 107) (s_18.1 (k0 + 1)) (Int32.toNatClampNeg 0) (Int32.toNatClampNeg ((3 : Int32) + (r_19 * 3))) (Int32.toNatClampNeg 3))) (fun s_23 => gb_lt ((s_23.1 (k0 + 1)) (Int32.toNatClampNeg 0)) (fun x_24 => gb_lt (gb_su s_23 (k0 + 1) (upd (s_23.1 (k0 + 1)) (Int32.toNatClampNeg 0) (x_24 + 1))) (fun s_25 => some (s_25, ())))))) else (if p1 = 1 then gb_cd (cs_Border_geese_B n s_2 k0) (fun s_10 r_11 => gb_ac 0 ((18 : Int32) + (r_11 * 5)) 5 5 58 (gb_lt (gb_su s_10 (k0 + 1) (va_cpy (s_10.1 107) (s_10.1 (k0 + 1)) (Int32.toNatClampNeg 0) (Int32.toNatClampNeg ((18 : Int32) + (r_11 * 5))) (Int32.toNatClampNeg 5))) (fun s_15 => gb_lt ((s_15.1 (k0 + 1)) (Int32.toNatClampNeg 1)) (fun x_16 => gb_lt (gb_su s_15 (k0 + 1) (upd (s_15.1 (k0 + 1)) (Int32.toNatClampNeg 1) (x_16 + 1))) (fun s_17 => some (s_17, ())))))) else some (s_2, ())))))))
set_option maxHeartbeats 8000000 in
set_option maxRecDepth 100000 in
theorem cc_Border_addLine_B_c107 (l : Launch) (D : va_G) (cT : Nat → ClassId) (tt : Nat → Nat) (b1 b : Nat) (hb1 : b1 ≤ b) (n : Nat) (σ : gb_S) (k0 : Nat) (p1 : Int32) (σE : gb_S) (rE : Unit) (h : cs_Border_addLine_B_c107 n σ k0 p1 = some (σE, rE)) : Met l yX0_addLine (.code yX0_addLine cX0_addLine 3 none :: gb_wA) ({ frames := 2, cells := 0, slots := 0, locals := 41 }) (gb_Pc D cT tt b1 [.ref (b + k0), .int p1, .ref (b + 107)] (fun h => va_P D vwCl (gb_wl b (gb_CW cT b σ)) h)) (gb_Qv (fun h => va_P D vwCl (gb_wl b (gb_CW cT b σE)) h) (gb_fr b 135)) 0 0 (gb_fr b 135) := by
  refine Met.ofW (cc := cX0_addLine) (maxL := 3) (ret := none) (by decide) rfl ?_
  intro p e s m args below meth c s₁ B hml hv
  obtain ⟨rfl, hSt, hP⟩ := hv
  have hx := B.exec
  have hb := B.bytes
  have hr := B.returns
  have hts := atoms_spec (ws := .code yX0_addLine cX0_addLine 3 none :: gb_wA) B.pre
  have hq : ∀ w ∈ gb_wA, w.before _ s = true := fun w h => hts w (List.mem_cons_of_mem _ h)
  have hown : s.vm.findClass RX0 = some m.cls := findClass_of_methodNamed B.named
  have hlocks := B.notSynchronized
  clear B hts
  have hK := hSt.1
  have hS : va_S (gb_fr b 135) s.heap s.heap [] := va_S.rf
  have hl := lv_entry ([.ref (b + k0), .int p1, .ref (b + 107)]) (n := 3) (Nat.le_of_ble_eq_true rfl)
  rw [lg_entry_eq]
  generalize (lg_sl ([.ref (b + k0), .int p1, .ref (b + 107)]) ++ List.replicate (3 - (lg_sl ([.ref (b + k0), .int p1, .ref (b + 107)])).length) Slot.unset).toArray = ls at hl ⊢
  replace hl : lv_has ls 3 [(0, .ref (b + k0)), (1, .int p1), (2, .ref (b + 107))] := hl
  unfold cs_Border_addLine_B_c107 at h
  obtain ⟨z_1, h⟩ := gb_kk_s h
  refine lv_aload_n hx hb dX0_addLine_0 rfl (lv_at hl 0 rfl) ?_
  refine lv_iload_n hx hb dX0_addLine_1 rfl (lv_at hl 1 rfl) ?_
  obtain ⟨s_2, r_3, z_4, h⟩ := gb_cd_s h
  refine gb_calli (va_runV (C := RX0) (As := [.int p1]) (rest := []) ⟨hx, hb, hml, hown, hq⟩ (cc_Border_hasRoomFor_B l D cT tt b1 b hb1 n σ k0 p1 s_2 r_3 z_4) (cwV 1 hq (gb_gV w_514 w_470 w_1725 w_4 w_471) rfl rfl rfl (by decide +kernel) ⟨Nat.le_of_ble_eq_true rfl, Nat.le_of_ble_eq_true rfl⟩) (gb_preV (r := (RX0, TX0, 1)) (ci := 0) (q0 := k0) hSt hP rfl (gb_at b (gb_cB z_1).1) hS (fun q h => Nat.le_trans hb1 h.1) hP) rfl rfl hl.1 rfl (lv_room (Nat.le_of_ble_eq_true rfl)) dX0_addLine_2 ⟨Nat.le_of_ble_eq_true rfl, Nat.le_of_ble_eq_true rfl⟩) hS (fun _ h => h) (fun _ h => h) (fun q_5 H locs hY hk hS => ?_)
  obtain ⟨hq_5, hP⟩ := hY
  replace hq_5 := hq_5.symm
  subst hq_5
  refine lv_if_ne (tgt := 9) hx hb dX0_addLine_5 (by decide) (fun c_6 => ?_) (fun c_6 => ?_)
  · rw [if_neg c_6] at h
    refine lv_iload_n hx hb dX0_addLine_9 rfl (lv_at hl 1 rfl) ?_
    refine lv_iconst (v := 2) hx hb dX0_addLine_10 (by decide) ?_
    refine lv_icmp_ne (tgt := 26) hx hb dX0_addLine_11 (by decide) (fun c_7 => ?_) (fun c_7 => ?_)
    · rw [if_neg c_7] at h
      refine lv_iload_n hx hb dX0_addLine_26 rfl (lv_at hl 1 rfl) ?_
      refine lv_if_ne (tgt := 61) hx hb dX0_addLine_27 (by decide) (fun c_8 => ?_) (fun c_8 => ?_)
      · rw [if_neg c_8] at h
        refine lv_iload_n hx hb dX0_addLine_61 rfl (lv_at hl 1 rfl) ?_
        refine lv_iconst (v := 1) hx hb dX0_addLine_62 (by decide) ?_
        refine lv_icmp_ne (tgt := 95) hx hb dX0_addLine_63 (by decide) (fun c_9 => ?_) (fun c_9 => ?_)
        · rw [if_neg c_9] at h
          obtain ⟨e1, -⟩ := gb_eq2 h
          exact W.vret hx hb hr (fun t ht hW => gb_rv ht (by rw [← e1]; exact hP) hS) hS.2.2 dX0_addLine_95
        · rw [if_pos c_9] at h
          refine lv_aload_n hx hb dX0_addLine_66 rfl (lv_at hl 2 rfl) ?_
          refine lv_iconst (v := 0) hx hb dX0_addLine_67 (by decide) ?_
          refine lv_aload_n hx hb dX0_addLine_68 rfl (lv_at hl 0 rfl) ?_
          refine va_get (ci := 0) (v := (.ref (b + (k0 + 1)))) (C := RX0) (T := TX0) (N := 1) hx hb hq i_X0 hown hK hP k0 (gb_at b (gb_cB z_1).1) rfl 0 (by decide) (hq _ w_49) (fun x9 h9 => u_same (hq _ w_50) x9 h9) rfl dX0_addLine_69 ?_
          refine lv_bipush (v := 18) hx hb dX0_addLine_72 (by decide) ?_
          refine lv_aload_n hx hb dX0_addLine_74 rfl (lv_at hl 0 rfl) ?_
          obtain ⟨s_10, r_11, z_12, h⟩ := gb_cd_s h
          refine gb_calli (va_runV (C := RX0) (As := []) (rest := [.int 18, .ref (b + (k0 + 1)), .int 0, .ref (b + 107)]) ⟨hx, hb, hml, hown, hq⟩ (cc_Border_geese_B l D cT tt b1 b hb1 n s_2 k0 s_10 r_11 z_12) (cwV 0 hq (gb_gV w_476 w_477 w_478 w_4 w_479) rfl rfl rfl (by decide +kernel) ⟨Nat.le_of_ble_eq_true rfl, Nat.le_of_ble_eq_true rfl⟩) (gb_preV (r := (RX0, TX0, 1)) (ci := 0) (q0 := k0) hSt hP rfl (gb_at b (gb_cB z_1).1) hS (fun q h => Nat.le_trans hb1 h.1) hP) rfl rfl hl.1 rfl (lv_room (Nat.le_of_ble_eq_true rfl)) dX0_addLine_75 ⟨Nat.le_of_ble_eq_true rfl, Nat.le_of_ble_eq_true rfl⟩) hS (fun _ h => h) (fun _ h => h) (fun q_13 H locs hY hk hS => ?_)
          obtain ⟨hq_13, hP⟩ := hY
          replace hq_13 := hq_13.symm
          subst hq_13
          refine lv_iconst (v := 5) hx hb dX0_addLine_78 (by decide) ?_
          refine lv_imul hx hb dX0_addLine_79 ?_
          refine lv_iadd hx hb dX0_addLine_80 ?_
          refine lv_iconst (v := 5) hx hb dX0_addLine_81 (by decide) ?_
          obtain ⟨z_14, h⟩ := gb_ac_s h
          refine va_copyi (ty := .int) hx hb (hml.trans hl.1.symm) hown (hq _ w_515) (hq _ w_517) (hq _ w_516) (hq _ w_19) hK hP (gb_D (fun k h => ⟨Nat.le_add_right b k, Nat.add_lt_add_left h b⟩)) hS 107 (k0 + 1) 0 0 (gb_at b rfl) (gb_at b (gb_cB z_1).2) rfl rfl rfl z_14.1 z_14.2.1 z_14.2.2.1 z_14.2.2.2.1 z_14.2.2.2.2 (fun _ _ => rfl) (Nat.le_of_ble_eq_true rfl) (Nat.le_of_ble_eq_true rfl) dX0_addLine_82 (fun H locs hP hD hS => ?_)
          rw [gb_set] at hP
          obtain ⟨s_15, es_15⟩ : ∃ q, q = (gb_su s_10 (k0 + 1) (va_cpy (s_10.1 107) (s_10.1 (k0 + 1)) (Int32.toNatClampNeg 0) (Int32.toNatClampNeg ((18 : Int32) + (r_11 * 5))) (Int32.toNatClampNeg 5))) := ⟨_, rfl⟩
          replace hP : va_P D vwCl (gb_wl b (gb_CW cT b s_15)) H := by rw [es_15, ← gb_wB z_1]; exact hP
          replace h := gb_lt_s es_15 h
          refine lv_aload_n hx hb dX0_addLine_85 rfl (lv_at hl 0 rfl) ?_
          refine va_get (ci := 0) (v := (.ref (b + (k0 + 1)))) (C := RX0) (T := TX0) (N := 1) hx hb hq i_X0 hown hK hP k0 (gb_at b (gb_cB z_1).1) rfl 0 (by decide) (hq _ w_49) (fun x9 h9 => u_same (hq _ w_50) x9 h9) rfl dX0_addLine_86 ?_
          refine lv_iconst (v := 1) hx hb dX0_addLine_89 (by decide) ?_
          refine lv_dup2_11 hx hb dX0_addLine_90 rfl rfl ?_
          refine va_iald hx hb hK hP (k0 + 1) 0 (gb_at b (gb_cB z_1).2) rfl (gb_in rfl) dX0_addLine_91 ?_
          refine lv_topi (fun x_16 ex_16 => ?_)
          replace h := gb_lt_s ex_16 h
          refine lv_iconst (v := 1) hx hb dX0_addLine_92 (by decide) ?_
          refine lv_iadd hx hb dX0_addLine_93 ?_
          refine va_iast (x := (x_16 + 1)) hx hb hK hP (gb_D (fun k h => ⟨Nat.le_add_right b k, Nat.add_lt_add_left h b⟩)) hS (k0 + 1) 0 (gb_at b (gb_cB z_1).2) rfl (gb_in rfl) dX0_addLine_94 (fun H locs hP hD hS => ?_)
          rw [gb_set] at hP
          obtain ⟨s_17, es_17⟩ : ∃ q, q = (gb_su s_15 (k0 + 1) (upd (s_15.1 (k0 + 1)) (Int32.toNatClampNeg 1) (x_16 + 1))) := ⟨_, rfl⟩
          replace hP : va_P D vwCl (gb_wl b (gb_CW cT b s_17)) H := by rw [es_17, ← gb_wB z_1]; exact hP
          replace h := gb_lt_s es_17 h
          obtain ⟨e1, -⟩ := gb_eq2 h
          exact W.vret hx hb hr (fun t ht hW => gb_rv ht (by rw [← e1]; exact hP) hS) hS.2.2 dX0_addLine_95
      · rw [if_pos c_8] at h
        refine lv_aload_n hx hb dX0_addLine_30 rfl (lv_at hl 2 rfl) ?_
        refine lv_iconst (v := 0) hx hb dX0_addLine_31 (by decide) ?_
        refine lv_aload_n hx hb dX0_addLine_32 rfl (lv_at hl 0 rfl) ?_
        refine va_get (ci := 0) (v := (.ref (b + (k0 + 1)))) (C := RX0) (T := TX0) (N := 1) hx hb hq i_X0 hown hK hP k0 (gb_at b (gb_cB z_1).1) rfl 0 (by decide) (hq _ w_49) (fun x9 h9 => u_same (hq _ w_50) x9 h9) rfl dX0_addLine_33 ?_
        refine lv_iconst (v := 3) hx hb dX0_addLine_36 (by decide) ?_
        refine lv_aload_n hx hb dX0_addLine_37 rfl (lv_at hl 0 rfl) ?_
        obtain ⟨s_18, r_19, z_20, h⟩ := gb_cd_s h
        refine gb_calli (va_runV (C := RX0) (As := []) (rest := [.int 3, .ref (b + (k0 + 1)), .int 0, .ref (b + 107)]) ⟨hx, hb, hml, hown, hq⟩ (cc_Border_paths_B l D cT tt b1 b hb1 n s_2 k0 s_18 r_19 z_20) (cwV 0 hq (gb_gV w_472 w_473 w_474 w_4 w_475) rfl rfl rfl (by decide +kernel) ⟨Nat.le_of_ble_eq_true rfl, Nat.le_of_ble_eq_true rfl⟩) (gb_preV (r := (RX0, TX0, 1)) (ci := 0) (q0 := k0) hSt hP rfl (gb_at b (gb_cB z_1).1) hS (fun q h => Nat.le_trans hb1 h.1) hP) rfl rfl hl.1 rfl (lv_room (Nat.le_of_ble_eq_true rfl)) dX0_addLine_38 ⟨Nat.le_of_ble_eq_true rfl, Nat.le_of_ble_eq_true rfl⟩) hS (fun _ h => h) (fun _ h => h) (fun q_21 H locs hY hk hS => ?_)
        obtain ⟨hq_21, hP⟩ := hY
        replace hq_21 := hq_21.symm
        subst hq_21
        refine lv_iconst (v := 3) hx hb dX0_addLine_41 (by decide) ?_
        refine lv_imul hx hb dX0_addLine_42 ?_
        refine lv_iadd hx hb dX0_addLine_43 ?_
        refine lv_iconst (v := 3) hx hb dX0_addLine_44 (by decide) ?_
        obtain ⟨z_22, h⟩ := gb_ac_s h
        refine va_copyi (ty := .int) hx hb (hml.trans hl.1.symm) hown (hq _ w_515) (hq _ w_517) (hq _ w_516) (hq _ w_19) hK hP (gb_D (fun k h => ⟨Nat.le_add_right b k, Nat.add_lt_add_left h b⟩)) hS 107 (k0 + 1) 0 0 (gb_at b rfl) (gb_at b (gb_cB z_1).2) rfl rfl rfl z_22.1 z_22.2.1 z_22.2.2.1 z_22.2.2.2.1 z_22.2.2.2.2 (fun _ _ => rfl) (Nat.le_of_ble_eq_true rfl) (Nat.le_of_ble_eq_true rfl) dX0_addLine_45 (fun H locs hP hD hS => ?_)
        rw [gb_set] at hP
        obtain ⟨s_23, es_23⟩ : ∃ q, q = (gb_su s_18 (k0 + 1) (va_cpy (s_18.1 107) (s_18.1 (k0 + 1)) (Int32.toNatClampNeg 0) (Int32.toNatClampNeg ((3 : Int32) + (r_19 * 3))) (Int32.toNatClampNeg 3))) := ⟨_, rfl⟩
        replace hP : va_P D vwCl (gb_wl b (gb_CW cT b s_23)) H := by rw [es_23, ← gb_wB z_1]; exact hP
        replace h := gb_lt_s es_23 h
        refine lv_aload_n hx hb dX0_addLine_48 rfl (lv_at hl 0 rfl) ?_
        refine va_get (ci := 0) (v := (.ref (b + (k0 + 1)))) (C := RX0) (T := TX0) (N := 1) hx hb hq i_X0 hown hK hP k0 (gb_at b (gb_cB z_1).1) rfl 0 (by decide) (hq _ w_49) (fun x9 h9 => u_same (hq _ w_50) x9 h9) rfl dX0_addLine_49 ?_
        refine lv_iconst (v := 0) hx hb dX0_addLine_52 (by decide) ?_
        refine lv_dup2_11 hx hb dX0_addLine_53 rfl rfl ?_
        refine va_iald hx hb hK hP (k0 + 1) 0 (gb_at b (gb_cB z_1).2) rfl (gb_in rfl) dX0_addLine_54 ?_
        refine lv_topi (fun x_24 ex_24 => ?_)
        replace h := gb_lt_s ex_24 h
        refine lv_iconst (v := 1) hx hb dX0_addLine_55 (by decide) ?_
        refine lv_iadd hx hb dX0_addLine_56 ?_
        refine va_iast (x := (x_24 + 1)) hx hb hK hP (gb_D (fun k h => ⟨Nat.le_add_right b k, Nat.add_lt_add_left h b⟩)) hS (k0 + 1) 0 (gb_at b (gb_cB z_1).2) rfl (gb_in rfl) dX0_addLine_57 (fun H locs hP hD hS => ?_)
        rw [gb_set] at hP
        obtain ⟨s_25, es_25⟩ : ∃ q, q = (gb_su s_23 (k0 + 1) (upd (s_23.1 (k0 + 1)) (Int32.toNatClampNeg 0) (x_24 + 1))) := ⟨_, rfl⟩
        replace hP : va_P D vwCl (gb_wl b (gb_CW cT b s_25)) H := by rw [es_25, ← gb_wB z_1]; exact hP
        replace h := gb_lt_s es_25 h
        refine lv_goto (tgt := 95) hx hb dX0_addLine_58 (by decide) ?_
        obtain ⟨e1, -⟩ := gb_eq2 h
        exact W.vret hx hb hr (fun t ht hW => gb_rv ht (by rw [← e1]; exact hP) hS) hS.2.2 dX0_addLine_95
    · rw [if_pos c_7] at h
      refine lv_aload_n hx hb dX0_addLine_14 rfl (lv_at hl 0 rfl) ?_
      refine va_get (ci := 0) (v := (.ref (b + (k0 + 1)))) (C := RX0) (T := TX0) (N := 1) hx hb hq i_X0 hown hK hP k0 (gb_at b (gb_cB z_1).1) rfl 0 (by decide) (hq _ w_49) (fun x9 h9 => u_same (hq _ w_50) x9 h9) rfl dX0_addLine_15 ?_
      refine lv_iconst (v := 2) hx hb dX0_addLine_18 (by decide) ?_
      refine lv_aload_n hx hb dX0_addLine_19 rfl (lv_at hl 2 rfl) ?_
      refine lv_iconst (v := 0) hx hb dX0_addLine_20 (by decide) ?_
      refine va_iald hx hb hK hP 107 0 (gb_at b rfl) rfl (gb_in rfl) dX0_addLine_21 ?_
      refine lv_topi (fun x_26 ex_26 => ?_)
      replace h := gb_lt_s ex_26 h
      refine va_iast (x := x_26) hx hb hK hP (gb_D (fun k h => ⟨Nat.le_add_right b k, Nat.add_lt_add_left h b⟩)) hS (k0 + 1) 0 (gb_at b (gb_cB z_1).2) rfl (gb_in rfl) dX0_addLine_22 (fun H locs hP hD hS => ?_)
      rw [gb_set] at hP
      obtain ⟨s_27, es_27⟩ : ∃ q, q = (gb_su s_2 (k0 + 1) (upd (s_2.1 (k0 + 1)) (Int32.toNatClampNeg 2) x_26)) := ⟨_, rfl⟩
      replace hP : va_P D vwCl (gb_wl b (gb_CW cT b s_27)) H := by rw [es_27, ← gb_wB z_1]; exact hP
      replace h := gb_lt_s es_27 h
      refine lv_goto (tgt := 95) hx hb dX0_addLine_23 (by decide) ?_
      obtain ⟨e1, -⟩ := gb_eq2 h
      exact W.vret hx hb hr (fun t ht hW => gb_rv ht (by rw [← e1]; exact hP) hS) hS.2.2 dX0_addLine_95
  · rw [if_pos c_6] at h
    obtain ⟨e1, -⟩ := gb_eq2 h
    exact W.vret hx hb hr (fun t ht hW => gb_rv ht (by rw [← e1]; exact hP) hS) hS.2.2 dX0_addLine_8
theorem w_513 : (Cond.code ({ cls := "GooseBorder$Border", name := "addLine", desc := "(I[I)V" } : MethodName) prog_2_method_4_code (3 : Nat) (Option.none : Option FieldType)) ∈ gb_wA := gb_t3 33 rfl rfl
theorem w_508 : (Cond.methodLink "GooseBorder$Reader" (73 : Nat) ({ cls := "GooseBorder$Sheet", name := "addLine", desc := "(I[I)V" } : MethodName)) ∈ gb_wA := gb_t3 28 rfl rfl
theorem w_510 : (Cond.sameMethod "GooseBorder$Sheet" "GooseBorder$Sheet" "addLine" "(I[I)V") ∈ gb_wA := gb_t3 30 rfl rfl
theorem w_511 : (Cond.selects "GooseBorder$Border" ({ cls := "GooseBorder$Sheet", name := "addLine", desc := "(I[I)V" } : MethodName) ({ cls := "GooseBorder$Border", name := "addLine", desc := "(I[I)V" } : MethodName)) ∈ gb_wA := gb_t3 31 rfl rfl
theorem w_512 : (Cond.instanceMethod ({ cls := "GooseBorder$Border", name := "addLine", desc := "(I[I)V" } : MethodName)) ∈ gb_wA := gb_t3 32 rfl rfl
theorem dX7_readLine_123 : decode cX7_readLine 123 = .ok (.iconst 1, 1) := dc_4 (show ((cX7_readLine.data.toList.drop 123).take 1).map UInt8.toNat = [4] by decide +kernel)
theorem dX7_readLine_124 : decode cX7_readLine 124 = .ok (.ireturn, 1) := dc_172 (show ((cX7_readLine.data.toList.drop 124).take 1).map UInt8.toNat = [172] by decide +kernel)
theorem dX4_addLine_0 : decode cX4_addLine 0 = .ok (.aload_n 0, 1) := dc_42 (show ((cX4_addLine.data.toList.drop 0).take 1).map UInt8.toNat = [42] by decide +kernel)
theorem dX4_addLine_1 : decode cX4_addLine 1 = .ok (.iload_n 1, 1) := dc_27 (show ((cX4_addLine.data.toList.drop 1).take 1).map UInt8.toNat = [27] by decide +kernel)
theorem dX4_addLine_2 : decode cX4_addLine 2 = .ok (.invokevirtual 29, 3) := dc_182 (show ((cX4_addLine.data.toList.drop 2).take 3).map UInt8.toNat = [182, 0, 29] by decide +kernel) rfl
theorem dX4_hasRoomFor_0 : decode cX4_hasRoomFor 0 = .ok (.aload_n 0, 1) := dc_42 (show ((cX4_hasRoomFor.data.toList.drop 0).take 1).map UInt8.toNat = [42] by decide +kernel)
theorem dX4_hasRoomFor_1 : decode cX4_hasRoomFor 1 = .ok (.invokevirtual 25, 3) := dc_182 (show ((cX4_hasRoomFor.data.toList.drop 1).take 3).map UInt8.toNat = [182, 0, 25] by decide +kernel) rfl
theorem w_483 : (Cond.methodLink "GooseBorder$Lines" (25 : Nat) ({ cls := "GooseBorder$Lines", name := "size", desc := "()I" } : MethodName)) ∈ gb_wA := gb_t3 3 rfl rfl
theorem dX4_hasRoomFor_4 : decode cX4_hasRoomFor 4 = .ok (.aload_n 0, 1) := dc_42 (show ((cX4_hasRoomFor.data.toList.drop 4).take 1).map UInt8.toNat = [42] by decide +kernel)
theorem dX4_hasRoomFor_5 : decode cX4_hasRoomFor 5 = .ok (.getfield 9, 3) := dc_180 (show ((cX4_hasRoomFor.data.toList.drop 5).take 3).map UInt8.toNat = [180, 0, 9] by decide +kernel) rfl
theorem dX4_hasRoomFor_8 : decode cX4_hasRoomFor 8 = .ok (.if_icmp .ge 7, 3) := dc_162 (show ((cX4_hasRoomFor.data.toList.drop 8).take 3).map UInt8.toNat = [162, 0, 7] by decide +kernel) rfl
theorem dX4_hasRoomFor_15 : decode cX4_hasRoomFor 15 = .ok (.iconst 0, 1) := dc_3 (show ((cX4_hasRoomFor.data.toList.drop 15).take 1).map UInt8.toNat = [3] by decide +kernel)
theorem dX4_hasRoomFor_16 : decode cX4_hasRoomFor 16 = .ok (.ireturn, 1) := dc_172 (show ((cX4_hasRoomFor.data.toList.drop 16).take 1).map UInt8.toNat = [172] by decide +kernel)
theorem dX4_hasRoomFor_11 : decode cX4_hasRoomFor 11 = .ok (.iconst 1, 1) := dc_4 (show ((cX4_hasRoomFor.data.toList.drop 11).take 1).map UInt8.toNat = [4] by decide +kernel)
theorem dX4_hasRoomFor_12 : decode cX4_hasRoomFor 12 = .ok (.goto 4, 3) := dc_167 (show ((cX4_hasRoomFor.data.toList.drop 12).take 3).map UInt8.toNat = [167, 0, 4] by decide +kernel) rfl
def cs_Lines_hasRoomFor_N (n : Nat) (σ : gb_S) (k0 : Nat) (p1 : Int32) : gb_CR Int32 := gb_kk (gb_kN k0) (gb_cd (cs_Lines_size_N n σ k0) (fun s_2 r_3 => (if (24 : Int32) ≤ r_3 then some (s_2, 0) else some (s_2, 1))))
set_option maxHeartbeats 8000000 in
set_option maxRecDepth 100000 in
theorem cc_Lines_hasRoomFor_N (l : Launch) (D : va_G) (cT : Nat → ClassId) (tt : Nat → Nat) (b1 b : Nat) (hb1 : b1 ≤ b) (n : Nat) (σ : gb_S) (k0 : Nat) (p1 : Int32) (σE : gb_S) (rE : Int32) (h : cs_Lines_hasRoomFor_N n σ k0 p1 = some (σE, rE)) : Met l yX4_hasRoomFor (.code yX4_hasRoomFor cX4_hasRoomFor 2 (some FieldType.boolean) :: gb_wA) ({ frames := 1, cells := 0, slots := 0, locals := 20 }) (gb_Pc D cT tt b1 [.ref (b + k0), .int p1] (fun h => va_P D vwCl (gb_wl b (gb_CW cT b σ)) h)) (gb_Qi (fun r h => r = rE ∧ va_P D vwCl (gb_wl b (gb_CW cT b σE)) h) (gb_fr b 135)) 0 0 (gb_fr b 135) := by
  refine Met.ofW (cc := cX4_hasRoomFor) (maxL := 2) (ret := (some FieldType.boolean)) (by decide) rfl ?_
  intro p e s m args below meth c s₁ B hml hv
  obtain ⟨rfl, hSt, hP⟩ := hv
  have hx := B.exec
  have hb := B.bytes
  have hr := B.returns
  have hts := atoms_spec (ws := .code yX4_hasRoomFor cX4_hasRoomFor 2 (some FieldType.boolean) :: gb_wA) B.pre
  have hq : ∀ w ∈ gb_wA, w.before _ s = true := fun w h => hts w (List.mem_cons_of_mem _ h)
  have hown : s.vm.findClass RX4 = some m.cls := findClass_of_methodNamed B.named
  have hlocks := B.notSynchronized
  clear B hts
  have hK := hSt.1
  have hS : va_S (gb_fr b 135) s.heap s.heap [] := va_S.rf
  have hl := lv_entry ([.ref (b + k0), .int p1]) (n := 2) (Nat.le_of_ble_eq_true rfl)
  rw [lg_entry_eq]
  generalize (lg_sl ([.ref (b + k0), .int p1]) ++ List.replicate (2 - (lg_sl ([.ref (b + k0), .int p1])).length) Slot.unset).toArray = ls at hl ⊢
  replace hl : lv_has ls 2 [(0, .ref (b + k0)), (1, .int p1)] := hl
  unfold cs_Lines_hasRoomFor_N at h
  obtain ⟨z_1, h⟩ := gb_kk_s h
  refine lv_aload_n hx hb dX4_hasRoomFor_0 rfl (lv_at hl 0 rfl) ?_
  obtain ⟨s_2, r_3, z_4, h⟩ := gb_cd_s h
  refine gb_calli (va_runU (x := yX4_size) (C := RX5) (owner := "GooseBorder$Lines") (As := []) (rest := []) ⟨hx, hb, hml, hown, hq⟩ (cc_Lines_size_N l D cT tt b1 b hb1 n σ k0 s_2 r_3 z_4) (va_cwU (owner := "GooseBorder$Lines") (C := RX5) 0 hq (gb_gU w_483 w_485 w_488 w_484 w_6 w_489) rfl rfl rfl rfl (by decide +kernel) ⟨Nat.le_of_ble_eq_true rfl, Nat.le_of_ble_eq_true rfl⟩) (gb_preV (r := (RX5, TX5, 4)) (ci := 4) (q0 := k0) hSt hP rfl (gb_at b (gb_cN z_1).1) hS (fun q h => Nat.le_trans hb1 h.1) hP) rfl rfl hl.1 rfl (lv_room (Nat.le_of_ble_eq_true rfl)) dX4_hasRoomFor_1 ⟨Nat.le_of_ble_eq_true rfl, Nat.le_of_ble_eq_true rfl⟩) hS (fun _ h => h) (fun _ h => h) (fun q_5 H locs hY hk hS => ?_)
  obtain ⟨hq_5, hP⟩ := hY
  replace hq_5 := hq_5.symm
  subst hq_5
  refine lv_aload_n hx hb dX4_hasRoomFor_4 rfl (lv_at hl 0 rfl) ?_
  refine va_get (ci := 4) (v := (.int 24)) (C := RX5) (T := TX5) (N := 4) hx hb hq i_X5 hown hK hP k0 (gb_at b (gb_cN z_1).1) rfl 0 (by decide) (hq _ w_72) (fun _ h9 => h9) rfl dX4_hasRoomFor_5 ?_
  refine lv_icmp_ge (tgt := 15) hx hb dX4_hasRoomFor_8 (by decide) (fun c_6 => ?_) (fun c_6 => ?_)
  · rw [if_pos c_6] at h
    refine lv_iconst (v := 0) hx hb dX4_hasRoomFor_15 (by decide) ?_
    obtain ⟨e1, e2⟩ := gb_eq2 h
    exact W.zret (v := 0) hx hb hr (by decide) (fun t ht hW => gb_ri ht ⟨e2, by rw [← e1]; exact hP⟩ hS) hS.2.2 dX4_hasRoomFor_16
  · rw [if_neg c_6] at h
    refine lv_iconst (v := 1) hx hb dX4_hasRoomFor_11 (by decide) ?_
    refine lv_goto (tgt := 16) hx hb dX4_hasRoomFor_12 (by decide) ?_
    obtain ⟨e1, e2⟩ := gb_eq2 h
    exact W.zret (v := 1) hx hb hr (by decide) (fun t ht hW => gb_ri ht ⟨e2, by rw [← e1]; exact hP⟩ hS) hS.2.2 dX4_hasRoomFor_16
theorem w_482 : (Cond.code ({ cls := "GooseBorder$Lines", name := "hasRoomFor", desc := "(I)Z" } : MethodName) prog_6_method_3_code (2 : Nat) (Option.some FieldType.boolean)) ∈ gb_wA := gb_t3 2 rfl rfl
theorem w_521 : (Cond.methodLink "GooseBorder$Lines" (29 : Nat) ({ cls := "GooseBorder$Lines", name := "hasRoomFor", desc := "(I)Z" } : MethodName)) ∈ gb_wA := gb_t3 41 rfl rfl
theorem w_1726 : (Cond.sameMethod "GooseBorder$Lines" "GooseBorder$Lines" "hasRoomFor" "(I)Z") ∈ gb_wA := gb_t8 46 rfl rfl
theorem w_1729 : (Cond.selects "GooseBorder$Night" ({ cls := "GooseBorder$Lines", name := "hasRoomFor", desc := "(I)Z" } : MethodName) ({ cls := "GooseBorder$Lines", name := "hasRoomFor", desc := "(I)Z" } : MethodName)) ∈ gb_wA := gb_t8 49 rfl rfl
theorem w_481 : (Cond.instanceMethod ({ cls := "GooseBorder$Lines", name := "hasRoomFor", desc := "(I)Z" } : MethodName)) ∈ gb_wA := gb_t3 1 rfl rfl
theorem dX4_addLine_5 : decode cX4_addLine 5 = .ok (.ifCond .eq 13, 3) := dc_153 (show ((cX4_addLine.data.toList.drop 5).take 3).map UInt8.toNat = [153, 0, 13] by decide +kernel) rfl
theorem dX4_addLine_18 : decode cX4_addLine 18 = .ok (.return_, 1) := dc_177 (show ((cX4_addLine.data.toList.drop 18).take 1).map UInt8.toNat = [177] by decide +kernel)
theorem dX4_addLine_8 : decode cX4_addLine 8 = .ok (.iload_n 1, 1) := dc_27 (show ((cX4_addLine.data.toList.drop 8).take 1).map UInt8.toNat = [27] by decide +kernel)
theorem dX4_addLine_9 : decode cX4_addLine 9 = .ok (.ifCond .lt 9, 3) := dc_155 (show ((cX4_addLine.data.toList.drop 9).take 3).map UInt8.toNat = [155, 0, 9] by decide +kernel) rfl
theorem dX4_addLine_12 : decode cX4_addLine 12 = .ok (.iload_n 1, 1) := dc_27 (show ((cX4_addLine.data.toList.drop 12).take 1).map UInt8.toNat = [27] by decide +kernel)
theorem dX4_addLine_13 : decode cX4_addLine 13 = .ok (.bipush 18, 2) := dc_16 (show ((cX4_addLine.data.toList.drop 13).take 2).map UInt8.toNat = [16, 18] by decide +kernel) rfl
theorem dX4_addLine_15 : decode cX4_addLine 15 = .ok (.if_icmp .lt 4, 3) := dc_161 (show ((cX4_addLine.data.toList.drop 15).take 3).map UInt8.toNat = [161, 0, 4] by decide +kernel) rfl
theorem dX4_addLine_19 : decode cX4_addLine 19 = .ok (.iconst 1, 1) := dc_4 (show ((cX4_addLine.data.toList.drop 19).take 1).map UInt8.toNat = [4] by decide +kernel)
theorem dX4_addLine_20 : decode cX4_addLine 20 = .ok (.aload_n 0, 1) := dc_42 (show ((cX4_addLine.data.toList.drop 20).take 1).map UInt8.toNat = [42] by decide +kernel)
theorem dX4_addLine_21 : decode cX4_addLine 21 = .ok (.invokevirtual 25, 3) := dc_182 (show ((cX4_addLine.data.toList.drop 21).take 3).map UInt8.toNat = [182, 0, 25] by decide +kernel) rfl
theorem dX4_addLine_24 : decode cX4_addLine 24 = .ok (.aload_n 0, 1) := dc_42 (show ((cX4_addLine.data.toList.drop 24).take 1).map UInt8.toNat = [42] by decide +kernel)
theorem dX4_addLine_25 : decode cX4_addLine 25 = .ok (.getfield 15, 3) := dc_180 (show ((cX4_addLine.data.toList.drop 25).take 3).map UInt8.toNat = [180, 0, 15] by decide +kernel) rfl
theorem dX4_addLine_28 : decode cX4_addLine 28 = .ok (.iconst 1, 1) := dc_4 (show ((cX4_addLine.data.toList.drop 28).take 1).map UInt8.toNat = [4] by decide +kernel)
theorem dX4_addLine_29 : decode cX4_addLine 29 = .ok (.iadd, 1) := dc_96 (show ((cX4_addLine.data.toList.drop 29).take 1).map UInt8.toNat = [96] by decide +kernel)
theorem dX4_addLine_30 : decode cX4_addLine 30 = .ok (.imul, 1) := dc_104 (show ((cX4_addLine.data.toList.drop 30).take 1).map UInt8.toNat = [104] by decide +kernel)
theorem dX4_addLine_31 : decode cX4_addLine 31 = .ok (.iadd, 1) := dc_96 (show ((cX4_addLine.data.toList.drop 31).take 1).map UInt8.toNat = [96] by decide +kernel)
theorem dX4_addLine_32 : decode cX4_addLine 32 = .ok (.istore_n 3, 1) := dc_62 (show ((cX4_addLine.data.toList.drop 32).take 1).map UInt8.toNat = [62] by decide +kernel)
theorem dX4_addLine_33 : decode cX4_addLine 33 = .ok (.aload_n 0, 1) := dc_42 (show ((cX4_addLine.data.toList.drop 33).take 1).map UInt8.toNat = [42] by decide +kernel)
theorem dX4_addLine_34 : decode cX4_addLine 34 = .ok (.getfield 21, 3) := dc_180 (show ((cX4_addLine.data.toList.drop 34).take 3).map UInt8.toNat = [180, 0, 21] by decide +kernel) rfl
theorem dX4_addLine_37 : decode cX4_addLine 37 = .ok (.iload_n 3, 1) := dc_29 (show ((cX4_addLine.data.toList.drop 37).take 1).map UInt8.toNat = [29] by decide +kernel)
theorem dX4_addLine_38 : decode cX4_addLine 38 = .ok (.iload_n 1, 1) := dc_27 (show ((cX4_addLine.data.toList.drop 38).take 1).map UInt8.toNat = [27] by decide +kernel)
theorem dX4_addLine_39 : decode cX4_addLine 39 = .ok (.aload_n 0, 1) := dc_42 (show ((cX4_addLine.data.toList.drop 39).take 1).map UInt8.toNat = [42] by decide +kernel)
theorem dX4_addLine_40 : decode cX4_addLine 40 = .ok (.getfield 18, 3) := dc_180 (show ((cX4_addLine.data.toList.drop 40).take 3).map UInt8.toNat = [180, 0, 18] by decide +kernel) rfl
theorem dX4_addLine_43 : decode cX4_addLine 43 = .ok (.isub, 1) := dc_100 (show ((cX4_addLine.data.toList.drop 43).take 1).map UInt8.toNat = [100] by decide +kernel)
theorem dX4_addLine_44 : decode cX4_addLine 44 = .ok (.iastore, 1) := dc_79 (show ((cX4_addLine.data.toList.drop 44).take 1).map UInt8.toNat = [79] by decide +kernel)
theorem dX4_addLine_45 : decode cX4_addLine 45 = .ok (.iconst 0, 1) := dc_3 (show ((cX4_addLine.data.toList.drop 45).take 1).map UInt8.toNat = [3] by decide +kernel)
theorem dX4_addLine_46 : decode cX4_addLine 46 = .ok (.istore 4, 2) := dc_54 (show ((cX4_addLine.data.toList.drop 46).take 2).map UInt8.toNat = [54, 4] by decide +kernel) rfl
theorem dX4_addLine_48 : decode cX4_addLine 48 = .ok (.iload 4, 2) := dc_21 (show ((cX4_addLine.data.toList.drop 48).take 2).map UInt8.toNat = [21, 4] by decide +kernel) rfl
theorem dX4_addLine_50 : decode cX4_addLine 50 = .ok (.aload_n 0, 1) := dc_42 (show ((cX4_addLine.data.toList.drop 50).take 1).map UInt8.toNat = [42] by decide +kernel)
theorem dX4_addLine_51 : decode cX4_addLine 51 = .ok (.getfield 15, 3) := dc_180 (show ((cX4_addLine.data.toList.drop 51).take 3).map UInt8.toNat = [180, 0, 15] by decide +kernel) rfl
theorem dX4_addLine_54 : decode cX4_addLine 54 = .ok (.if_icmp .ge 38, 3) := dc_162 (show ((cX4_addLine.data.toList.drop 54).take 3).map UInt8.toNat = [162, 0, 38] by decide +kernel) rfl
theorem dX4_addLine_92 : decode cX4_addLine 92 = .ok (.aload_n 0, 1) := dc_42 (show ((cX4_addLine.data.toList.drop 92).take 1).map UInt8.toNat = [42] by decide +kernel)
theorem dX4_addLine_93 : decode cX4_addLine 93 = .ok (.getfield 21, 3) := dc_180 (show ((cX4_addLine.data.toList.drop 93).take 3).map UInt8.toNat = [180, 0, 21] by decide +kernel) rfl
theorem dX4_addLine_96 : decode cX4_addLine 96 = .ok (.iconst 0, 1) := dc_3 (show ((cX4_addLine.data.toList.drop 96).take 1).map UInt8.toNat = [3] by decide +kernel)
theorem dX4_addLine_97 : decode cX4_addLine 97 = .ok (.dup2, 1) := dc_92 (show ((cX4_addLine.data.toList.drop 97).take 1).map UInt8.toNat = [92] by decide +kernel)
theorem dX4_addLine_98 : decode cX4_addLine 98 = .ok (.iaload, 1) := dc_46 (show ((cX4_addLine.data.toList.drop 98).take 1).map UInt8.toNat = [46] by decide +kernel)
theorem dX4_addLine_99 : decode cX4_addLine 99 = .ok (.iconst 1, 1) := dc_4 (show ((cX4_addLine.data.toList.drop 99).take 1).map UInt8.toNat = [4] by decide +kernel)
theorem dX4_addLine_100 : decode cX4_addLine 100 = .ok (.iadd, 1) := dc_96 (show ((cX4_addLine.data.toList.drop 100).take 1).map UInt8.toNat = [96] by decide +kernel)
theorem dX4_addLine_101 : decode cX4_addLine 101 = .ok (.iastore, 1) := dc_79 (show ((cX4_addLine.data.toList.drop 101).take 1).map UInt8.toNat = [79] by decide +kernel)
theorem dX4_addLine_102 : decode cX4_addLine 102 = .ok (.return_, 1) := dc_177 (show ((cX4_addLine.data.toList.drop 102).take 1).map UInt8.toNat = [177] by decide +kernel)
theorem dX4_addLine_57 : decode cX4_addLine 57 = .ok (.aload_n 0, 1) := dc_42 (show ((cX4_addLine.data.toList.drop 57).take 1).map UInt8.toNat = [42] by decide +kernel)
theorem dX4_addLine_58 : decode cX4_addLine 58 = .ok (.getfield 21, 3) := dc_180 (show ((cX4_addLine.data.toList.drop 58).take 3).map UInt8.toNat = [180, 0, 21] by decide +kernel) rfl
theorem dX4_addLine_61 : decode cX4_addLine 61 = .ok (.iload_n 3, 1) := dc_29 (show ((cX4_addLine.data.toList.drop 61).take 1).map UInt8.toNat = [29] by decide +kernel)
theorem dX4_addLine_62 : decode cX4_addLine 62 = .ok (.iconst 1, 1) := dc_4 (show ((cX4_addLine.data.toList.drop 62).take 1).map UInt8.toNat = [4] by decide +kernel)
theorem dX4_addLine_63 : decode cX4_addLine 63 = .ok (.iadd, 1) := dc_96 (show ((cX4_addLine.data.toList.drop 63).take 1).map UInt8.toNat = [96] by decide +kernel)
theorem dX4_addLine_64 : decode cX4_addLine 64 = .ok (.iload 4, 2) := dc_21 (show ((cX4_addLine.data.toList.drop 64).take 2).map UInt8.toNat = [21, 4] by decide +kernel) rfl
theorem dX4_addLine_66 : decode cX4_addLine 66 = .ok (.iadd, 1) := dc_96 (show ((cX4_addLine.data.toList.drop 66).take 1).map UInt8.toNat = [96] by decide +kernel)
theorem dX4_addLine_67 : decode cX4_addLine 67 = .ok (.iload 4, 2) := dc_21 (show ((cX4_addLine.data.toList.drop 67).take 2).map UInt8.toNat = [21, 4] by decide +kernel) rfl
theorem dX4_addLine_69 : decode cX4_addLine 69 = .ok (.getstatic 33, 3) := dc_178 (show ((cX4_addLine.data.toList.drop 69).take 3).map UInt8.toNat = [178, 0, 33] by decide +kernel) rfl
theorem dX4_addLine_72 : decode cX4_addLine 72 = .ok (.iload_n 1, 1) := dc_27 (show ((cX4_addLine.data.toList.drop 72).take 1).map UInt8.toNat = [27] by decide +kernel)
theorem dX4_addLine_73 : decode cX4_addLine 73 = .ok (.iaload, 1) := dc_46 (show ((cX4_addLine.data.toList.drop 73).take 1).map UInt8.toNat = [46] by decide +kernel)
theorem dX4_addLine_74 : decode cX4_addLine 74 = .ok (.if_icmp .ge 10, 3) := dc_162 (show ((cX4_addLine.data.toList.drop 74).take 3).map UInt8.toNat = [162, 0, 10] by decide +kernel) rfl
theorem dX4_addLine_84 : decode cX4_addLine 84 = .ok (.iconst (-1), 1) := dc_2 (show ((cX4_addLine.data.toList.drop 84).take 1).map UInt8.toNat = [2] by decide +kernel)
theorem dX4_addLine_85 : decode cX4_addLine 85 = .ok (.iastore, 1) := dc_79 (show ((cX4_addLine.data.toList.drop 85).take 1).map UInt8.toNat = [79] by decide +kernel)
theorem dX4_addLine_86 : decode cX4_addLine 86 = .ok (.iinc 4 1, 3) := dc_132 (show ((cX4_addLine.data.toList.drop 86).take 3).map UInt8.toNat = [132, 4, 1] by decide +kernel) rfl
theorem dX4_addLine_89 : decode cX4_addLine 89 = .ok (.goto (-41), 3) := dc_167 (show ((cX4_addLine.data.toList.drop 89).take 3).map UInt8.toNat = [167, 255, 215] by decide +kernel) rfl
theorem dX4_addLine_77 : decode cX4_addLine 77 = .ok (.aload_n 2, 1) := dc_44 (show ((cX4_addLine.data.toList.drop 77).take 1).map UInt8.toNat = [44] by decide +kernel)
theorem dX4_addLine_78 : decode cX4_addLine 78 = .ok (.iload 4, 2) := dc_21 (show ((cX4_addLine.data.toList.drop 78).take 2).map UInt8.toNat = [21, 4] by decide +kernel) rfl
theorem dX4_addLine_80 : decode cX4_addLine 80 = .ok (.iaload, 1) := dc_46 (show ((cX4_addLine.data.toList.drop 80).take 1).map UInt8.toNat = [46] by decide +kernel)
theorem dX4_addLine_81 : decode cX4_addLine 81 = .ok (.goto 4, 3) := dc_167 (show ((cX4_addLine.data.toList.drop 81).take 3).map UInt8.toNat = [167, 0, 4] by decide +kernel) rfl
def cs_Lines_addLine_N_c107_48 (n : Nat) : Nat → gb_S → Nat → Int32 → Int32 → Int32 → gb_CR Unit
  | 0, _, _, _, _, _ => none
  | mm + 1, σ, v0, v1, v3, v4 => gb_kk (gb_kN v0) ((if (3 : Int32) ≤ v4 then gb_lt ((σ.1 (v0 + 1)) (Int32.toNatClampNeg 0)) (fun x_18 => gb_lt (gb_su σ (v0 + 1) (upd (σ.1 (v0 + 1)) (Int32.toNatClampNeg 0) (x_18 + 1))) (fun s_19 => some (s_19, ()))) else gb_ck v1 18 (gb_lt (gb_tb1 (Int32.toNatClampNeg v1)) (fun x_21 => (if x_21 ≤ v4 then gb_ck ((v3 + 1) + v4) 97 (gb_lt (gb_su σ (v0 + 1) (upd (σ.1 (v0 + 1)) (Int32.toNatClampNeg ((v3 + 1) + v4)) (-1))) (fun s_24 => gb_lt (v4 + 1) (fun x_25 => cs_Lines_addLine_N_c107_48 n mm s_24 v0 v1 v3 x_25))) else gb_ck v4 5 (gb_lt ((σ.1 107) (Int32.toNatClampNeg v4)) (fun x_27 => gb_ck ((v3 + 1) + v4) 97 (gb_lt (gb_su σ (v0 + 1) (upd (σ.1 (v0 + 1)) (Int32.toNatClampNeg ((v3 + 1) + v4)) x_27)) (fun s_29 => gb_lt (v4 + 1) (fun x_30 => cs_Lines_addLine_N_c107_48 n mm s_29 v0 v1 v3 x_30))))))))))
def cs_Lines_addLine_N_c107 (n : Nat) (σ : gb_S) (k0 : Nat) (p1 : Int32) : gb_CR Unit := gb_kk (gb_kN k0) (gb_cd (cs_Lines_hasRoomFor_N n σ k0 p1) (fun s_2 r_3 => (if r_3 = 0 then some (s_2, ()) else (if p1 < 0 then some (s_2, ()) else (if p1 < 18 then gb_cd (cs_Lines_size_N n s_2 k0) (fun s_9 r_10 => gb_lt ((1 : Int32) + (r_10 * ((3 : Int32) + 1))) (fun x_13 => gb_ck x_13 97 (gb_lt (gb_su s_9 (k0 + 1) (upd (s_9.1 (k0 + 1)) (Int32.toNatClampNeg x_13) (p1 - 3))) (fun s_15 => cs_Lines_addLine_N_c107_48 n n s_15 k0 p1 x_13 0)))) else some (s_2, ()))))))
set_option maxHeartbeats 8000000 in
set_option maxRecDepth 100000 in
theorem cc_Lines_addLine_N_c107 (l : Launch) (D : va_G) (cT : Nat → ClassId) (tt : Nat → Nat) (b1 b : Nat) (hb1 : b1 ≤ b) (n : Nat) (σ : gb_S) (k0 : Nat) (p1 : Int32) (σE : gb_S) (rE : Unit) (h : cs_Lines_addLine_N_c107 n σ k0 p1 = some (σE, rE)) : Met l yX4_addLine (.code yX4_addLine cX4_addLine 5 none :: gb_wA) ({ frames := 2, cells := 0, slots := 0, locals := 41 }) (gb_Pc D cT tt b1 [.ref (b + k0), .int p1, .ref (b + 107)] (fun h => va_P D vwCl (gb_wl b (gb_CW cT b σ)) h)) (gb_Qv (fun h => va_P D vwCl (gb_wl b (gb_CW cT b σE)) h) (gb_fr b 135)) 0 0 (gb_fr b 135) := by
  refine Met.ofW (cc := cX4_addLine) (maxL := 5) (ret := none) (by decide) rfl ?_
  intro p e s m args below meth c s₁ B hml hv
  obtain ⟨rfl, hSt, hP⟩ := hv
  have hx := B.exec
  have hb := B.bytes
  have hr := B.returns
  have hts := atoms_spec (ws := .code yX4_addLine cX4_addLine 5 none :: gb_wA) B.pre
  have hq : ∀ w ∈ gb_wA, w.before _ s = true := fun w h => hts w (List.mem_cons_of_mem _ h)
  have hown : s.vm.findClass RX4 = some m.cls := findClass_of_methodNamed B.named
  have hlocks := B.notSynchronized
  clear B hts
  have hK := hSt.1
  have hS : va_S (gb_fr b 135) s.heap s.heap [] := va_S.rf
  have hl := lv_entry ([.ref (b + k0), .int p1, .ref (b + 107)]) (n := 5) (Nat.le_of_ble_eq_true rfl)
  rw [lg_entry_eq]
  generalize (lg_sl ([.ref (b + k0), .int p1, .ref (b + 107)]) ++ List.replicate (5 - (lg_sl ([.ref (b + k0), .int p1, .ref (b + 107)])).length) Slot.unset).toArray = ls at hl ⊢
  replace hl : lv_has ls 5 [(0, .ref (b + k0)), (1, .int p1), (2, .ref (b + 107))] := hl
  have L48_1 : ∀ (mm : Nat) (σ : gb_S) (v0 : Nat) (v1 : Int32) (v3 : Int32) (v4 : Int32) (H : Heap) (locs : List Loc) (ls : Array Slot), cs_Lines_addLine_N_c107_48 n mm σ v0 v1 v3 v4 = some (σE, rE) → va_P D vwCl (gb_wl b (gb_CW cT b σ)) H → va_S (gb_fr b 135) s.heap H locs → lv_has ls 5 [(0, .ref (b + v0)), (1, .int v1), (2, .ref (b + 107)), (3, .int v3), (4, .int v4)] → W p l e (headSpec (.code yX4_addLine cX4_addLine 5 none :: gb_wA) ({ frames := 2, cells := 0, slots := 0, locals := 41 })).room s m ([.ref (b + k0), .int p1, .ref (b + 107)]).toArray below meth c H locs 0 0 (MQ below (gb_Qv (fun h => va_P D vwCl (gb_wl b (gb_CW cT b σE)) h) (gb_fr b 135)) ([.ref (b + k0), .int p1, .ref (b + 107)]).toArray s 0 0 (gb_fr b 135)) (F0 m 48 ls []) := by
    clear h hP hS hl ls
    intro mm
    induction mm with
    | zero =>
      intro σ v0 v1 v3 v4 H locs ls h
      cases h
    | succ mm ih =>
      intro σ v0 v1 v3 v4 H locs ls h hP hS hl
      rw [cs_Lines_addLine_N_c107_48] at h
      obtain ⟨z_16, h⟩ := gb_kk_s h
      refine lv_iload hx hb dX4_addLine_48 (lv_at hl 4 rfl) ?_
      refine lv_aload_n hx hb dX4_addLine_50 rfl (lv_at hl 0 rfl) ?_
      refine va_get (ci := 4) (v := (.int 3)) (C := RX5) (T := TX5) (N := 4) hx hb hq i_X5 hown hK hP v0 (gb_at b (gb_cN z_16).1) rfl 1 (by decide) (hq _ w_73) (fun _ h9 => h9) rfl dX4_addLine_51 ?_
      refine lv_icmp_ge (tgt := 92) hx hb dX4_addLine_54 (by decide) (fun c_17 => ?_) (fun c_17 => ?_)
      · rw [if_pos c_17] at h
        refine lv_aload_n hx hb dX4_addLine_92 rfl (lv_at hl 0 rfl) ?_
        refine va_get (ci := 4) (v := (.ref (b + (v0 + 1)))) (C := RX5) (T := TX5) (N := 4) hx hb hq i_X5 hown hK hP v0 (gb_at b (gb_cN z_16).1) rfl 3 (by decide) (hq _ w_52) (fun x9 h9 => u_same (hq _ w_53) x9 h9) rfl dX4_addLine_93 ?_
        refine lv_iconst (v := 0) hx hb dX4_addLine_96 (by decide) ?_
        refine lv_dup2_11 hx hb dX4_addLine_97 rfl rfl ?_
        refine va_iald hx hb hK hP (v0 + 1) 0 (gb_at b (gb_cN z_16).2) rfl (gb_in rfl) dX4_addLine_98 ?_
        refine lv_topi (fun x_18 ex_18 => ?_)
        replace h := gb_lt_s ex_18 h
        refine lv_iconst (v := 1) hx hb dX4_addLine_99 (by decide) ?_
        refine lv_iadd hx hb dX4_addLine_100 ?_
        refine va_iast (x := (x_18 + 1)) hx hb hK hP (gb_D (fun k h => ⟨Nat.le_add_right b k, Nat.add_lt_add_left h b⟩)) hS (v0 + 1) 0 (gb_at b (gb_cN z_16).2) rfl (gb_in rfl) dX4_addLine_101 (fun H locs hP hD hS => ?_)
        rw [gb_set] at hP
        obtain ⟨s_19, es_19⟩ : ∃ q, q = (gb_su σ (v0 + 1) (upd (σ.1 (v0 + 1)) (Int32.toNatClampNeg 0) (x_18 + 1))) := ⟨_, rfl⟩
        replace hP : va_P D vwCl (gb_wl b (gb_CW cT b s_19)) H := by rw [es_19, ← gb_wN z_16]; exact hP
        replace h := gb_lt_s es_19 h
        obtain ⟨e1, -⟩ := gb_eq2 h
        exact W.vret hx hb hr (fun t ht hW => gb_rv ht (by rw [← e1]; exact hP) hS) hS.2.2 dX4_addLine_102
      · rw [if_neg c_17] at h
        refine lv_aload_n hx hb dX4_addLine_57 rfl (lv_at hl 0 rfl) ?_
        refine va_get (ci := 4) (v := (.ref (b + (v0 + 1)))) (C := RX5) (T := TX5) (N := 4) hx hb hq i_X5 hown hK hP v0 (gb_at b (gb_cN z_16).1) rfl 3 (by decide) (hq _ w_52) (fun x9 h9 => u_same (hq _ w_53) x9 h9) rfl dX4_addLine_58 ?_
        refine lv_iload_n hx hb dX4_addLine_61 rfl (lv_at hl 3 rfl) ?_
        refine lv_iconst (v := 1) hx hb dX4_addLine_62 (by decide) ?_
        refine lv_iadd hx hb dX4_addLine_63 ?_
        refine lv_iload hx hb dX4_addLine_64 (lv_at hl 4 rfl) ?_
        refine lv_iadd hx hb dX4_addLine_66 ?_
        refine lv_iload hx hb dX4_addLine_67 (lv_at hl 4 rfl) ?_
        refine va_getsN hx hb (hSt.2.2.2.2.1.1.narrow (fun q h => Nat.le_trans hb1 h.1)) hS hown (va_Nw.use rfl (hSt.2.1 _ gb_n522)) (fun _ h9 => h9) dX4_addLine_69 ?_
        refine lv_iload_n hx hb dX4_addLine_72 rfl (lv_at hl 1 rfl) ?_
        obtain ⟨z_20, h⟩ := gb_ck_s h
        refine va_ti (v := .int (gb_tb1 (Int32.toNatClampNeg v1))) hx hb (hSt.2.2.2.2.1.2.narrow (fun q h => Nat.le_trans hb1 h.1)) hS z_20 rfl dX4_addLine_73 ?_
        refine lv_topi (fun x_21 ex_21 => ?_)
        replace h := gb_lt_s ex_21 h
        refine lv_icmp_ge (tgt := 84) hx hb dX4_addLine_74 (by decide) (fun c_22 => ?_) (fun c_22 => ?_)
        · rw [if_pos c_22] at h
          refine lv_iconst (v := (-1)) hx hb dX4_addLine_84 (by decide) ?_
          obtain ⟨z_23, h⟩ := gb_ck_s h
          refine va_iast (x := (-1)) hx hb hK hP (gb_D (fun k h => ⟨Nat.le_add_right b k, Nat.add_lt_add_left h b⟩)) hS (v0 + 1) 0 (gb_at b (gb_cN z_16).2) rfl z_23 dX4_addLine_85 (fun H locs hP hD hS => ?_)
          rw [gb_set] at hP
          obtain ⟨s_24, es_24⟩ : ∃ q, q = (gb_su σ (v0 + 1) (upd (σ.1 (v0 + 1)) (Int32.toNatClampNeg ((v3 + 1) + v4)) (-1))) := ⟨_, rfl⟩
          replace hP : va_P D vwCl (gb_wl b (gb_CW cT b s_24)) H := by rw [es_24, ← gb_wN z_16]; exact hP
          replace h := gb_lt_s es_24 h
          obtain ⟨x_25, ex_25⟩ : ∃ q, q = (v4 + 1) := ⟨_, rfl⟩
          replace h := gb_lt_s ex_25 h
          refine lv_iinc (v := x_25) (lv' := [(4, .int x_25), (0, .ref (b + v0)), (1, .int v1), (2, .ref (b + 107)), (3, .int v3)]) hx hb dX4_addLine_86 hl (k := 4) rfl (by rw [ex_25]; rfl) (by decide) rfl (fun ls hl => ?_)
          refine lv_goto (tgt := 48) hx hb dX4_addLine_89 (by decide) ?_
          exact ih _ _ _ _ _ _ _ _ h hP hS (lv_sub hl [1, 2, 3, 4, 0] rfl)
        · rw [if_neg c_22] at h
          refine lv_aload_n hx hb dX4_addLine_77 rfl (lv_at hl 2 rfl) ?_
          refine lv_iload hx hb dX4_addLine_78 (lv_at hl 4 rfl) ?_
          obtain ⟨z_26, h⟩ := gb_ck_s h
          refine va_iald hx hb hK hP 107 0 (gb_at b rfl) rfl z_26 dX4_addLine_80 ?_
          refine lv_topi (fun x_27 ex_27 => ?_)
          replace h := gb_lt_s ex_27 h
          refine lv_goto (tgt := 85) hx hb dX4_addLine_81 (by decide) ?_
          obtain ⟨z_28, h⟩ := gb_ck_s h
          refine va_iast (x := x_27) hx hb hK hP (gb_D (fun k h => ⟨Nat.le_add_right b k, Nat.add_lt_add_left h b⟩)) hS (v0 + 1) 0 (gb_at b (gb_cN z_16).2) rfl z_28 dX4_addLine_85 (fun H locs hP hD hS => ?_)
          rw [gb_set] at hP
          obtain ⟨s_29, es_29⟩ : ∃ q, q = (gb_su σ (v0 + 1) (upd (σ.1 (v0 + 1)) (Int32.toNatClampNeg ((v3 + 1) + v4)) x_27)) := ⟨_, rfl⟩
          replace hP : va_P D vwCl (gb_wl b (gb_CW cT b s_29)) H := by rw [es_29, ← gb_wN z_16]; exact hP
          replace h := gb_lt_s es_29 h
          obtain ⟨x_30, ex_30⟩ : ∃ q, q = (v4 + 1) := ⟨_, rfl⟩
          replace h := gb_lt_s ex_30 h
          refine lv_iinc (v := x_30) (lv' := [(4, .int x_30), (0, .ref (b + v0)), (1, .int v1), (2, .ref (b + 107)), (3, .int v3)]) hx hb dX4_addLine_86 hl (k := 4) rfl (by rw [ex_30]; rfl) (by decide) rfl (fun ls hl => ?_)
          refine lv_goto (tgt := 48) hx hb dX4_addLine_89 (by decide) ?_
          exact ih _ _ _ _ _ _ _ _ h hP hS (lv_sub hl [1, 2, 3, 4, 0] rfl)
  unfold cs_Lines_addLine_N_c107 at h
  obtain ⟨z_1, h⟩ := gb_kk_s h
  refine lv_aload_n hx hb dX4_addLine_0 rfl (lv_at hl 0 rfl) ?_
  refine lv_iload_n hx hb dX4_addLine_1 rfl (lv_at hl 1 rfl) ?_
  obtain ⟨s_2, r_3, z_4, h⟩ := gb_cd_s h
  refine gb_calli (va_runU (x := yX4_hasRoomFor) (C := RX5) (owner := "GooseBorder$Lines") (As := [.int p1]) (rest := []) ⟨hx, hb, hml, hown, hq⟩ (cc_Lines_hasRoomFor_N l D cT tt b1 b hb1 n σ k0 p1 s_2 r_3 z_4) (va_cwU (owner := "GooseBorder$Lines") (C := RX5) 1 hq (gb_gU w_521 w_1726 w_1729 w_481 w_6 w_482) rfl rfl rfl rfl (by decide +kernel) ⟨Nat.le_of_ble_eq_true rfl, Nat.le_of_ble_eq_true rfl⟩) (gb_preV (r := (RX5, TX5, 4)) (ci := 4) (q0 := k0) hSt hP rfl (gb_at b (gb_cN z_1).1) hS (fun q h => Nat.le_trans hb1 h.1) hP) rfl rfl hl.1 rfl (lv_room (Nat.le_of_ble_eq_true rfl)) dX4_addLine_2 ⟨Nat.le_of_ble_eq_true rfl, Nat.le_of_ble_eq_true rfl⟩) hS (fun _ h => h) (fun _ h => h) (fun q_5 H locs hY hk hS => ?_)
  obtain ⟨hq_5, hP⟩ := hY
  replace hq_5 := hq_5.symm
  subst hq_5
  refine lv_if_eq (tgt := 18) hx hb dX4_addLine_5 (by decide) (fun c_6 => ?_) (fun c_6 => ?_)
  · rw [if_pos c_6] at h
    obtain ⟨e1, -⟩ := gb_eq2 h
    exact W.vret hx hb hr (fun t ht hW => gb_rv ht (by rw [← e1]; exact hP) hS) hS.2.2 dX4_addLine_18
  · rw [if_neg c_6] at h
    refine lv_iload_n hx hb dX4_addLine_8 rfl (lv_at hl 1 rfl) ?_
    refine lv_if_lt (tgt := 18) hx hb dX4_addLine_9 (by decide) (fun c_7 => ?_) (fun c_7 => ?_)
    · rw [if_pos c_7] at h
      obtain ⟨e1, -⟩ := gb_eq2 h
      exact W.vret hx hb hr (fun t ht hW => gb_rv ht (by rw [← e1]; exact hP) hS) hS.2.2 dX4_addLine_18
    · rw [if_neg c_7] at h
      refine lv_iload_n hx hb dX4_addLine_12 rfl (lv_at hl 1 rfl) ?_
      refine lv_bipush (v := 18) hx hb dX4_addLine_13 (by decide) ?_
      refine lv_icmp_lt (tgt := 19) hx hb dX4_addLine_15 (by decide) (fun c_8 => ?_) (fun c_8 => ?_)
      · rw [if_pos c_8] at h
        refine lv_iconst (v := 1) hx hb dX4_addLine_19 (by decide) ?_
        refine lv_aload_n hx hb dX4_addLine_20 rfl (lv_at hl 0 rfl) ?_
        obtain ⟨s_9, r_10, z_11, h⟩ := gb_cd_s h
        refine gb_calli (va_runU (x := yX4_size) (C := RX5) (owner := "GooseBorder$Lines") (As := []) (rest := [.int 1]) ⟨hx, hb, hml, hown, hq⟩ (cc_Lines_size_N l D cT tt b1 b hb1 n s_2 k0 s_9 r_10 z_11) (va_cwU (owner := "GooseBorder$Lines") (C := RX5) 0 hq (gb_gU w_483 w_485 w_488 w_484 w_6 w_489) rfl rfl rfl rfl (by decide +kernel) ⟨Nat.le_of_ble_eq_true rfl, Nat.le_of_ble_eq_true rfl⟩) (gb_preV (r := (RX5, TX5, 4)) (ci := 4) (q0 := k0) hSt hP rfl (gb_at b (gb_cN z_1).1) hS (fun q h => Nat.le_trans hb1 h.1) hP) rfl rfl hl.1 rfl (lv_room (Nat.le_of_ble_eq_true rfl)) dX4_addLine_21 ⟨Nat.le_of_ble_eq_true rfl, Nat.le_of_ble_eq_true rfl⟩) hS (fun _ h => h) (fun _ h => h) (fun q_12 H locs hY hk hS => ?_)
        obtain ⟨hq_12, hP⟩ := hY
        replace hq_12 := hq_12.symm
        subst hq_12
        refine lv_aload_n hx hb dX4_addLine_24 rfl (lv_at hl 0 rfl) ?_
        refine va_get (ci := 4) (v := (.int 3)) (C := RX5) (T := TX5) (N := 4) hx hb hq i_X5 hown hK hP k0 (gb_at b (gb_cN z_1).1) rfl 1 (by decide) (hq _ w_73) (fun _ h9 => h9) rfl dX4_addLine_25 ?_
        refine lv_iconst (v := 1) hx hb dX4_addLine_28 (by decide) ?_
        refine lv_iadd hx hb dX4_addLine_29 ?_
        refine lv_imul hx hb dX4_addLine_30 ?_
        refine lv_iadd hx hb dX4_addLine_31 ?_
        refine lv_topi (fun x_13 ex_13 => ?_)
        replace h := gb_lt_s ex_13 h
        refine lv_istore_n (lv' := [(3, .int x_13), (0, .ref (b + k0)), (1, .int p1), (2, .ref (b + 107))]) hx hb dX4_addLine_32 rfl hl (by decide) rfl (fun ls hl => ?_)
        refine lv_aload_n hx hb dX4_addLine_33 rfl (lv_at hl 1 rfl) ?_
        refine va_get (ci := 4) (v := (.ref (b + (k0 + 1)))) (C := RX5) (T := TX5) (N := 4) hx hb hq i_X5 hown hK hP k0 (gb_at b (gb_cN z_1).1) rfl 3 (by decide) (hq _ w_52) (fun x9 h9 => u_same (hq _ w_53) x9 h9) rfl dX4_addLine_34 ?_
        refine lv_iload_n hx hb dX4_addLine_37 rfl (lv_at hl 0 rfl) ?_
        refine lv_iload_n hx hb dX4_addLine_38 rfl (lv_at hl 2 rfl) ?_
        refine lv_aload_n hx hb dX4_addLine_39 rfl (lv_at hl 1 rfl) ?_
        refine va_get (ci := 4) (v := (.int 3)) (C := RX5) (T := TX5) (N := 4) hx hb hq i_X5 hown hK hP k0 (gb_at b (gb_cN z_1).1) rfl 2 (by decide) (hq _ w_77) (fun _ h9 => h9) rfl dX4_addLine_40 ?_
        refine lv_isub hx hb dX4_addLine_43 ?_
        obtain ⟨z_14, h⟩ := gb_ck_s h
        refine va_iast (x := (p1 - 3)) hx hb hK hP (gb_D (fun k h => ⟨Nat.le_add_right b k, Nat.add_lt_add_left h b⟩)) hS (k0 + 1) 0 (gb_at b (gb_cN z_1).2) rfl z_14 dX4_addLine_44 (fun H locs hP hD hS => ?_)
        rw [gb_set] at hP
        obtain ⟨s_15, es_15⟩ : ∃ q, q = (gb_su s_9 (k0 + 1) (upd (s_9.1 (k0 + 1)) (Int32.toNatClampNeg x_13) (p1 - 3))) := ⟨_, rfl⟩
        replace hP : va_P D vwCl (gb_wl b (gb_CW cT b s_15)) H := by rw [es_15, ← gb_wN z_1]; exact hP
        replace h := gb_lt_s es_15 h
        refine lv_iconst (v := 0) hx hb dX4_addLine_45 (by decide) ?_
        refine lv_istore (lv' := [(4, .int 0), (3, .int x_13), (0, .ref (b + k0)), (1, .int p1), (2, .ref (b + 107))]) hx hb dX4_addLine_46 hl (by decide) rfl (fun ls hl => ?_)
        exact L48_1 n _ _ _ _ _ _ _ _ h hP hS (lv_sub hl [2, 3, 4, 1, 0] rfl)
      · rw [if_neg c_8] at h
        obtain ⟨e1, -⟩ := gb_eq2 h
        exact W.vret hx hb hr (fun t ht hW => gb_rv ht (by rw [← e1]; exact hP) hS) hS.2.2 dX4_addLine_18
theorem w_520 : (Cond.code ({ cls := "GooseBorder$Lines", name := "addLine", desc := "(I[I)V" } : MethodName) prog_6_method_4_code (5 : Nat) (Option.none : Option FieldType)) ∈ gb_wA := gb_t3 40 rfl rfl
theorem w_524 : (Cond.selects "GooseBorder$Night" ({ cls := "GooseBorder$Sheet", name := "addLine", desc := "(I[I)V" } : MethodName) ({ cls := "GooseBorder$Lines", name := "addLine", desc := "(I[I)V" } : MethodName)) ∈ gb_wA := gb_t3 44 rfl rfl
theorem w_519 : (Cond.instanceMethod ({ cls := "GooseBorder$Lines", name := "addLine", desc := "(I[I)V" } : MethodName)) ∈ gb_wA := gb_t3 39 rfl rfl
def cs_Lines_hasRoomFor_L (n : Nat) (σ : gb_S) (k0 : Nat) (p1 : Int32) : gb_CR Int32 := gb_kk (gb_kL k0) (gb_cd (cs_Lines_size_L n σ k0) (fun s_2 r_3 => (if (8 : Int32) ≤ r_3 then some (s_2, 0) else some (s_2, 1))))
set_option maxHeartbeats 8000000 in
set_option maxRecDepth 100000 in
theorem cc_Lines_hasRoomFor_L (l : Launch) (D : va_G) (cT : Nat → ClassId) (tt : Nat → Nat) (b1 b : Nat) (hb1 : b1 ≤ b) (n : Nat) (σ : gb_S) (k0 : Nat) (p1 : Int32) (σE : gb_S) (rE : Int32) (h : cs_Lines_hasRoomFor_L n σ k0 p1 = some (σE, rE)) : Met l yX4_hasRoomFor (.code yX4_hasRoomFor cX4_hasRoomFor 2 (some FieldType.boolean) :: gb_wA) ({ frames := 1, cells := 0, slots := 0, locals := 20 }) (gb_Pc D cT tt b1 [.ref (b + k0), .int p1] (fun h => va_P D vwCl (gb_wl b (gb_CW cT b σ)) h)) (gb_Qi (fun r h => r = rE ∧ va_P D vwCl (gb_wl b (gb_CW cT b σE)) h) (gb_fr b 135)) 0 0 (gb_fr b 135) := by
  refine Met.ofW (cc := cX4_hasRoomFor) (maxL := 2) (ret := (some FieldType.boolean)) (by decide) rfl ?_
  intro p e s m args below meth c s₁ B hml hv
  obtain ⟨rfl, hSt, hP⟩ := hv
  have hx := B.exec
  have hb := B.bytes
  have hr := B.returns
  have hts := atoms_spec (ws := .code yX4_hasRoomFor cX4_hasRoomFor 2 (some FieldType.boolean) :: gb_wA) B.pre
  have hq : ∀ w ∈ gb_wA, w.before _ s = true := fun w h => hts w (List.mem_cons_of_mem _ h)
  have hown : s.vm.findClass RX4 = some m.cls := findClass_of_methodNamed B.named
  have hlocks := B.notSynchronized
  clear B hts
  have hK := hSt.1
  have hS : va_S (gb_fr b 135) s.heap s.heap [] := va_S.rf
  have hl := lv_entry ([.ref (b + k0), .int p1]) (n := 2) (Nat.le_of_ble_eq_true rfl)
  rw [lg_entry_eq]
  generalize (lg_sl ([.ref (b + k0), .int p1]) ++ List.replicate (2 - (lg_sl ([.ref (b + k0), .int p1])).length) Slot.unset).toArray = ls at hl ⊢
  replace hl : lv_has ls 2 [(0, .ref (b + k0)), (1, .int p1)] := hl
  unfold cs_Lines_hasRoomFor_L at h
  obtain ⟨z_1, h⟩ := gb_kk_s h
  refine lv_aload_n hx hb dX4_hasRoomFor_0 rfl (lv_at hl 0 rfl) ?_
  obtain ⟨s_2, r_3, z_4, h⟩ := gb_cd_s h
  refine gb_calli (va_runU (x := yX4_size) (C := RX3) (owner := "GooseBorder$Lines") (As := []) (rest := []) ⟨hx, hb, hml, hown, hq⟩ (cc_Lines_size_L l D cT tt b1 b hb1 n σ k0 s_2 r_3 z_4) (va_cwU (owner := "GooseBorder$Lines") (C := RX3) 0 hq (gb_gU w_483 w_485 w_487 w_484 w_6 w_489) rfl rfl rfl rfl (by decide +kernel) ⟨Nat.le_of_ble_eq_true rfl, Nat.le_of_ble_eq_true rfl⟩) (gb_preV (r := (RX3, TX3, 4)) (ci := 3) (q0 := k0) hSt hP rfl (gb_at b (gb_cL z_1).1) hS (fun q h => Nat.le_trans hb1 h.1) hP) rfl rfl hl.1 rfl (lv_room (Nat.le_of_ble_eq_true rfl)) dX4_hasRoomFor_1 ⟨Nat.le_of_ble_eq_true rfl, Nat.le_of_ble_eq_true rfl⟩) hS (fun _ h => h) (fun _ h => h) (fun q_5 H locs hY hk hS => ?_)
  obtain ⟨hq_5, hP⟩ := hY
  replace hq_5 := hq_5.symm
  subst hq_5
  refine lv_aload_n hx hb dX4_hasRoomFor_4 rfl (lv_at hl 0 rfl) ?_
  refine va_get (ci := 3) (v := (.int 8)) (C := RX3) (T := TX3) (N := 4) hx hb hq i_X3 hown hK hP k0 (gb_at b (gb_cL z_1).1) rfl 0 (by decide) (hq _ w_72) (fun _ h9 => h9) rfl dX4_hasRoomFor_5 ?_
  refine lv_icmp_ge (tgt := 15) hx hb dX4_hasRoomFor_8 (by decide) (fun c_6 => ?_) (fun c_6 => ?_)
  · rw [if_pos c_6] at h
    refine lv_iconst (v := 0) hx hb dX4_hasRoomFor_15 (by decide) ?_
    obtain ⟨e1, e2⟩ := gb_eq2 h
    exact W.zret (v := 0) hx hb hr (by decide) (fun t ht hW => gb_ri ht ⟨e2, by rw [← e1]; exact hP⟩ hS) hS.2.2 dX4_hasRoomFor_16
  · rw [if_neg c_6] at h
    refine lv_iconst (v := 1) hx hb dX4_hasRoomFor_11 (by decide) ?_
    refine lv_goto (tgt := 16) hx hb dX4_hasRoomFor_12 (by decide) ?_
    obtain ⟨e1, e2⟩ := gb_eq2 h
    exact W.zret (v := 1) hx hb hr (by decide) (fun t ht hW => gb_ri ht ⟨e2, by rw [← e1]; exact hP⟩ hS) hS.2.2 dX4_hasRoomFor_16
theorem w_1728 : (Cond.selects "GooseBorder$Law" ({ cls := "GooseBorder$Lines", name := "hasRoomFor", desc := "(I)Z" } : MethodName) ({ cls := "GooseBorder$Lines", name := "hasRoomFor", desc := "(I)Z" } : MethodName)) ∈ gb_wA := gb_t8 48 rfl rfl
def cs_Lines_addLine_L_c107_48 (n : Nat) : Nat → gb_S → Nat → Int32 → Int32 → Int32 → gb_CR Unit
  | 0, _, _, _, _, _ => none
  | mm + 1, σ, v0, v1, v3, v4 => gb_kk (gb_kL v0) ((if (2 : Int32) ≤ v4 then gb_lt ((σ.1 (v0 + 1)) (Int32.toNatClampNeg 0)) (fun x_18 => gb_lt (gb_su σ (v0 + 1) (upd (σ.1 (v0 + 1)) (Int32.toNatClampNeg 0) (x_18 + 1))) (fun s_19 => some (s_19, ()))) else gb_ck v1 18 (gb_lt (gb_tb1 (Int32.toNatClampNeg v1)) (fun x_21 => (if x_21 ≤ v4 then gb_ck ((v3 + 1) + v4) 25 (gb_lt (gb_su σ (v0 + 1) (upd (σ.1 (v0 + 1)) (Int32.toNatClampNeg ((v3 + 1) + v4)) (-1))) (fun s_24 => gb_lt (v4 + 1) (fun x_25 => cs_Lines_addLine_L_c107_48 n mm s_24 v0 v1 v3 x_25))) else gb_ck v4 5 (gb_lt ((σ.1 107) (Int32.toNatClampNeg v4)) (fun x_27 => gb_ck ((v3 + 1) + v4) 25 (gb_lt (gb_su σ (v0 + 1) (upd (σ.1 (v0 + 1)) (Int32.toNatClampNeg ((v3 + 1) + v4)) x_27)) (fun s_29 => gb_lt (v4 + 1) (fun x_30 => cs_Lines_addLine_L_c107_48 n mm s_29 v0 v1 v3 x_30))))))))))
def cs_Lines_addLine_L_c107 (n : Nat) (σ : gb_S) (k0 : Nat) (p1 : Int32) : gb_CR Unit := gb_kk (gb_kL k0) (gb_cd (cs_Lines_hasRoomFor_L n σ k0 p1) (fun s_2 r_3 => (if r_3 = 0 then some (s_2, ()) else (if p1 < 0 then some (s_2, ()) else (if p1 < 18 then gb_cd (cs_Lines_size_L n s_2 k0) (fun s_9 r_10 => gb_lt ((1 : Int32) + (r_10 * ((2 : Int32) + 1))) (fun x_13 => gb_ck x_13 25 (gb_lt (gb_su s_9 (k0 + 1) (upd (s_9.1 (k0 + 1)) (Int32.toNatClampNeg x_13) (p1 - 12))) (fun s_15 => cs_Lines_addLine_L_c107_48 n n s_15 k0 p1 x_13 0)))) else some (s_2, ()))))))
set_option maxHeartbeats 8000000 in
set_option maxRecDepth 100000 in
theorem cc_Lines_addLine_L_c107 (l : Launch) (D : va_G) (cT : Nat → ClassId) (tt : Nat → Nat) (b1 b : Nat) (hb1 : b1 ≤ b) (n : Nat) (σ : gb_S) (k0 : Nat) (p1 : Int32) (σE : gb_S) (rE : Unit) (h : cs_Lines_addLine_L_c107 n σ k0 p1 = some (σE, rE)) : Met l yX4_addLine (.code yX4_addLine cX4_addLine 5 none :: gb_wA) ({ frames := 2, cells := 0, slots := 0, locals := 41 }) (gb_Pc D cT tt b1 [.ref (b + k0), .int p1, .ref (b + 107)] (fun h => va_P D vwCl (gb_wl b (gb_CW cT b σ)) h)) (gb_Qv (fun h => va_P D vwCl (gb_wl b (gb_CW cT b σE)) h) (gb_fr b 135)) 0 0 (gb_fr b 135) := by
  refine Met.ofW (cc := cX4_addLine) (maxL := 5) (ret := none) (by decide) rfl ?_
  intro p e s m args below meth c s₁ B hml hv
  obtain ⟨rfl, hSt, hP⟩ := hv
  have hx := B.exec
  have hb := B.bytes
  have hr := B.returns
  have hts := atoms_spec (ws := .code yX4_addLine cX4_addLine 5 none :: gb_wA) B.pre
  have hq : ∀ w ∈ gb_wA, w.before _ s = true := fun w h => hts w (List.mem_cons_of_mem _ h)
  have hown : s.vm.findClass RX4 = some m.cls := findClass_of_methodNamed B.named
  have hlocks := B.notSynchronized
  clear B hts
  have hK := hSt.1
  have hS : va_S (gb_fr b 135) s.heap s.heap [] := va_S.rf
  have hl := lv_entry ([.ref (b + k0), .int p1, .ref (b + 107)]) (n := 5) (Nat.le_of_ble_eq_true rfl)
  rw [lg_entry_eq]
  generalize (lg_sl ([.ref (b + k0), .int p1, .ref (b + 107)]) ++ List.replicate (5 - (lg_sl ([.ref (b + k0), .int p1, .ref (b + 107)])).length) Slot.unset).toArray = ls at hl ⊢
  replace hl : lv_has ls 5 [(0, .ref (b + k0)), (1, .int p1), (2, .ref (b + 107))] := hl
  have L48_1 : ∀ (mm : Nat) (σ : gb_S) (v0 : Nat) (v1 : Int32) (v3 : Int32) (v4 : Int32) (H : Heap) (locs : List Loc) (ls : Array Slot), cs_Lines_addLine_L_c107_48 n mm σ v0 v1 v3 v4 = some (σE, rE) → va_P D vwCl (gb_wl b (gb_CW cT b σ)) H → va_S (gb_fr b 135) s.heap H locs → lv_has ls 5 [(0, .ref (b + v0)), (1, .int v1), (2, .ref (b + 107)), (3, .int v3), (4, .int v4)] → W p l e (headSpec (.code yX4_addLine cX4_addLine 5 none :: gb_wA) ({ frames := 2, cells := 0, slots := 0, locals := 41 })).room s m ([.ref (b + k0), .int p1, .ref (b + 107)]).toArray below meth c H locs 0 0 (MQ below (gb_Qv (fun h => va_P D vwCl (gb_wl b (gb_CW cT b σE)) h) (gb_fr b 135)) ([.ref (b + k0), .int p1, .ref (b + 107)]).toArray s 0 0 (gb_fr b 135)) (F0 m 48 ls []) := by
    clear h hP hS hl ls
    intro mm
    induction mm with
    | zero =>
      intro σ v0 v1 v3 v4 H locs ls h
      cases h
    | succ mm ih =>
      intro σ v0 v1 v3 v4 H locs ls h hP hS hl
      rw [cs_Lines_addLine_L_c107_48] at h
      obtain ⟨z_16, h⟩ := gb_kk_s h
      refine lv_iload hx hb dX4_addLine_48 (lv_at hl 4 rfl) ?_
      refine lv_aload_n hx hb dX4_addLine_50 rfl (lv_at hl 0 rfl) ?_
      refine va_get (ci := 3) (v := (.int 2)) (C := RX3) (T := TX3) (N := 4) hx hb hq i_X3 hown hK hP v0 (gb_at b (gb_cL z_16).1) rfl 1 (by decide) (hq _ w_73) (fun _ h9 => h9) rfl dX4_addLine_51 ?_
      refine lv_icmp_ge (tgt := 92) hx hb dX4_addLine_54 (by decide) (fun c_17 => ?_) (fun c_17 => ?_)
      · rw [if_pos c_17] at h
        refine lv_aload_n hx hb dX4_addLine_92 rfl (lv_at hl 0 rfl) ?_
        refine va_get (ci := 3) (v := (.ref (b + (v0 + 1)))) (C := RX3) (T := TX3) (N := 4) hx hb hq i_X3 hown hK hP v0 (gb_at b (gb_cL z_16).1) rfl 3 (by decide) (hq _ w_52) (fun x9 h9 => u_same (hq _ w_53) x9 h9) rfl dX4_addLine_93 ?_
        refine lv_iconst (v := 0) hx hb dX4_addLine_96 (by decide) ?_
        refine lv_dup2_11 hx hb dX4_addLine_97 rfl rfl ?_
        refine va_iald hx hb hK hP (v0 + 1) 0 (gb_at b (gb_cL z_16).2) rfl (gb_in rfl) dX4_addLine_98 ?_
        refine lv_topi (fun x_18 ex_18 => ?_)
        replace h := gb_lt_s ex_18 h
        refine lv_iconst (v := 1) hx hb dX4_addLine_99 (by decide) ?_
        refine lv_iadd hx hb dX4_addLine_100 ?_
        refine va_iast (x := (x_18 + 1)) hx hb hK hP (gb_D (fun k h => ⟨Nat.le_add_right b k, Nat.add_lt_add_left h b⟩)) hS (v0 + 1) 0 (gb_at b (gb_cL z_16).2) rfl (gb_in rfl) dX4_addLine_101 (fun H locs hP hD hS => ?_)
        rw [gb_set] at hP
        obtain ⟨s_19, es_19⟩ : ∃ q, q = (gb_su σ (v0 + 1) (upd (σ.1 (v0 + 1)) (Int32.toNatClampNeg 0) (x_18 + 1))) := ⟨_, rfl⟩
        replace hP : va_P D vwCl (gb_wl b (gb_CW cT b s_19)) H := by rw [es_19, ← gb_wL z_16]; exact hP
        replace h := gb_lt_s es_19 h
        obtain ⟨e1, -⟩ := gb_eq2 h
        exact W.vret hx hb hr (fun t ht hW => gb_rv ht (by rw [← e1]; exact hP) hS) hS.2.2 dX4_addLine_102
      · rw [if_neg c_17] at h
        refine lv_aload_n hx hb dX4_addLine_57 rfl (lv_at hl 0 rfl) ?_
        refine va_get (ci := 3) (v := (.ref (b + (v0 + 1)))) (C := RX3) (T := TX3) (N := 4) hx hb hq i_X3 hown hK hP v0 (gb_at b (gb_cL z_16).1) rfl 3 (by decide) (hq _ w_52) (fun x9 h9 => u_same (hq _ w_53) x9 h9) rfl dX4_addLine_58 ?_
        refine lv_iload_n hx hb dX4_addLine_61 rfl (lv_at hl 3 rfl) ?_
        refine lv_iconst (v := 1) hx hb dX4_addLine_62 (by decide) ?_
        refine lv_iadd hx hb dX4_addLine_63 ?_
        refine lv_iload hx hb dX4_addLine_64 (lv_at hl 4 rfl) ?_
        refine lv_iadd hx hb dX4_addLine_66 ?_
        refine lv_iload hx hb dX4_addLine_67 (lv_at hl 4 rfl) ?_
        refine va_getsN hx hb (hSt.2.2.2.2.1.1.narrow (fun q h => Nat.le_trans hb1 h.1)) hS hown (va_Nw.use rfl (hSt.2.1 _ gb_n522)) (fun _ h9 => h9) dX4_addLine_69 ?_
        refine lv_iload_n hx hb dX4_addLine_72 rfl (lv_at hl 1 rfl) ?_
        obtain ⟨z_20, h⟩ := gb_ck_s h
        refine va_ti (v := .int (gb_tb1 (Int32.toNatClampNeg v1))) hx hb (hSt.2.2.2.2.1.2.narrow (fun q h => Nat.le_trans hb1 h.1)) hS z_20 rfl dX4_addLine_73 ?_
        refine lv_topi (fun x_21 ex_21 => ?_)
        replace h := gb_lt_s ex_21 h
        refine lv_icmp_ge (tgt := 84) hx hb dX4_addLine_74 (by decide) (fun c_22 => ?_) (fun c_22 => ?_)
        · rw [if_pos c_22] at h
          refine lv_iconst (v := (-1)) hx hb dX4_addLine_84 (by decide) ?_
          obtain ⟨z_23, h⟩ := gb_ck_s h
          refine va_iast (x := (-1)) hx hb hK hP (gb_D (fun k h => ⟨Nat.le_add_right b k, Nat.add_lt_add_left h b⟩)) hS (v0 + 1) 0 (gb_at b (gb_cL z_16).2) rfl z_23 dX4_addLine_85 (fun H locs hP hD hS => ?_)
          rw [gb_set] at hP
          obtain ⟨s_24, es_24⟩ : ∃ q, q = (gb_su σ (v0 + 1) (upd (σ.1 (v0 + 1)) (Int32.toNatClampNeg ((v3 + 1) + v4)) (-1))) := ⟨_, rfl⟩
          replace hP : va_P D vwCl (gb_wl b (gb_CW cT b s_24)) H := by rw [es_24, ← gb_wL z_16]; exact hP
          replace h := gb_lt_s es_24 h
          obtain ⟨x_25, ex_25⟩ : ∃ q, q = (v4 + 1) := ⟨_, rfl⟩
          replace h := gb_lt_s ex_25 h
          refine lv_iinc (v := x_25) (lv' := [(4, .int x_25), (0, .ref (b + v0)), (1, .int v1), (2, .ref (b + 107)), (3, .int v3)]) hx hb dX4_addLine_86 hl (k := 4) rfl (by rw [ex_25]; rfl) (by decide) rfl (fun ls hl => ?_)
          refine lv_goto (tgt := 48) hx hb dX4_addLine_89 (by decide) ?_
          exact ih _ _ _ _ _ _ _ _ h hP hS (lv_sub hl [1, 2, 3, 4, 0] rfl)
        · rw [if_neg c_22] at h
          refine lv_aload_n hx hb dX4_addLine_77 rfl (lv_at hl 2 rfl) ?_
          refine lv_iload hx hb dX4_addLine_78 (lv_at hl 4 rfl) ?_
          obtain ⟨z_26, h⟩ := gb_ck_s h
          refine va_iald hx hb hK hP 107 0 (gb_at b rfl) rfl z_26 dX4_addLine_80 ?_
          refine lv_topi (fun x_27 ex_27 => ?_)
          replace h := gb_lt_s ex_27 h
          refine lv_goto (tgt := 85) hx hb dX4_addLine_81 (by decide) ?_
          obtain ⟨z_28, h⟩ := gb_ck_s h
          refine va_iast (x := x_27) hx hb hK hP (gb_D (fun k h => ⟨Nat.le_add_right b k, Nat.add_lt_add_left h b⟩)) hS (v0 + 1) 0 (gb_at b (gb_cL z_16).2) rfl z_28 dX4_addLine_85 (fun H locs hP hD hS => ?_)
          rw [gb_set] at hP
          obtain ⟨s_29, es_29⟩ : ∃ q, q = (gb_su σ (v0 + 1) (upd (σ.1 (v0 + 1)) (Int32.toNatClampNeg ((v3 + 1) + v4)) x_27)) := ⟨_, rfl⟩
          replace hP : va_P D vwCl (gb_wl b (gb_CW cT b s_29)) H := by rw [es_29, ← gb_wL z_16]; exact hP
          replace h := gb_lt_s es_29 h
          obtain ⟨x_30, ex_30⟩ : ∃ q, q = (v4 + 1) := ⟨_, rfl⟩
          replace h := gb_lt_s ex_30 h
          refine lv_iinc (v := x_30) (lv' := [(4, .int x_30), (0, .ref (b + v0)), (1, .int v1), (2, .ref (b + 107)), (3, .int v3)]) hx hb dX4_addLine_86 hl (k := 4) rfl (by rw [ex_30]; rfl) (by decide) rfl (fun ls hl => ?_)
          refine lv_goto (tgt := 48) hx hb dX4_addLine_89 (by decide) ?_
          exact ih _ _ _ _ _ _ _ _ h hP hS (lv_sub hl [1, 2, 3, 4, 0] rfl)
  unfold cs_Lines_addLine_L_c107 at h
  obtain ⟨z_1, h⟩ := gb_kk_s h
  refine lv_aload_n hx hb dX4_addLine_0 rfl (lv_at hl 0 rfl) ?_
  refine lv_iload_n hx hb dX4_addLine_1 rfl (lv_at hl 1 rfl) ?_
  obtain ⟨s_2, r_3, z_4, h⟩ := gb_cd_s h
  refine gb_calli (va_runU (x := yX4_hasRoomFor) (C := RX3) (owner := "GooseBorder$Lines") (As := [.int p1]) (rest := []) ⟨hx, hb, hml, hown, hq⟩ (cc_Lines_hasRoomFor_L l D cT tt b1 b hb1 n σ k0 p1 s_2 r_3 z_4) (va_cwU (owner := "GooseBorder$Lines") (C := RX3) 1 hq (gb_gU w_521 w_1726 w_1728 w_481 w_6 w_482) rfl rfl rfl rfl (by decide +kernel) ⟨Nat.le_of_ble_eq_true rfl, Nat.le_of_ble_eq_true rfl⟩) (gb_preV (r := (RX3, TX3, 4)) (ci := 3) (q0 := k0) hSt hP rfl (gb_at b (gb_cL z_1).1) hS (fun q h => Nat.le_trans hb1 h.1) hP) rfl rfl hl.1 rfl (lv_room (Nat.le_of_ble_eq_true rfl)) dX4_addLine_2 ⟨Nat.le_of_ble_eq_true rfl, Nat.le_of_ble_eq_true rfl⟩) hS (fun _ h => h) (fun _ h => h) (fun q_5 H locs hY hk hS => ?_)
  obtain ⟨hq_5, hP⟩ := hY
  replace hq_5 := hq_5.symm
  subst hq_5
  refine lv_if_eq (tgt := 18) hx hb dX4_addLine_5 (by decide) (fun c_6 => ?_) (fun c_6 => ?_)
  · rw [if_pos c_6] at h
    obtain ⟨e1, -⟩ := gb_eq2 h
    exact W.vret hx hb hr (fun t ht hW => gb_rv ht (by rw [← e1]; exact hP) hS) hS.2.2 dX4_addLine_18
  · rw [if_neg c_6] at h
    refine lv_iload_n hx hb dX4_addLine_8 rfl (lv_at hl 1 rfl) ?_
    refine lv_if_lt (tgt := 18) hx hb dX4_addLine_9 (by decide) (fun c_7 => ?_) (fun c_7 => ?_)
    · rw [if_pos c_7] at h
      obtain ⟨e1, -⟩ := gb_eq2 h
      exact W.vret hx hb hr (fun t ht hW => gb_rv ht (by rw [← e1]; exact hP) hS) hS.2.2 dX4_addLine_18
    · rw [if_neg c_7] at h
      refine lv_iload_n hx hb dX4_addLine_12 rfl (lv_at hl 1 rfl) ?_
      refine lv_bipush (v := 18) hx hb dX4_addLine_13 (by decide) ?_
      refine lv_icmp_lt (tgt := 19) hx hb dX4_addLine_15 (by decide) (fun c_8 => ?_) (fun c_8 => ?_)
      · rw [if_pos c_8] at h
        refine lv_iconst (v := 1) hx hb dX4_addLine_19 (by decide) ?_
        refine lv_aload_n hx hb dX4_addLine_20 rfl (lv_at hl 0 rfl) ?_
        obtain ⟨s_9, r_10, z_11, h⟩ := gb_cd_s h
        refine gb_calli (va_runU (x := yX4_size) (C := RX3) (owner := "GooseBorder$Lines") (As := []) (rest := [.int 1]) ⟨hx, hb, hml, hown, hq⟩ (cc_Lines_size_L l D cT tt b1 b hb1 n s_2 k0 s_9 r_10 z_11) (va_cwU (owner := "GooseBorder$Lines") (C := RX3) 0 hq (gb_gU w_483 w_485 w_487 w_484 w_6 w_489) rfl rfl rfl rfl (by decide +kernel) ⟨Nat.le_of_ble_eq_true rfl, Nat.le_of_ble_eq_true rfl⟩) (gb_preV (r := (RX3, TX3, 4)) (ci := 3) (q0 := k0) hSt hP rfl (gb_at b (gb_cL z_1).1) hS (fun q h => Nat.le_trans hb1 h.1) hP) rfl rfl hl.1 rfl (lv_room (Nat.le_of_ble_eq_true rfl)) dX4_addLine_21 ⟨Nat.le_of_ble_eq_true rfl, Nat.le_of_ble_eq_true rfl⟩) hS (fun _ h => h) (fun _ h => h) (fun q_12 H locs hY hk hS => ?_)
        obtain ⟨hq_12, hP⟩ := hY
        replace hq_12 := hq_12.symm
        subst hq_12
        refine lv_aload_n hx hb dX4_addLine_24 rfl (lv_at hl 0 rfl) ?_
        refine va_get (ci := 3) (v := (.int 2)) (C := RX3) (T := TX3) (N := 4) hx hb hq i_X3 hown hK hP k0 (gb_at b (gb_cL z_1).1) rfl 1 (by decide) (hq _ w_73) (fun _ h9 => h9) rfl dX4_addLine_25 ?_
        refine lv_iconst (v := 1) hx hb dX4_addLine_28 (by decide) ?_
        refine lv_iadd hx hb dX4_addLine_29 ?_
        refine lv_imul hx hb dX4_addLine_30 ?_
        refine lv_iadd hx hb dX4_addLine_31 ?_
        refine lv_topi (fun x_13 ex_13 => ?_)
        replace h := gb_lt_s ex_13 h
        refine lv_istore_n (lv' := [(3, .int x_13), (0, .ref (b + k0)), (1, .int p1), (2, .ref (b + 107))]) hx hb dX4_addLine_32 rfl hl (by decide) rfl (fun ls hl => ?_)
        refine lv_aload_n hx hb dX4_addLine_33 rfl (lv_at hl 1 rfl) ?_
        refine va_get (ci := 3) (v := (.ref (b + (k0 + 1)))) (C := RX3) (T := TX3) (N := 4) hx hb hq i_X3 hown hK hP k0 (gb_at b (gb_cL z_1).1) rfl 3 (by decide) (hq _ w_52) (fun x9 h9 => u_same (hq _ w_53) x9 h9) rfl dX4_addLine_34 ?_
        refine lv_iload_n hx hb dX4_addLine_37 rfl (lv_at hl 0 rfl) ?_
        refine lv_iload_n hx hb dX4_addLine_38 rfl (lv_at hl 2 rfl) ?_
        refine lv_aload_n hx hb dX4_addLine_39 rfl (lv_at hl 1 rfl) ?_
        refine va_get (ci := 3) (v := (.int 12)) (C := RX3) (T := TX3) (N := 4) hx hb hq i_X3 hown hK hP k0 (gb_at b (gb_cL z_1).1) rfl 2 (by decide) (hq _ w_77) (fun _ h9 => h9) rfl dX4_addLine_40 ?_
        refine lv_isub hx hb dX4_addLine_43 ?_
        obtain ⟨z_14, h⟩ := gb_ck_s h
        refine va_iast (x := (p1 - 12)) hx hb hK hP (gb_D (fun k h => ⟨Nat.le_add_right b k, Nat.add_lt_add_left h b⟩)) hS (k0 + 1) 0 (gb_at b (gb_cL z_1).2) rfl z_14 dX4_addLine_44 (fun H locs hP hD hS => ?_)
        rw [gb_set] at hP
        obtain ⟨s_15, es_15⟩ : ∃ q, q = (gb_su s_9 (k0 + 1) (upd (s_9.1 (k0 + 1)) (Int32.toNatClampNeg x_13) (p1 - 12))) := ⟨_, rfl⟩
        replace hP : va_P D vwCl (gb_wl b (gb_CW cT b s_15)) H := by rw [es_15, ← gb_wL z_1]; exact hP
        replace h := gb_lt_s es_15 h
        refine lv_iconst (v := 0) hx hb dX4_addLine_45 (by decide) ?_
        refine lv_istore (lv' := [(4, .int 0), (3, .int x_13), (0, .ref (b + k0)), (1, .int p1), (2, .ref (b + 107))]) hx hb dX4_addLine_46 hl (by decide) rfl (fun ls hl => ?_)
        exact L48_1 n _ _ _ _ _ _ _ _ h hP hS (lv_sub hl [2, 3, 4, 1, 0] rfl)
      · rw [if_neg c_8] at h
        obtain ⟨e1, -⟩ := gb_eq2 h
        exact W.vret hx hb hr (fun t ht hW => gb_rv ht (by rw [← e1]; exact hP) hS) hS.2.2 dX4_addLine_18
theorem w_523 : (Cond.selects "GooseBorder$Law" ({ cls := "GooseBorder$Sheet", name := "addLine", desc := "(I[I)V" } : MethodName) ({ cls := "GooseBorder$Lines", name := "addLine", desc := "(I[I)V" } : MethodName)) ∈ gb_wA := gb_t3 43 rfl rfl
def cs_Lines_hasRoomFor_D (n : Nat) (σ : gb_S) (k0 : Nat) (p1 : Int32) : gb_CR Int32 := gb_kk (gb_kD k0) (gb_cd (cs_Lines_size_D n σ k0) (fun s_2 r_3 => (if (5 : Int32) ≤ r_3 then some (s_2, 0) else some (s_2, 1))))
set_option maxHeartbeats 8000000 in
set_option maxRecDepth 100000 in
theorem cc_Lines_hasRoomFor_D (l : Launch) (D : va_G) (cT : Nat → ClassId) (tt : Nat → Nat) (b1 b : Nat) (hb1 : b1 ≤ b) (n : Nat) (σ : gb_S) (k0 : Nat) (p1 : Int32) (σE : gb_S) (rE : Int32) (h : cs_Lines_hasRoomFor_D n σ k0 p1 = some (σE, rE)) : Met l yX4_hasRoomFor (.code yX4_hasRoomFor cX4_hasRoomFor 2 (some FieldType.boolean) :: gb_wA) ({ frames := 1, cells := 0, slots := 0, locals := 20 }) (gb_Pc D cT tt b1 [.ref (b + k0), .int p1] (fun h => va_P D vwCl (gb_wl b (gb_CW cT b σ)) h)) (gb_Qi (fun r h => r = rE ∧ va_P D vwCl (gb_wl b (gb_CW cT b σE)) h) (gb_fr b 135)) 0 0 (gb_fr b 135) := by
  refine Met.ofW (cc := cX4_hasRoomFor) (maxL := 2) (ret := (some FieldType.boolean)) (by decide) rfl ?_
  intro p e s m args below meth c s₁ B hml hv
  obtain ⟨rfl, hSt, hP⟩ := hv
  have hx := B.exec
  have hb := B.bytes
  have hr := B.returns
  have hts := atoms_spec (ws := .code yX4_hasRoomFor cX4_hasRoomFor 2 (some FieldType.boolean) :: gb_wA) B.pre
  have hq : ∀ w ∈ gb_wA, w.before _ s = true := fun w h => hts w (List.mem_cons_of_mem _ h)
  have hown : s.vm.findClass RX4 = some m.cls := findClass_of_methodNamed B.named
  have hlocks := B.notSynchronized
  clear B hts
  have hK := hSt.1
  have hS : va_S (gb_fr b 135) s.heap s.heap [] := va_S.rf
  have hl := lv_entry ([.ref (b + k0), .int p1]) (n := 2) (Nat.le_of_ble_eq_true rfl)
  rw [lg_entry_eq]
  generalize (lg_sl ([.ref (b + k0), .int p1]) ++ List.replicate (2 - (lg_sl ([.ref (b + k0), .int p1])).length) Slot.unset).toArray = ls at hl ⊢
  replace hl : lv_has ls 2 [(0, .ref (b + k0)), (1, .int p1)] := hl
  unfold cs_Lines_hasRoomFor_D at h
  obtain ⟨z_1, h⟩ := gb_kk_s h
  refine lv_aload_n hx hb dX4_hasRoomFor_0 rfl (lv_at hl 0 rfl) ?_
  obtain ⟨s_2, r_3, z_4, h⟩ := gb_cd_s h
  refine gb_calli (va_runU (x := yX4_size) (C := RX1) (owner := "GooseBorder$Lines") (As := []) (rest := []) ⟨hx, hb, hml, hown, hq⟩ (cc_Lines_size_D l D cT tt b1 b hb1 n σ k0 s_2 r_3 z_4) (va_cwU (owner := "GooseBorder$Lines") (C := RX1) 0 hq (gb_gU w_483 w_485 w_486 w_484 w_6 w_489) rfl rfl rfl rfl (by decide +kernel) ⟨Nat.le_of_ble_eq_true rfl, Nat.le_of_ble_eq_true rfl⟩) (gb_preV (r := (RX1, TX1, 4)) (ci := 1) (q0 := k0) hSt hP rfl (gb_at b (gb_cD z_1).1) hS (fun q h => Nat.le_trans hb1 h.1) hP) rfl rfl hl.1 rfl (lv_room (Nat.le_of_ble_eq_true rfl)) dX4_hasRoomFor_1 ⟨Nat.le_of_ble_eq_true rfl, Nat.le_of_ble_eq_true rfl⟩) hS (fun _ h => h) (fun _ h => h) (fun q_5 H locs hY hk hS => ?_)
  obtain ⟨hq_5, hP⟩ := hY
  replace hq_5 := hq_5.symm
  subst hq_5
  refine lv_aload_n hx hb dX4_hasRoomFor_4 rfl (lv_at hl 0 rfl) ?_
  refine va_get (ci := 1) (v := (.int 5)) (C := RX1) (T := TX1) (N := 4) hx hb hq i_X1 hown hK hP k0 (gb_at b (gb_cD z_1).1) rfl 0 (by decide) (hq _ w_72) (fun _ h9 => h9) rfl dX4_hasRoomFor_5 ?_
  refine lv_icmp_ge (tgt := 15) hx hb dX4_hasRoomFor_8 (by decide) (fun c_6 => ?_) (fun c_6 => ?_)
  · rw [if_pos c_6] at h
    refine lv_iconst (v := 0) hx hb dX4_hasRoomFor_15 (by decide) ?_
    obtain ⟨e1, e2⟩ := gb_eq2 h
    exact W.zret (v := 0) hx hb hr (by decide) (fun t ht hW => gb_ri ht ⟨e2, by rw [← e1]; exact hP⟩ hS) hS.2.2 dX4_hasRoomFor_16
  · rw [if_neg c_6] at h
    refine lv_iconst (v := 1) hx hb dX4_hasRoomFor_11 (by decide) ?_
    refine lv_goto (tgt := 16) hx hb dX4_hasRoomFor_12 (by decide) ?_
    obtain ⟨e1, e2⟩ := gb_eq2 h
    exact W.zret (v := 1) hx hb hr (by decide) (fun t ht hW => gb_ri ht ⟨e2, by rw [← e1]; exact hP⟩ hS) hS.2.2 dX4_hasRoomFor_16
theorem w_1727 : (Cond.selects "GooseBorder$Dawn" ({ cls := "GooseBorder$Lines", name := "hasRoomFor", desc := "(I)Z" } : MethodName) ({ cls := "GooseBorder$Lines", name := "hasRoomFor", desc := "(I)Z" } : MethodName)) ∈ gb_wA := gb_t8 47 rfl rfl
def cs_Lines_addLine_D_c107_48 (n : Nat) : Nat → gb_S → Nat → Int32 → Int32 → Int32 → gb_CR Unit
  | 0, _, _, _, _, _ => none
  | mm + 1, σ, v0, v1, v3, v4 => gb_kk (gb_kD v0) ((if (2 : Int32) ≤ v4 then gb_lt ((σ.1 (v0 + 1)) (Int32.toNatClampNeg 0)) (fun x_18 => gb_lt (gb_su σ (v0 + 1) (upd (σ.1 (v0 + 1)) (Int32.toNatClampNeg 0) (x_18 + 1))) (fun s_19 => some (s_19, ()))) else gb_ck v1 18 (gb_lt (gb_tb1 (Int32.toNatClampNeg v1)) (fun x_21 => (if x_21 ≤ v4 then gb_ck ((v3 + 1) + v4) 16 (gb_lt (gb_su σ (v0 + 1) (upd (σ.1 (v0 + 1)) (Int32.toNatClampNeg ((v3 + 1) + v4)) (-1))) (fun s_24 => gb_lt (v4 + 1) (fun x_25 => cs_Lines_addLine_D_c107_48 n mm s_24 v0 v1 v3 x_25))) else gb_ck v4 5 (gb_lt ((σ.1 107) (Int32.toNatClampNeg v4)) (fun x_27 => gb_ck ((v3 + 1) + v4) 16 (gb_lt (gb_su σ (v0 + 1) (upd (σ.1 (v0 + 1)) (Int32.toNatClampNeg ((v3 + 1) + v4)) x_27)) (fun s_29 => gb_lt (v4 + 1) (fun x_30 => cs_Lines_addLine_D_c107_48 n mm s_29 v0 v1 v3 x_30))))))))))
def cs_Lines_addLine_D_c107 (n : Nat) (σ : gb_S) (k0 : Nat) (p1 : Int32) : gb_CR Unit := gb_kk (gb_kD k0) (gb_cd (cs_Lines_hasRoomFor_D n σ k0 p1) (fun s_2 r_3 => (if r_3 = 0 then some (s_2, ()) else (if p1 < 0 then some (s_2, ()) else (if p1 < 18 then gb_cd (cs_Lines_size_D n s_2 k0) (fun s_9 r_10 => gb_lt ((1 : Int32) + (r_10 * ((2 : Int32) + 1))) (fun x_13 => gb_ck x_13 16 (gb_lt (gb_su s_9 (k0 + 1) (upd (s_9.1 (k0 + 1)) (Int32.toNatClampNeg x_13) (p1 - 17))) (fun s_15 => cs_Lines_addLine_D_c107_48 n n s_15 k0 p1 x_13 0)))) else some (s_2, ()))))))
set_option maxHeartbeats 8000000 in
set_option maxRecDepth 100000 in
theorem cc_Lines_addLine_D_c107 (l : Launch) (D : va_G) (cT : Nat → ClassId) (tt : Nat → Nat) (b1 b : Nat) (hb1 : b1 ≤ b) (n : Nat) (σ : gb_S) (k0 : Nat) (p1 : Int32) (σE : gb_S) (rE : Unit) (h : cs_Lines_addLine_D_c107 n σ k0 p1 = some (σE, rE)) : Met l yX4_addLine (.code yX4_addLine cX4_addLine 5 none :: gb_wA) ({ frames := 2, cells := 0, slots := 0, locals := 41 }) (gb_Pc D cT tt b1 [.ref (b + k0), .int p1, .ref (b + 107)] (fun h => va_P D vwCl (gb_wl b (gb_CW cT b σ)) h)) (gb_Qv (fun h => va_P D vwCl (gb_wl b (gb_CW cT b σE)) h) (gb_fr b 135)) 0 0 (gb_fr b 135) := by
  refine Met.ofW (cc := cX4_addLine) (maxL := 5) (ret := none) (by decide) rfl ?_
  intro p e s m args below meth c s₁ B hml hv
  obtain ⟨rfl, hSt, hP⟩ := hv
  have hx := B.exec
  have hb := B.bytes
  have hr := B.returns
  have hts := atoms_spec (ws := .code yX4_addLine cX4_addLine 5 none :: gb_wA) B.pre
  have hq : ∀ w ∈ gb_wA, w.before _ s = true := fun w h => hts w (List.mem_cons_of_mem _ h)
  have hown : s.vm.findClass RX4 = some m.cls := findClass_of_methodNamed B.named
  have hlocks := B.notSynchronized
  clear B hts
  have hK := hSt.1
  have hS : va_S (gb_fr b 135) s.heap s.heap [] := va_S.rf
  have hl := lv_entry ([.ref (b + k0), .int p1, .ref (b + 107)]) (n := 5) (Nat.le_of_ble_eq_true rfl)
  rw [lg_entry_eq]
  generalize (lg_sl ([.ref (b + k0), .int p1, .ref (b + 107)]) ++ List.replicate (5 - (lg_sl ([.ref (b + k0), .int p1, .ref (b + 107)])).length) Slot.unset).toArray = ls at hl ⊢
  replace hl : lv_has ls 5 [(0, .ref (b + k0)), (1, .int p1), (2, .ref (b + 107))] := hl
  have L48_1 : ∀ (mm : Nat) (σ : gb_S) (v0 : Nat) (v1 : Int32) (v3 : Int32) (v4 : Int32) (H : Heap) (locs : List Loc) (ls : Array Slot), cs_Lines_addLine_D_c107_48 n mm σ v0 v1 v3 v4 = some (σE, rE) → va_P D vwCl (gb_wl b (gb_CW cT b σ)) H → va_S (gb_fr b 135) s.heap H locs → lv_has ls 5 [(0, .ref (b + v0)), (1, .int v1), (2, .ref (b + 107)), (3, .int v3), (4, .int v4)] → W p l e (headSpec (.code yX4_addLine cX4_addLine 5 none :: gb_wA) ({ frames := 2, cells := 0, slots := 0, locals := 41 })).room s m ([.ref (b + k0), .int p1, .ref (b + 107)]).toArray below meth c H locs 0 0 (MQ below (gb_Qv (fun h => va_P D vwCl (gb_wl b (gb_CW cT b σE)) h) (gb_fr b 135)) ([.ref (b + k0), .int p1, .ref (b + 107)]).toArray s 0 0 (gb_fr b 135)) (F0 m 48 ls []) := by
    clear h hP hS hl ls
    intro mm
    induction mm with
    | zero =>
      intro σ v0 v1 v3 v4 H locs ls h
      cases h
    | succ mm ih =>
      intro σ v0 v1 v3 v4 H locs ls h hP hS hl
      rw [cs_Lines_addLine_D_c107_48] at h
      obtain ⟨z_16, h⟩ := gb_kk_s h
      refine lv_iload hx hb dX4_addLine_48 (lv_at hl 4 rfl) ?_
      refine lv_aload_n hx hb dX4_addLine_50 rfl (lv_at hl 0 rfl) ?_
      refine va_get (ci := 1) (v := (.int 2)) (C := RX1) (T := TX1) (N := 4) hx hb hq i_X1 hown hK hP v0 (gb_at b (gb_cD z_16).1) rfl 1 (by decide) (hq _ w_73) (fun _ h9 => h9) rfl dX4_addLine_51 ?_
      refine lv_icmp_ge (tgt := 92) hx hb dX4_addLine_54 (by decide) (fun c_17 => ?_) (fun c_17 => ?_)
      · rw [if_pos c_17] at h
        refine lv_aload_n hx hb dX4_addLine_92 rfl (lv_at hl 0 rfl) ?_
        refine va_get (ci := 1) (v := (.ref (b + (v0 + 1)))) (C := RX1) (T := TX1) (N := 4) hx hb hq i_X1 hown hK hP v0 (gb_at b (gb_cD z_16).1) rfl 3 (by decide) (hq _ w_52) (fun x9 h9 => u_same (hq _ w_53) x9 h9) rfl dX4_addLine_93 ?_
        refine lv_iconst (v := 0) hx hb dX4_addLine_96 (by decide) ?_
        refine lv_dup2_11 hx hb dX4_addLine_97 rfl rfl ?_
        refine va_iald hx hb hK hP (v0 + 1) 0 (gb_at b (gb_cD z_16).2) rfl (gb_in rfl) dX4_addLine_98 ?_
        refine lv_topi (fun x_18 ex_18 => ?_)
        replace h := gb_lt_s ex_18 h
        refine lv_iconst (v := 1) hx hb dX4_addLine_99 (by decide) ?_
        refine lv_iadd hx hb dX4_addLine_100 ?_
        refine va_iast (x := (x_18 + 1)) hx hb hK hP (gb_D (fun k h => ⟨Nat.le_add_right b k, Nat.add_lt_add_left h b⟩)) hS (v0 + 1) 0 (gb_at b (gb_cD z_16).2) rfl (gb_in rfl) dX4_addLine_101 (fun H locs hP hD hS => ?_)
        rw [gb_set] at hP
        obtain ⟨s_19, es_19⟩ : ∃ q, q = (gb_su σ (v0 + 1) (upd (σ.1 (v0 + 1)) (Int32.toNatClampNeg 0) (x_18 + 1))) := ⟨_, rfl⟩
        replace hP : va_P D vwCl (gb_wl b (gb_CW cT b s_19)) H := by rw [es_19, ← gb_wD z_16]; exact hP
        replace h := gb_lt_s es_19 h
        obtain ⟨e1, -⟩ := gb_eq2 h
        exact W.vret hx hb hr (fun t ht hW => gb_rv ht (by rw [← e1]; exact hP) hS) hS.2.2 dX4_addLine_102
      · rw [if_neg c_17] at h
        refine lv_aload_n hx hb dX4_addLine_57 rfl (lv_at hl 0 rfl) ?_
        refine va_get (ci := 1) (v := (.ref (b + (v0 + 1)))) (C := RX1) (T := TX1) (N := 4) hx hb hq i_X1 hown hK hP v0 (gb_at b (gb_cD z_16).1) rfl 3 (by decide) (hq _ w_52) (fun x9 h9 => u_same (hq _ w_53) x9 h9) rfl dX4_addLine_58 ?_
        refine lv_iload_n hx hb dX4_addLine_61 rfl (lv_at hl 3 rfl) ?_
        refine lv_iconst (v := 1) hx hb dX4_addLine_62 (by decide) ?_
        refine lv_iadd hx hb dX4_addLine_63 ?_
        refine lv_iload hx hb dX4_addLine_64 (lv_at hl 4 rfl) ?_
        refine lv_iadd hx hb dX4_addLine_66 ?_
        refine lv_iload hx hb dX4_addLine_67 (lv_at hl 4 rfl) ?_
        refine va_getsN hx hb (hSt.2.2.2.2.1.1.narrow (fun q h => Nat.le_trans hb1 h.1)) hS hown (va_Nw.use rfl (hSt.2.1 _ gb_n522)) (fun _ h9 => h9) dX4_addLine_69 ?_
        refine lv_iload_n hx hb dX4_addLine_72 rfl (lv_at hl 1 rfl) ?_
        obtain ⟨z_20, h⟩ := gb_ck_s h
        refine va_ti (v := .int (gb_tb1 (Int32.toNatClampNeg v1))) hx hb (hSt.2.2.2.2.1.2.narrow (fun q h => Nat.le_trans hb1 h.1)) hS z_20 rfl dX4_addLine_73 ?_
        refine lv_topi (fun x_21 ex_21 => ?_)
        replace h := gb_lt_s ex_21 h
        refine lv_icmp_ge (tgt := 84) hx hb dX4_addLine_74 (by decide) (fun c_22 => ?_) (fun c_22 => ?_)
        · rw [if_pos c_22] at h
          refine lv_iconst (v := (-1)) hx hb dX4_addLine_84 (by decide) ?_
          obtain ⟨z_23, h⟩ := gb_ck_s h
          refine va_iast (x := (-1)) hx hb hK hP (gb_D (fun k h => ⟨Nat.le_add_right b k, Nat.add_lt_add_left h b⟩)) hS (v0 + 1) 0 (gb_at b (gb_cD z_16).2) rfl z_23 dX4_addLine_85 (fun H locs hP hD hS => ?_)
          rw [gb_set] at hP
          obtain ⟨s_24, es_24⟩ : ∃ q, q = (gb_su σ (v0 + 1) (upd (σ.1 (v0 + 1)) (Int32.toNatClampNeg ((v3 + 1) + v4)) (-1))) := ⟨_, rfl⟩
          replace hP : va_P D vwCl (gb_wl b (gb_CW cT b s_24)) H := by rw [es_24, ← gb_wD z_16]; exact hP
          replace h := gb_lt_s es_24 h
          obtain ⟨x_25, ex_25⟩ : ∃ q, q = (v4 + 1) := ⟨_, rfl⟩
          replace h := gb_lt_s ex_25 h
          refine lv_iinc (v := x_25) (lv' := [(4, .int x_25), (0, .ref (b + v0)), (1, .int v1), (2, .ref (b + 107)), (3, .int v3)]) hx hb dX4_addLine_86 hl (k := 4) rfl (by rw [ex_25]; rfl) (by decide) rfl (fun ls hl => ?_)
          refine lv_goto (tgt := 48) hx hb dX4_addLine_89 (by decide) ?_
          exact ih _ _ _ _ _ _ _ _ h hP hS (lv_sub hl [1, 2, 3, 4, 0] rfl)
        · rw [if_neg c_22] at h
          refine lv_aload_n hx hb dX4_addLine_77 rfl (lv_at hl 2 rfl) ?_
          refine lv_iload hx hb dX4_addLine_78 (lv_at hl 4 rfl) ?_
          obtain ⟨z_26, h⟩ := gb_ck_s h
          refine va_iald hx hb hK hP 107 0 (gb_at b rfl) rfl z_26 dX4_addLine_80 ?_
          refine lv_topi (fun x_27 ex_27 => ?_)
          replace h := gb_lt_s ex_27 h
          refine lv_goto (tgt := 85) hx hb dX4_addLine_81 (by decide) ?_
          obtain ⟨z_28, h⟩ := gb_ck_s h
          refine va_iast (x := x_27) hx hb hK hP (gb_D (fun k h => ⟨Nat.le_add_right b k, Nat.add_lt_add_left h b⟩)) hS (v0 + 1) 0 (gb_at b (gb_cD z_16).2) rfl z_28 dX4_addLine_85 (fun H locs hP hD hS => ?_)
          rw [gb_set] at hP
          obtain ⟨s_29, es_29⟩ : ∃ q, q = (gb_su σ (v0 + 1) (upd (σ.1 (v0 + 1)) (Int32.toNatClampNeg ((v3 + 1) + v4)) x_27)) := ⟨_, rfl⟩
          replace hP : va_P D vwCl (gb_wl b (gb_CW cT b s_29)) H := by rw [es_29, ← gb_wD z_16]; exact hP
          replace h := gb_lt_s es_29 h
          obtain ⟨x_30, ex_30⟩ : ∃ q, q = (v4 + 1) := ⟨_, rfl⟩
          replace h := gb_lt_s ex_30 h
          refine lv_iinc (v := x_30) (lv' := [(4, .int x_30), (0, .ref (b + v0)), (1, .int v1), (2, .ref (b + 107)), (3, .int v3)]) hx hb dX4_addLine_86 hl (k := 4) rfl (by rw [ex_30]; rfl) (by decide) rfl (fun ls hl => ?_)
          refine lv_goto (tgt := 48) hx hb dX4_addLine_89 (by decide) ?_
          exact ih _ _ _ _ _ _ _ _ h hP hS (lv_sub hl [1, 2, 3, 4, 0] rfl)
  unfold cs_Lines_addLine_D_c107 at h
  obtain ⟨z_1, h⟩ := gb_kk_s h
  refine lv_aload_n hx hb dX4_addLine_0 rfl (lv_at hl 0 rfl) ?_
  refine lv_iload_n hx hb dX4_addLine_1 rfl (lv_at hl 1 rfl) ?_
  obtain ⟨s_2, r_3, z_4, h⟩ := gb_cd_s h
  refine gb_calli (va_runU (x := yX4_hasRoomFor) (C := RX1) (owner := "GooseBorder$Lines") (As := [.int p1]) (rest := []) ⟨hx, hb, hml, hown, hq⟩ (cc_Lines_hasRoomFor_D l D cT tt b1 b hb1 n σ k0 p1 s_2 r_3 z_4) (va_cwU (owner := "GooseBorder$Lines") (C := RX1) 1 hq (gb_gU w_521 w_1726 w_1727 w_481 w_6 w_482) rfl rfl rfl rfl (by decide +kernel) ⟨Nat.le_of_ble_eq_true rfl, Nat.le_of_ble_eq_true rfl⟩) (gb_preV (r := (RX1, TX1, 4)) (ci := 1) (q0 := k0) hSt hP rfl (gb_at b (gb_cD z_1).1) hS (fun q h => Nat.le_trans hb1 h.1) hP) rfl rfl hl.1 rfl (lv_room (Nat.le_of_ble_eq_true rfl)) dX4_addLine_2 ⟨Nat.le_of_ble_eq_true rfl, Nat.le_of_ble_eq_true rfl⟩) hS (fun _ h => h) (fun _ h => h) (fun q_5 H locs hY hk hS => ?_)
  obtain ⟨hq_5, hP⟩ := hY
  replace hq_5 := hq_5.symm
  subst hq_5
  refine lv_if_eq (tgt := 18) hx hb dX4_addLine_5 (by decide) (fun c_6 => ?_) (fun c_6 => ?_)
  · rw [if_pos c_6] at h
    obtain ⟨e1, -⟩ := gb_eq2 h
    exact W.vret hx hb hr (fun t ht hW => gb_rv ht (by rw [← e1]; exact hP) hS) hS.2.2 dX4_addLine_18
  · rw [if_neg c_6] at h
    refine lv_iload_n hx hb dX4_addLine_8 rfl (lv_at hl 1 rfl) ?_
    refine lv_if_lt (tgt := 18) hx hb dX4_addLine_9 (by decide) (fun c_7 => ?_) (fun c_7 => ?_)
    · rw [if_pos c_7] at h
      obtain ⟨e1, -⟩ := gb_eq2 h
      exact W.vret hx hb hr (fun t ht hW => gb_rv ht (by rw [← e1]; exact hP) hS) hS.2.2 dX4_addLine_18
    · rw [if_neg c_7] at h
      refine lv_iload_n hx hb dX4_addLine_12 rfl (lv_at hl 1 rfl) ?_
      refine lv_bipush (v := 18) hx hb dX4_addLine_13 (by decide) ?_
      refine lv_icmp_lt (tgt := 19) hx hb dX4_addLine_15 (by decide) (fun c_8 => ?_) (fun c_8 => ?_)
      · rw [if_pos c_8] at h
        refine lv_iconst (v := 1) hx hb dX4_addLine_19 (by decide) ?_
        refine lv_aload_n hx hb dX4_addLine_20 rfl (lv_at hl 0 rfl) ?_
        obtain ⟨s_9, r_10, z_11, h⟩ := gb_cd_s h
        refine gb_calli (va_runU (x := yX4_size) (C := RX1) (owner := "GooseBorder$Lines") (As := []) (rest := [.int 1]) ⟨hx, hb, hml, hown, hq⟩ (cc_Lines_size_D l D cT tt b1 b hb1 n s_2 k0 s_9 r_10 z_11) (va_cwU (owner := "GooseBorder$Lines") (C := RX1) 0 hq (gb_gU w_483 w_485 w_486 w_484 w_6 w_489) rfl rfl rfl rfl (by decide +kernel) ⟨Nat.le_of_ble_eq_true rfl, Nat.le_of_ble_eq_true rfl⟩) (gb_preV (r := (RX1, TX1, 4)) (ci := 1) (q0 := k0) hSt hP rfl (gb_at b (gb_cD z_1).1) hS (fun q h => Nat.le_trans hb1 h.1) hP) rfl rfl hl.1 rfl (lv_room (Nat.le_of_ble_eq_true rfl)) dX4_addLine_21 ⟨Nat.le_of_ble_eq_true rfl, Nat.le_of_ble_eq_true rfl⟩) hS (fun _ h => h) (fun _ h => h) (fun q_12 H locs hY hk hS => ?_)
        obtain ⟨hq_12, hP⟩ := hY
        replace hq_12 := hq_12.symm
        subst hq_12
        refine lv_aload_n hx hb dX4_addLine_24 rfl (lv_at hl 0 rfl) ?_
        refine va_get (ci := 1) (v := (.int 2)) (C := RX1) (T := TX1) (N := 4) hx hb hq i_X1 hown hK hP k0 (gb_at b (gb_cD z_1).1) rfl 1 (by decide) (hq _ w_73) (fun _ h9 => h9) rfl dX4_addLine_25 ?_
        refine lv_iconst (v := 1) hx hb dX4_addLine_28 (by decide) ?_
        refine lv_iadd hx hb dX4_addLine_29 ?_
        refine lv_imul hx hb dX4_addLine_30 ?_
        refine lv_iadd hx hb dX4_addLine_31 ?_
        refine lv_topi (fun x_13 ex_13 => ?_)
        replace h := gb_lt_s ex_13 h
        refine lv_istore_n (lv' := [(3, .int x_13), (0, .ref (b + k0)), (1, .int p1), (2, .ref (b + 107))]) hx hb dX4_addLine_32 rfl hl (by decide) rfl (fun ls hl => ?_)
        refine lv_aload_n hx hb dX4_addLine_33 rfl (lv_at hl 1 rfl) ?_
        refine va_get (ci := 1) (v := (.ref (b + (k0 + 1)))) (C := RX1) (T := TX1) (N := 4) hx hb hq i_X1 hown hK hP k0 (gb_at b (gb_cD z_1).1) rfl 3 (by decide) (hq _ w_52) (fun x9 h9 => u_same (hq _ w_53) x9 h9) rfl dX4_addLine_34 ?_
        refine lv_iload_n hx hb dX4_addLine_37 rfl (lv_at hl 0 rfl) ?_
        refine lv_iload_n hx hb dX4_addLine_38 rfl (lv_at hl 2 rfl) ?_
        refine lv_aload_n hx hb dX4_addLine_39 rfl (lv_at hl 1 rfl) ?_
        refine va_get (ci := 1) (v := (.int 17)) (C := RX1) (T := TX1) (N := 4) hx hb hq i_X1 hown hK hP k0 (gb_at b (gb_cD z_1).1) rfl 2 (by decide) (hq _ w_77) (fun _ h9 => h9) rfl dX4_addLine_40 ?_
        refine lv_isub hx hb dX4_addLine_43 ?_
        obtain ⟨z_14, h⟩ := gb_ck_s h
        refine va_iast (x := (p1 - 17)) hx hb hK hP (gb_D (fun k h => ⟨Nat.le_add_right b k, Nat.add_lt_add_left h b⟩)) hS (k0 + 1) 0 (gb_at b (gb_cD z_1).2) rfl z_14 dX4_addLine_44 (fun H locs hP hD hS => ?_)
        rw [gb_set] at hP
        obtain ⟨s_15, es_15⟩ : ∃ q, q = (gb_su s_9 (k0 + 1) (upd (s_9.1 (k0 + 1)) (Int32.toNatClampNeg x_13) (p1 - 17))) := ⟨_, rfl⟩
        replace hP : va_P D vwCl (gb_wl b (gb_CW cT b s_15)) H := by rw [es_15, ← gb_wD z_1]; exact hP
        replace h := gb_lt_s es_15 h
        refine lv_iconst (v := 0) hx hb dX4_addLine_45 (by decide) ?_
        refine lv_istore (lv' := [(4, .int 0), (3, .int x_13), (0, .ref (b + k0)), (1, .int p1), (2, .ref (b + 107))]) hx hb dX4_addLine_46 hl (by decide) rfl (fun ls hl => ?_)
        exact L48_1 n _ _ _ _ _ _ _ _ h hP hS (lv_sub hl [2, 3, 4, 1, 0] rfl)
      · rw [if_neg c_8] at h
        obtain ⟨e1, -⟩ := gb_eq2 h
        exact W.vret hx hb hr (fun t ht hW => gb_rv ht (by rw [← e1]; exact hP) hS) hS.2.2 dX4_addLine_18
theorem w_518 : (Cond.selects "GooseBorder$Dawn" ({ cls := "GooseBorder$Sheet", name := "addLine", desc := "(I[I)V" } : MethodName) ({ cls := "GooseBorder$Lines", name := "addLine", desc := "(I[I)V" } : MethodName)) ∈ gb_wA := gb_t3 38 rfl rfl
theorem dX7_readLine_49 : decode cX7_readLine 49 = .ok (.aload_n 0, 1) := dc_42 (show ((cX7_readLine.data.toList.drop 49).take 1).map UInt8.toNat = [42] by decide +kernel)
theorem dX7_readLine_50 : decode cX7_readLine 50 = .ok (.invokevirtual 43, 3) := dc_182 (show ((cX7_readLine.data.toList.drop 50).take 3).map UInt8.toNat = [182, 0, 43] by decide +kernel) rfl
theorem dX7_readLine_53 : decode cX7_readLine 53 = .ok (.aload_n 0, 1) := dc_42 (show ((cX7_readLine.data.toList.drop 53).take 1).map UInt8.toNat = [42] by decide +kernel)
theorem dX7_readLine_54 : decode cX7_readLine 54 = .ok (.iload 4, 2) := dc_21 (show ((cX7_readLine.data.toList.drop 54).take 2).map UInt8.toNat = [21, 4] by decide +kernel) rfl
theorem dX7_readLine_56 : decode cX7_readLine 56 = .ok (.iload 5, 2) := dc_21 (show ((cX7_readLine.data.toList.drop 56).take 2).map UInt8.toNat = [21, 5] by decide +kernel) rfl
theorem dX7_readLine_58 : decode cX7_readLine 58 = .ok (.invokevirtual 69, 3) := dc_182 (show ((cX7_readLine.data.toList.drop 58).take 3).map UInt8.toNat = [182, 0, 69] by decide +kernel) rfl
theorem dX7_takeNumber_0 : decode cX7_takeNumber 0 = .ok (.aload_n 0, 1) := dc_42 (show ((cX7_takeNumber.data.toList.drop 0).take 1).map UInt8.toNat = [42] by decide +kernel)
theorem dX7_takeNumber_1 : decode cX7_takeNumber 1 = .ok (.getfield 29, 3) := dc_180 (show ((cX7_takeNumber.data.toList.drop 1).take 3).map UInt8.toNat = [180, 0, 29] by decide +kernel) rfl
theorem dX7_takeNumber_4 : decode cX7_takeNumber 4 = .ok (.istore_n 3, 1) := dc_62 (show ((cX7_takeNumber.data.toList.drop 4).take 1).map UInt8.toNat = [62] by decide +kernel)
theorem dX7_takeNumber_5 : decode cX7_takeNumber 5 = .ok (.iconst 0, 1) := dc_3 (show ((cX7_takeNumber.data.toList.drop 5).take 1).map UInt8.toNat = [3] by decide +kernel)
theorem dX7_takeNumber_6 : decode cX7_takeNumber 6 = .ok (.istore 4, 2) := dc_54 (show ((cX7_takeNumber.data.toList.drop 6).take 2).map UInt8.toNat = [54, 4] by decide +kernel) rfl
theorem dX7_takeNumber_8 : decode cX7_takeNumber 8 = .ok (.iload_n 3, 1) := dc_29 (show ((cX7_takeNumber.data.toList.drop 8).take 1).map UInt8.toNat = [29] by decide +kernel)
theorem dX7_takeNumber_9 : decode cX7_takeNumber 9 = .ok (.aload_n 0, 1) := dc_42 (show ((cX7_takeNumber.data.toList.drop 9).take 1).map UInt8.toNat = [42] by decide +kernel)
theorem dX7_takeNumber_10 : decode cX7_takeNumber 10 = .ok (.getfield 25, 3) := dc_180 (show ((cX7_takeNumber.data.toList.drop 10).take 3).map UInt8.toNat = [180, 0, 25] by decide +kernel) rfl
theorem dX7_takeNumber_13 : decode cX7_takeNumber 13 = .ok (.if_icmp .ge 48, 3) := dc_162 (show ((cX7_takeNumber.data.toList.drop 13).take 3).map UInt8.toNat = [162, 0, 48] by decide +kernel) rfl
theorem dX7_takeNumber_61 : decode cX7_takeNumber 61 = .ok (.iload_n 3, 1) := dc_29 (show ((cX7_takeNumber.data.toList.drop 61).take 1).map UInt8.toNat = [29] by decide +kernel)
theorem dX7_takeNumber_62 : decode cX7_takeNumber 62 = .ok (.aload_n 0, 1) := dc_42 (show ((cX7_takeNumber.data.toList.drop 62).take 1).map UInt8.toNat = [42] by decide +kernel)
theorem dX7_takeNumber_63 : decode cX7_takeNumber 63 = .ok (.getfield 29, 3) := dc_180 (show ((cX7_takeNumber.data.toList.drop 63).take 3).map UInt8.toNat = [180, 0, 29] by decide +kernel) rfl
theorem dX7_takeNumber_66 : decode cX7_takeNumber 66 = .ok (.if_icmp .eq 13, 3) := dc_159 (show ((cX7_takeNumber.data.toList.drop 66).take 3).map UInt8.toNat = [159, 0, 13] by decide +kernel) rfl
theorem dX7_takeNumber_79 : decode cX7_takeNumber 79 = .ok (.iconst 0, 1) := dc_3 (show ((cX7_takeNumber.data.toList.drop 79).take 1).map UInt8.toNat = [3] by decide +kernel)
theorem dX7_takeNumber_80 : decode cX7_takeNumber 80 = .ok (.ireturn, 1) := dc_172 (show ((cX7_takeNumber.data.toList.drop 80).take 1).map UInt8.toNat = [172] by decide +kernel)
theorem dX7_takeNumber_69 : decode cX7_takeNumber 69 = .ok (.iload_n 3, 1) := dc_29 (show ((cX7_takeNumber.data.toList.drop 69).take 1).map UInt8.toNat = [29] by decide +kernel)
theorem dX7_takeNumber_70 : decode cX7_takeNumber 70 = .ok (.aload_n 0, 1) := dc_42 (show ((cX7_takeNumber.data.toList.drop 70).take 1).map UInt8.toNat = [42] by decide +kernel)
theorem dX7_takeNumber_71 : decode cX7_takeNumber 71 = .ok (.getfield 29, 3) := dc_180 (show ((cX7_takeNumber.data.toList.drop 71).take 3).map UInt8.toNat = [180, 0, 29] by decide +kernel) rfl
theorem dX7_takeNumber_74 : decode cX7_takeNumber 74 = .ok (.isub, 1) := dc_100 (show ((cX7_takeNumber.data.toList.drop 74).take 1).map UInt8.toNat = [100] by decide +kernel)
theorem dX7_takeNumber_75 : decode cX7_takeNumber 75 = .ok (.iconst 3, 1) := dc_6 (show ((cX7_takeNumber.data.toList.drop 75).take 1).map UInt8.toNat = [6] by decide +kernel)
theorem dX7_takeNumber_76 : decode cX7_takeNumber 76 = .ok (.if_icmp .le 5, 3) := dc_164 (show ((cX7_takeNumber.data.toList.drop 76).take 3).map UInt8.toNat = [164, 0, 5] by decide +kernel) rfl
theorem dX7_takeNumber_81 : decode cX7_takeNumber 81 = .ok (.aload_n 0, 1) := dc_42 (show ((cX7_takeNumber.data.toList.drop 81).take 1).map UInt8.toNat = [42] by decide +kernel)
theorem dX7_takeNumber_82 : decode cX7_takeNumber 82 = .ok (.getfield 9, 3) := dc_180 (show ((cX7_takeNumber.data.toList.drop 82).take 3).map UInt8.toNat = [180, 0, 9] by decide +kernel) rfl
theorem dX7_takeNumber_85 : decode cX7_takeNumber 85 = .ok (.iload_n 2, 1) := dc_28 (show ((cX7_takeNumber.data.toList.drop 85).take 1).map UInt8.toNat = [28] by decide +kernel)
theorem dX7_takeNumber_86 : decode cX7_takeNumber 86 = .ok (.iload 4, 2) := dc_21 (show ((cX7_takeNumber.data.toList.drop 86).take 2).map UInt8.toNat = [21, 4] by decide +kernel) rfl
theorem dX7_takeNumber_88 : decode cX7_takeNumber 88 = .ok (.iastore, 1) := dc_79 (show ((cX7_takeNumber.data.toList.drop 88).take 1).map UInt8.toNat = [79] by decide +kernel)
theorem dX7_takeNumber_89 : decode cX7_takeNumber 89 = .ok (.aload_n 0, 1) := dc_42 (show ((cX7_takeNumber.data.toList.drop 89).take 1).map UInt8.toNat = [42] by decide +kernel)
theorem dX7_takeNumber_90 : decode cX7_takeNumber 90 = .ok (.iload_n 1, 1) := dc_27 (show ((cX7_takeNumber.data.toList.drop 90).take 1).map UInt8.toNat = [27] by decide +kernel)
theorem dX7_takeNumber_91 : decode cX7_takeNumber 91 = .ok (.iload_n 2, 1) := dc_28 (show ((cX7_takeNumber.data.toList.drop 91).take 1).map UInt8.toNat = [28] by decide +kernel)
theorem dX7_takeNumber_92 : decode cX7_takeNumber 92 = .ok (.iload 4, 2) := dc_21 (show ((cX7_takeNumber.data.toList.drop 92).take 2).map UInt8.toNat = [21, 4] by decide +kernel) rfl
theorem dX7_takeNumber_94 : decode cX7_takeNumber 94 = .ok (.invokevirtual 97, 3) := dc_182 (show ((cX7_takeNumber.data.toList.drop 94).take 3).map UInt8.toNat = [182, 0, 97] by decide +kernel) rfl
theorem dX7_canBe_0 : decode cX7_canBe 0 = .ok (.iload_n 1, 1) := dc_27 (show ((cX7_canBe.data.toList.drop 0).take 1).map UInt8.toNat = [27] by decide +kernel)
theorem dX7_canBe_1 : decode cX7_canBe 1 = .ok (.bipush 6, 2) := dc_16 (show ((cX7_canBe.data.toList.drop 1).take 2).map UInt8.toNat = [16, 6] by decide +kernel) rfl
theorem dX7_canBe_3 : decode cX7_canBe 3 = .ok (.if_icmp .ne 20, 3) := dc_160 (show ((cX7_canBe.data.toList.drop 3).take 3).map UInt8.toNat = [160, 0, 20] by decide +kernel) rfl
theorem dX7_canBe_23 : decode cX7_canBe 23 = .ok (.iload_n 1, 1) := dc_27 (show ((cX7_canBe.data.toList.drop 23).take 1).map UInt8.toNat = [27] by decide +kernel)
theorem dX7_canBe_24 : decode cX7_canBe 24 = .ok (.ifCond .ne 11, 3) := dc_154 (show ((cX7_canBe.data.toList.drop 24).take 3).map UInt8.toNat = [154, 0, 11] by decide +kernel) rfl
theorem dX7_canBe_35 : decode cX7_canBe 35 = .ok (.iconst 0, 1) := dc_3 (show ((cX7_canBe.data.toList.drop 35).take 1).map UInt8.toNat = [3] by decide +kernel)
theorem dX7_canBe_36 : decode cX7_canBe 36 = .ok (.istore 4, 2) := dc_54 (show ((cX7_canBe.data.toList.drop 36).take 2).map UInt8.toNat = [54, 4] by decide +kernel) rfl
theorem dX7_canBe_38 : decode cX7_canBe 38 = .ok (.iload_n 3, 1) := dc_29 (show ((cX7_canBe.data.toList.drop 38).take 1).map UInt8.toNat = [29] by decide +kernel)
theorem dX7_canBe_39 : decode cX7_canBe 39 = .ok (.iload 4, 2) := dc_21 (show ((cX7_canBe.data.toList.drop 39).take 2).map UInt8.toNat = [21, 4] by decide +kernel) rfl
theorem dX7_canBe_41 : decode cX7_canBe 41 = .ok (.if_icmp .lt 20, 3) := dc_161 (show ((cX7_canBe.data.toList.drop 41).take 3).map UInt8.toNat = [161, 0, 20] by decide +kernel) rfl
theorem dX7_canBe_61 : decode cX7_canBe 61 = .ok (.iconst 0, 1) := dc_3 (show ((cX7_canBe.data.toList.drop 61).take 1).map UInt8.toNat = [3] by decide +kernel)
theorem dX7_canBe_62 : decode cX7_canBe 62 = .ok (.ireturn, 1) := dc_172 (show ((cX7_canBe.data.toList.drop 62).take 1).map UInt8.toNat = [172] by decide +kernel)
theorem dX7_canBe_44 : decode cX7_canBe 44 = .ok (.iload_n 3, 1) := dc_29 (show ((cX7_canBe.data.toList.drop 44).take 1).map UInt8.toNat = [29] by decide +kernel)
theorem dX7_canBe_45 : decode cX7_canBe 45 = .ok (.getstatic 101, 3) := dc_178 (show ((cX7_canBe.data.toList.drop 45).take 3).map UInt8.toNat = [178, 0, 101] by decide +kernel) rfl
theorem dX7_canBe_48 : decode cX7_canBe 48 = .ok (.iload_n 1, 1) := dc_27 (show ((cX7_canBe.data.toList.drop 48).take 1).map UInt8.toNat = [27] by decide +kernel)
theorem dX7_canBe_49 : decode cX7_canBe 49 = .ok (.iconst 5, 1) := dc_8 (show ((cX7_canBe.data.toList.drop 49).take 1).map UInt8.toNat = [8] by decide +kernel)
theorem dX7_canBe_50 : decode cX7_canBe 50 = .ok (.imul, 1) := dc_104 (show ((cX7_canBe.data.toList.drop 50).take 1).map UInt8.toNat = [104] by decide +kernel)
theorem dX7_canBe_51 : decode cX7_canBe 51 = .ok (.iload_n 2, 1) := dc_28 (show ((cX7_canBe.data.toList.drop 51).take 1).map UInt8.toNat = [28] by decide +kernel)
theorem dX7_canBe_52 : decode cX7_canBe 52 = .ok (.iadd, 1) := dc_96 (show ((cX7_canBe.data.toList.drop 52).take 1).map UInt8.toNat = [96] by decide +kernel)
theorem dX7_canBe_53 : decode cX7_canBe 53 = .ok (.iaload, 1) := dc_46 (show ((cX7_canBe.data.toList.drop 53).take 1).map UInt8.toNat = [46] by decide +kernel)
theorem dX7_canBe_54 : decode cX7_canBe 54 = .ok (.if_icmp .gt 7, 3) := dc_163 (show ((cX7_canBe.data.toList.drop 54).take 3).map UInt8.toNat = [163, 0, 7] by decide +kernel) rfl
theorem dX7_canBe_57 : decode cX7_canBe 57 = .ok (.iconst 1, 1) := dc_4 (show ((cX7_canBe.data.toList.drop 57).take 1).map UInt8.toNat = [4] by decide +kernel)
theorem dX7_canBe_58 : decode cX7_canBe 58 = .ok (.goto 4, 3) := dc_167 (show ((cX7_canBe.data.toList.drop 58).take 3).map UInt8.toNat = [167, 0, 4] by decide +kernel) rfl
theorem dX7_canBe_27 : decode cX7_canBe 27 = .ok (.iload_n 2, 1) := dc_28 (show ((cX7_canBe.data.toList.drop 27).take 1).map UInt8.toNat = [28] by decide +kernel)
theorem dX7_canBe_28 : decode cX7_canBe 28 = .ok (.ifCond .ne 7, 3) := dc_154 (show ((cX7_canBe.data.toList.drop 28).take 3).map UInt8.toNat = [154, 0, 7] by decide +kernel) rfl
theorem dX7_canBe_31 : decode cX7_canBe 31 = .ok (.iconst 1, 1) := dc_4 (show ((cX7_canBe.data.toList.drop 31).take 1).map UInt8.toNat = [4] by decide +kernel)
theorem dX7_canBe_32 : decode cX7_canBe 32 = .ok (.goto 4, 3) := dc_167 (show ((cX7_canBe.data.toList.drop 32).take 3).map UInt8.toNat = [167, 0, 4] by decide +kernel) rfl
theorem dX7_canBe_6 : decode cX7_canBe 6 = .ok (.iload_n 2, 1) := dc_28 (show ((cX7_canBe.data.toList.drop 6).take 1).map UInt8.toNat = [28] by decide +kernel)
theorem dX7_canBe_7 : decode cX7_canBe 7 = .ok (.iconst 1, 1) := dc_4 (show ((cX7_canBe.data.toList.drop 7).take 1).map UInt8.toNat = [4] by decide +kernel)
theorem dX7_canBe_8 : decode cX7_canBe 8 = .ok (.if_icmp .ne 15, 3) := dc_160 (show ((cX7_canBe.data.toList.drop 8).take 3).map UInt8.toNat = [160, 0, 15] by decide +kernel) rfl
theorem dX7_canBe_11 : decode cX7_canBe 11 = .ok (.iload_n 3, 1) := dc_29 (show ((cX7_canBe.data.toList.drop 11).take 1).map UInt8.toNat = [29] by decide +kernel)
theorem dX7_canBe_12 : decode cX7_canBe 12 = .ok (.aload_n 0, 1) := dc_42 (show ((cX7_canBe.data.toList.drop 12).take 1).map UInt8.toNat = [42] by decide +kernel)
theorem dX7_canBe_13 : decode cX7_canBe 13 = .ok (.getfield 9, 3) := dc_180 (show ((cX7_canBe.data.toList.drop 13).take 3).map UInt8.toNat = [180, 0, 9] by decide +kernel) rfl
theorem dX7_canBe_16 : decode cX7_canBe 16 = .ok (.iconst 0, 1) := dc_3 (show ((cX7_canBe.data.toList.drop 16).take 1).map UInt8.toNat = [3] by decide +kernel)
theorem dX7_canBe_17 : decode cX7_canBe 17 = .ok (.iaload, 1) := dc_46 (show ((cX7_canBe.data.toList.drop 17).take 1).map UInt8.toNat = [46] by decide +kernel)
theorem dX7_canBe_18 : decode cX7_canBe 18 = .ok (.if_icmp .ne 5, 3) := dc_160 (show ((cX7_canBe.data.toList.drop 18).take 3).map UInt8.toNat = [160, 0, 5] by decide +kernel) rfl
theorem dX7_canBe_21 : decode cX7_canBe 21 = .ok (.iconst 0, 1) := dc_3 (show ((cX7_canBe.data.toList.drop 21).take 1).map UInt8.toNat = [3] by decide +kernel)
theorem dX7_canBe_22 : decode cX7_canBe 22 = .ok (.ireturn, 1) := dc_172 (show ((cX7_canBe.data.toList.drop 22).take 1).map UInt8.toNat = [172] by decide +kernel)
def cs_Reader_canBe_36 (n : Nat) (σ : gb_S) (v1 : Int32) (v2 : Int32) (v3 : Int32) (t0 : Int32) : gb_CR Int32 := (if v3 < t0 then some (σ, 0) else gb_ck ((v1 * 5) + v2) 90 (gb_lt (gb_tb2 (Int32.toNatClampNeg ((v1 * 5) + v2))) (fun x_5 => (if x_5 < v3 then some (σ, 0) else some (σ, 1)))))
def cs_Reader_canBe_35 (n : Nat) (σ : gb_S) (v1 : Int32) (v2 : Int32) (v3 : Int32) : gb_CR Int32 := cs_Reader_canBe_36 n σ v1 v2 v3 0
def cs_Reader_canBe_23 (n : Nat) (σ : gb_S) (v1 : Int32) (v2 : Int32) (v3 : Int32) : gb_CR Int32 := (if v1 = 0 then (if v2 = 0 then cs_Reader_canBe_36 n σ v1 v2 v3 1 else cs_Reader_canBe_35 n σ v1 v2 v3) else cs_Reader_canBe_35 n σ v1 v2 v3)
def cs_Reader_canBe (n : Nat) (σ : gb_S) (p1 : Int32) (p2 : Int32) (p3 : Int32) : gb_CR Int32 := (if p1 = 6 then (if p2 = 1 then gb_lt ((σ.1 107) (Int32.toNatClampNeg 0)) (fun x_9 => (if p3 = x_9 then some (σ, 0) else cs_Reader_canBe_23 n σ p1 p2 p3)) else cs_Reader_canBe_23 n σ p1 p2 p3) else cs_Reader_canBe_23 n σ p1 p2 p3)
set_option maxHeartbeats 8000000 in
set_option maxRecDepth 100000 in
theorem cc_Reader_canBe (l : Launch) (D : va_G) (cT : Nat → ClassId) (tt : Nat → Nat) (b1 b : Nat) (hb1 : b1 ≤ b) (n : Nat) (σ : gb_S) (p1 : Int32) (p2 : Int32) (p3 : Int32) (σE : gb_S) (rE : Int32) (h : cs_Reader_canBe n σ p1 p2 p3 = some (σE, rE)) : Met l yX7_canBe (.code yX7_canBe cX7_canBe 5 (some FieldType.boolean) :: gb_wA) ({ frames := 0, cells := 0, slots := 0, locals := 0 }) (gb_Pc D cT tt b1 [.ref (b + 106), .int p1, .int p2, .int p3] (fun h => va_P D vwCl (gb_wl b (gb_CW cT b σ)) h)) (gb_Qi (fun r h => r = rE ∧ va_P D vwCl (gb_wl b (gb_CW cT b σE)) h) (gb_fr b 135)) 0 0 (gb_fr b 135) := by
  refine Met.ofW (cc := cX7_canBe) (maxL := 5) (ret := (some FieldType.boolean)) (by decide) rfl ?_
  intro p e s m args below meth c s₁ B hml hv
  obtain ⟨rfl, hSt, hP⟩ := hv
  have hx := B.exec
  have hb := B.bytes
  have hr := B.returns
  have hts := atoms_spec (ws := .code yX7_canBe cX7_canBe 5 (some FieldType.boolean) :: gb_wA) B.pre
  have hq : ∀ w ∈ gb_wA, w.before _ s = true := fun w h => hts w (List.mem_cons_of_mem _ h)
  have hown : s.vm.findClass RX7 = some m.cls := findClass_of_methodNamed B.named
  have hlocks := B.notSynchronized
  clear B hts
  have hK := hSt.1
  have hS : va_S (gb_fr b 135) s.heap s.heap [] := va_S.rf
  have hl := lv_entry ([.ref (b + 106), .int p1, .int p2, .int p3]) (n := 5) (Nat.le_of_ble_eq_true rfl)
  rw [lg_entry_eq]
  generalize (lg_sl ([.ref (b + 106), .int p1, .int p2, .int p3]) ++ List.replicate (5 - (lg_sl ([.ref (b + 106), .int p1, .int p2, .int p3])).length) Slot.unset).toArray = ls at hl ⊢
  replace hl : lv_has ls 5 [(0, .ref (b + 106)), (1, .int p1), (2, .int p2), (3, .int p3)] := hl
  have L36_3 : ∀ (σ : gb_S) (v1 : Int32) (v2 : Int32) (v3 : Int32) (t0 : Int32) (H : Heap) (locs : List Loc) (ls : Array Slot), cs_Reader_canBe_36 n σ v1 v2 v3 t0 = some (σE, rE) → va_P D vwCl (gb_wl b (gb_CW cT b σ)) H → va_S (gb_fr b 135) s.heap H locs → lv_has ls 5 [(1, .int v1), (2, .int v2), (3, .int v3)] → W p l e (headSpec (.code yX7_canBe cX7_canBe 5 (some FieldType.boolean) :: gb_wA) ({ frames := 0, cells := 0, slots := 0, locals := 0 })).room s m ([.ref (b + 106), .int p1, .int p2, .int p3]).toArray below meth c H locs 0 0 (MQ below (gb_Qi (fun r h => r = rE ∧ va_P D vwCl (gb_wl b (gb_CW cT b σE)) h) (gb_fr b 135)) ([.ref (b + 106), .int p1, .int p2, .int p3]).toArray s 0 0 (gb_fr b 135)) (F0 m 36 ls [.int t0]) := by
    clear h hP hS hl ls
    intro σ v1 v2 v3 t0 H locs ls h hP hS hl
    unfold cs_Reader_canBe_36 at h
    refine lv_istore (lv' := [(4, .int t0), (1, .int v1), (2, .int v2), (3, .int v3)]) hx hb dX7_canBe_36 hl (by decide) rfl (fun ls hl => ?_)
    refine lv_iload_n hx hb dX7_canBe_38 rfl (lv_at hl 3 rfl) ?_
    refine lv_iload hx hb dX7_canBe_39 (lv_at hl 0 rfl) ?_
    refine lv_icmp_lt (tgt := 61) hx hb dX7_canBe_41 (by decide) (fun c_3 => ?_) (fun c_3 => ?_)
    · rw [if_pos c_3] at h
      refine lv_iconst (v := 0) hx hb dX7_canBe_61 (by decide) ?_
      obtain ⟨e1, e2⟩ := gb_eq2 h
      exact W.zret (v := 0) hx hb hr (by decide) (fun t ht hW => gb_ri ht ⟨e2, by rw [← e1]; exact hP⟩ hS) hS.2.2 dX7_canBe_62
    · rw [if_neg c_3] at h
      refine lv_iload_n hx hb dX7_canBe_44 rfl (lv_at hl 3 rfl) ?_
      refine va_getsN hx hb (hSt.2.2.2.2.2.1.narrow (fun q h => Nat.le_trans hb1 h.1)) hS hown (va_Nw.use rfl (hSt.2.1 _ gb_n506)) (fun _ h9 => h9) dX7_canBe_45 ?_
      refine lv_iload_n hx hb dX7_canBe_48 rfl (lv_at hl 1 rfl) ?_
      refine lv_iconst (v := 5) hx hb dX7_canBe_49 (by decide) ?_
      refine lv_imul hx hb dX7_canBe_50 ?_
      refine lv_iload_n hx hb dX7_canBe_51 rfl (lv_at hl 2 rfl) ?_
      refine lv_iadd hx hb dX7_canBe_52 ?_
      obtain ⟨z_4, h⟩ := gb_ck_s h
      refine va_ti (v := .int (gb_tb2 (Int32.toNatClampNeg ((v1 * 5) + v2)))) hx hb (hSt.2.2.2.2.2.2.narrow (fun q h => Nat.le_trans hb1 h.1)) hS z_4 rfl dX7_canBe_53 ?_
      refine lv_topi (fun x_5 ex_5 => ?_)
      replace h := gb_lt_s ex_5 h
      refine lv_icmp_gt (tgt := 61) hx hb dX7_canBe_54 (by decide) (fun c_6 => ?_) (fun c_6 => ?_)
      · rw [if_pos c_6] at h
        refine lv_iconst (v := 0) hx hb dX7_canBe_61 (by decide) ?_
        obtain ⟨e1, e2⟩ := gb_eq2 h
        exact W.zret (v := 0) hx hb hr (by decide) (fun t ht hW => gb_ri ht ⟨e2, by rw [← e1]; exact hP⟩ hS) hS.2.2 dX7_canBe_62
      · rw [if_neg c_6] at h
        refine lv_iconst (v := 1) hx hb dX7_canBe_57 (by decide) ?_
        refine lv_goto (tgt := 62) hx hb dX7_canBe_58 (by decide) ?_
        obtain ⟨e1, e2⟩ := gb_eq2 h
        exact W.zret (v := 1) hx hb hr (by decide) (fun t ht hW => gb_ri ht ⟨e2, by rw [← e1]; exact hP⟩ hS) hS.2.2 dX7_canBe_62
  have L35_2 : ∀ (σ : gb_S) (v1 : Int32) (v2 : Int32) (v3 : Int32) (H : Heap) (locs : List Loc) (ls : Array Slot), cs_Reader_canBe_35 n σ v1 v2 v3 = some (σE, rE) → va_P D vwCl (gb_wl b (gb_CW cT b σ)) H → va_S (gb_fr b 135) s.heap H locs → lv_has ls 5 [(1, .int v1), (2, .int v2), (3, .int v3)] → W p l e (headSpec (.code yX7_canBe cX7_canBe 5 (some FieldType.boolean) :: gb_wA) ({ frames := 0, cells := 0, slots := 0, locals := 0 })).room s m ([.ref (b + 106), .int p1, .int p2, .int p3]).toArray below meth c H locs 0 0 (MQ below (gb_Qi (fun r h => r = rE ∧ va_P D vwCl (gb_wl b (gb_CW cT b σE)) h) (gb_fr b 135)) ([.ref (b + 106), .int p1, .int p2, .int p3]).toArray s 0 0 (gb_fr b 135)) (F0 m 35 ls []) := by
    clear h hP hS hl ls
    intro σ v1 v2 v3 H locs ls h hP hS hl
    unfold cs_Reader_canBe_35 at h
    refine lv_iconst (v := 0) hx hb dX7_canBe_35 (by decide) ?_
    exact L36_3 _ _ _ _ _ _ _ _ h hP hS (lv_sub hl [0, 1, 2] rfl)
  have L23_1 : ∀ (σ : gb_S) (v1 : Int32) (v2 : Int32) (v3 : Int32) (H : Heap) (locs : List Loc) (ls : Array Slot), cs_Reader_canBe_23 n σ v1 v2 v3 = some (σE, rE) → va_P D vwCl (gb_wl b (gb_CW cT b σ)) H → va_S (gb_fr b 135) s.heap H locs → lv_has ls 5 [(1, .int v1), (2, .int v2), (3, .int v3)] → W p l e (headSpec (.code yX7_canBe cX7_canBe 5 (some FieldType.boolean) :: gb_wA) ({ frames := 0, cells := 0, slots := 0, locals := 0 })).room s m ([.ref (b + 106), .int p1, .int p2, .int p3]).toArray below meth c H locs 0 0 (MQ below (gb_Qi (fun r h => r = rE ∧ va_P D vwCl (gb_wl b (gb_CW cT b σE)) h) (gb_fr b 135)) ([.ref (b + 106), .int p1, .int p2, .int p3]).toArray s 0 0 (gb_fr b 135)) (F0 m 23 ls []) := by
    clear h hP hS hl ls
    intro σ v1 v2 v3 H locs ls h hP hS hl
    unfold cs_Reader_canBe_23 at h
    refine lv_iload_n hx hb dX7_canBe_23 rfl (lv_at hl 0 rfl) ?_
    refine lv_if_ne (tgt := 35) hx hb dX7_canBe_24 (by decide) (fun c_2 => ?_) (fun c_2 => ?_)
    · rw [if_neg c_2] at h
      exact L35_2 _ _ _ _ _ _ _ h hP hS (lv_sub hl [0, 1, 2] rfl)
    · rw [if_pos c_2] at h
      refine lv_iload_n hx hb dX7_canBe_27 rfl (lv_at hl 1 rfl) ?_
      refine lv_if_ne (tgt := 35) hx hb dX7_canBe_28 (by decide) (fun c_7 => ?_) (fun c_7 => ?_)
      · rw [if_neg c_7] at h
        exact L35_2 _ _ _ _ _ _ _ h hP hS (lv_sub hl [0, 1, 2] rfl)
      · rw [if_pos c_7] at h
        refine lv_iconst (v := 1) hx hb dX7_canBe_31 (by decide) ?_
        refine lv_goto (tgt := 36) hx hb dX7_canBe_32 (by decide) ?_
        exact L36_3 _ _ _ _ _ _ _ _ h hP hS (lv_sub hl [0, 1, 2] rfl)
  unfold cs_Reader_canBe at h
  refine lv_iload_n hx hb dX7_canBe_0 rfl (lv_at hl 1 rfl) ?_
  refine lv_bipush (v := 6) hx hb dX7_canBe_1 (by decide) ?_
  refine lv_icmp_ne (tgt := 23) hx hb dX7_canBe_3 (by decide) (fun c_1 => ?_) (fun c_1 => ?_)
  · rw [if_neg c_1] at h
    exact L23_1 _ _ _ _ _ _ _ h hP hS (lv_sub hl [1, 2, 3] rfl)
  · rw [if_pos c_1] at h
    refine lv_iload_n hx hb dX7_canBe_6 rfl (lv_at hl 2 rfl) ?_
    refine lv_iconst (v := 1) hx hb dX7_canBe_7 (by decide) ?_
    refine lv_icmp_ne (tgt := 23) hx hb dX7_canBe_8 (by decide) (fun c_8 => ?_) (fun c_8 => ?_)
    · rw [if_neg c_8] at h
      exact L23_1 _ _ _ _ _ _ _ h hP hS (lv_sub hl [1, 2, 3] rfl)
    · rw [if_pos c_8] at h
      refine lv_iload_n hx hb dX7_canBe_11 rfl (lv_at hl 3 rfl) ?_
      refine lv_aload_n hx hb dX7_canBe_12 rfl (lv_at hl 0 rfl) ?_
      refine va_get (ci := 6) (v := (.ref (b + 107))) (C := RX7) (T := TX7) (N := 6) hx hb hq i_X7 hown hK hP 106 (gb_at b rfl) rfl 0 (by decide) (hq _ w_167) (fun _ h9 => h9) rfl dX7_canBe_13 ?_
      refine lv_iconst (v := 0) hx hb dX7_canBe_16 (by decide) ?_
      refine va_iald hx hb hK hP 107 0 (gb_at b rfl) rfl (gb_in rfl) dX7_canBe_17 ?_
      refine lv_topi (fun x_9 ex_9 => ?_)
      replace h := gb_lt_s ex_9 h
      refine lv_icmp_ne (tgt := 23) hx hb dX7_canBe_18 (by decide) (fun c_10 => ?_) (fun c_10 => ?_)
      · rw [if_neg c_10] at h
        exact L23_1 _ _ _ _ _ _ _ h hP hS (lv_sub hl [1, 2, 3] rfl)
      · rw [if_pos c_10] at h
        refine lv_iconst (v := 0) hx hb dX7_canBe_21 (by decide) ?_
        obtain ⟨e1, e2⟩ := gb_eq2 h
        exact W.zret (v := 0) hx hb hr (by decide) (fun t ht hW => gb_ri ht ⟨e2, by rw [← e1]; exact hP⟩ hS) hS.2.2 dX7_canBe_22
theorem w_505 : (Cond.code ({ cls := "GooseBorder$Reader", name := "canBe", desc := "(III)Z" } : MethodName) prog_9_method_7_code (5 : Nat) (Option.some FieldType.boolean)) ∈ gb_wA := gb_t3 25 rfl rfl
theorem w_502 : (Cond.methodLink "GooseBorder$Reader" (97 : Nat) ({ cls := "GooseBorder$Reader", name := "canBe", desc := "(III)Z" } : MethodName)) ∈ gb_wA := gb_t3 22 rfl rfl
theorem w_504 : (Cond.instanceMethod ({ cls := "GooseBorder$Reader", name := "canBe", desc := "(III)Z" } : MethodName)) ∈ gb_wA := gb_t3 24 rfl rfl
theorem s_1_6 : Cond.selects "GooseBorder$Reader" (⟨"GooseBorder$Reader", "canBe", "(III)Z"⟩ : MethodName) (⟨"GooseBorder$Reader", "canBe", "(III)Z"⟩ : MethodName) ∈ gb_wA := gb_s1 6 rfl rfl
theorem dX7_takeNumber_97 : decode cX7_takeNumber 97 = .ok (.ifCond .ne 12, 3) := dc_154 (show ((cX7_takeNumber.data.toList.drop 97).take 3).map UInt8.toNat = [154, 0, 12] by decide +kernel) rfl
theorem dX7_takeNumber_109 : decode cX7_takeNumber 109 = .ok (.aload_n 0, 1) := dc_42 (show ((cX7_takeNumber.data.toList.drop 109).take 1).map UInt8.toNat = [42] by decide +kernel)
theorem dX7_takeNumber_110 : decode cX7_takeNumber 110 = .ok (.iload_n 3, 1) := dc_29 (show ((cX7_takeNumber.data.toList.drop 110).take 1).map UInt8.toNat = [29] by decide +kernel)
theorem dX7_takeNumber_111 : decode cX7_takeNumber 111 = .ok (.putfield 29, 3) := dc_181 (show ((cX7_takeNumber.data.toList.drop 111).take 3).map UInt8.toNat = [181, 0, 29] by decide +kernel) rfl
theorem dX7_takeNumber_114 : decode cX7_takeNumber 114 = .ok (.iconst 1, 1) := dc_4 (show ((cX7_takeNumber.data.toList.drop 114).take 1).map UInt8.toNat = [4] by decide +kernel)
theorem dX7_takeNumber_115 : decode cX7_takeNumber 115 = .ok (.ireturn, 1) := dc_172 (show ((cX7_takeNumber.data.toList.drop 115).take 1).map UInt8.toNat = [172] by decide +kernel)
theorem dX7_takeNumber_100 : decode cX7_takeNumber 100 = .ok (.aload_n 0, 1) := dc_42 (show ((cX7_takeNumber.data.toList.drop 100).take 1).map UInt8.toNat = [42] by decide +kernel)
theorem dX7_takeNumber_101 : decode cX7_takeNumber 101 = .ok (.iconst 2, 1) := dc_5 (show ((cX7_takeNumber.data.toList.drop 101).take 1).map UInt8.toNat = [5] by decide +kernel)
theorem dX7_takeNumber_102 : decode cX7_takeNumber 102 = .ok (.aload_n 0, 1) := dc_42 (show ((cX7_takeNumber.data.toList.drop 102).take 1).map UInt8.toNat = [42] by decide +kernel)
theorem dX7_takeNumber_103 : decode cX7_takeNumber 103 = .ok (.getfield 29, 3) := dc_180 (show ((cX7_takeNumber.data.toList.drop 103).take 3).map UInt8.toNat = [180, 0, 29] by decide +kernel) rfl
theorem dX7_takeNumber_106 : decode cX7_takeNumber 106 = .ok (.invokevirtual 54, 3) := dc_182 (show ((cX7_takeNumber.data.toList.drop 106).take 3).map UInt8.toNat = [182, 0, 54] by decide +kernel) rfl
theorem dX7_takeNumber_16 : decode cX7_takeNumber 16 = .ok (.aload_n 0, 1) := dc_42 (show ((cX7_takeNumber.data.toList.drop 16).take 1).map UInt8.toNat = [42] by decide +kernel)
theorem dX7_takeNumber_17 : decode cX7_takeNumber 17 = .ok (.getfield 15, 3) := dc_180 (show ((cX7_takeNumber.data.toList.drop 17).take 3).map UInt8.toNat = [180, 0, 15] by decide +kernel) rfl
theorem dX7_takeNumber_20 : decode cX7_takeNumber 20 = .ok (.iload_n 3, 1) := dc_29 (show ((cX7_takeNumber.data.toList.drop 20).take 1).map UInt8.toNat = [29] by decide +kernel)
theorem dX7_takeNumber_21 : decode cX7_takeNumber 21 = .ok (.baload, 1) := dc_51 (show ((cX7_takeNumber.data.toList.drop 21).take 1).map UInt8.toNat = [51] by decide +kernel)
theorem dX7_takeNumber_22 : decode cX7_takeNumber 22 = .ok (.bipush 48, 2) := dc_16 (show ((cX7_takeNumber.data.toList.drop 22).take 2).map UInt8.toNat = [16, 48] by decide +kernel) rfl
theorem dX7_takeNumber_24 : decode cX7_takeNumber 24 = .ok (.if_icmp .lt 37, 3) := dc_161 (show ((cX7_takeNumber.data.toList.drop 24).take 3).map UInt8.toNat = [161, 0, 37] by decide +kernel) rfl
theorem dX7_takeNumber_27 : decode cX7_takeNumber 27 = .ok (.aload_n 0, 1) := dc_42 (show ((cX7_takeNumber.data.toList.drop 27).take 1).map UInt8.toNat = [42] by decide +kernel)
theorem dX7_takeNumber_28 : decode cX7_takeNumber 28 = .ok (.getfield 15, 3) := dc_180 (show ((cX7_takeNumber.data.toList.drop 28).take 3).map UInt8.toNat = [180, 0, 15] by decide +kernel) rfl
theorem dX7_takeNumber_31 : decode cX7_takeNumber 31 = .ok (.iload_n 3, 1) := dc_29 (show ((cX7_takeNumber.data.toList.drop 31).take 1).map UInt8.toNat = [29] by decide +kernel)
theorem dX7_takeNumber_32 : decode cX7_takeNumber 32 = .ok (.baload, 1) := dc_51 (show ((cX7_takeNumber.data.toList.drop 32).take 1).map UInt8.toNat = [51] by decide +kernel)
theorem dX7_takeNumber_33 : decode cX7_takeNumber 33 = .ok (.bipush 57, 2) := dc_16 (show ((cX7_takeNumber.data.toList.drop 33).take 2).map UInt8.toNat = [16, 57] by decide +kernel) rfl
theorem dX7_takeNumber_35 : decode cX7_takeNumber 35 = .ok (.if_icmp .gt 26, 3) := dc_163 (show ((cX7_takeNumber.data.toList.drop 35).take 3).map UInt8.toNat = [163, 0, 26] by decide +kernel) rfl
theorem dX7_takeNumber_38 : decode cX7_takeNumber 38 = .ok (.iload 4, 2) := dc_21 (show ((cX7_takeNumber.data.toList.drop 38).take 2).map UInt8.toNat = [21, 4] by decide +kernel) rfl
theorem dX7_takeNumber_40 : decode cX7_takeNumber 40 = .ok (.bipush 10, 2) := dc_16 (show ((cX7_takeNumber.data.toList.drop 40).take 2).map UInt8.toNat = [16, 10] by decide +kernel) rfl
theorem dX7_takeNumber_42 : decode cX7_takeNumber 42 = .ok (.imul, 1) := dc_104 (show ((cX7_takeNumber.data.toList.drop 42).take 1).map UInt8.toNat = [104] by decide +kernel)
theorem dX7_takeNumber_43 : decode cX7_takeNumber 43 = .ok (.aload_n 0, 1) := dc_42 (show ((cX7_takeNumber.data.toList.drop 43).take 1).map UInt8.toNat = [42] by decide +kernel)
theorem dX7_takeNumber_44 : decode cX7_takeNumber 44 = .ok (.getfield 15, 3) := dc_180 (show ((cX7_takeNumber.data.toList.drop 44).take 3).map UInt8.toNat = [180, 0, 15] by decide +kernel) rfl
theorem dX7_takeNumber_47 : decode cX7_takeNumber 47 = .ok (.iload_n 3, 1) := dc_29 (show ((cX7_takeNumber.data.toList.drop 47).take 1).map UInt8.toNat = [29] by decide +kernel)
theorem dX7_takeNumber_48 : decode cX7_takeNumber 48 = .ok (.baload, 1) := dc_51 (show ((cX7_takeNumber.data.toList.drop 48).take 1).map UInt8.toNat = [51] by decide +kernel)
theorem dX7_takeNumber_49 : decode cX7_takeNumber 49 = .ok (.bipush 48, 2) := dc_16 (show ((cX7_takeNumber.data.toList.drop 49).take 2).map UInt8.toNat = [16, 48] by decide +kernel) rfl
theorem dX7_takeNumber_51 : decode cX7_takeNumber 51 = .ok (.isub, 1) := dc_100 (show ((cX7_takeNumber.data.toList.drop 51).take 1).map UInt8.toNat = [100] by decide +kernel)
theorem dX7_takeNumber_52 : decode cX7_takeNumber 52 = .ok (.iadd, 1) := dc_96 (show ((cX7_takeNumber.data.toList.drop 52).take 1).map UInt8.toNat = [96] by decide +kernel)
theorem dX7_takeNumber_53 : decode cX7_takeNumber 53 = .ok (.istore 4, 2) := dc_54 (show ((cX7_takeNumber.data.toList.drop 53).take 2).map UInt8.toNat = [54, 4] by decide +kernel) rfl
theorem dX7_takeNumber_55 : decode cX7_takeNumber 55 = .ok (.iinc 3 1, 3) := dc_132 (show ((cX7_takeNumber.data.toList.drop 55).take 3).map UInt8.toNat = [132, 3, 1] by decide +kernel) rfl
theorem dX7_takeNumber_58 : decode cX7_takeNumber 58 = .ok (.goto (-50), 3) := dc_167 (show ((cX7_takeNumber.data.toList.drop 58).take 3).map UInt8.toNat = [167, 255, 206] by decide +kernel) rfl
def cs_Reader_takeNumber_61 (n : Nat) (σ : gb_S) (v1 : Int32) (v2 : Int32) (v3 : Int32) (v4 : Int32) : gb_CR Int32 := (if v3 = (σ.1 106 3) then some (σ, 0) else (if (v3 - (σ.1 106 3)) ≤ 3 then gb_ck v2 5 (gb_lt (gb_su σ 107 (upd (σ.1 107) (Int32.toNatClampNeg v2) v4)) (fun s_6 => gb_cd (cs_Reader_canBe n s_6 v1 v2 v4) (fun s_7 r_8 => (if r_8 = 0 then gb_cd (cs_Reader_note n s_7 2 (s_7.1 106 3)) (fun s_13 _ => gb_lt (gb_su s_13 106 (upd (s_13.1 106) 3 v3)) (fun s_17 => some (s_17, 1))) else gb_lt (gb_su s_7 106 (upd (s_7.1 106) 3 v3)) (fun s_12 => some (s_12, 1)))))) else some (σ, 0)))
def cs_Reader_takeNumber_8 (n : Nat) : Nat → gb_S → Int32 → Int32 → Int32 → Int32 → gb_CR Int32
  | 0, _, _, _, _, _ => none
  | mm + 1, σ, v1, v2, v3, v4 => (if (σ.1 106 2) ≤ v3 then cs_Reader_takeNumber_61 n σ v1 v2 v3 v4 else gb_kk (gb_kY (σ.2.1 0)) (gb_ck v3 600 (gb_lt ((σ.1 (σ.2.1 0)) (Int32.toNatClampNeg v3)) (fun x_20 => (if x_20 < 48 then cs_Reader_takeNumber_61 n σ v1 v2 v3 v4 else gb_kk (gb_kY (σ.2.1 0)) (gb_ck v3 600 (gb_lt ((σ.1 (σ.2.1 0)) (Int32.toNatClampNeg v3)) (fun x_24 => (if (57 : Int32) < x_24 then cs_Reader_takeNumber_61 n σ v1 v2 v3 v4 else gb_kk (gb_kY (σ.2.1 0)) (gb_ck v3 600 (gb_lt ((σ.1 (σ.2.1 0)) (Int32.toNatClampNeg v3)) (fun x_28 => gb_lt ((v4 * 10) + (x_28 - 48)) (fun x_29 => gb_lt (v3 + 1) (fun x_30 => cs_Reader_takeNumber_8 n mm σ v1 v2 x_30 x_29))))))))))))))
def cs_Reader_takeNumber (n : Nat) (σ : gb_S) (p1 : Int32) (p2 : Int32) : gb_CR Int32 := gb_lt (σ.1 106 3) (fun x_1 => cs_Reader_takeNumber_8 n n σ p1 p2 x_1 0)
set_option maxHeartbeats 8000000 in
set_option maxRecDepth 100000 in
theorem cc_Reader_takeNumber (l : Launch) (D : va_G) (cT : Nat → ClassId) (tt : Nat → Nat) (b1 b : Nat) (hb1 : b1 ≤ b) (n : Nat) (σ : gb_S) (p1 : Int32) (p2 : Int32) (σE : gb_S) (rE : Int32) (h : cs_Reader_takeNumber n σ p1 p2 = some (σE, rE)) : Met l yX7_takeNumber (.code yX7_takeNumber cX7_takeNumber 5 (some FieldType.boolean) :: gb_wA) ({ frames := 1, cells := 0, slots := 0, locals := 24 }) (gb_Pc D cT tt b1 [.ref (b + 106), .int p1, .int p2] (fun h => va_P D vwCl (gb_wl b (gb_CW cT b σ)) h)) (gb_Qi (fun r h => r = rE ∧ va_P D vwCl (gb_wl b (gb_CW cT b σE)) h) (gb_fr b 135)) 0 0 (gb_fr b 135) := by
  refine Met.ofW (cc := cX7_takeNumber) (maxL := 5) (ret := (some FieldType.boolean)) (by decide) rfl ?_
  intro p e s m args below meth c s₁ B hml hv
  obtain ⟨rfl, hSt, hP⟩ := hv
  have hx := B.exec
  have hb := B.bytes
  have hr := B.returns
  have hts := atoms_spec (ws := .code yX7_takeNumber cX7_takeNumber 5 (some FieldType.boolean) :: gb_wA) B.pre
  have hq : ∀ w ∈ gb_wA, w.before _ s = true := fun w h => hts w (List.mem_cons_of_mem _ h)
  have hown : s.vm.findClass RX7 = some m.cls := findClass_of_methodNamed B.named
  have hlocks := B.notSynchronized
  clear B hts
  have hK := hSt.1
  have hS : va_S (gb_fr b 135) s.heap s.heap [] := va_S.rf
  have hl := lv_entry ([.ref (b + 106), .int p1, .int p2]) (n := 5) (Nat.le_of_ble_eq_true rfl)
  rw [lg_entry_eq]
  generalize (lg_sl ([.ref (b + 106), .int p1, .int p2]) ++ List.replicate (5 - (lg_sl ([.ref (b + 106), .int p1, .int p2])).length) Slot.unset).toArray = ls at hl ⊢
  replace hl : lv_has ls 5 [(0, .ref (b + 106)), (1, .int p1), (2, .int p2)] := hl
  have L61_2 : ∀ (σ : gb_S) (v1 : Int32) (v2 : Int32) (v3 : Int32) (v4 : Int32) (H : Heap) (locs : List Loc) (ls : Array Slot), cs_Reader_takeNumber_61 n σ v1 v2 v3 v4 = some (σE, rE) → va_P D vwCl (gb_wl b (gb_CW cT b σ)) H → va_S (gb_fr b 135) s.heap H locs → lv_has ls 5 [(0, .ref (b + 106)), (1, .int v1), (2, .int v2), (3, .int v3), (4, .int v4)] → W p l e (headSpec (.code yX7_takeNumber cX7_takeNumber 5 (some FieldType.boolean) :: gb_wA) ({ frames := 1, cells := 0, slots := 0, locals := 24 })).room s m ([.ref (b + 106), .int p1, .int p2]).toArray below meth c H locs 0 0 (MQ below (gb_Qi (fun r h => r = rE ∧ va_P D vwCl (gb_wl b (gb_CW cT b σE)) h) (gb_fr b 135)) ([.ref (b + 106), .int p1, .int p2]).toArray s 0 0 (gb_fr b 135)) (F0 m 61 ls []) := by
    clear h hP hS hl ls
    intro σ v1 v2 v3 v4 H locs ls h hP hS hl
    unfold cs_Reader_takeNumber_61 at h
    refine lv_iload_n hx hb dX7_takeNumber_61 rfl (lv_at hl 3 rfl) ?_
    refine lv_aload_n hx hb dX7_takeNumber_62 rfl (lv_at hl 0 rfl) ?_
    refine va_get (ci := 6) (v := (.int (σ.1 106 3))) (C := RX7) (T := TX7) (N := 6) hx hb hq i_X7 hown hK hP 106 (gb_at b rfl) rfl 3 (by decide) (hq _ w_170) (fun _ h9 => h9) rfl dX7_takeNumber_63 ?_
    refine lv_icmp_eq (tgt := 79) hx hb dX7_takeNumber_66 (by decide) (fun c_3 => ?_) (fun c_3 => ?_)
    · rw [if_pos c_3] at h
      refine lv_iconst (v := 0) hx hb dX7_takeNumber_79 (by decide) ?_
      obtain ⟨e1, e2⟩ := gb_eq2 h
      exact W.zret (v := 0) hx hb hr (by decide) (fun t ht hW => gb_ri ht ⟨e2, by rw [← e1]; exact hP⟩ hS) hS.2.2 dX7_takeNumber_80
    · rw [if_neg c_3] at h
      refine lv_iload_n hx hb dX7_takeNumber_69 rfl (lv_at hl 3 rfl) ?_
      refine lv_aload_n hx hb dX7_takeNumber_70 rfl (lv_at hl 0 rfl) ?_
      refine va_get (ci := 6) (v := (.int (σ.1 106 3))) (C := RX7) (T := TX7) (N := 6) hx hb hq i_X7 hown hK hP 106 (gb_at b rfl) rfl 3 (by decide) (hq _ w_170) (fun _ h9 => h9) rfl dX7_takeNumber_71 ?_
      refine lv_isub hx hb dX7_takeNumber_74 ?_
      refine lv_iconst (v := 3) hx hb dX7_takeNumber_75 (by decide) ?_
      refine lv_icmp_le (tgt := 81) hx hb dX7_takeNumber_76 (by decide) (fun c_4 => ?_) (fun c_4 => ?_)
      · rw [if_pos c_4] at h
        refine lv_aload_n hx hb dX7_takeNumber_81 rfl (lv_at hl 0 rfl) ?_
        refine va_get (ci := 6) (v := (.ref (b + 107))) (C := RX7) (T := TX7) (N := 6) hx hb hq i_X7 hown hK hP 106 (gb_at b rfl) rfl 0 (by decide) (hq _ w_167) (fun _ h9 => h9) rfl dX7_takeNumber_82 ?_
        refine lv_iload_n hx hb dX7_takeNumber_85 rfl (lv_at hl 2 rfl) ?_
        refine lv_iload hx hb dX7_takeNumber_86 (lv_at hl 4 rfl) ?_
        obtain ⟨z_5, h⟩ := gb_ck_s h
        refine va_iast (x := v4) hx hb hK hP (gb_D (fun k h => ⟨Nat.le_add_right b k, Nat.add_lt_add_left h b⟩)) hS 107 0 (gb_at b rfl) rfl z_5 dX7_takeNumber_88 (fun H locs hP hD hS => ?_)
        rw [gb_set] at hP
        obtain ⟨s_6, es_6⟩ : ∃ q, q = (gb_su σ 107 (upd (σ.1 107) (Int32.toNatClampNeg v2) v4)) := ⟨_, rfl⟩
        replace hP : va_P D vwCl (gb_wl b (gb_CW cT b s_6)) H := by rw [es_6]; exact hP
        replace h := gb_lt_s es_6 h
        refine lv_aload_n hx hb dX7_takeNumber_89 rfl (lv_at hl 0 rfl) ?_
        refine lv_iload_n hx hb dX7_takeNumber_90 rfl (lv_at hl 1 rfl) ?_
        refine lv_iload_n hx hb dX7_takeNumber_91 rfl (lv_at hl 2 rfl) ?_
        refine lv_iload hx hb dX7_takeNumber_92 (lv_at hl 4 rfl) ?_
        obtain ⟨s_7, r_8, z_9, h⟩ := gb_cd_s h
        refine gb_calli (va_runV (C := RX7) (As := [.int v1, .int v2, .int v4]) (rest := []) ⟨hx, hb, hml, hown, hq⟩ (cc_Reader_canBe l D cT tt b1 b hb1 n s_6 v1 v2 v4 s_7 r_8 z_9) (cwV 3 hq (gb_gV w_502 w_504 s_1_6 w_10 w_505) rfl rfl rfl (by decide +kernel) ⟨Nat.le_of_ble_eq_true rfl, Nat.le_of_ble_eq_true rfl⟩) (gb_preV (r := (RX7, TX7, 6)) (ci := 6) (q0 := 106) hSt hP rfl (gb_at b rfl) hS (fun q h => Nat.le_trans hb1 h.1) hP) rfl rfl hl.1 rfl (lv_room (Nat.le_of_ble_eq_true rfl)) dX7_takeNumber_94 ⟨Nat.le_of_ble_eq_true rfl, Nat.le_of_ble_eq_true rfl⟩) hS (fun _ h => h) (fun _ h => h) (fun q_10 H locs hY hk hS => ?_)
        obtain ⟨hq_10, hP⟩ := hY
        replace hq_10 := hq_10.symm
        subst hq_10
        refine lv_if_ne (tgt := 109) hx hb dX7_takeNumber_97 (by decide) (fun c_11 => ?_) (fun c_11 => ?_)
        · rw [if_neg c_11] at h
          refine lv_aload_n hx hb dX7_takeNumber_109 rfl (lv_at hl 0 rfl) ?_
          refine lv_iload_n hx hb dX7_takeNumber_110 rfl (lv_at hl 3 rfl) ?_
          refine gb_put (ci := 6) (v := (.int v3)) (ty := .int) (C := RX7) (T := TX7) (N := 6) hx hb hq i_X7 tyX7 tyX7_ok nmX7 hown hK hP (fun k h => ⟨Nat.le_add_right b k, Nat.add_lt_add_left h b⟩) hS rfl 106 rfl rfl 3 (by decide) (hq _ w_170) (fun _ h9 => h9) rfl (by decide +kernel) rfl rfl (Nat.le_of_ble_eq_true rfl) dX7_takeNumber_111 (fun H locs hP hz_ hS => ?_)
          obtain ⟨s_12, es_12⟩ : ∃ q, q = (gb_su s_7 106 (upd (s_7.1 106) 3 v3)) := ⟨_, rfl⟩
          replace hP : va_P D vwCl (gb_wl b (gb_CW cT b s_12)) H := by rw [es_12]; exact hP
          replace h := gb_lt_s es_12 h
          refine lv_iconst (v := 1) hx hb dX7_takeNumber_114 (by decide) ?_
          obtain ⟨e1, e2⟩ := gb_eq2 h
          exact W.zret (v := 1) hx hb hr (by decide) (fun t ht hW => gb_ri ht ⟨e2, by rw [← e1]; exact hP⟩ hS) hS.2.2 dX7_takeNumber_115
        · rw [if_pos c_11] at h
          refine lv_aload_n hx hb dX7_takeNumber_100 rfl (lv_at hl 0 rfl) ?_
          refine lv_iconst (v := 2) hx hb dX7_takeNumber_101 (by decide) ?_
          refine lv_aload_n hx hb dX7_takeNumber_102 rfl (lv_at hl 0 rfl) ?_
          refine va_get (ci := 6) (v := (.int (s_7.1 106 3))) (C := RX7) (T := TX7) (N := 6) hx hb hq i_X7 hown hK hP 106 (gb_at b rfl) rfl 3 (by decide) (hq _ w_170) (fun _ h9 => h9) rfl dX7_takeNumber_103 ?_
          obtain ⟨s_13, r_14, z_15, h⟩ := gb_cd_s h
          refine gb_callv (va_runV (C := RX7) (As := [.int 2, .int (s_7.1 106 3)]) (rest := []) ⟨hx, hb, hml, hown, hq⟩ (cc_Reader_note l D cT tt b1 b hb1 n s_7 2 (s_7.1 106 3) s_13 r_14 z_15) (cwV 2 hq (gb_gV w_492 w_494 s_1_4 w_10 w_495) rfl rfl rfl (by decide +kernel) ⟨Nat.le_of_ble_eq_true rfl, Nat.le_of_ble_eq_true rfl⟩) (gb_preV (r := (RX7, TX7, 6)) (ci := 6) (q0 := 106) hSt hP rfl (gb_at b rfl) hS (fun q h => Nat.le_trans hb1 h.1) hP) rfl rfl hl.1 rfl (lv_room (Nat.le_of_ble_eq_true rfl)) dX7_takeNumber_106 ⟨Nat.le_of_ble_eq_true rfl, Nat.le_of_ble_eq_true rfl⟩) hS (fun _ h => h) (fun _ h => h) (fun H locs hY hk hS => ?_)
          have hP := hY
          refine lv_aload_n hx hb dX7_takeNumber_109 rfl (lv_at hl 0 rfl) ?_
          refine lv_iload_n hx hb dX7_takeNumber_110 rfl (lv_at hl 3 rfl) ?_
          refine gb_put (ci := 6) (v := (.int v3)) (ty := .int) (C := RX7) (T := TX7) (N := 6) hx hb hq i_X7 tyX7 tyX7_ok nmX7 hown hK hP (fun k h => ⟨Nat.le_add_right b k, Nat.add_lt_add_left h b⟩) hS rfl 106 rfl rfl 3 (by decide) (hq _ w_170) (fun _ h9 => h9) rfl (by decide +kernel) rfl rfl (Nat.le_of_ble_eq_true rfl) dX7_takeNumber_111 (fun H locs hP hz_ hS => ?_)
          obtain ⟨s_17, es_17⟩ : ∃ q, q = (gb_su s_13 106 (upd (s_13.1 106) 3 v3)) := ⟨_, rfl⟩
          replace hP : va_P D vwCl (gb_wl b (gb_CW cT b s_17)) H := by rw [es_17]; exact hP
          replace h := gb_lt_s es_17 h
          refine lv_iconst (v := 1) hx hb dX7_takeNumber_114 (by decide) ?_
          obtain ⟨e1, e2⟩ := gb_eq2 h
          exact W.zret (v := 1) hx hb hr (by decide) (fun t ht hW => gb_ri ht ⟨e2, by rw [← e1]; exact hP⟩ hS) hS.2.2 dX7_takeNumber_115
      · rw [if_neg c_4] at h
        refine lv_iconst (v := 0) hx hb dX7_takeNumber_79 (by decide) ?_
        obtain ⟨e1, e2⟩ := gb_eq2 h
        exact W.zret (v := 0) hx hb hr (by decide) (fun t ht hW => gb_ri ht ⟨e2, by rw [← e1]; exact hP⟩ hS) hS.2.2 dX7_takeNumber_80
  have L8_1 : ∀ (mm : Nat) (σ : gb_S) (v1 : Int32) (v2 : Int32) (v3 : Int32) (v4 : Int32) (H : Heap) (locs : List Loc) (ls : Array Slot), cs_Reader_takeNumber_8 n mm σ v1 v2 v3 v4 = some (σE, rE) → va_P D vwCl (gb_wl b (gb_CW cT b σ)) H → va_S (gb_fr b 135) s.heap H locs → lv_has ls 5 [(0, .ref (b + 106)), (1, .int v1), (2, .int v2), (3, .int v3), (4, .int v4)] → W p l e (headSpec (.code yX7_takeNumber cX7_takeNumber 5 (some FieldType.boolean) :: gb_wA) ({ frames := 1, cells := 0, slots := 0, locals := 24 })).room s m ([.ref (b + 106), .int p1, .int p2]).toArray below meth c H locs 0 0 (MQ below (gb_Qi (fun r h => r = rE ∧ va_P D vwCl (gb_wl b (gb_CW cT b σE)) h) (gb_fr b 135)) ([.ref (b + 106), .int p1, .int p2]).toArray s 0 0 (gb_fr b 135)) (F0 m 8 ls []) := by
    clear h hP hS hl ls
    intro mm
    induction mm with
    | zero =>
      intro σ v1 v2 v3 v4 H locs ls h
      cases h
    | succ mm ih =>
      intro σ v1 v2 v3 v4 H locs ls h hP hS hl
      rw [cs_Reader_takeNumber_8] at h
      refine lv_iload_n hx hb dX7_takeNumber_8 rfl (lv_at hl 3 rfl) ?_
      refine lv_aload_n hx hb dX7_takeNumber_9 rfl (lv_at hl 0 rfl) ?_
      refine va_get (ci := 6) (v := (.int (σ.1 106 2))) (C := RX7) (T := TX7) (N := 6) hx hb hq i_X7 hown hK hP 106 (gb_at b rfl) rfl 2 (by decide) (hq _ w_169) (fun _ h9 => h9) rfl dX7_takeNumber_10 ?_
      refine lv_icmp_ge (tgt := 61) hx hb dX7_takeNumber_13 (by decide) (fun c_2 => ?_) (fun c_2 => ?_)
      · rw [if_pos c_2] at h
        exact L61_2 _ _ _ _ _ _ _ _ h hP hS (lv_sub hl [0, 1, 2, 3, 4] rfl)
      · rw [if_neg c_2] at h
        refine lv_aload_n hx hb dX7_takeNumber_16 rfl (lv_at hl 0 rfl) ?_
        obtain ⟨z_18, h⟩ := gb_kk_s h
        refine va_get (ci := 6) (v := (.ref (b + (σ.2.1 0)))) (C := RX7) (T := TX7) (N := 6) hx hb hq i_X7 hown hK hP 106 (gb_at b rfl) rfl 1 (by decide) (hq _ w_168) (fun _ h9 => h9) rfl dX7_takeNumber_17 ?_
        refine lv_iload_n hx hb dX7_takeNumber_20 rfl (lv_at hl 3 rfl) ?_
        obtain ⟨z_19, h⟩ := gb_ck_s h
        refine va_bald hx hb hK hP (σ.2.1 0) 1 (gb_at b (gb_cY z_18)) rfl z_19 dX7_takeNumber_21 ?_
        refine lv_topi (fun x_20 ex_20 => ?_)
        replace h := gb_lt_s ex_20 h
        refine lv_bipush (v := 48) hx hb dX7_takeNumber_22 (by decide) ?_
        refine lv_icmp_lt (tgt := 61) hx hb dX7_takeNumber_24 (by decide) (fun c_21 => ?_) (fun c_21 => ?_)
        · rw [if_pos c_21] at h
          exact L61_2 _ _ _ _ _ _ _ _ h hP hS (lv_sub hl [0, 1, 2, 3, 4] rfl)
        · rw [if_neg c_21] at h
          refine lv_aload_n hx hb dX7_takeNumber_27 rfl (lv_at hl 0 rfl) ?_
          obtain ⟨z_22, h⟩ := gb_kk_s h
          refine va_get (ci := 6) (v := (.ref (b + (σ.2.1 0)))) (C := RX7) (T := TX7) (N := 6) hx hb hq i_X7 hown hK hP 106 (gb_at b rfl) rfl 1 (by decide) (hq _ w_168) (fun _ h9 => h9) rfl dX7_takeNumber_28 ?_
          refine lv_iload_n hx hb dX7_takeNumber_31 rfl (lv_at hl 3 rfl) ?_
          obtain ⟨z_23, h⟩ := gb_ck_s h
          refine va_bald hx hb hK hP (σ.2.1 0) 1 (gb_at b (gb_cY z_22)) rfl z_23 dX7_takeNumber_32 ?_
          refine lv_topi (fun x_24 ex_24 => ?_)
          replace h := gb_lt_s ex_24 h
          refine lv_bipush (v := 57) hx hb dX7_takeNumber_33 (by decide) ?_
          refine lv_icmp_gt (tgt := 61) hx hb dX7_takeNumber_35 (by decide) (fun c_25 => ?_) (fun c_25 => ?_)
          · rw [if_pos c_25] at h
            exact L61_2 _ _ _ _ _ _ _ _ h hP hS (lv_sub hl [0, 1, 2, 3, 4] rfl)
          · rw [if_neg c_25] at h
            refine lv_iload hx hb dX7_takeNumber_38 (lv_at hl 4 rfl) ?_
            refine lv_bipush (v := 10) hx hb dX7_takeNumber_40 (by decide) ?_
            refine lv_imul hx hb dX7_takeNumber_42 ?_
            refine lv_aload_n hx hb dX7_takeNumber_43 rfl (lv_at hl 0 rfl) ?_
            obtain ⟨z_26, h⟩ := gb_kk_s h
            refine va_get (ci := 6) (v := (.ref (b + (σ.2.1 0)))) (C := RX7) (T := TX7) (N := 6) hx hb hq i_X7 hown hK hP 106 (gb_at b rfl) rfl 1 (by decide) (hq _ w_168) (fun _ h9 => h9) rfl dX7_takeNumber_44 ?_
            refine lv_iload_n hx hb dX7_takeNumber_47 rfl (lv_at hl 3 rfl) ?_
            obtain ⟨z_27, h⟩ := gb_ck_s h
            refine va_bald hx hb hK hP (σ.2.1 0) 1 (gb_at b (gb_cY z_26)) rfl z_27 dX7_takeNumber_48 ?_
            refine lv_topi (fun x_28 ex_28 => ?_)
            replace h := gb_lt_s ex_28 h
            refine lv_bipush (v := 48) hx hb dX7_takeNumber_49 (by decide) ?_
            refine lv_isub hx hb dX7_takeNumber_51 ?_
            refine lv_iadd hx hb dX7_takeNumber_52 ?_
            refine lv_topi (fun x_29 ex_29 => ?_)
            replace h := gb_lt_s ex_29 h
            refine lv_istore (lv' := [(4, .int x_29), (0, .ref (b + 106)), (1, .int v1), (2, .int v2), (3, .int v3)]) hx hb dX7_takeNumber_53 hl (by decide) rfl (fun ls hl => ?_)
            obtain ⟨x_30, ex_30⟩ : ∃ q, q = (v3 + 1) := ⟨_, rfl⟩
            replace h := gb_lt_s ex_30 h
            refine lv_iinc (v := x_30) (lv' := [(3, .int x_30), (4, .int x_29), (0, .ref (b + 106)), (1, .int v1), (2, .int v2)]) hx hb dX7_takeNumber_55 hl (k := 4) rfl (by rw [ex_30]; rfl) (by decide) rfl (fun ls hl => ?_)
            refine lv_goto (tgt := 8) hx hb dX7_takeNumber_58 (by decide) ?_
            exact ih _ _ _ _ _ _ _ _ h hP hS (lv_sub hl [2, 3, 4, 0, 1] rfl)
  unfold cs_Reader_takeNumber at h
  refine lv_aload_n hx hb dX7_takeNumber_0 rfl (lv_at hl 0 rfl) ?_
  refine va_get (ci := 6) (v := (.int (σ.1 106 3))) (C := RX7) (T := TX7) (N := 6) hx hb hq i_X7 hown hK hP 106 (gb_at b rfl) rfl 3 (by decide) (hq _ w_170) (fun _ h9 => h9) rfl dX7_takeNumber_1 ?_
  refine lv_topi (fun x_1 ex_1 => ?_)
  replace h := gb_lt_s ex_1 h
  refine lv_istore_n (lv' := [(3, .int x_1), (0, .ref (b + 106)), (1, .int p1), (2, .int p2)]) hx hb dX7_takeNumber_4 rfl hl (by decide) rfl (fun ls hl => ?_)
  refine lv_iconst (v := 0) hx hb dX7_takeNumber_5 (by decide) ?_
  refine lv_istore (lv' := [(4, .int 0), (3, .int x_1), (0, .ref (b + 106)), (1, .int p1), (2, .int p2)]) hx hb dX7_takeNumber_6 hl (by decide) rfl (fun ls hl => ?_)
  exact L8_1 n _ _ _ _ _ _ _ _ h hP hS (lv_sub hl [2, 3, 4, 1, 0] rfl)
theorem w_501 : (Cond.code ({ cls := "GooseBorder$Reader", name := "takeNumber", desc := "(II)Z" } : MethodName) prog_9_method_6_code (5 : Nat) (Option.some FieldType.boolean)) ∈ gb_wA := gb_t3 21 rfl rfl
theorem w_498 : (Cond.methodLink "GooseBorder$Reader" (69 : Nat) ({ cls := "GooseBorder$Reader", name := "takeNumber", desc := "(II)Z" } : MethodName)) ∈ gb_wA := gb_t3 18 rfl rfl
theorem w_500 : (Cond.instanceMethod ({ cls := "GooseBorder$Reader", name := "takeNumber", desc := "(II)Z" } : MethodName)) ∈ gb_wA := gb_t3 20 rfl rfl
theorem s_1_5 : Cond.selects "GooseBorder$Reader" (⟨"GooseBorder$Reader", "takeNumber", "(II)Z"⟩ : MethodName) (⟨"GooseBorder$Reader", "takeNumber", "(II)Z"⟩ : MethodName) ∈ gb_wA := gb_s1 5 rfl rfl
theorem dX7_readLine_61 : decode cX7_readLine 61 = .ok (.ifCond .ne 5, 3) := dc_154 (show ((cX7_readLine.data.toList.drop 61).take 3).map UInt8.toNat = [154, 0, 5] by decide +kernel) rfl
theorem dX7_readLine_66 : decode cX7_readLine 66 = .ok (.iinc 5 1, 3) := dc_132 (show ((cX7_readLine.data.toList.drop 66).take 3).map UInt8.toNat = [132, 5, 1] by decide +kernel) rfl
theorem dX7_readLine_69 : decode cX7_readLine 69 = .ok (.goto (-31), 3) := dc_167 (show ((cX7_readLine.data.toList.drop 69).take 3).map UInt8.toNat = [167, 255, 225] by decide +kernel) rfl
theorem dX7_readLine_64 : decode cX7_readLine 64 = .ok (.iconst 0, 1) := dc_3 (show ((cX7_readLine.data.toList.drop 64).take 1).map UInt8.toNat = [3] by decide +kernel)
theorem dX7_readLine_65 : decode cX7_readLine 65 = .ok (.ireturn, 1) := dc_172 (show ((cX7_readLine.data.toList.drop 65).take 1).map UInt8.toNat = [172] by decide +kernel)
theorem dX7_readLine_29 : decode cX7_readLine 29 = .ok (.aload_n 0, 1) := dc_42 (show ((cX7_readLine.data.toList.drop 29).take 1).map UInt8.toNat = [42] by decide +kernel)
theorem dX7_readLine_30 : decode cX7_readLine 30 = .ok (.iconst 3, 1) := dc_6 (show ((cX7_readLine.data.toList.drop 30).take 1).map UInt8.toNat = [6] by decide +kernel)
theorem dX7_readLine_31 : decode cX7_readLine 31 = .ok (.iload_n 3, 1) := dc_29 (show ((cX7_readLine.data.toList.drop 31).take 1).map UInt8.toNat = [29] by decide +kernel)
theorem dX7_readLine_32 : decode cX7_readLine 32 = .ok (.invokevirtual 54, 3) := dc_182 (show ((cX7_readLine.data.toList.drop 32).take 3).map UInt8.toNat = [182, 0, 54] by decide +kernel) rfl
theorem w_491 : (Cond.selects "GooseBorder$Night" ({ cls := "GooseBorder$Sheet", name := "hasRoomFor", desc := "(I)Z" } : MethodName) ({ cls := "GooseBorder$Lines", name := "hasRoomFor", desc := "(I)Z" } : MethodName)) ∈ gb_wA := gb_t3 11 rfl rfl
theorem w_490 : (Cond.selects "GooseBorder$Law" ({ cls := "GooseBorder$Sheet", name := "hasRoomFor", desc := "(I)Z" } : MethodName) ({ cls := "GooseBorder$Lines", name := "hasRoomFor", desc := "(I)Z" } : MethodName)) ∈ gb_wA := gb_t3 10 rfl rfl
theorem w_480 : (Cond.selects "GooseBorder$Dawn" ({ cls := "GooseBorder$Sheet", name := "hasRoomFor", desc := "(I)Z" } : MethodName) ({ cls := "GooseBorder$Lines", name := "hasRoomFor", desc := "(I)Z" } : MethodName)) ∈ gb_wA := gb_t3 0 rfl rfl
theorem dX7_readLine_18 : decode cX7_readLine 18 = .ok (.iconst 0, 1) := dc_3 (show ((cX7_readLine.data.toList.drop 18).take 1).map UInt8.toNat = [3] by decide +kernel)
theorem dX7_readLine_19 : decode cX7_readLine 19 = .ok (.ireturn, 1) := dc_172 (show ((cX7_readLine.data.toList.drop 19).take 1).map UInt8.toNat = [172] by decide +kernel)
def cs_Reader_readLine_S_38 (n : Nat) : Nat → gb_S → Nat → Int32 → Int32 → gb_CR Int32
  | 0, _, _, _, _ => none
  | mm + 1, σ, v2, v4, v5 => gb_ck v4 18 (gb_lt (gb_tb1 (Int32.toNatClampNeg v4)) (fun x_14 => (if x_14 ≤ v5 then gb_cd (cs_Reader_skipBlanks n σ) (fun s_16 _ => (if (s_16.1 106 2) ≤ (s_16.1 106 3) then some (s_16, 0) else gb_kk (gb_kY (s_16.2.1 0)) (gb_ck (s_16.1 106 3) 600 (gb_lt ((s_16.1 (s_16.2.1 0)) (Int32.toNatClampNeg (s_16.1 106 3))) (fun x_23 => (if x_23 = 59 then gb_lt (gb_su s_16 106 (upd (s_16.1 106) 3 ((s_16.1 106 3) + 1))) (fun s_25 => (if gb_kB v2 = true then gb_cd (cs_Border_addLine_B_c107 n s_25 v2 v4) (fun s_27 _ => some (s_27, 1)) else (if gb_kN v2 = true then gb_cd (cs_Lines_addLine_N_c107 n s_25 v2 v4) (fun s_32 _ => some (s_32, 1)) else (if gb_kL v2 = true then gb_cd (cs_Lines_addLine_L_c107 n s_25 v2 v4) (fun s_37 _ => some (s_37, 1)) else (if gb_kD v2 = true then gb_cd (cs_Lines_addLine_D_c107 n s_25 v2 v4) (fun s_42 _ => some (s_42, 1)) else none))))) else some (s_16, 0))))))) else gb_cd (cs_Reader_skipBlanks n σ) (fun s_46 _ => gb_cd (cs_Reader_takeNumber n s_46 v4 v5) (fun s_50 r_51 => (if r_51 = 0 then some (s_50, 0) else gb_lt (v5 + 1) (fun x_55 => cs_Reader_readLine_S_38 n mm s_50 v2 v4 x_55)))))))
def cs_Reader_readLine_S (n : Nat) (σ : gb_S) (p1 : Int32) (p2 : Nat) : gb_CR Int32 := gb_lt (σ.1 106 3) (fun x_1 => gb_cd (cs_Reader_takeWord n σ p1) (fun s_2 r_3 => (if r_3 = (-1) then some (s_2, 0) else (if gb_kB p2 = true then gb_cd (cs_Border_hasRoomFor_B n s_2 p2 r_3) (fun s_8 r_9 => (if r_9 = 0 then gb_cd (cs_Reader_note n s_8 3 x_1) (fun s_56 _ => cs_Reader_readLine_S_38 n n s_56 p2 r_3 0) else cs_Reader_readLine_S_38 n n s_8 p2 r_3 0)) else (if gb_kN p2 = true then gb_cd (cs_Lines_hasRoomFor_N n s_2 p2 r_3) (fun s_61 r_62 => (if r_62 = 0 then gb_cd (cs_Reader_note n s_61 3 x_1) (fun s_66 _ => cs_Reader_readLine_S_38 n n s_66 p2 r_3 0) else cs_Reader_readLine_S_38 n n s_61 p2 r_3 0)) else (if gb_kL p2 = true then gb_cd (cs_Lines_hasRoomFor_L n s_2 p2 r_3) (fun s_71 r_72 => (if r_72 = 0 then gb_cd (cs_Reader_note n s_71 3 x_1) (fun s_76 _ => cs_Reader_readLine_S_38 n n s_76 p2 r_3 0) else cs_Reader_readLine_S_38 n n s_71 p2 r_3 0)) else (if gb_kD p2 = true then gb_cd (cs_Lines_hasRoomFor_D n s_2 p2 r_3) (fun s_81 r_82 => (if r_82 = 0 then gb_cd (cs_Reader_note n s_81 3 x_1) (fun s_86 _ => cs_Reader_readLine_S_38 n n s_86 p2 r_3 0) else cs_Reader_readLine_S_38 n n s_81 p2 r_3 0)) else none)))))))
set_option maxHeartbeats 8000000 in
set_option maxRecDepth 100000 in
theorem cc_Reader_readLine_S (l : Launch) (D : va_G) (cT : Nat → ClassId) (tt : Nat → Nat) (ak av : Nat → Nat) (b1 b : Nat) (hb1 : b1 ≤ b) (n : Nat) (σ : gb_S) (p1 : Int32) (p2 : Nat) (σE : gb_S) (rE : Int32) (h : cs_Reader_readLine_S n σ p1 p2 = some (σE, rE)) : Met l yX7_readLine (.code yX7_readLine cX7_readLine 6 (some FieldType.boolean) :: gb_wA) ({ frames := 6, cells := 0, slots := 0, locals := 131 }) (gb_Pc2 D cT tt ak av b1 [.ref (b + 106), .int p1, .ref (b + p2)] (fun h => va_P D vwCl (gb_wl b (gb_CW cT b σ)) h)) (gb_Qi (fun r h => r = rE ∧ va_P D vwCl (gb_wl b (gb_CW cT b σE)) h) (gb_fr b 135)) 0 0 (gb_fr b 135) := by
  refine Met.ofW (cc := cX7_readLine) (maxL := 6) (ret := (some FieldType.boolean)) (by decide) rfl ?_
  intro p e s m args below meth c s₁ B hml hv
  obtain ⟨rfl, hSt2, hP⟩ := hv
  have hSt := hSt2.1
  have hx := B.exec
  have hb := B.bytes
  have hr := B.returns
  have hts := atoms_spec (ws := .code yX7_readLine cX7_readLine 6 (some FieldType.boolean) :: gb_wA) B.pre
  have hq : ∀ w ∈ gb_wA, w.before _ s = true := fun w h => hts w (List.mem_cons_of_mem _ h)
  have hown : s.vm.findClass RX7 = some m.cls := findClass_of_methodNamed B.named
  have hlocks := B.notSynchronized
  clear B hts
  have hK := hSt.1
  have hS : va_S (gb_fr b 135) s.heap s.heap [] := va_S.rf
  have hl := lv_entry ([.ref (b + 106), .int p1, .ref (b + p2)]) (n := 6) (Nat.le_of_ble_eq_true rfl)
  rw [lg_entry_eq]
  generalize (lg_sl ([.ref (b + 106), .int p1, .ref (b + p2)]) ++ List.replicate (6 - (lg_sl ([.ref (b + 106), .int p1, .ref (b + p2)])).length) Slot.unset).toArray = ls at hl ⊢
  replace hl : lv_has ls 6 [(0, .ref (b + 106)), (1, .int p1), (2, .ref (b + p2))] := hl
  have L38_1 : ∀ (mm : Nat) (σ : gb_S) (v2 : Nat) (v4 : Int32) (v5 : Int32) (H : Heap) (locs : List Loc) (ls : Array Slot), cs_Reader_readLine_S_38 n mm σ v2 v4 v5 = some (σE, rE) → va_P D vwCl (gb_wl b (gb_CW cT b σ)) H → va_S (gb_fr b 135) s.heap H locs → lv_has ls 6 [(0, .ref (b + 106)), (2, .ref (b + v2)), (4, .int v4), (5, .int v5)] → W p l e (headSpec (.code yX7_readLine cX7_readLine 6 (some FieldType.boolean) :: gb_wA) ({ frames := 6, cells := 0, slots := 0, locals := 131 })).room s m ([.ref (b + 106), .int p1, .ref (b + p2)]).toArray below meth c H locs 0 0 (MQ below (gb_Qi (fun r h => r = rE ∧ va_P D vwCl (gb_wl b (gb_CW cT b σE)) h) (gb_fr b 135)) ([.ref (b + 106), .int p1, .ref (b + p2)]).toArray s 0 0 (gb_fr b 135)) (F0 m 38 ls []) := by
    clear h hP hS hl ls
    intro mm
    induction mm with
    | zero =>
      intro σ v2 v4 v5 H locs ls h
      cases h
    | succ mm ih =>
      intro σ v2 v4 v5 H locs ls h hP hS hl
      rw [cs_Reader_readLine_S_38] at h
      refine lv_iload hx hb dX7_readLine_38 (lv_at hl 3 rfl) ?_
      refine va_getsN hx hb (hSt.2.2.2.2.1.1.narrow (fun q h => Nat.le_trans hb1 h.1)) hS hown (va_Nw.use rfl (hSt.2.1 _ gb_n496)) (fun _ h9 => h9) dX7_readLine_40 ?_
      refine lv_iload hx hb dX7_readLine_43 (lv_at hl 2 rfl) ?_
      obtain ⟨z_13, h⟩ := gb_ck_s h
      refine va_ti (v := .int (gb_tb1 (Int32.toNatClampNeg v4))) hx hb (hSt.2.2.2.2.1.2.narrow (fun q h => Nat.le_trans hb1 h.1)) hS z_13 rfl dX7_readLine_45 ?_
      refine lv_topi (fun x_14 ex_14 => ?_)
      replace h := gb_lt_s ex_14 h
      refine lv_icmp_ge (tgt := 72) hx hb dX7_readLine_46 (by decide) (fun c_15 => ?_) (fun c_15 => ?_)
      · rw [if_pos c_15] at h
        refine lv_aload_n hx hb dX7_readLine_72 rfl (lv_at hl 0 rfl) ?_
        obtain ⟨s_16, r_17, z_18, h⟩ := gb_cd_s h
        refine gb_callv (va_runV (C := RX7) (As := []) (rest := []) ⟨hx, hb, hml, hown, hq⟩ (cc_Reader_skipBlanks l D cT tt b1 b hb1 n σ s_16 r_17 z_18) (cwV 0 hq (gb_gV w_380 w_382 s_1_0 w_10 w_383) rfl rfl rfl (by decide +kernel) ⟨Nat.le_of_ble_eq_true rfl, Nat.le_of_ble_eq_true rfl⟩) (gb_preV (r := (RX7, TX7, 6)) (ci := 6) (q0 := 106) hSt hP rfl (gb_at b rfl) hS (fun q h => Nat.le_trans hb1 h.1) hP) rfl rfl hl.1 rfl (lv_room (Nat.le_of_ble_eq_true rfl)) dX7_readLine_73 ⟨Nat.le_of_ble_eq_true rfl, Nat.le_of_ble_eq_true rfl⟩) hS (fun _ h => h) (fun _ h => h) (fun H locs hY hk hS => ?_)
        have hP := hY
        refine lv_aload_n hx hb dX7_readLine_76 rfl (lv_at hl 0 rfl) ?_
        refine va_get (ci := 6) (v := (.int (s_16.1 106 3))) (C := RX7) (T := TX7) (N := 6) hx hb hq i_X7 hown hK hP 106 (gb_at b rfl) rfl 3 (by decide) (hq _ w_170) (fun _ h9 => h9) rfl dX7_readLine_77 ?_
        refine lv_aload_n hx hb dX7_readLine_80 rfl (lv_at hl 0 rfl) ?_
        refine va_get (ci := 6) (v := (.int (s_16.1 106 2))) (C := RX7) (T := TX7) (N := 6) hx hb hq i_X7 hown hK hP 106 (gb_at b rfl) rfl 2 (by decide) (hq _ w_169) (fun _ h9 => h9) rfl dX7_readLine_81 ?_
        refine lv_icmp_ge (tgt := 101) hx hb dX7_readLine_84 (by decide) (fun c_20 => ?_) (fun c_20 => ?_)
        · rw [if_pos c_20] at h
          refine lv_iconst (v := 0) hx hb dX7_readLine_101 (by decide) ?_
          obtain ⟨e1, e2⟩ := gb_eq2 h
          exact W.zret (v := 0) hx hb hr (by decide) (fun t ht hW => gb_ri ht ⟨e2, by rw [← e1]; exact hP⟩ hS) hS.2.2 dX7_readLine_102
        · rw [if_neg c_20] at h
          refine lv_aload_n hx hb dX7_readLine_87 rfl (lv_at hl 0 rfl) ?_
          obtain ⟨z_21, h⟩ := gb_kk_s h
          refine va_get (ci := 6) (v := (.ref (b + (s_16.2.1 0)))) (C := RX7) (T := TX7) (N := 6) hx hb hq i_X7 hown hK hP 106 (gb_at b rfl) rfl 1 (by decide) (hq _ w_168) (fun _ h9 => h9) rfl dX7_readLine_88 ?_
          refine lv_aload_n hx hb dX7_readLine_91 rfl (lv_at hl 0 rfl) ?_
          refine va_get (ci := 6) (v := (.int (s_16.1 106 3))) (C := RX7) (T := TX7) (N := 6) hx hb hq i_X7 hown hK hP 106 (gb_at b rfl) rfl 3 (by decide) (hq _ w_170) (fun _ h9 => h9) rfl dX7_readLine_92 ?_
          obtain ⟨z_22, h⟩ := gb_ck_s h
          refine va_bald hx hb hK hP (s_16.2.1 0) 1 (gb_at b (gb_cY z_21)) rfl z_22 dX7_readLine_95 ?_
          refine lv_topi (fun x_23 ex_23 => ?_)
          replace h := gb_lt_s ex_23 h
          refine lv_bipush (v := 59) hx hb dX7_readLine_96 (by decide) ?_
          refine lv_icmp_eq (tgt := 103) hx hb dX7_readLine_98 (by decide) (fun c_24 => ?_) (fun c_24 => ?_)
          · rw [if_pos c_24] at h
            refine lv_aload_n hx hb dX7_readLine_103 rfl (lv_at hl 0 rfl) ?_
            refine lv_dup hx hb dX7_readLine_104 rfl ?_
            refine va_get (ci := 6) (v := (.int (s_16.1 106 3))) (C := RX7) (T := TX7) (N := 6) hx hb hq i_X7 hown hK hP 106 (gb_at b rfl) rfl 3 (by decide) (hq _ w_170) (fun _ h9 => h9) rfl dX7_readLine_105 ?_
            refine lv_iconst (v := 1) hx hb dX7_readLine_108 (by decide) ?_
            refine lv_iadd hx hb dX7_readLine_109 ?_
            refine gb_put (ci := 6) (v := (.int ((s_16.1 106 3) + 1))) (ty := .int) (C := RX7) (T := TX7) (N := 6) hx hb hq i_X7 tyX7 tyX7_ok nmX7 hown hK hP (fun k h => ⟨Nat.le_add_right b k, Nat.add_lt_add_left h b⟩) hS rfl 106 rfl rfl 3 (by decide) (hq _ w_170) (fun _ h9 => h9) rfl (by decide +kernel) rfl rfl (Nat.le_of_ble_eq_true rfl) dX7_readLine_110 (fun H locs hP hz_ hS => ?_)
            obtain ⟨s_25, es_25⟩ : ∃ q, q = (gb_su s_16 106 (upd (s_16.1 106) 3 ((s_16.1 106 3) + 1))) := ⟨_, rfl⟩
            replace hP : va_P D vwCl (gb_wl b (gb_CW cT b s_25)) H := by rw [es_25]; exact hP
            replace h := gb_lt_s es_25 h
            refine lv_aload_n hx hb dX7_readLine_113 rfl (lv_at hl 1 rfl) ?_
            refine lv_iload hx hb dX7_readLine_114 (lv_at hl 2 rfl) ?_
            refine lv_aload_n hx hb dX7_readLine_116 rfl (lv_at hl 0 rfl) ?_
            refine va_get (ci := 6) (v := (.ref (b + 107))) (C := RX7) (T := TX7) (N := 6) hx hb hq i_X7 hown hK hP 106 (gb_at b rfl) rfl 0 (by decide) (hq _ w_167) (fun _ h9 => h9) rfl dX7_readLine_117 ?_
            by_cases z_26 : gb_kB v2 = true
            · rw [if_pos z_26] at h
              obtain ⟨s_27, r_28, z_29, h⟩ := gb_cd_s h
              refine gb_callv (va_runU (x := ⟨"GooseBorder$Sheet", "addLine", "(I[I)V"⟩) (C := RX0) (owner := "GooseBorder$Sheet") (As := [.int v4, .ref (b + 107)]) (rest := []) ⟨hx, hb, hml, hown, hq⟩ (cc_Border_addLine_B_c107 l D cT tt b1 b hb1 n s_25 v2 v4 s_27 r_28 z_29) (va_cwA (owner := "GooseBorder$Sheet") (C := RX0) 2 hq (gb_gU w_508 w_510 w_511 w_512 w_4 w_513) rfl rfl rfl (hSt.2.1 _ gb_n509) (by decide +kernel) ⟨Nat.le_of_ble_eq_true rfl, Nat.le_of_ble_eq_true rfl⟩) (gb_preV (r := (RX0, TX0, 1)) (ci := 0) (q0 := v2) hSt hP rfl (gb_at b (gb_cB z_26).1) hS (fun q h => Nat.le_trans hb1 h.1) hP) rfl rfl hl.1 rfl (lv_room (Nat.le_of_ble_eq_true rfl)) dX7_readLine_120 ⟨Nat.le_of_ble_eq_true rfl, Nat.le_of_ble_eq_true rfl⟩) hS (fun _ h => h) (fun _ h => h) (fun H locs hY hk hS => ?_)
              have hP := hY
              refine lv_iconst (v := 1) hx hb dX7_readLine_123 (by decide) ?_
              obtain ⟨e1, e2⟩ := gb_eq2 h
              exact W.zret (v := 1) hx hb hr (by decide) (fun t ht hW => gb_ri ht ⟨e2, by rw [← e1]; exact hP⟩ hS) hS.2.2 dX7_readLine_124
            rw [if_neg z_26] at h
            by_cases z_31 : gb_kN v2 = true
            · rw [if_pos z_31] at h
              obtain ⟨s_32, r_33, z_34, h⟩ := gb_cd_s h
              refine gb_callv (va_runU (x := ⟨"GooseBorder$Sheet", "addLine", "(I[I)V"⟩) (C := RX5) (owner := "GooseBorder$Sheet") (As := [.int v4, .ref (b + 107)]) (rest := []) ⟨hx, hb, hml, hown, hq⟩ (cc_Lines_addLine_N_c107 l D cT tt b1 b hb1 n s_25 v2 v4 s_32 r_33 z_34) (va_cwA (owner := "GooseBorder$Sheet") (C := RX5) 2 hq (gb_gU w_508 w_510 w_524 w_519 w_6 w_520) rfl rfl rfl (hSt.2.1 _ gb_n509) (by decide +kernel) ⟨Nat.le_of_ble_eq_true rfl, Nat.le_of_ble_eq_true rfl⟩) (gb_preV (r := (RX5, TX5, 4)) (ci := 4) (q0 := v2) hSt hP rfl (gb_at b (gb_cN z_31).1) hS (fun q h => Nat.le_trans hb1 h.1) hP) rfl rfl hl.1 rfl (lv_room (Nat.le_of_ble_eq_true rfl)) dX7_readLine_120 ⟨Nat.le_of_ble_eq_true rfl, Nat.le_of_ble_eq_true rfl⟩) hS (fun _ h => h) (fun _ h => h) (fun H locs hY hk hS => ?_)
              have hP := hY
              refine lv_iconst (v := 1) hx hb dX7_readLine_123 (by decide) ?_
              obtain ⟨e1, e2⟩ := gb_eq2 h
              exact W.zret (v := 1) hx hb hr (by decide) (fun t ht hW => gb_ri ht ⟨e2, by rw [← e1]; exact hP⟩ hS) hS.2.2 dX7_readLine_124
            rw [if_neg z_31] at h
            by_cases z_36 : gb_kL v2 = true
            · rw [if_pos z_36] at h
              obtain ⟨s_37, r_38, z_39, h⟩ := gb_cd_s h
              refine gb_callv (va_runU (x := ⟨"GooseBorder$Sheet", "addLine", "(I[I)V"⟩) (C := RX3) (owner := "GooseBorder$Sheet") (As := [.int v4, .ref (b + 107)]) (rest := []) ⟨hx, hb, hml, hown, hq⟩ (cc_Lines_addLine_L_c107 l D cT tt b1 b hb1 n s_25 v2 v4 s_37 r_38 z_39) (va_cwA (owner := "GooseBorder$Sheet") (C := RX3) 2 hq (gb_gU w_508 w_510 w_523 w_519 w_6 w_520) rfl rfl rfl (hSt.2.1 _ gb_n509) (by decide +kernel) ⟨Nat.le_of_ble_eq_true rfl, Nat.le_of_ble_eq_true rfl⟩) (gb_preV (r := (RX3, TX3, 4)) (ci := 3) (q0 := v2) hSt hP rfl (gb_at b (gb_cL z_36).1) hS (fun q h => Nat.le_trans hb1 h.1) hP) rfl rfl hl.1 rfl (lv_room (Nat.le_of_ble_eq_true rfl)) dX7_readLine_120 ⟨Nat.le_of_ble_eq_true rfl, Nat.le_of_ble_eq_true rfl⟩) hS (fun _ h => h) (fun _ h => h) (fun H locs hY hk hS => ?_)
              have hP := hY
              refine lv_iconst (v := 1) hx hb dX7_readLine_123 (by decide) ?_
              obtain ⟨e1, e2⟩ := gb_eq2 h
              exact W.zret (v := 1) hx hb hr (by decide) (fun t ht hW => gb_ri ht ⟨e2, by rw [← e1]; exact hP⟩ hS) hS.2.2 dX7_readLine_124
            rw [if_neg z_36] at h
            by_cases z_41 : gb_kD v2 = true
            · rw [if_pos z_41] at h
              obtain ⟨s_42, r_43, z_44, h⟩ := gb_cd_s h
              refine gb_callv (va_runU (x := ⟨"GooseBorder$Sheet", "addLine", "(I[I)V"⟩) (C := RX1) (owner := "GooseBorder$Sheet") (As := [.int v4, .ref (b + 107)]) (rest := []) ⟨hx, hb, hml, hown, hq⟩ (cc_Lines_addLine_D_c107 l D cT tt b1 b hb1 n s_25 v2 v4 s_42 r_43 z_44) (va_cwA (owner := "GooseBorder$Sheet") (C := RX1) 2 hq (gb_gU w_508 w_510 w_518 w_519 w_6 w_520) rfl rfl rfl (hSt.2.1 _ gb_n509) (by decide +kernel) ⟨Nat.le_of_ble_eq_true rfl, Nat.le_of_ble_eq_true rfl⟩) (gb_preV (r := (RX1, TX1, 4)) (ci := 1) (q0 := v2) hSt hP rfl (gb_at b (gb_cD z_41).1) hS (fun q h => Nat.le_trans hb1 h.1) hP) rfl rfl hl.1 rfl (lv_room (Nat.le_of_ble_eq_true rfl)) dX7_readLine_120 ⟨Nat.le_of_ble_eq_true rfl, Nat.le_of_ble_eq_true rfl⟩) hS (fun _ h => h) (fun _ h => h) (fun H locs hY hk hS => ?_)
              have hP := hY
              refine lv_iconst (v := 1) hx hb dX7_readLine_123 (by decide) ?_
              obtain ⟨e1, e2⟩ := gb_eq2 h
              exact W.zret (v := 1) hx hb hr (by decide) (fun t ht hW => gb_ri ht ⟨e2, by rw [← e1]; exact hP⟩ hS) hS.2.2 dX7_readLine_124
            rw [if_neg z_41] at h
            cases h
          · rw [if_neg c_24] at h
            refine lv_iconst (v := 0) hx hb dX7_readLine_101 (by decide) ?_
            obtain ⟨e1, e2⟩ := gb_eq2 h
            exact W.zret (v := 0) hx hb hr (by decide) (fun t ht hW => gb_ri ht ⟨e2, by rw [← e1]; exact hP⟩ hS) hS.2.2 dX7_readLine_102
      · rw [if_neg c_15] at h
        refine lv_aload_n hx hb dX7_readLine_49 rfl (lv_at hl 0 rfl) ?_
        obtain ⟨s_46, r_47, z_48, h⟩ := gb_cd_s h
        refine gb_callv (va_runV (C := RX7) (As := []) (rest := []) ⟨hx, hb, hml, hown, hq⟩ (cc_Reader_skipBlanks l D cT tt b1 b hb1 n σ s_46 r_47 z_48) (cwV 0 hq (gb_gV w_380 w_382 s_1_0 w_10 w_383) rfl rfl rfl (by decide +kernel) ⟨Nat.le_of_ble_eq_true rfl, Nat.le_of_ble_eq_true rfl⟩) (gb_preV (r := (RX7, TX7, 6)) (ci := 6) (q0 := 106) hSt hP rfl (gb_at b rfl) hS (fun q h => Nat.le_trans hb1 h.1) hP) rfl rfl hl.1 rfl (lv_room (Nat.le_of_ble_eq_true rfl)) dX7_readLine_50 ⟨Nat.le_of_ble_eq_true rfl, Nat.le_of_ble_eq_true rfl⟩) hS (fun _ h => h) (fun _ h => h) (fun H locs hY hk hS => ?_)
        have hP := hY
        refine lv_aload_n hx hb dX7_readLine_53 rfl (lv_at hl 0 rfl) ?_
        refine lv_iload hx hb dX7_readLine_54 (lv_at hl 2 rfl) ?_
        refine lv_iload hx hb dX7_readLine_56 (lv_at hl 3 rfl) ?_
        obtain ⟨s_50, r_51, z_52, h⟩ := gb_cd_s h
        refine gb_calli (va_runV (C := RX7) (As := [.int v4, .int v5]) (rest := []) ⟨hx, hb, hml, hown, hq⟩ (cc_Reader_takeNumber l D cT tt b1 b hb1 n s_46 v4 v5 s_50 r_51 z_52) (cwV 2 hq (gb_gV w_498 w_500 s_1_5 w_10 w_501) rfl rfl rfl (by decide +kernel) ⟨Nat.le_of_ble_eq_true rfl, Nat.le_of_ble_eq_true rfl⟩) (gb_preV (r := (RX7, TX7, 6)) (ci := 6) (q0 := 106) hSt hP rfl (gb_at b rfl) hS (fun q h => Nat.le_trans hb1 h.1) hP) rfl rfl hl.1 rfl (lv_room (Nat.le_of_ble_eq_true rfl)) dX7_readLine_58 ⟨Nat.le_of_ble_eq_true rfl, Nat.le_of_ble_eq_true rfl⟩) hS (fun _ h => h) (fun _ h => h) (fun q_53 H locs hY hk hS => ?_)
        obtain ⟨hq_53, hP⟩ := hY
        replace hq_53 := hq_53.symm
        subst hq_53
        refine lv_if_ne (tgt := 66) hx hb dX7_readLine_61 (by decide) (fun c_54 => ?_) (fun c_54 => ?_)
        · rw [if_neg c_54] at h
          obtain ⟨x_55, ex_55⟩ : ∃ q, q = (v5 + 1) := ⟨_, rfl⟩
          replace h := gb_lt_s ex_55 h
          refine lv_iinc (v := x_55) (lv' := [(5, .int x_55), (0, .ref (b + 106)), (2, .ref (b + v2)), (4, .int v4)]) hx hb dX7_readLine_66 hl (k := 3) rfl (by rw [ex_55]; rfl) (by decide) rfl (fun ls hl => ?_)
          refine lv_goto (tgt := 38) hx hb dX7_readLine_69 (by decide) ?_
          exact ih _ _ _ _ _ _ _ h hP hS (lv_sub hl [1, 2, 3, 0] rfl)
        · rw [if_pos c_54] at h
          refine lv_iconst (v := 0) hx hb dX7_readLine_64 (by decide) ?_
          obtain ⟨e1, e2⟩ := gb_eq2 h
          exact W.zret (v := 0) hx hb hr (by decide) (fun t ht hW => gb_ri ht ⟨e2, by rw [← e1]; exact hP⟩ hS) hS.2.2 dX7_readLine_65
  unfold cs_Reader_readLine_S at h
  refine lv_aload_n hx hb dX7_readLine_0 rfl (lv_at hl 0 rfl) ?_
  refine va_get (ci := 6) (v := (.int (σ.1 106 3))) (C := RX7) (T := TX7) (N := 6) hx hb hq i_X7 hown hK hP 106 (gb_at b rfl) rfl 3 (by decide) (hq _ w_170) (fun _ h9 => h9) rfl dX7_readLine_1 ?_
  refine lv_topi (fun x_1 ex_1 => ?_)
  replace h := gb_lt_s ex_1 h
  refine lv_istore_n (lv' := [(3, .int x_1), (0, .ref (b + 106)), (1, .int p1), (2, .ref (b + p2))]) hx hb dX7_readLine_4 rfl hl (by decide) rfl (fun ls hl => ?_)
  refine lv_aload_n hx hb dX7_readLine_5 rfl (lv_at hl 1 rfl) ?_
  refine lv_iload_n hx hb dX7_readLine_6 rfl (lv_at hl 2 rfl) ?_
  obtain ⟨s_2, r_3, z_4, h⟩ := gb_cd_s h
  refine gb_calli (va_runV (C := RX7) (As := [.int p1]) (rest := []) ⟨hx, hb, hml, hown, hq⟩ (cc_Reader_takeWord l D cT tt ak av b1 b hb1 n σ p1 s_2 r_3 z_4) (cwV 1 hq (gb_gV w_388 w_390 s_1_2 w_10 w_391) rfl rfl rfl (by decide +kernel) ⟨Nat.le_of_ble_eq_true rfl, Nat.le_of_ble_eq_true rfl⟩) (gb_preV2 (r := (RX7, TX7, 6)) (ci := 6) (q0 := 106) hSt2 hP rfl (gb_at b rfl) hS (fun q h => Nat.le_trans hb1 h.1) hP) rfl rfl hl.1 rfl (lv_room (Nat.le_of_ble_eq_true rfl)) dX7_readLine_7 ⟨Nat.le_of_ble_eq_true rfl, Nat.le_of_ble_eq_true rfl⟩) hS (fun _ h => h) (fun _ h => h) (fun q_5 H locs hY hk hS => ?_)
  obtain ⟨hq_5, hP⟩ := hY
  replace hq_5 := hq_5.symm
  subst hq_5
  refine lv_istore (lv' := [(4, .int r_3), (3, .int x_1), (0, .ref (b + 106)), (1, .int p1), (2, .ref (b + p2))]) hx hb dX7_readLine_10 hl (by decide) rfl (fun ls hl => ?_)
  refine lv_iload hx hb dX7_readLine_12 (lv_at hl 0 rfl) ?_
  refine lv_iconst (v := (-1)) hx hb dX7_readLine_14 (by decide) ?_
  refine lv_icmp_ne (tgt := 20) hx hb dX7_readLine_15 (by decide) (fun c_6 => ?_) (fun c_6 => ?_)
  · rw [if_neg c_6] at h
    refine lv_aload_n hx hb dX7_readLine_20 rfl (lv_at hl 4 rfl) ?_
    refine lv_iload hx hb dX7_readLine_21 (lv_at hl 0 rfl) ?_
    by_cases z_7 : gb_kB p2 = true
    · rw [if_pos z_7] at h
      obtain ⟨s_8, r_9, z_10, h⟩ := gb_cd_s h
      refine gb_calli (va_runU (x := ⟨"GooseBorder$Sheet", "hasRoomFor", "(I)Z"⟩) (C := RX0) (owner := "GooseBorder$Sheet") (As := [.int r_3]) (rest := []) ⟨hx, hb, hml, hown, hq⟩ (cc_Border_hasRoomFor_B l D cT tt b1 b hb1 n s_2 p2 r_3 s_8 r_9 z_10) (va_cwA (owner := "GooseBorder$Sheet") (C := RX0) 1 hq (gb_gU w_466 w_468 w_469 w_470 w_4 w_471) rfl rfl rfl (hSt.2.1 _ gb_n467) (by decide +kernel) ⟨Nat.le_of_ble_eq_true rfl, Nat.le_of_ble_eq_true rfl⟩) (gb_preV (r := (RX0, TX0, 1)) (ci := 0) (q0 := p2) hSt hP rfl (gb_at b (gb_cB z_7).1) hS (fun q h => Nat.le_trans hb1 h.1) hP) rfl rfl hl.1 rfl (lv_room (Nat.le_of_ble_eq_true rfl)) dX7_readLine_23 ⟨Nat.le_of_ble_eq_true rfl, Nat.le_of_ble_eq_true rfl⟩) hS (fun _ h => h) (fun _ h => h) (fun q_11 H locs hY hk hS => ?_)
      obtain ⟨hq_11, hP⟩ := hY
      replace hq_11 := hq_11.symm
      subst hq_11
      refine lv_if_ne (tgt := 35) hx hb dX7_readLine_26 (by decide) (fun c_12 => ?_) (fun c_12 => ?_)
      · rw [if_neg c_12] at h
        refine lv_iconst (v := 0) hx hb dX7_readLine_35 (by decide) ?_
        refine lv_istore (lv' := [(5, .int 0), (4, .int r_3), (3, .int x_1), (0, .ref (b + 106)), (1, .int p1), (2, .ref (b + p2))]) hx hb dX7_readLine_36 hl (by decide) rfl (fun ls hl => ?_)
        exact L38_1 n _ _ _ _ _ _ _ h hP hS (lv_sub hl [3, 5, 1, 0] rfl)
      · rw [if_pos c_12] at h
        refine lv_aload_n hx hb dX7_readLine_29 rfl (lv_at hl 2 rfl) ?_
        refine lv_iconst (v := 3) hx hb dX7_readLine_30 (by decide) ?_
        refine lv_iload_n hx hb dX7_readLine_31 rfl (lv_at hl 1 rfl) ?_
        obtain ⟨s_56, r_57, z_58, h⟩ := gb_cd_s h
        refine gb_callv (va_runV (C := RX7) (As := [.int 3, .int x_1]) (rest := []) ⟨hx, hb, hml, hown, hq⟩ (cc_Reader_note l D cT tt b1 b hb1 n s_8 3 x_1 s_56 r_57 z_58) (cwV 2 hq (gb_gV w_492 w_494 s_1_4 w_10 w_495) rfl rfl rfl (by decide +kernel) ⟨Nat.le_of_ble_eq_true rfl, Nat.le_of_ble_eq_true rfl⟩) (gb_preV (r := (RX7, TX7, 6)) (ci := 6) (q0 := 106) hSt hP rfl (gb_at b rfl) hS (fun q h => Nat.le_trans hb1 h.1) hP) rfl rfl hl.1 rfl (lv_room (Nat.le_of_ble_eq_true rfl)) dX7_readLine_32 ⟨Nat.le_of_ble_eq_true rfl, Nat.le_of_ble_eq_true rfl⟩) hS (fun _ h => h) (fun _ h => h) (fun H locs hY hk hS => ?_)
        have hP := hY
        refine lv_iconst (v := 0) hx hb dX7_readLine_35 (by decide) ?_
        refine lv_istore (lv' := [(5, .int 0), (4, .int r_3), (3, .int x_1), (0, .ref (b + 106)), (1, .int p1), (2, .ref (b + p2))]) hx hb dX7_readLine_36 hl (by decide) rfl (fun ls hl => ?_)
        exact L38_1 n _ _ _ _ _ _ _ h hP hS (lv_sub hl [3, 5, 1, 0] rfl)
    rw [if_neg z_7] at h
    by_cases z_60 : gb_kN p2 = true
    · rw [if_pos z_60] at h
      obtain ⟨s_61, r_62, z_63, h⟩ := gb_cd_s h
      refine gb_calli (va_runU (x := ⟨"GooseBorder$Sheet", "hasRoomFor", "(I)Z"⟩) (C := RX5) (owner := "GooseBorder$Sheet") (As := [.int r_3]) (rest := []) ⟨hx, hb, hml, hown, hq⟩ (cc_Lines_hasRoomFor_N l D cT tt b1 b hb1 n s_2 p2 r_3 s_61 r_62 z_63) (va_cwA (owner := "GooseBorder$Sheet") (C := RX5) 1 hq (gb_gU w_466 w_468 w_491 w_481 w_6 w_482) rfl rfl rfl (hSt.2.1 _ gb_n467) (by decide +kernel) ⟨Nat.le_of_ble_eq_true rfl, Nat.le_of_ble_eq_true rfl⟩) (gb_preV (r := (RX5, TX5, 4)) (ci := 4) (q0 := p2) hSt hP rfl (gb_at b (gb_cN z_60).1) hS (fun q h => Nat.le_trans hb1 h.1) hP) rfl rfl hl.1 rfl (lv_room (Nat.le_of_ble_eq_true rfl)) dX7_readLine_23 ⟨Nat.le_of_ble_eq_true rfl, Nat.le_of_ble_eq_true rfl⟩) hS (fun _ h => h) (fun _ h => h) (fun q_64 H locs hY hk hS => ?_)
      obtain ⟨hq_64, hP⟩ := hY
      replace hq_64 := hq_64.symm
      subst hq_64
      refine lv_if_ne (tgt := 35) hx hb dX7_readLine_26 (by decide) (fun c_65 => ?_) (fun c_65 => ?_)
      · rw [if_neg c_65] at h
        refine lv_iconst (v := 0) hx hb dX7_readLine_35 (by decide) ?_
        refine lv_istore (lv' := [(5, .int 0), (4, .int r_3), (3, .int x_1), (0, .ref (b + 106)), (1, .int p1), (2, .ref (b + p2))]) hx hb dX7_readLine_36 hl (by decide) rfl (fun ls hl => ?_)
        exact L38_1 n _ _ _ _ _ _ _ h hP hS (lv_sub hl [3, 5, 1, 0] rfl)
      · rw [if_pos c_65] at h
        refine lv_aload_n hx hb dX7_readLine_29 rfl (lv_at hl 2 rfl) ?_
        refine lv_iconst (v := 3) hx hb dX7_readLine_30 (by decide) ?_
        refine lv_iload_n hx hb dX7_readLine_31 rfl (lv_at hl 1 rfl) ?_
        obtain ⟨s_66, r_67, z_68, h⟩ := gb_cd_s h
        refine gb_callv (va_runV (C := RX7) (As := [.int 3, .int x_1]) (rest := []) ⟨hx, hb, hml, hown, hq⟩ (cc_Reader_note l D cT tt b1 b hb1 n s_61 3 x_1 s_66 r_67 z_68) (cwV 2 hq (gb_gV w_492 w_494 s_1_4 w_10 w_495) rfl rfl rfl (by decide +kernel) ⟨Nat.le_of_ble_eq_true rfl, Nat.le_of_ble_eq_true rfl⟩) (gb_preV (r := (RX7, TX7, 6)) (ci := 6) (q0 := 106) hSt hP rfl (gb_at b rfl) hS (fun q h => Nat.le_trans hb1 h.1) hP) rfl rfl hl.1 rfl (lv_room (Nat.le_of_ble_eq_true rfl)) dX7_readLine_32 ⟨Nat.le_of_ble_eq_true rfl, Nat.le_of_ble_eq_true rfl⟩) hS (fun _ h => h) (fun _ h => h) (fun H locs hY hk hS => ?_)
        have hP := hY
        refine lv_iconst (v := 0) hx hb dX7_readLine_35 (by decide) ?_
        refine lv_istore (lv' := [(5, .int 0), (4, .int r_3), (3, .int x_1), (0, .ref (b + 106)), (1, .int p1), (2, .ref (b + p2))]) hx hb dX7_readLine_36 hl (by decide) rfl (fun ls hl => ?_)
        exact L38_1 n _ _ _ _ _ _ _ h hP hS (lv_sub hl [3, 5, 1, 0] rfl)
    rw [if_neg z_60] at h
    by_cases z_70 : gb_kL p2 = true
    · rw [if_pos z_70] at h
      obtain ⟨s_71, r_72, z_73, h⟩ := gb_cd_s h
      refine gb_calli (va_runU (x := ⟨"GooseBorder$Sheet", "hasRoomFor", "(I)Z"⟩) (C := RX3) (owner := "GooseBorder$Sheet") (As := [.int r_3]) (rest := []) ⟨hx, hb, hml, hown, hq⟩ (cc_Lines_hasRoomFor_L l D cT tt b1 b hb1 n s_2 p2 r_3 s_71 r_72 z_73) (va_cwA (owner := "GooseBorder$Sheet") (C := RX3) 1 hq (gb_gU w_466 w_468 w_490 w_481 w_6 w_482) rfl rfl rfl (hSt.2.1 _ gb_n467) (by decide +kernel) ⟨Nat.le_of_ble_eq_true rfl, Nat.le_of_ble_eq_true rfl⟩) (gb_preV (r := (RX3, TX3, 4)) (ci := 3) (q0 := p2) hSt hP rfl (gb_at b (gb_cL z_70).1) hS (fun q h => Nat.le_trans hb1 h.1) hP) rfl rfl hl.1 rfl (lv_room (Nat.le_of_ble_eq_true rfl)) dX7_readLine_23 ⟨Nat.le_of_ble_eq_true rfl, Nat.le_of_ble_eq_true rfl⟩) hS (fun _ h => h) (fun _ h => h) (fun q_74 H locs hY hk hS => ?_)
      obtain ⟨hq_74, hP⟩ := hY
      replace hq_74 := hq_74.symm
      subst hq_74
      refine lv_if_ne (tgt := 35) hx hb dX7_readLine_26 (by decide) (fun c_75 => ?_) (fun c_75 => ?_)
      · rw [if_neg c_75] at h
        refine lv_iconst (v := 0) hx hb dX7_readLine_35 (by decide) ?_
        refine lv_istore (lv' := [(5, .int 0), (4, .int r_3), (3, .int x_1), (0, .ref (b + 106)), (1, .int p1), (2, .ref (b + p2))]) hx hb dX7_readLine_36 hl (by decide) rfl (fun ls hl => ?_)
        exact L38_1 n _ _ _ _ _ _ _ h hP hS (lv_sub hl [3, 5, 1, 0] rfl)
      · rw [if_pos c_75] at h
        refine lv_aload_n hx hb dX7_readLine_29 rfl (lv_at hl 2 rfl) ?_
        refine lv_iconst (v := 3) hx hb dX7_readLine_30 (by decide) ?_
        refine lv_iload_n hx hb dX7_readLine_31 rfl (lv_at hl 1 rfl) ?_
        obtain ⟨s_76, r_77, z_78, h⟩ := gb_cd_s h
        refine gb_callv (va_runV (C := RX7) (As := [.int 3, .int x_1]) (rest := []) ⟨hx, hb, hml, hown, hq⟩ (cc_Reader_note l D cT tt b1 b hb1 n s_71 3 x_1 s_76 r_77 z_78) (cwV 2 hq (gb_gV w_492 w_494 s_1_4 w_10 w_495) rfl rfl rfl (by decide +kernel) ⟨Nat.le_of_ble_eq_true rfl, Nat.le_of_ble_eq_true rfl⟩) (gb_preV (r := (RX7, TX7, 6)) (ci := 6) (q0 := 106) hSt hP rfl (gb_at b rfl) hS (fun q h => Nat.le_trans hb1 h.1) hP) rfl rfl hl.1 rfl (lv_room (Nat.le_of_ble_eq_true rfl)) dX7_readLine_32 ⟨Nat.le_of_ble_eq_true rfl, Nat.le_of_ble_eq_true rfl⟩) hS (fun _ h => h) (fun _ h => h) (fun H locs hY hk hS => ?_)
        have hP := hY
        refine lv_iconst (v := 0) hx hb dX7_readLine_35 (by decide) ?_
        refine lv_istore (lv' := [(5, .int 0), (4, .int r_3), (3, .int x_1), (0, .ref (b + 106)), (1, .int p1), (2, .ref (b + p2))]) hx hb dX7_readLine_36 hl (by decide) rfl (fun ls hl => ?_)
        exact L38_1 n _ _ _ _ _ _ _ h hP hS (lv_sub hl [3, 5, 1, 0] rfl)
    rw [if_neg z_70] at h
    by_cases z_80 : gb_kD p2 = true
    · rw [if_pos z_80] at h
      obtain ⟨s_81, r_82, z_83, h⟩ := gb_cd_s h
      refine gb_calli (va_runU (x := ⟨"GooseBorder$Sheet", "hasRoomFor", "(I)Z"⟩) (C := RX1) (owner := "GooseBorder$Sheet") (As := [.int r_3]) (rest := []) ⟨hx, hb, hml, hown, hq⟩ (cc_Lines_hasRoomFor_D l D cT tt b1 b hb1 n s_2 p2 r_3 s_81 r_82 z_83) (va_cwA (owner := "GooseBorder$Sheet") (C := RX1) 1 hq (gb_gU w_466 w_468 w_480 w_481 w_6 w_482) rfl rfl rfl (hSt.2.1 _ gb_n467) (by decide +kernel) ⟨Nat.le_of_ble_eq_true rfl, Nat.le_of_ble_eq_true rfl⟩) (gb_preV (r := (RX1, TX1, 4)) (ci := 1) (q0 := p2) hSt hP rfl (gb_at b (gb_cD z_80).1) hS (fun q h => Nat.le_trans hb1 h.1) hP) rfl rfl hl.1 rfl (lv_room (Nat.le_of_ble_eq_true rfl)) dX7_readLine_23 ⟨Nat.le_of_ble_eq_true rfl, Nat.le_of_ble_eq_true rfl⟩) hS (fun _ h => h) (fun _ h => h) (fun q_84 H locs hY hk hS => ?_)
      obtain ⟨hq_84, hP⟩ := hY
      replace hq_84 := hq_84.symm
      subst hq_84
      refine lv_if_ne (tgt := 35) hx hb dX7_readLine_26 (by decide) (fun c_85 => ?_) (fun c_85 => ?_)
      · rw [if_neg c_85] at h
        refine lv_iconst (v := 0) hx hb dX7_readLine_35 (by decide) ?_
        refine lv_istore (lv' := [(5, .int 0), (4, .int r_3), (3, .int x_1), (0, .ref (b + 106)), (1, .int p1), (2, .ref (b + p2))]) hx hb dX7_readLine_36 hl (by decide) rfl (fun ls hl => ?_)
        exact L38_1 n _ _ _ _ _ _ _ h hP hS (lv_sub hl [3, 5, 1, 0] rfl)
      · rw [if_pos c_85] at h
        refine lv_aload_n hx hb dX7_readLine_29 rfl (lv_at hl 2 rfl) ?_
        refine lv_iconst (v := 3) hx hb dX7_readLine_30 (by decide) ?_
        refine lv_iload_n hx hb dX7_readLine_31 rfl (lv_at hl 1 rfl) ?_
        obtain ⟨s_86, r_87, z_88, h⟩ := gb_cd_s h
        refine gb_callv (va_runV (C := RX7) (As := [.int 3, .int x_1]) (rest := []) ⟨hx, hb, hml, hown, hq⟩ (cc_Reader_note l D cT tt b1 b hb1 n s_81 3 x_1 s_86 r_87 z_88) (cwV 2 hq (gb_gV w_492 w_494 s_1_4 w_10 w_495) rfl rfl rfl (by decide +kernel) ⟨Nat.le_of_ble_eq_true rfl, Nat.le_of_ble_eq_true rfl⟩) (gb_preV (r := (RX7, TX7, 6)) (ci := 6) (q0 := 106) hSt hP rfl (gb_at b rfl) hS (fun q h => Nat.le_trans hb1 h.1) hP) rfl rfl hl.1 rfl (lv_room (Nat.le_of_ble_eq_true rfl)) dX7_readLine_32 ⟨Nat.le_of_ble_eq_true rfl, Nat.le_of_ble_eq_true rfl⟩) hS (fun _ h => h) (fun _ h => h) (fun H locs hY hk hS => ?_)
        have hP := hY
        refine lv_iconst (v := 0) hx hb dX7_readLine_35 (by decide) ?_
        refine lv_istore (lv' := [(5, .int 0), (4, .int r_3), (3, .int x_1), (0, .ref (b + 106)), (1, .int p1), (2, .ref (b + p2))]) hx hb dX7_readLine_36 hl (by decide) rfl (fun ls hl => ?_)
        exact L38_1 n _ _ _ _ _ _ _ h hP hS (lv_sub hl [3, 5, 1, 0] rfl)
    rw [if_neg z_80] at h
    cases h
  · rw [if_pos c_6] at h
    refine lv_iconst (v := 0) hx hb dX7_readLine_18 (by decide) ?_
    obtain ⟨e1, e2⟩ := gb_eq2 h
    exact W.zret (v := 0) hx hb hr (by decide) (fun t ht hW => gb_ri ht ⟨e2, by rw [← e1]; exact hP⟩ hS) hS.2.2 dX7_readLine_19
theorem w_387 : (Cond.code ({ cls := "GooseBorder$Reader", name := "readLine", desc := "(ILGooseBorder$Sheet;)Z" } : MethodName) prog_9_method_3_code (6 : Nat) (Option.some FieldType.boolean)) ∈ gb_wA := gb_t2 147 rfl rfl
theorem w_384 : (Cond.methodLink "GooseBorder$Reader" (46 : Nat) ({ cls := "GooseBorder$Reader", name := "readLine", desc := "(ILGooseBorder$Sheet;)Z" } : MethodName)) ∈ gb_wA := gb_t2 144 rfl rfl
theorem w_386 : (Cond.instanceMethod ({ cls := "GooseBorder$Reader", name := "readLine", desc := "(ILGooseBorder$Sheet;)Z" } : MethodName)) ∈ gb_wA := gb_t2 146 rfl rfl
theorem s_1_1 : Cond.selects "GooseBorder$Reader" (⟨"GooseBorder$Reader", "readLine", "(ILGooseBorder$Sheet;)Z"⟩ : MethodName) (⟨"GooseBorder$Reader", "readLine", "(ILGooseBorder$Sheet;)Z"⟩ : MethodName) ∈ gb_wA := gb_s1 1 rfl rfl
theorem dX7_read_68 : decode cX7_read 68 = .ok (.ifCond .ne 17, 3) := dc_154 (show ((cX7_read.data.toList.drop 68).take 3).map UInt8.toNat = [154, 0, 17] by decide +kernel) rfl
theorem dX7_read_85 : decode cX7_read 85 = .ok (.aload_n 0, 1) := dc_42 (show ((cX7_read.data.toList.drop 85).take 1).map UInt8.toNat = [42] by decide +kernel)
theorem dX7_read_86 : decode cX7_read 86 = .ok (.invokevirtual 43, 3) := dc_182 (show ((cX7_read.data.toList.drop 86).take 3).map UInt8.toNat = [182, 0, 43] by decide +kernel) rfl
theorem dX7_read_89 : decode cX7_read 89 = .ok (.iinc 5 1, 3) := dc_132 (show ((cX7_read.data.toList.drop 89).take 3).map UInt8.toNat = [132, 5, 1] by decide +kernel) rfl
theorem dX7_read_92 : decode cX7_read 92 = .ok (.goto (-50), 3) := dc_167 (show ((cX7_read.data.toList.drop 92).take 3).map UInt8.toNat = [167, 255, 206] by decide +kernel) rfl
theorem dX7_read_71 : decode cX7_read 71 = .ok (.aload_n 0, 1) := dc_42 (show ((cX7_read.data.toList.drop 71).take 1).map UInt8.toNat = [42] by decide +kernel)
theorem dX7_read_72 : decode cX7_read 72 = .ok (.iconst 1, 1) := dc_4 (show ((cX7_read.data.toList.drop 72).take 1).map UInt8.toNat = [4] by decide +kernel)
theorem dX7_read_73 : decode cX7_read 73 = .ok (.putfield 32, 3) := dc_181 (show ((cX7_read.data.toList.drop 73).take 3).map UInt8.toNat = [181, 0, 32] by decide +kernel) rfl
theorem dX7_read_76 : decode cX7_read 76 = .ok (.aload_n 0, 1) := dc_42 (show ((cX7_read.data.toList.drop 76).take 1).map UInt8.toNat = [42] by decide +kernel)
theorem dX7_read_77 : decode cX7_read 77 = .ok (.aload_n 0, 1) := dc_42 (show ((cX7_read.data.toList.drop 77).take 1).map UInt8.toNat = [42] by decide +kernel)
theorem dX7_read_78 : decode cX7_read 78 = .ok (.getfield 29, 3) := dc_180 (show ((cX7_read.data.toList.drop 78).take 3).map UInt8.toNat = [180, 0, 29] by decide +kernel) rfl
theorem dX7_read_81 : decode cX7_read 81 = .ok (.putfield 35, 3) := dc_181 (show ((cX7_read.data.toList.drop 81).take 3).map UInt8.toNat = [181, 0, 35] by decide +kernel) rfl
theorem dX7_read_84 : decode cX7_read 84 = .ok (.return_, 1) := dc_177 (show ((cX7_read.data.toList.drop 84).take 1).map UInt8.toNat = [177] by decide +kernel)
theorem dX4_clear_0 : decode cX4_clear 0 = .ok (.aload_n 0, 1) := dc_42 (show ((cX4_clear.data.toList.drop 0).take 1).map UInt8.toNat = [42] by decide +kernel)
theorem dX4_clear_1 : decode cX4_clear 1 = .ok (.getfield 21, 3) := dc_180 (show ((cX4_clear.data.toList.drop 1).take 3).map UInt8.toNat = [180, 0, 21] by decide +kernel) rfl
theorem dX4_clear_4 : decode cX4_clear 4 = .ok (.iconst 0, 1) := dc_3 (show ((cX4_clear.data.toList.drop 4).take 1).map UInt8.toNat = [3] by decide +kernel)
theorem dX4_clear_5 : decode cX4_clear 5 = .ok (.iconst 0, 1) := dc_3 (show ((cX4_clear.data.toList.drop 5).take 1).map UInt8.toNat = [3] by decide +kernel)
theorem dX4_clear_6 : decode cX4_clear 6 = .ok (.iastore, 1) := dc_79 (show ((cX4_clear.data.toList.drop 6).take 1).map UInt8.toNat = [79] by decide +kernel)
theorem dX4_clear_7 : decode cX4_clear 7 = .ok (.return_, 1) := dc_177 (show ((cX4_clear.data.toList.drop 7).take 1).map UInt8.toNat = [177] by decide +kernel)
def cs_Lines_clear_N (n : Nat) (σ : gb_S) (k0 : Nat) : gb_CR Unit := gb_kk (gb_kN k0) (gb_lt (gb_su σ (k0 + 1) (upd (σ.1 (k0 + 1)) (Int32.toNatClampNeg 0) 0)) (fun s_2 => some (s_2, ())))
set_option maxHeartbeats 8000000 in
set_option maxRecDepth 100000 in
theorem cc_Lines_clear_N (l : Launch) (D : va_G) (cT : Nat → ClassId) (tt : Nat → Nat) (b1 b : Nat) (hb1 : b1 ≤ b) (n : Nat) (σ : gb_S) (k0 : Nat) (σE : gb_S) (rE : Unit) (h : cs_Lines_clear_N n σ k0 = some (σE, rE)) : Met l yX4_clear (.code yX4_clear cX4_clear 1 none :: gb_wA) ({ frames := 0, cells := 0, slots := 0, locals := 0 }) (gb_Pc D cT tt b1 [.ref (b + k0)] (fun h => va_P D vwCl (gb_wl b (gb_CW cT b σ)) h)) (gb_Qv (fun h => va_P D vwCl (gb_wl b (gb_CW cT b σE)) h) (gb_fr b 135)) 0 0 (gb_fr b 135) := by
  refine Met.ofW (cc := cX4_clear) (maxL := 1) (ret := none) (by decide) rfl ?_
  intro p e s m args below meth c s₁ B hml hv
  obtain ⟨rfl, hSt, hP⟩ := hv
  have hx := B.exec
  have hb := B.bytes
  have hr := B.returns
  have hts := atoms_spec (ws := .code yX4_clear cX4_clear 1 none :: gb_wA) B.pre
  have hq : ∀ w ∈ gb_wA, w.before _ s = true := fun w h => hts w (List.mem_cons_of_mem _ h)
  have hown : s.vm.findClass RX4 = some m.cls := findClass_of_methodNamed B.named
  have hlocks := B.notSynchronized
  clear B hts
  have hK := hSt.1
  have hS : va_S (gb_fr b 135) s.heap s.heap [] := va_S.rf
  have hl := lv_entry ([.ref (b + k0)]) (n := 1) (Nat.le_of_ble_eq_true rfl)
  rw [lg_entry_eq]
  generalize (lg_sl ([.ref (b + k0)]) ++ List.replicate (1 - (lg_sl ([.ref (b + k0)])).length) Slot.unset).toArray = ls at hl ⊢
  replace hl : lv_has ls 1 [(0, .ref (b + k0))] := hl
  unfold cs_Lines_clear_N at h
  obtain ⟨z_1, h⟩ := gb_kk_s h
  refine lv_aload_n hx hb dX4_clear_0 rfl (lv_at hl 0 rfl) ?_
  refine va_get (ci := 4) (v := (.ref (b + (k0 + 1)))) (C := RX5) (T := TX5) (N := 4) hx hb hq i_X5 hown hK hP k0 (gb_at b (gb_cN z_1).1) rfl 3 (by decide) (hq _ w_52) (fun x9 h9 => u_same (hq _ w_53) x9 h9) rfl dX4_clear_1 ?_
  refine lv_iconst (v := 0) hx hb dX4_clear_4 (by decide) ?_
  refine lv_iconst (v := 0) hx hb dX4_clear_5 (by decide) ?_
  refine va_iast (x := 0) hx hb hK hP (gb_D (fun k h => ⟨Nat.le_add_right b k, Nat.add_lt_add_left h b⟩)) hS (k0 + 1) 0 (gb_at b (gb_cN z_1).2) rfl (gb_in rfl) dX4_clear_6 (fun H locs hP hD hS => ?_)
  rw [gb_set] at hP
  obtain ⟨s_2, es_2⟩ : ∃ q, q = (gb_su σ (k0 + 1) (upd (σ.1 (k0 + 1)) (Int32.toNatClampNeg 0) 0)) := ⟨_, rfl⟩
  replace hP : va_P D vwCl (gb_wl b (gb_CW cT b s_2)) H := by rw [es_2, ← gb_wN z_1]; exact hP
  replace h := gb_lt_s es_2 h
  obtain ⟨e1, -⟩ := gb_eq2 h
  exact W.vret hx hb hr (fun t ht hW => gb_rv ht (by rw [← e1]; exact hP) hS) hS.2.2 dX4_clear_7
theorem w_377 : (Cond.code ({ cls := "GooseBorder$Lines", name := "clear", desc := "()V" } : MethodName) prog_6_method_2_code (1 : Nat) (Option.none : Option FieldType)) ∈ gb_wA := gb_t2 137 rfl rfl
theorem w_379 : (Cond.selects "GooseBorder$Night" ({ cls := "GooseBorder$Sheet", name := "clear", desc := "()V" } : MethodName) ({ cls := "GooseBorder$Lines", name := "clear", desc := "()V" } : MethodName)) ∈ gb_wA := gb_t2 139 rfl rfl
theorem w_376 : (Cond.instanceMethod ({ cls := "GooseBorder$Lines", name := "clear", desc := "()V" } : MethodName)) ∈ gb_wA := gb_t2 136 rfl rfl
def cs_Lines_clear_L (n : Nat) (σ : gb_S) (k0 : Nat) : gb_CR Unit := gb_kk (gb_kL k0) (gb_lt (gb_su σ (k0 + 1) (upd (σ.1 (k0 + 1)) (Int32.toNatClampNeg 0) 0)) (fun s_2 => some (s_2, ())))
set_option maxHeartbeats 8000000 in
set_option maxRecDepth 100000 in
theorem cc_Lines_clear_L (l : Launch) (D : va_G) (cT : Nat → ClassId) (tt : Nat → Nat) (b1 b : Nat) (hb1 : b1 ≤ b) (n : Nat) (σ : gb_S) (k0 : Nat) (σE : gb_S) (rE : Unit) (h : cs_Lines_clear_L n σ k0 = some (σE, rE)) : Met l yX4_clear (.code yX4_clear cX4_clear 1 none :: gb_wA) ({ frames := 0, cells := 0, slots := 0, locals := 0 }) (gb_Pc D cT tt b1 [.ref (b + k0)] (fun h => va_P D vwCl (gb_wl b (gb_CW cT b σ)) h)) (gb_Qv (fun h => va_P D vwCl (gb_wl b (gb_CW cT b σE)) h) (gb_fr b 135)) 0 0 (gb_fr b 135) := by
  refine Met.ofW (cc := cX4_clear) (maxL := 1) (ret := none) (by decide) rfl ?_
  intro p e s m args below meth c s₁ B hml hv
  obtain ⟨rfl, hSt, hP⟩ := hv
  have hx := B.exec
  have hb := B.bytes
  have hr := B.returns
  have hts := atoms_spec (ws := .code yX4_clear cX4_clear 1 none :: gb_wA) B.pre
  have hq : ∀ w ∈ gb_wA, w.before _ s = true := fun w h => hts w (List.mem_cons_of_mem _ h)
  have hown : s.vm.findClass RX4 = some m.cls := findClass_of_methodNamed B.named
  have hlocks := B.notSynchronized
  clear B hts
  have hK := hSt.1
  have hS : va_S (gb_fr b 135) s.heap s.heap [] := va_S.rf
  have hl := lv_entry ([.ref (b + k0)]) (n := 1) (Nat.le_of_ble_eq_true rfl)
  rw [lg_entry_eq]
  generalize (lg_sl ([.ref (b + k0)]) ++ List.replicate (1 - (lg_sl ([.ref (b + k0)])).length) Slot.unset).toArray = ls at hl ⊢
  replace hl : lv_has ls 1 [(0, .ref (b + k0))] := hl
  unfold cs_Lines_clear_L at h
  obtain ⟨z_1, h⟩ := gb_kk_s h
  refine lv_aload_n hx hb dX4_clear_0 rfl (lv_at hl 0 rfl) ?_
  refine va_get (ci := 3) (v := (.ref (b + (k0 + 1)))) (C := RX3) (T := TX3) (N := 4) hx hb hq i_X3 hown hK hP k0 (gb_at b (gb_cL z_1).1) rfl 3 (by decide) (hq _ w_52) (fun x9 h9 => u_same (hq _ w_53) x9 h9) rfl dX4_clear_1 ?_
  refine lv_iconst (v := 0) hx hb dX4_clear_4 (by decide) ?_
  refine lv_iconst (v := 0) hx hb dX4_clear_5 (by decide) ?_
  refine va_iast (x := 0) hx hb hK hP (gb_D (fun k h => ⟨Nat.le_add_right b k, Nat.add_lt_add_left h b⟩)) hS (k0 + 1) 0 (gb_at b (gb_cL z_1).2) rfl (gb_in rfl) dX4_clear_6 (fun H locs hP hD hS => ?_)
  rw [gb_set] at hP
  obtain ⟨s_2, es_2⟩ : ∃ q, q = (gb_su σ (k0 + 1) (upd (σ.1 (k0 + 1)) (Int32.toNatClampNeg 0) 0)) := ⟨_, rfl⟩
  replace hP : va_P D vwCl (gb_wl b (gb_CW cT b s_2)) H := by rw [es_2, ← gb_wL z_1]; exact hP
  replace h := gb_lt_s es_2 h
  obtain ⟨e1, -⟩ := gb_eq2 h
  exact W.vret hx hb hr (fun t ht hW => gb_rv ht (by rw [← e1]; exact hP) hS) hS.2.2 dX4_clear_7
theorem w_378 : (Cond.selects "GooseBorder$Law" ({ cls := "GooseBorder$Sheet", name := "clear", desc := "()V" } : MethodName) ({ cls := "GooseBorder$Lines", name := "clear", desc := "()V" } : MethodName)) ∈ gb_wA := gb_t2 138 rfl rfl
def cs_Lines_clear_D (n : Nat) (σ : gb_S) (k0 : Nat) : gb_CR Unit := gb_kk (gb_kD k0) (gb_lt (gb_su σ (k0 + 1) (upd (σ.1 (k0 + 1)) (Int32.toNatClampNeg 0) 0)) (fun s_2 => some (s_2, ())))
set_option maxHeartbeats 8000000 in
set_option maxRecDepth 100000 in
theorem cc_Lines_clear_D (l : Launch) (D : va_G) (cT : Nat → ClassId) (tt : Nat → Nat) (b1 b : Nat) (hb1 : b1 ≤ b) (n : Nat) (σ : gb_S) (k0 : Nat) (σE : gb_S) (rE : Unit) (h : cs_Lines_clear_D n σ k0 = some (σE, rE)) : Met l yX4_clear (.code yX4_clear cX4_clear 1 none :: gb_wA) ({ frames := 0, cells := 0, slots := 0, locals := 0 }) (gb_Pc D cT tt b1 [.ref (b + k0)] (fun h => va_P D vwCl (gb_wl b (gb_CW cT b σ)) h)) (gb_Qv (fun h => va_P D vwCl (gb_wl b (gb_CW cT b σE)) h) (gb_fr b 135)) 0 0 (gb_fr b 135) := by
  refine Met.ofW (cc := cX4_clear) (maxL := 1) (ret := none) (by decide) rfl ?_
  intro p e s m args below meth c s₁ B hml hv
  obtain ⟨rfl, hSt, hP⟩ := hv
  have hx := B.exec
  have hb := B.bytes
  have hr := B.returns
  have hts := atoms_spec (ws := .code yX4_clear cX4_clear 1 none :: gb_wA) B.pre
  have hq : ∀ w ∈ gb_wA, w.before _ s = true := fun w h => hts w (List.mem_cons_of_mem _ h)
  have hown : s.vm.findClass RX4 = some m.cls := findClass_of_methodNamed B.named
  have hlocks := B.notSynchronized
  clear B hts
  have hK := hSt.1
  have hS : va_S (gb_fr b 135) s.heap s.heap [] := va_S.rf
  have hl := lv_entry ([.ref (b + k0)]) (n := 1) (Nat.le_of_ble_eq_true rfl)
  rw [lg_entry_eq]
  generalize (lg_sl ([.ref (b + k0)]) ++ List.replicate (1 - (lg_sl ([.ref (b + k0)])).length) Slot.unset).toArray = ls at hl ⊢
  replace hl : lv_has ls 1 [(0, .ref (b + k0))] := hl
  unfold cs_Lines_clear_D at h
  obtain ⟨z_1, h⟩ := gb_kk_s h
  refine lv_aload_n hx hb dX4_clear_0 rfl (lv_at hl 0 rfl) ?_
  refine va_get (ci := 1) (v := (.ref (b + (k0 + 1)))) (C := RX1) (T := TX1) (N := 4) hx hb hq i_X1 hown hK hP k0 (gb_at b (gb_cD z_1).1) rfl 3 (by decide) (hq _ w_52) (fun x9 h9 => u_same (hq _ w_53) x9 h9) rfl dX4_clear_1 ?_
  refine lv_iconst (v := 0) hx hb dX4_clear_4 (by decide) ?_
  refine lv_iconst (v := 0) hx hb dX4_clear_5 (by decide) ?_
  refine va_iast (x := 0) hx hb hK hP (gb_D (fun k h => ⟨Nat.le_add_right b k, Nat.add_lt_add_left h b⟩)) hS (k0 + 1) 0 (gb_at b (gb_cD z_1).2) rfl (gb_in rfl) dX4_clear_6 (fun H locs hP hD hS => ?_)
  rw [gb_set] at hP
  obtain ⟨s_2, es_2⟩ : ∃ q, q = (gb_su σ (k0 + 1) (upd (σ.1 (k0 + 1)) (Int32.toNatClampNeg 0) 0)) := ⟨_, rfl⟩
  replace hP : va_P D vwCl (gb_wl b (gb_CW cT b s_2)) H := by rw [es_2, ← gb_wD z_1]; exact hP
  replace h := gb_lt_s es_2 h
  obtain ⟨e1, -⟩ := gb_eq2 h
  exact W.vret hx hb hr (fun t ht hW => gb_rv ht (by rw [← e1]; exact hP) hS) hS.2.2 dX4_clear_7
theorem w_375 : (Cond.selects "GooseBorder$Dawn" ({ cls := "GooseBorder$Sheet", name := "clear", desc := "()V" } : MethodName) ({ cls := "GooseBorder$Lines", name := "clear", desc := "()V" } : MethodName)) ∈ gb_wA := gb_t2 135 rfl rfl
def cs_Reader_read_c23_S_42 (n : Nat) : Nat → gb_S → Int32 → Nat → Int32 → gb_CR Unit
  | 0, _, _, _, _ => none
  | mm + 1, σ, v3, v4, v5 => (if (600 : Int32) ≤ v5 then (if (σ.1 106 4) = 0 then (if gb_kB v4 = true then gb_cd (cs_Border_clashes_B n σ v4) (fun s_19 r_20 => (if r_20 = 0 then some (s_19, ()) else gb_cd (cs_Reader_note n s_19 4 (s_19.1 106 2)) (fun s_24 _ => some (s_24, ())))) else (if gb_kN v4 = true then gb_cd (cs_Lines_clashes_N n σ v4) (fun s_29 r_30 => (if r_30 = 0 then some (s_29, ()) else gb_cd (cs_Reader_note n s_29 4 (s_29.1 106 2)) (fun s_34 _ => some (s_34, ())))) else (if gb_kL v4 = true then gb_cd (cs_Lines_clashes_L n σ v4) (fun s_39 r_40 => (if r_40 = 0 then some (s_39, ()) else gb_cd (cs_Reader_note n s_39 4 (s_39.1 106 2)) (fun s_44 _ => some (s_44, ())))) else (if gb_kD v4 = true then gb_cd (cs_Dawn_clashes_D n σ v4) (fun s_49 r_50 => (if r_50 = 0 then some (s_49, ()) else gb_cd (cs_Reader_note n s_49 4 (s_49.1 106 2)) (fun s_54 _ => some (s_54, ())))) else none)))) else some (σ, ())) else (if (σ.1 106 2) ≤ (σ.1 106 3) then (if (σ.1 106 4) = 0 then (if gb_kB v4 = true then gb_cd (cs_Border_clashes_B n σ v4) (fun s_61 r_62 => (if r_62 = 0 then some (s_61, ()) else gb_cd (cs_Reader_note n s_61 4 (s_61.1 106 2)) (fun s_66 _ => some (s_66, ())))) else (if gb_kN v4 = true then gb_cd (cs_Lines_clashes_N n σ v4) (fun s_71 r_72 => (if r_72 = 0 then some (s_71, ()) else gb_cd (cs_Reader_note n s_71 4 (s_71.1 106 2)) (fun s_76 _ => some (s_76, ())))) else (if gb_kL v4 = true then gb_cd (cs_Lines_clashes_L n σ v4) (fun s_81 r_82 => (if r_82 = 0 then some (s_81, ()) else gb_cd (cs_Reader_note n s_81 4 (s_81.1 106 2)) (fun s_86 _ => some (s_86, ())))) else (if gb_kD v4 = true then gb_cd (cs_Dawn_clashes_D n σ v4) (fun s_91 r_92 => (if r_92 = 0 then some (s_91, ()) else gb_cd (cs_Reader_note n s_91 4 (s_91.1 106 2)) (fun s_96 _ => some (s_96, ())))) else none)))) else some (σ, ())) else gb_cd (cs_Reader_readLine_S n σ v3 v4) (fun s_100 r_101 => (if r_101 = 0 then gb_lt (gb_su s_100 106 (upd (s_100.1 106) 4 1)) (fun s_110 => gb_lt (gb_su s_110 106 (upd (s_110.1 106) 5 (s_110.1 106 3))) (fun s_111 => some (s_111, ()))) else gb_cd (cs_Reader_skipBlanks n s_100) (fun s_105 _ => gb_lt (v5 + 1) (fun x_109 => cs_Reader_read_c23_S_42 n mm s_105 v3 v4 x_109))))))
def cs_Reader_read_c23_S (n : Nat) (σ : gb_S) (p2 : Int32) (p3 : Int32) (p4 : Nat) : gb_CR Unit := gb_lt (gb_sq σ 0 23) (fun s_1 => gb_lt (if (600 : Int32) < p2 then (600 : Int32) else p2) (fun x_2 => gb_lt (gb_su s_1 106 (upd (s_1.1 106) 2 x_2)) (fun s_3 => gb_lt (gb_su s_3 106 (upd (s_3.1 106) 3 0)) (fun s_4 => gb_lt (gb_su s_4 106 (upd (s_4.1 106) 4 0)) (fun s_5 => gb_lt (gb_su s_5 106 (upd (s_5.1 106) 5 (-1))) (fun s_6 => (if gb_kB p4 = true then gb_cd (cs_Border_clear_B n s_6 p4) (fun s_8 _ => gb_cd (cs_Reader_skipBlanks n s_8) (fun s_12 _ => cs_Reader_read_c23_S_42 n n s_12 p3 p4 0)) else (if gb_kN p4 = true then gb_cd (cs_Lines_clear_N n s_6 p4) (fun s_113 _ => gb_cd (cs_Reader_skipBlanks n s_113) (fun s_117 _ => cs_Reader_read_c23_S_42 n n s_117 p3 p4 0)) else (if gb_kL p4 = true then gb_cd (cs_Lines_clear_L n s_6 p4) (fun s_122 _ => gb_cd (cs_Reader_skipBlanks n s_122) (fun s_126 _ => cs_Reader_read_c23_S_42 n n s_126 p3 p4 0)) else (if gb_kD p4 = true then gb_cd (cs_Lines_clear_D n s_6 p4) (fun s_131 _ => gb_cd (cs_Reader_skipBlanks n s_131) (fun s_135 _ => cs_Reader_read_c23_S_42 n n s_135 p3 p4 0)) else none))))))))))
set_option maxHeartbeats 8000000 in
set_option maxRecDepth 100000 in
theorem cc_Reader_read_c23_S (l : Launch) (D : va_G) (cT : Nat → ClassId) (tt : Nat → Nat) (ak av : Nat → Nat) (b1 b : Nat) (hb1 : b1 ≤ b) (n : Nat) (σ : gb_S) (p2 : Int32) (p3 : Int32) (p4 : Nat) (σE : gb_S) (rE : Unit) (h : cs_Reader_read_c23_S n σ p2 p3 p4 = some (σE, rE)) : Met l yX7_read (.code yX7_read cX7_read 6 none :: gb_wA) ({ frames := 7, cells := 0, slots := 0, locals := 156 }) (gb_Pc2 D cT tt ak av b1 [.ref (b + 106), .ref (b + 23), .int p2, .int p3, .ref (b + p4)] (fun h => va_P D vwCl (gb_wl b (gb_CW cT b σ)) h)) (gb_Qv (fun h => va_P D vwCl (gb_wl b (gb_CW cT b σE)) h) (gb_fr b 135)) 0 0 (gb_fr b 135) := by
  refine Met.ofW (cc := cX7_read) (maxL := 6) (ret := none) (by decide) rfl ?_
  intro p e s m args below meth c s₁ B hml hv
  obtain ⟨rfl, hSt2, hP⟩ := hv
  have hSt := hSt2.1
  have hx := B.exec
  have hb := B.bytes
  have hr := B.returns
  have hts := atoms_spec (ws := .code yX7_read cX7_read 6 none :: gb_wA) B.pre
  have hq : ∀ w ∈ gb_wA, w.before _ s = true := fun w h => hts w (List.mem_cons_of_mem _ h)
  have hown : s.vm.findClass RX7 = some m.cls := findClass_of_methodNamed B.named
  have hlocks := B.notSynchronized
  clear B hts
  have hK := hSt.1
  have hS : va_S (gb_fr b 135) s.heap s.heap [] := va_S.rf
  have hl := lv_entry ([.ref (b + 106), .ref (b + 23), .int p2, .int p3, .ref (b + p4)]) (n := 6) (Nat.le_of_ble_eq_true rfl)
  rw [lg_entry_eq]
  generalize (lg_sl ([.ref (b + 106), .ref (b + 23), .int p2, .int p3, .ref (b + p4)]) ++ List.replicate (6 - (lg_sl ([.ref (b + 106), .ref (b + 23), .int p2, .int p3, .ref (b + p4)])).length) Slot.unset).toArray = ls at hl ⊢
  replace hl : lv_has ls 6 [(0, .ref (b + 106)), (1, .ref (b + 23)), (2, .int p2), (3, .int p3), (4, .ref (b + p4))] := hl
  have L42_1 : ∀ (mm : Nat) (σ : gb_S) (v3 : Int32) (v4 : Nat) (v5 : Int32) (H : Heap) (locs : List Loc) (ls : Array Slot), cs_Reader_read_c23_S_42 n mm σ v3 v4 v5 = some (σE, rE) → va_P D vwCl (gb_wl b (gb_CW cT b σ)) H → va_S (gb_fr b 135) s.heap H locs → lv_has ls 6 [(0, .ref (b + 106)), (3, .int v3), (4, .ref (b + v4)), (5, .int v5)] → W p l e (headSpec (.code yX7_read cX7_read 6 none :: gb_wA) ({ frames := 7, cells := 0, slots := 0, locals := 156 })).room s m ([.ref (b + 106), .ref (b + 23), .int p2, .int p3, .ref (b + p4)]).toArray below meth c H locs 0 0 (MQ below (gb_Qv (fun h => va_P D vwCl (gb_wl b (gb_CW cT b σE)) h) (gb_fr b 135)) ([.ref (b + 106), .ref (b + 23), .int p2, .int p3, .ref (b + p4)]).toArray s 0 0 (gb_fr b 135)) (F0 m 42 ls []) := by
    clear h hP hS hl ls
    intro mm
    induction mm with
    | zero =>
      intro σ v3 v4 v5 H locs ls h
      cases h
    | succ mm ih =>
      intro σ v3 v4 v5 H locs ls h hP hS hl
      rw [cs_Reader_read_c23_S_42] at h
      refine lv_iload hx hb dX7_read_42 (lv_at hl 3 rfl) ?_
      refine lv_sipush (v := 600) hx hb dX7_read_44 (by decide) ?_
      refine lv_icmp_ge (tgt := 95) hx hb dX7_read_47 (by decide) (fun c_16 => ?_) (fun c_16 => ?_)
      · rw [if_pos c_16] at h
        refine lv_aload_n hx hb dX7_read_95 rfl (lv_at hl 0 rfl) ?_
        refine va_get (ci := 6) (v := (.int (σ.1 106 4))) (C := RX7) (T := TX7) (N := 6) hx hb hq i_X7 hown hK hP 106 (gb_at b rfl) rfl 4 (by decide) (hq _ w_171) (fun _ h9 => h9) rfl dX7_read_96 ?_
        refine lv_if_ne (tgt := 119) hx hb dX7_read_99 (by decide) (fun c_17 => ?_) (fun c_17 => ?_)
        · rw [if_neg c_17] at h
          obtain ⟨e1, -⟩ := gb_eq2 h
          exact W.vret hx hb hr (fun t ht hW => gb_rv ht (by rw [← e1]; exact hP) hS) hS.2.2 dX7_read_119
        · rw [if_pos c_17] at h
          refine lv_aload hx hb dX7_read_102 (lv_at hl 2 rfl) ?_
          by_cases z_18 : gb_kB v4 = true
          · rw [if_pos z_18] at h
            obtain ⟨s_19, r_20, z_21, h⟩ := gb_cd_s h
            refine gb_calli (va_runU (x := ⟨"GooseBorder$Sheet", "clashes", "()Z"⟩) (C := RX0) (owner := "GooseBorder$Sheet") (As := []) (rest := []) ⟨hx, hb, hml, hown, hq⟩ (cc_Border_clashes_B l D cT tt b1 b hb1 n σ v4 s_19 r_20 z_21) (va_cwA (owner := "GooseBorder$Sheet") (C := RX0) 0 hq (gb_gU w_525 w_527 w_528 w_529 w_4 w_530) rfl rfl rfl (hSt.2.1 _ gb_n526) (by decide +kernel) ⟨Nat.le_of_ble_eq_true rfl, Nat.le_of_ble_eq_true rfl⟩) (gb_preV (r := (RX0, TX0, 1)) (ci := 0) (q0 := v4) hSt hP rfl (gb_at b (gb_cB z_18).1) hS (fun q h => Nat.le_trans hb1 h.1) hP) rfl rfl hl.1 rfl (lv_room (Nat.le_of_ble_eq_true rfl)) dX7_read_104 ⟨Nat.le_of_ble_eq_true rfl, Nat.le_of_ble_eq_true rfl⟩) hS (fun _ h => h) (fun _ h => h) (fun q_22 H locs hY hk hS => ?_)
            obtain ⟨hq_22, hP⟩ := hY
            replace hq_22 := hq_22.symm
            subst hq_22
            refine lv_if_eq (tgt := 119) hx hb dX7_read_107 (by decide) (fun c_23 => ?_) (fun c_23 => ?_)
            · rw [if_pos c_23] at h
              obtain ⟨e1, -⟩ := gb_eq2 h
              exact W.vret hx hb hr (fun t ht hW => gb_rv ht (by rw [← e1]; exact hP) hS) hS.2.2 dX7_read_119
            · rw [if_neg c_23] at h
              refine lv_aload_n hx hb dX7_read_110 rfl (lv_at hl 0 rfl) ?_
              refine lv_iconst (v := 4) hx hb dX7_read_111 (by decide) ?_
              refine lv_aload_n hx hb dX7_read_112 rfl (lv_at hl 0 rfl) ?_
              refine va_get (ci := 6) (v := (.int (s_19.1 106 2))) (C := RX7) (T := TX7) (N := 6) hx hb hq i_X7 hown hK hP 106 (gb_at b rfl) rfl 2 (by decide) (hq _ w_169) (fun _ h9 => h9) rfl dX7_read_113 ?_
              obtain ⟨s_24, r_25, z_26, h⟩ := gb_cd_s h
              refine gb_callv (va_runV (C := RX7) (As := [.int 4, .int (s_19.1 106 2)]) (rest := []) ⟨hx, hb, hml, hown, hq⟩ (cc_Reader_note l D cT tt b1 b hb1 n s_19 4 (s_19.1 106 2) s_24 r_25 z_26) (cwV 2 hq (gb_gV w_492 w_494 s_1_4 w_10 w_495) rfl rfl rfl (by decide +kernel) ⟨Nat.le_of_ble_eq_true rfl, Nat.le_of_ble_eq_true rfl⟩) (gb_preV (r := (RX7, TX7, 6)) (ci := 6) (q0 := 106) hSt hP rfl (gb_at b rfl) hS (fun q h => Nat.le_trans hb1 h.1) hP) rfl rfl hl.1 rfl (lv_room (Nat.le_of_ble_eq_true rfl)) dX7_read_116 ⟨Nat.le_of_ble_eq_true rfl, Nat.le_of_ble_eq_true rfl⟩) hS (fun _ h => h) (fun _ h => h) (fun H locs hY hk hS => ?_)
              have hP := hY
              obtain ⟨e1, -⟩ := gb_eq2 h
              exact W.vret hx hb hr (fun t ht hW => gb_rv ht (by rw [← e1]; exact hP) hS) hS.2.2 dX7_read_119
          rw [if_neg z_18] at h
          by_cases z_28 : gb_kN v4 = true
          · rw [if_pos z_28] at h
            obtain ⟨s_29, r_30, z_31, h⟩ := gb_cd_s h
            refine gb_calli (va_runU (x := ⟨"GooseBorder$Sheet", "clashes", "()Z"⟩) (C := RX5) (owner := "GooseBorder$Sheet") (As := []) (rest := []) ⟨hx, hb, hml, hown, hq⟩ (cc_Lines_clashes_N l D cT tt b1 b hb1 n σ v4 s_29 r_30 z_31) (va_cwA (owner := "GooseBorder$Sheet") (C := RX5) 0 hq (gb_gU w_525 w_527 w_551 w_549 w_6 w_550) rfl rfl rfl (hSt.2.1 _ gb_n526) (by decide +kernel) ⟨Nat.le_of_ble_eq_true rfl, Nat.le_of_ble_eq_true rfl⟩) (gb_preV (r := (RX5, TX5, 4)) (ci := 4) (q0 := v4) hSt hP rfl (gb_at b (gb_cN z_28).1) hS (fun q h => Nat.le_trans hb1 h.1) hP) rfl rfl hl.1 rfl (lv_room (Nat.le_of_ble_eq_true rfl)) dX7_read_104 ⟨Nat.le_of_ble_eq_true rfl, Nat.le_of_ble_eq_true rfl⟩) hS (fun _ h => h) (fun _ h => h) (fun q_32 H locs hY hk hS => ?_)
            obtain ⟨hq_32, hP⟩ := hY
            replace hq_32 := hq_32.symm
            subst hq_32
            refine lv_if_eq (tgt := 119) hx hb dX7_read_107 (by decide) (fun c_33 => ?_) (fun c_33 => ?_)
            · rw [if_pos c_33] at h
              obtain ⟨e1, -⟩ := gb_eq2 h
              exact W.vret hx hb hr (fun t ht hW => gb_rv ht (by rw [← e1]; exact hP) hS) hS.2.2 dX7_read_119
            · rw [if_neg c_33] at h
              refine lv_aload_n hx hb dX7_read_110 rfl (lv_at hl 0 rfl) ?_
              refine lv_iconst (v := 4) hx hb dX7_read_111 (by decide) ?_
              refine lv_aload_n hx hb dX7_read_112 rfl (lv_at hl 0 rfl) ?_
              refine va_get (ci := 6) (v := (.int (s_29.1 106 2))) (C := RX7) (T := TX7) (N := 6) hx hb hq i_X7 hown hK hP 106 (gb_at b rfl) rfl 2 (by decide) (hq _ w_169) (fun _ h9 => h9) rfl dX7_read_113 ?_
              obtain ⟨s_34, r_35, z_36, h⟩ := gb_cd_s h
              refine gb_callv (va_runV (C := RX7) (As := [.int 4, .int (s_29.1 106 2)]) (rest := []) ⟨hx, hb, hml, hown, hq⟩ (cc_Reader_note l D cT tt b1 b hb1 n s_29 4 (s_29.1 106 2) s_34 r_35 z_36) (cwV 2 hq (gb_gV w_492 w_494 s_1_4 w_10 w_495) rfl rfl rfl (by decide +kernel) ⟨Nat.le_of_ble_eq_true rfl, Nat.le_of_ble_eq_true rfl⟩) (gb_preV (r := (RX7, TX7, 6)) (ci := 6) (q0 := 106) hSt hP rfl (gb_at b rfl) hS (fun q h => Nat.le_trans hb1 h.1) hP) rfl rfl hl.1 rfl (lv_room (Nat.le_of_ble_eq_true rfl)) dX7_read_116 ⟨Nat.le_of_ble_eq_true rfl, Nat.le_of_ble_eq_true rfl⟩) hS (fun _ h => h) (fun _ h => h) (fun H locs hY hk hS => ?_)
              have hP := hY
              obtain ⟨e1, -⟩ := gb_eq2 h
              exact W.vret hx hb hr (fun t ht hW => gb_rv ht (by rw [← e1]; exact hP) hS) hS.2.2 dX7_read_119
          rw [if_neg z_28] at h
          by_cases z_38 : gb_kL v4 = true
          · rw [if_pos z_38] at h
            obtain ⟨s_39, r_40, z_41, h⟩ := gb_cd_s h
            refine gb_calli (va_runU (x := ⟨"GooseBorder$Sheet", "clashes", "()Z"⟩) (C := RX3) (owner := "GooseBorder$Sheet") (As := []) (rest := []) ⟨hx, hb, hml, hown, hq⟩ (cc_Lines_clashes_L l D cT tt b1 b hb1 n σ v4 s_39 r_40 z_41) (va_cwA (owner := "GooseBorder$Sheet") (C := RX3) 0 hq (gb_gU w_525 w_527 w_548 w_549 w_6 w_550) rfl rfl rfl (hSt.2.1 _ gb_n526) (by decide +kernel) ⟨Nat.le_of_ble_eq_true rfl, Nat.le_of_ble_eq_true rfl⟩) (gb_preV (r := (RX3, TX3, 4)) (ci := 3) (q0 := v4) hSt hP rfl (gb_at b (gb_cL z_38).1) hS (fun q h => Nat.le_trans hb1 h.1) hP) rfl rfl hl.1 rfl (lv_room (Nat.le_of_ble_eq_true rfl)) dX7_read_104 ⟨Nat.le_of_ble_eq_true rfl, Nat.le_of_ble_eq_true rfl⟩) hS (fun _ h => h) (fun _ h => h) (fun q_42 H locs hY hk hS => ?_)
            obtain ⟨hq_42, hP⟩ := hY
            replace hq_42 := hq_42.symm
            subst hq_42
            refine lv_if_eq (tgt := 119) hx hb dX7_read_107 (by decide) (fun c_43 => ?_) (fun c_43 => ?_)
            · rw [if_pos c_43] at h
              obtain ⟨e1, -⟩ := gb_eq2 h
              exact W.vret hx hb hr (fun t ht hW => gb_rv ht (by rw [← e1]; exact hP) hS) hS.2.2 dX7_read_119
            · rw [if_neg c_43] at h
              refine lv_aload_n hx hb dX7_read_110 rfl (lv_at hl 0 rfl) ?_
              refine lv_iconst (v := 4) hx hb dX7_read_111 (by decide) ?_
              refine lv_aload_n hx hb dX7_read_112 rfl (lv_at hl 0 rfl) ?_
              refine va_get (ci := 6) (v := (.int (s_39.1 106 2))) (C := RX7) (T := TX7) (N := 6) hx hb hq i_X7 hown hK hP 106 (gb_at b rfl) rfl 2 (by decide) (hq _ w_169) (fun _ h9 => h9) rfl dX7_read_113 ?_
              obtain ⟨s_44, r_45, z_46, h⟩ := gb_cd_s h
              refine gb_callv (va_runV (C := RX7) (As := [.int 4, .int (s_39.1 106 2)]) (rest := []) ⟨hx, hb, hml, hown, hq⟩ (cc_Reader_note l D cT tt b1 b hb1 n s_39 4 (s_39.1 106 2) s_44 r_45 z_46) (cwV 2 hq (gb_gV w_492 w_494 s_1_4 w_10 w_495) rfl rfl rfl (by decide +kernel) ⟨Nat.le_of_ble_eq_true rfl, Nat.le_of_ble_eq_true rfl⟩) (gb_preV (r := (RX7, TX7, 6)) (ci := 6) (q0 := 106) hSt hP rfl (gb_at b rfl) hS (fun q h => Nat.le_trans hb1 h.1) hP) rfl rfl hl.1 rfl (lv_room (Nat.le_of_ble_eq_true rfl)) dX7_read_116 ⟨Nat.le_of_ble_eq_true rfl, Nat.le_of_ble_eq_true rfl⟩) hS (fun _ h => h) (fun _ h => h) (fun H locs hY hk hS => ?_)
              have hP := hY
              obtain ⟨e1, -⟩ := gb_eq2 h
              exact W.vret hx hb hr (fun t ht hW => gb_rv ht (by rw [← e1]; exact hP) hS) hS.2.2 dX7_read_119
          rw [if_neg z_38] at h
          by_cases z_48 : gb_kD v4 = true
          · rw [if_pos z_48] at h
            obtain ⟨s_49, r_50, z_51, h⟩ := gb_cd_s h
            refine gb_calli (va_runU (x := ⟨"GooseBorder$Sheet", "clashes", "()Z"⟩) (C := RX1) (owner := "GooseBorder$Sheet") (As := []) (rest := []) ⟨hx, hb, hml, hown, hq⟩ (cc_Dawn_clashes_D l D cT tt b1 b hb1 n σ v4 s_49 r_50 z_51) (va_cwA (owner := "GooseBorder$Sheet") (C := RX1) 0 hq (gb_gU w_525 w_527 w_531 w_532 w_9 w_533) rfl rfl rfl (hSt.2.1 _ gb_n526) (by decide +kernel) ⟨Nat.le_of_ble_eq_true rfl, Nat.le_of_ble_eq_true rfl⟩) (gb_preV (r := (RX1, TX1, 4)) (ci := 1) (q0 := v4) hSt hP rfl (gb_at b (gb_cD z_48).1) hS (fun q h => Nat.le_trans hb1 h.1) hP) rfl rfl hl.1 rfl (lv_room (Nat.le_of_ble_eq_true rfl)) dX7_read_104 ⟨Nat.le_of_ble_eq_true rfl, Nat.le_of_ble_eq_true rfl⟩) hS (fun _ h => h) (fun _ h => h) (fun q_52 H locs hY hk hS => ?_)
            obtain ⟨hq_52, hP⟩ := hY
            replace hq_52 := hq_52.symm
            subst hq_52
            refine lv_if_eq (tgt := 119) hx hb dX7_read_107 (by decide) (fun c_53 => ?_) (fun c_53 => ?_)
            · rw [if_pos c_53] at h
              obtain ⟨e1, -⟩ := gb_eq2 h
              exact W.vret hx hb hr (fun t ht hW => gb_rv ht (by rw [← e1]; exact hP) hS) hS.2.2 dX7_read_119
            · rw [if_neg c_53] at h
              refine lv_aload_n hx hb dX7_read_110 rfl (lv_at hl 0 rfl) ?_
              refine lv_iconst (v := 4) hx hb dX7_read_111 (by decide) ?_
              refine lv_aload_n hx hb dX7_read_112 rfl (lv_at hl 0 rfl) ?_
              refine va_get (ci := 6) (v := (.int (s_49.1 106 2))) (C := RX7) (T := TX7) (N := 6) hx hb hq i_X7 hown hK hP 106 (gb_at b rfl) rfl 2 (by decide) (hq _ w_169) (fun _ h9 => h9) rfl dX7_read_113 ?_
              obtain ⟨s_54, r_55, z_56, h⟩ := gb_cd_s h
              refine gb_callv (va_runV (C := RX7) (As := [.int 4, .int (s_49.1 106 2)]) (rest := []) ⟨hx, hb, hml, hown, hq⟩ (cc_Reader_note l D cT tt b1 b hb1 n s_49 4 (s_49.1 106 2) s_54 r_55 z_56) (cwV 2 hq (gb_gV w_492 w_494 s_1_4 w_10 w_495) rfl rfl rfl (by decide +kernel) ⟨Nat.le_of_ble_eq_true rfl, Nat.le_of_ble_eq_true rfl⟩) (gb_preV (r := (RX7, TX7, 6)) (ci := 6) (q0 := 106) hSt hP rfl (gb_at b rfl) hS (fun q h => Nat.le_trans hb1 h.1) hP) rfl rfl hl.1 rfl (lv_room (Nat.le_of_ble_eq_true rfl)) dX7_read_116 ⟨Nat.le_of_ble_eq_true rfl, Nat.le_of_ble_eq_true rfl⟩) hS (fun _ h => h) (fun _ h => h) (fun H locs hY hk hS => ?_)
              have hP := hY
              obtain ⟨e1, -⟩ := gb_eq2 h
              exact W.vret hx hb hr (fun t ht hW => gb_rv ht (by rw [← e1]; exact hP) hS) hS.2.2 dX7_read_119
          rw [if_neg z_48] at h
          cases h
      · rw [if_neg c_16] at h
        refine lv_aload_n hx hb dX7_read_50 rfl (lv_at hl 0 rfl) ?_
        refine va_get (ci := 6) (v := (.int (σ.1 106 3))) (C := RX7) (T := TX7) (N := 6) hx hb hq i_X7 hown hK hP 106 (gb_at b rfl) rfl 3 (by decide) (hq _ w_170) (fun _ h9 => h9) rfl dX7_read_51 ?_
        refine lv_aload_n hx hb dX7_read_54 rfl (lv_at hl 0 rfl) ?_
        refine va_get (ci := 6) (v := (.int (σ.1 106 2))) (C := RX7) (T := TX7) (N := 6) hx hb hq i_X7 hown hK hP 106 (gb_at b rfl) rfl 2 (by decide) (hq _ w_169) (fun _ h9 => h9) rfl dX7_read_55 ?_
        refine lv_icmp_ge (tgt := 95) hx hb dX7_read_58 (by decide) (fun c_58 => ?_) (fun c_58 => ?_)
        · rw [if_pos c_58] at h
          refine lv_aload_n hx hb dX7_read_95 rfl (lv_at hl 0 rfl) ?_
          refine va_get (ci := 6) (v := (.int (σ.1 106 4))) (C := RX7) (T := TX7) (N := 6) hx hb hq i_X7 hown hK hP 106 (gb_at b rfl) rfl 4 (by decide) (hq _ w_171) (fun _ h9 => h9) rfl dX7_read_96 ?_
          refine lv_if_ne (tgt := 119) hx hb dX7_read_99 (by decide) (fun c_59 => ?_) (fun c_59 => ?_)
          · rw [if_neg c_59] at h
            obtain ⟨e1, -⟩ := gb_eq2 h
            exact W.vret hx hb hr (fun t ht hW => gb_rv ht (by rw [← e1]; exact hP) hS) hS.2.2 dX7_read_119
          · rw [if_pos c_59] at h
            refine lv_aload hx hb dX7_read_102 (lv_at hl 2 rfl) ?_
            by_cases z_60 : gb_kB v4 = true
            · rw [if_pos z_60] at h
              obtain ⟨s_61, r_62, z_63, h⟩ := gb_cd_s h
              refine gb_calli (va_runU (x := ⟨"GooseBorder$Sheet", "clashes", "()Z"⟩) (C := RX0) (owner := "GooseBorder$Sheet") (As := []) (rest := []) ⟨hx, hb, hml, hown, hq⟩ (cc_Border_clashes_B l D cT tt b1 b hb1 n σ v4 s_61 r_62 z_63) (va_cwA (owner := "GooseBorder$Sheet") (C := RX0) 0 hq (gb_gU w_525 w_527 w_528 w_529 w_4 w_530) rfl rfl rfl (hSt.2.1 _ gb_n526) (by decide +kernel) ⟨Nat.le_of_ble_eq_true rfl, Nat.le_of_ble_eq_true rfl⟩) (gb_preV (r := (RX0, TX0, 1)) (ci := 0) (q0 := v4) hSt hP rfl (gb_at b (gb_cB z_60).1) hS (fun q h => Nat.le_trans hb1 h.1) hP) rfl rfl hl.1 rfl (lv_room (Nat.le_of_ble_eq_true rfl)) dX7_read_104 ⟨Nat.le_of_ble_eq_true rfl, Nat.le_of_ble_eq_true rfl⟩) hS (fun _ h => h) (fun _ h => h) (fun q_64 H locs hY hk hS => ?_)
              obtain ⟨hq_64, hP⟩ := hY
              replace hq_64 := hq_64.symm
              subst hq_64
              refine lv_if_eq (tgt := 119) hx hb dX7_read_107 (by decide) (fun c_65 => ?_) (fun c_65 => ?_)
              · rw [if_pos c_65] at h
                obtain ⟨e1, -⟩ := gb_eq2 h
                exact W.vret hx hb hr (fun t ht hW => gb_rv ht (by rw [← e1]; exact hP) hS) hS.2.2 dX7_read_119
              · rw [if_neg c_65] at h
                refine lv_aload_n hx hb dX7_read_110 rfl (lv_at hl 0 rfl) ?_
                refine lv_iconst (v := 4) hx hb dX7_read_111 (by decide) ?_
                refine lv_aload_n hx hb dX7_read_112 rfl (lv_at hl 0 rfl) ?_
                refine va_get (ci := 6) (v := (.int (s_61.1 106 2))) (C := RX7) (T := TX7) (N := 6) hx hb hq i_X7 hown hK hP 106 (gb_at b rfl) rfl 2 (by decide) (hq _ w_169) (fun _ h9 => h9) rfl dX7_read_113 ?_
                obtain ⟨s_66, r_67, z_68, h⟩ := gb_cd_s h
                refine gb_callv (va_runV (C := RX7) (As := [.int 4, .int (s_61.1 106 2)]) (rest := []) ⟨hx, hb, hml, hown, hq⟩ (cc_Reader_note l D cT tt b1 b hb1 n s_61 4 (s_61.1 106 2) s_66 r_67 z_68) (cwV 2 hq (gb_gV w_492 w_494 s_1_4 w_10 w_495) rfl rfl rfl (by decide +kernel) ⟨Nat.le_of_ble_eq_true rfl, Nat.le_of_ble_eq_true rfl⟩) (gb_preV (r := (RX7, TX7, 6)) (ci := 6) (q0 := 106) hSt hP rfl (gb_at b rfl) hS (fun q h => Nat.le_trans hb1 h.1) hP) rfl rfl hl.1 rfl (lv_room (Nat.le_of_ble_eq_true rfl)) dX7_read_116 ⟨Nat.le_of_ble_eq_true rfl, Nat.le_of_ble_eq_true rfl⟩) hS (fun _ h => h) (fun _ h => h) (fun H locs hY hk hS => ?_)
                have hP := hY
                obtain ⟨e1, -⟩ := gb_eq2 h
                exact W.vret hx hb hr (fun t ht hW => gb_rv ht (by rw [← e1]; exact hP) hS) hS.2.2 dX7_read_119
            rw [if_neg z_60] at h
            by_cases z_70 : gb_kN v4 = true
            · rw [if_pos z_70] at h
              obtain ⟨s_71, r_72, z_73, h⟩ := gb_cd_s h
              refine gb_calli (va_runU (x := ⟨"GooseBorder$Sheet", "clashes", "()Z"⟩) (C := RX5) (owner := "GooseBorder$Sheet") (As := []) (rest := []) ⟨hx, hb, hml, hown, hq⟩ (cc_Lines_clashes_N l D cT tt b1 b hb1 n σ v4 s_71 r_72 z_73) (va_cwA (owner := "GooseBorder$Sheet") (C := RX5) 0 hq (gb_gU w_525 w_527 w_551 w_549 w_6 w_550) rfl rfl rfl (hSt.2.1 _ gb_n526) (by decide +kernel) ⟨Nat.le_of_ble_eq_true rfl, Nat.le_of_ble_eq_true rfl⟩) (gb_preV (r := (RX5, TX5, 4)) (ci := 4) (q0 := v4) hSt hP rfl (gb_at b (gb_cN z_70).1) hS (fun q h => Nat.le_trans hb1 h.1) hP) rfl rfl hl.1 rfl (lv_room (Nat.le_of_ble_eq_true rfl)) dX7_read_104 ⟨Nat.le_of_ble_eq_true rfl, Nat.le_of_ble_eq_true rfl⟩) hS (fun _ h => h) (fun _ h => h) (fun q_74 H locs hY hk hS => ?_)
              obtain ⟨hq_74, hP⟩ := hY
              replace hq_74 := hq_74.symm
              subst hq_74
              refine lv_if_eq (tgt := 119) hx hb dX7_read_107 (by decide) (fun c_75 => ?_) (fun c_75 => ?_)
              · rw [if_pos c_75] at h
                obtain ⟨e1, -⟩ := gb_eq2 h
                exact W.vret hx hb hr (fun t ht hW => gb_rv ht (by rw [← e1]; exact hP) hS) hS.2.2 dX7_read_119
              · rw [if_neg c_75] at h
                refine lv_aload_n hx hb dX7_read_110 rfl (lv_at hl 0 rfl) ?_
                refine lv_iconst (v := 4) hx hb dX7_read_111 (by decide) ?_
                refine lv_aload_n hx hb dX7_read_112 rfl (lv_at hl 0 rfl) ?_
                refine va_get (ci := 6) (v := (.int (s_71.1 106 2))) (C := RX7) (T := TX7) (N := 6) hx hb hq i_X7 hown hK hP 106 (gb_at b rfl) rfl 2 (by decide) (hq _ w_169) (fun _ h9 => h9) rfl dX7_read_113 ?_
                obtain ⟨s_76, r_77, z_78, h⟩ := gb_cd_s h
                refine gb_callv (va_runV (C := RX7) (As := [.int 4, .int (s_71.1 106 2)]) (rest := []) ⟨hx, hb, hml, hown, hq⟩ (cc_Reader_note l D cT tt b1 b hb1 n s_71 4 (s_71.1 106 2) s_76 r_77 z_78) (cwV 2 hq (gb_gV w_492 w_494 s_1_4 w_10 w_495) rfl rfl rfl (by decide +kernel) ⟨Nat.le_of_ble_eq_true rfl, Nat.le_of_ble_eq_true rfl⟩) (gb_preV (r := (RX7, TX7, 6)) (ci := 6) (q0 := 106) hSt hP rfl (gb_at b rfl) hS (fun q h => Nat.le_trans hb1 h.1) hP) rfl rfl hl.1 rfl (lv_room (Nat.le_of_ble_eq_true rfl)) dX7_read_116 ⟨Nat.le_of_ble_eq_true rfl, Nat.le_of_ble_eq_true rfl⟩) hS (fun _ h => h) (fun _ h => h) (fun H locs hY hk hS => ?_)
                have hP := hY
                obtain ⟨e1, -⟩ := gb_eq2 h
                exact W.vret hx hb hr (fun t ht hW => gb_rv ht (by rw [← e1]; exact hP) hS) hS.2.2 dX7_read_119
            rw [if_neg z_70] at h
            by_cases z_80 : gb_kL v4 = true
            · rw [if_pos z_80] at h
              obtain ⟨s_81, r_82, z_83, h⟩ := gb_cd_s h
              refine gb_calli (va_runU (x := ⟨"GooseBorder$Sheet", "clashes", "()Z"⟩) (C := RX3) (owner := "GooseBorder$Sheet") (As := []) (rest := []) ⟨hx, hb, hml, hown, hq⟩ (cc_Lines_clashes_L l D cT tt b1 b hb1 n σ v4 s_81 r_82 z_83) (va_cwA (owner := "GooseBorder$Sheet") (C := RX3) 0 hq (gb_gU w_525 w_527 w_548 w_549 w_6 w_550) rfl rfl rfl (hSt.2.1 _ gb_n526) (by decide +kernel) ⟨Nat.le_of_ble_eq_true rfl, Nat.le_of_ble_eq_true rfl⟩) (gb_preV (r := (RX3, TX3, 4)) (ci := 3) (q0 := v4) hSt hP rfl (gb_at b (gb_cL z_80).1) hS (fun q h => Nat.le_trans hb1 h.1) hP) rfl rfl hl.1 rfl (lv_room (Nat.le_of_ble_eq_true rfl)) dX7_read_104 ⟨Nat.le_of_ble_eq_true rfl, Nat.le_of_ble_eq_true rfl⟩) hS (fun _ h => h) (fun _ h => h) (fun q_84 H locs hY hk hS => ?_)
              obtain ⟨hq_84, hP⟩ := hY
              replace hq_84 := hq_84.symm
              subst hq_84
              refine lv_if_eq (tgt := 119) hx hb dX7_read_107 (by decide) (fun c_85 => ?_) (fun c_85 => ?_)
              · rw [if_pos c_85] at h
                obtain ⟨e1, -⟩ := gb_eq2 h
                exact W.vret hx hb hr (fun t ht hW => gb_rv ht (by rw [← e1]; exact hP) hS) hS.2.2 dX7_read_119
              · rw [if_neg c_85] at h
                refine lv_aload_n hx hb dX7_read_110 rfl (lv_at hl 0 rfl) ?_
                refine lv_iconst (v := 4) hx hb dX7_read_111 (by decide) ?_
                refine lv_aload_n hx hb dX7_read_112 rfl (lv_at hl 0 rfl) ?_
                refine va_get (ci := 6) (v := (.int (s_81.1 106 2))) (C := RX7) (T := TX7) (N := 6) hx hb hq i_X7 hown hK hP 106 (gb_at b rfl) rfl 2 (by decide) (hq _ w_169) (fun _ h9 => h9) rfl dX7_read_113 ?_
                obtain ⟨s_86, r_87, z_88, h⟩ := gb_cd_s h
                refine gb_callv (va_runV (C := RX7) (As := [.int 4, .int (s_81.1 106 2)]) (rest := []) ⟨hx, hb, hml, hown, hq⟩ (cc_Reader_note l D cT tt b1 b hb1 n s_81 4 (s_81.1 106 2) s_86 r_87 z_88) (cwV 2 hq (gb_gV w_492 w_494 s_1_4 w_10 w_495) rfl rfl rfl (by decide +kernel) ⟨Nat.le_of_ble_eq_true rfl, Nat.le_of_ble_eq_true rfl⟩) (gb_preV (r := (RX7, TX7, 6)) (ci := 6) (q0 := 106) hSt hP rfl (gb_at b rfl) hS (fun q h => Nat.le_trans hb1 h.1) hP) rfl rfl hl.1 rfl (lv_room (Nat.le_of_ble_eq_true rfl)) dX7_read_116 ⟨Nat.le_of_ble_eq_true rfl, Nat.le_of_ble_eq_true rfl⟩) hS (fun _ h => h) (fun _ h => h) (fun H locs hY hk hS => ?_)
                have hP := hY
                obtain ⟨e1, -⟩ := gb_eq2 h
                exact W.vret hx hb hr (fun t ht hW => gb_rv ht (by rw [← e1]; exact hP) hS) hS.2.2 dX7_read_119
            rw [if_neg z_80] at h
            by_cases z_90 : gb_kD v4 = true
            · rw [if_pos z_90] at h
              obtain ⟨s_91, r_92, z_93, h⟩ := gb_cd_s h
              refine gb_calli (va_runU (x := ⟨"GooseBorder$Sheet", "clashes", "()Z"⟩) (C := RX1) (owner := "GooseBorder$Sheet") (As := []) (rest := []) ⟨hx, hb, hml, hown, hq⟩ (cc_Dawn_clashes_D l D cT tt b1 b hb1 n σ v4 s_91 r_92 z_93) (va_cwA (owner := "GooseBorder$Sheet") (C := RX1) 0 hq (gb_gU w_525 w_527 w_531 w_532 w_9 w_533) rfl rfl rfl (hSt.2.1 _ gb_n526) (by decide +kernel) ⟨Nat.le_of_ble_eq_true rfl, Nat.le_of_ble_eq_true rfl⟩) (gb_preV (r := (RX1, TX1, 4)) (ci := 1) (q0 := v4) hSt hP rfl (gb_at b (gb_cD z_90).1) hS (fun q h => Nat.le_trans hb1 h.1) hP) rfl rfl hl.1 rfl (lv_room (Nat.le_of_ble_eq_true rfl)) dX7_read_104 ⟨Nat.le_of_ble_eq_true rfl, Nat.le_of_ble_eq_true rfl⟩) hS (fun _ h => h) (fun _ h => h) (fun q_94 H locs hY hk hS => ?_)
              obtain ⟨hq_94, hP⟩ := hY
              replace hq_94 := hq_94.symm
              subst hq_94
              refine lv_if_eq (tgt := 119) hx hb dX7_read_107 (by decide) (fun c_95 => ?_) (fun c_95 => ?_)
              · rw [if_pos c_95] at h
                obtain ⟨e1, -⟩ := gb_eq2 h
                exact W.vret hx hb hr (fun t ht hW => gb_rv ht (by rw [← e1]; exact hP) hS) hS.2.2 dX7_read_119
              · rw [if_neg c_95] at h
                refine lv_aload_n hx hb dX7_read_110 rfl (lv_at hl 0 rfl) ?_
                refine lv_iconst (v := 4) hx hb dX7_read_111 (by decide) ?_
                refine lv_aload_n hx hb dX7_read_112 rfl (lv_at hl 0 rfl) ?_
                refine va_get (ci := 6) (v := (.int (s_91.1 106 2))) (C := RX7) (T := TX7) (N := 6) hx hb hq i_X7 hown hK hP 106 (gb_at b rfl) rfl 2 (by decide) (hq _ w_169) (fun _ h9 => h9) rfl dX7_read_113 ?_
                obtain ⟨s_96, r_97, z_98, h⟩ := gb_cd_s h
                refine gb_callv (va_runV (C := RX7) (As := [.int 4, .int (s_91.1 106 2)]) (rest := []) ⟨hx, hb, hml, hown, hq⟩ (cc_Reader_note l D cT tt b1 b hb1 n s_91 4 (s_91.1 106 2) s_96 r_97 z_98) (cwV 2 hq (gb_gV w_492 w_494 s_1_4 w_10 w_495) rfl rfl rfl (by decide +kernel) ⟨Nat.le_of_ble_eq_true rfl, Nat.le_of_ble_eq_true rfl⟩) (gb_preV (r := (RX7, TX7, 6)) (ci := 6) (q0 := 106) hSt hP rfl (gb_at b rfl) hS (fun q h => Nat.le_trans hb1 h.1) hP) rfl rfl hl.1 rfl (lv_room (Nat.le_of_ble_eq_true rfl)) dX7_read_116 ⟨Nat.le_of_ble_eq_true rfl, Nat.le_of_ble_eq_true rfl⟩) hS (fun _ h => h) (fun _ h => h) (fun H locs hY hk hS => ?_)
                have hP := hY
                obtain ⟨e1, -⟩ := gb_eq2 h
                exact W.vret hx hb hr (fun t ht hW => gb_rv ht (by rw [← e1]; exact hP) hS) hS.2.2 dX7_read_119
            rw [if_neg z_90] at h
            cases h
        · rw [if_neg c_58] at h
          refine lv_aload_n hx hb dX7_read_61 rfl (lv_at hl 0 rfl) ?_
          refine lv_iload_n hx hb dX7_read_62 rfl (lv_at hl 1 rfl) ?_
          refine lv_aload hx hb dX7_read_63 (lv_at hl 2 rfl) ?_
          obtain ⟨s_100, r_101, z_102, h⟩ := gb_cd_s h
          refine gb_calli (va_runV (C := RX7) (As := [.int v3, .ref (b + v4)]) (rest := []) ⟨hx, hb, hml, hown, hq⟩ (cc_Reader_readLine_S l D cT tt ak av b1 b hb1 n σ v3 v4 s_100 r_101 z_102) (cwV 2 hq (gb_gV w_384 w_386 s_1_1 w_10 w_387) rfl rfl rfl (by decide +kernel) ⟨Nat.le_of_ble_eq_true rfl, Nat.le_of_ble_eq_true rfl⟩) (gb_preV2 (r := (RX7, TX7, 6)) (ci := 6) (q0 := 106) hSt2 hP rfl (gb_at b rfl) hS (fun q h => Nat.le_trans hb1 h.1) hP) rfl rfl hl.1 rfl (lv_room (Nat.le_of_ble_eq_true rfl)) dX7_read_65 ⟨Nat.le_of_ble_eq_true rfl, Nat.le_of_ble_eq_true rfl⟩) hS (fun _ h => h) (fun _ h => h) (fun q_103 H locs hY hk hS => ?_)
          obtain ⟨hq_103, hP⟩ := hY
          replace hq_103 := hq_103.symm
          subst hq_103
          refine lv_if_ne (tgt := 85) hx hb dX7_read_68 (by decide) (fun c_104 => ?_) (fun c_104 => ?_)
          · rw [if_neg c_104] at h
            refine lv_aload_n hx hb dX7_read_85 rfl (lv_at hl 0 rfl) ?_
            obtain ⟨s_105, r_106, z_107, h⟩ := gb_cd_s h
            refine gb_callv (va_runV (C := RX7) (As := []) (rest := []) ⟨hx, hb, hml, hown, hq⟩ (cc_Reader_skipBlanks l D cT tt b1 b hb1 n s_100 s_105 r_106 z_107) (cwV 0 hq (gb_gV w_380 w_382 s_1_0 w_10 w_383) rfl rfl rfl (by decide +kernel) ⟨Nat.le_of_ble_eq_true rfl, Nat.le_of_ble_eq_true rfl⟩) (gb_preV (r := (RX7, TX7, 6)) (ci := 6) (q0 := 106) hSt hP rfl (gb_at b rfl) hS (fun q h => Nat.le_trans hb1 h.1) hP) rfl rfl hl.1 rfl (lv_room (Nat.le_of_ble_eq_true rfl)) dX7_read_86 ⟨Nat.le_of_ble_eq_true rfl, Nat.le_of_ble_eq_true rfl⟩) hS (fun _ h => h) (fun _ h => h) (fun H locs hY hk hS => ?_)
            have hP := hY
            obtain ⟨x_109, ex_109⟩ : ∃ q, q = (v5 + 1) := ⟨_, rfl⟩
            replace h := gb_lt_s ex_109 h
            refine lv_iinc (v := x_109) (lv' := [(5, .int x_109), (0, .ref (b + 106)), (3, .int v3), (4, .ref (b + v4))]) hx hb dX7_read_89 hl (k := 3) rfl (by rw [ex_109]; rfl) (by decide) rfl (fun ls hl => ?_)
            refine lv_goto (tgt := 42) hx hb dX7_read_92 (by decide) ?_
            exact ih _ _ _ _ _ _ _ h hP hS (lv_sub hl [1, 2, 3, 0] rfl)
          · rw [if_pos c_104] at h
            refine lv_aload_n hx hb dX7_read_71 rfl (lv_at hl 0 rfl) ?_
            refine lv_iconst (v := 1) hx hb dX7_read_72 (by decide) ?_
            refine gb_put (ci := 6) (v := (.int 1)) (ty := .int) (C := RX7) (T := TX7) (N := 6) hx hb hq i_X7 tyX7 tyX7_ok nmX7 hown hK hP (fun k h => ⟨Nat.le_add_right b k, Nat.add_lt_add_left h b⟩) hS rfl 106 rfl rfl 4 (by decide) (hq _ w_171) (fun _ h9 => h9) rfl (by decide +kernel) rfl rfl (Nat.le_of_ble_eq_true rfl) dX7_read_73 (fun H locs hP hz_ hS => ?_)
            obtain ⟨s_110, es_110⟩ : ∃ q, q = (gb_su s_100 106 (upd (s_100.1 106) 4 1)) := ⟨_, rfl⟩
            replace hP : va_P D vwCl (gb_wl b (gb_CW cT b s_110)) H := by rw [es_110]; exact hP
            replace h := gb_lt_s es_110 h
            refine lv_aload_n hx hb dX7_read_76 rfl (lv_at hl 0 rfl) ?_
            refine lv_aload_n hx hb dX7_read_77 rfl (lv_at hl 0 rfl) ?_
            refine va_get (ci := 6) (v := (.int (s_110.1 106 3))) (C := RX7) (T := TX7) (N := 6) hx hb hq i_X7 hown hK hP 106 (gb_at b rfl) rfl 3 (by decide) (hq _ w_170) (fun _ h9 => h9) rfl dX7_read_78 ?_
            refine gb_put (ci := 6) (v := (.int (s_110.1 106 3))) (ty := .int) (C := RX7) (T := TX7) (N := 6) hx hb hq i_X7 tyX7 tyX7_ok nmX7 hown hK hP (fun k h => ⟨Nat.le_add_right b k, Nat.add_lt_add_left h b⟩) hS rfl 106 rfl rfl 5 (by decide) (hq _ w_173) (fun _ h9 => h9) rfl (by decide +kernel) rfl rfl (Nat.le_of_ble_eq_true rfl) dX7_read_81 (fun H locs hP hz_ hS => ?_)
            obtain ⟨s_111, es_111⟩ : ∃ q, q = (gb_su s_110 106 (upd (s_110.1 106) 5 (s_110.1 106 3))) := ⟨_, rfl⟩
            replace hP : va_P D vwCl (gb_wl b (gb_CW cT b s_111)) H := by rw [es_111]; exact hP
            replace h := gb_lt_s es_111 h
            obtain ⟨e1, -⟩ := gb_eq2 h
            exact W.vret hx hb hr (fun t ht hW => gb_rv ht (by rw [← e1]; exact hP) hS) hS.2.2 dX7_read_84
  unfold cs_Reader_read_c23_S at h
  refine lv_aload_n hx hb dX7_read_0 rfl (lv_at hl 0 rfl) ?_
  refine lv_aload_n hx hb dX7_read_1 rfl (lv_at hl 1 rfl) ?_
  refine gb_put (ci := 6) (v := (.ref (b + 23))) (ty := .array .byte) (C := RX7) (T := TX7) (N := 6) hx hb hq i_X7 tyX7 tyX7_ok nmX7 hown hK hP (fun k h => ⟨Nat.le_add_right b k, Nat.add_lt_add_left h b⟩) hS rfl 106 rfl rfl 1 (by decide) (hq _ w_168) (fun _ h9 => h9) rfl (by decide +kernel) rfl rfl (Nat.le_of_ble_eq_true rfl) dX7_read_2 (fun H locs hP hz_ hS => ?_)
  obtain ⟨s_1, es_1⟩ : ∃ q, q = (gb_sq σ 0 23) := ⟨_, rfl⟩
  replace hP : va_P D vwCl (gb_wl b (gb_CW cT b s_1)) H := by rw [es_1]; exact hP
  replace h := gb_lt_s es_1 h
  refine lv_aload_n hx hb dX7_read_5 rfl (lv_at hl 0 rfl) ?_
  refine lv_iload_n hx hb dX7_read_6 rfl (lv_at hl 2 rfl) ?_
  refine lv_aload_n hx hb dX7_read_7 rfl (lv_at hl 1 rfl) ?_
  refine va_alen (v := 600) hx hb hK hP 23 1 (gb_at b rfl) rfl rfl dX7_read_8 ?_
  refine va_mmin hx hb (hml.trans hl.1.symm) hown (hq _ w_366) (hq _ w_367) (hq _ w_5) (hq _ w_368) (Nat.le_of_ble_eq_true rfl) (Nat.le_of_ble_eq_true rfl) (Nat.le_of_ble_eq_true rfl) (Nat.le_of_ble_eq_true rfl) dX7_read_9 ?_
  refine lv_topi (fun x_2 ex_2 => ?_)
  replace h := gb_lt_s ex_2 h
  refine gb_put (ci := 6) (v := (.int x_2)) (ty := .int) (C := RX7) (T := TX7) (N := 6) hx hb hq i_X7 tyX7 tyX7_ok nmX7 hown hK hP (fun k h => ⟨Nat.le_add_right b k, Nat.add_lt_add_left h b⟩) hS rfl 106 rfl rfl 2 (by decide) (hq _ w_169) (fun _ h9 => h9) rfl (by decide +kernel) rfl rfl (Nat.le_of_ble_eq_true rfl) dX7_read_12 (fun H locs hP hz_ hS => ?_)
  obtain ⟨s_3, es_3⟩ : ∃ q, q = (gb_su s_1 106 (upd (s_1.1 106) 2 x_2)) := ⟨_, rfl⟩
  replace hP : va_P D vwCl (gb_wl b (gb_CW cT b s_3)) H := by rw [es_3]; exact hP
  replace h := gb_lt_s es_3 h
  refine lv_aload_n hx hb dX7_read_15 rfl (lv_at hl 0 rfl) ?_
  refine lv_iconst (v := 0) hx hb dX7_read_16 (by decide) ?_
  refine gb_put (ci := 6) (v := (.int 0)) (ty := .int) (C := RX7) (T := TX7) (N := 6) hx hb hq i_X7 tyX7 tyX7_ok nmX7 hown hK hP (fun k h => ⟨Nat.le_add_right b k, Nat.add_lt_add_left h b⟩) hS rfl 106 rfl rfl 3 (by decide) (hq _ w_170) (fun _ h9 => h9) rfl (by decide +kernel) rfl rfl (Nat.le_of_ble_eq_true rfl) dX7_read_17 (fun H locs hP hz_ hS => ?_)
  obtain ⟨s_4, es_4⟩ : ∃ q, q = (gb_su s_3 106 (upd (s_3.1 106) 3 0)) := ⟨_, rfl⟩
  replace hP : va_P D vwCl (gb_wl b (gb_CW cT b s_4)) H := by rw [es_4]; exact hP
  replace h := gb_lt_s es_4 h
  refine lv_aload_n hx hb dX7_read_20 rfl (lv_at hl 0 rfl) ?_
  refine lv_iconst (v := 0) hx hb dX7_read_21 (by decide) ?_
  refine gb_put (ci := 6) (v := (.int 0)) (ty := .int) (C := RX7) (T := TX7) (N := 6) hx hb hq i_X7 tyX7 tyX7_ok nmX7 hown hK hP (fun k h => ⟨Nat.le_add_right b k, Nat.add_lt_add_left h b⟩) hS rfl 106 rfl rfl 4 (by decide) (hq _ w_171) (fun _ h9 => h9) rfl (by decide +kernel) rfl rfl (Nat.le_of_ble_eq_true rfl) dX7_read_22 (fun H locs hP hz_ hS => ?_)
  obtain ⟨s_5, es_5⟩ : ∃ q, q = (gb_su s_4 106 (upd (s_4.1 106) 4 0)) := ⟨_, rfl⟩
  replace hP : va_P D vwCl (gb_wl b (gb_CW cT b s_5)) H := by rw [es_5]; exact hP
  replace h := gb_lt_s es_5 h
  refine lv_aload_n hx hb dX7_read_25 rfl (lv_at hl 0 rfl) ?_
  refine lv_iconst (v := (-1)) hx hb dX7_read_26 (by decide) ?_
  refine gb_put (ci := 6) (v := (.int (-1))) (ty := .int) (C := RX7) (T := TX7) (N := 6) hx hb hq i_X7 tyX7 tyX7_ok nmX7 hown hK hP (fun k h => ⟨Nat.le_add_right b k, Nat.add_lt_add_left h b⟩) hS rfl 106 rfl rfl 5 (by decide) (hq _ w_173) (fun _ h9 => h9) rfl (by decide +kernel) rfl rfl (Nat.le_of_ble_eq_true rfl) dX7_read_27 (fun H locs hP hz_ hS => ?_)
  obtain ⟨s_6, es_6⟩ : ∃ q, q = (gb_su s_5 106 (upd (s_5.1 106) 5 (-1))) := ⟨_, rfl⟩
  replace hP : va_P D vwCl (gb_wl b (gb_CW cT b s_6)) H := by rw [es_6]; exact hP
  replace h := gb_lt_s es_6 h
  refine lv_aload hx hb dX7_read_30 (lv_at hl 4 rfl) ?_
  by_cases z_7 : gb_kB p4 = true
  · rw [if_pos z_7] at h
    obtain ⟨s_8, r_9, z_10, h⟩ := gb_cd_s h
    refine gb_callv (va_runU (x := ⟨"GooseBorder$Sheet", "clear", "()V"⟩) (C := RX0) (owner := "GooseBorder$Sheet") (As := []) (rest := []) ⟨hx, hb, hml, hown, hq⟩ (cc_Border_clear_B l D cT tt b1 b hb1 n s_6 p4 s_8 r_9 z_10) (va_cwA (owner := "GooseBorder$Sheet") (C := RX0) 0 hq (gb_gU w_369 w_371 w_372 w_373 w_4 w_374) rfl rfl rfl (hSt.2.1 _ gb_n370) (by decide +kernel) ⟨Nat.le_of_ble_eq_true rfl, Nat.le_of_ble_eq_true rfl⟩) (gb_preV (r := (RX0, TX0, 1)) (ci := 0) (q0 := p4) hSt hP rfl (gb_at b (gb_cB z_7).1) hS (fun q h => Nat.le_trans hb1 h.1) hP) rfl rfl hl.1 rfl (lv_room (Nat.le_of_ble_eq_true rfl)) dX7_read_32 ⟨Nat.le_of_ble_eq_true rfl, Nat.le_of_ble_eq_true rfl⟩) hS (fun _ h => h) (fun _ h => h) (fun H locs hY hk hS => ?_)
    have hP := hY
    refine lv_aload_n hx hb dX7_read_35 rfl (lv_at hl 0 rfl) ?_
    obtain ⟨s_12, r_13, z_14, h⟩ := gb_cd_s h
    refine gb_callv (va_runV (C := RX7) (As := []) (rest := []) ⟨hx, hb, hml, hown, hq⟩ (cc_Reader_skipBlanks l D cT tt b1 b hb1 n s_8 s_12 r_13 z_14) (cwV 0 hq (gb_gV w_380 w_382 s_1_0 w_10 w_383) rfl rfl rfl (by decide +kernel) ⟨Nat.le_of_ble_eq_true rfl, Nat.le_of_ble_eq_true rfl⟩) (gb_preV (r := (RX7, TX7, 6)) (ci := 6) (q0 := 106) hSt hP rfl (gb_at b rfl) hS (fun q h => Nat.le_trans hb1 h.1) hP) rfl rfl hl.1 rfl (lv_room (Nat.le_of_ble_eq_true rfl)) dX7_read_36 ⟨Nat.le_of_ble_eq_true rfl, Nat.le_of_ble_eq_true rfl⟩) hS (fun _ h => h) (fun _ h => h) (fun H locs hY hk hS => ?_)
    have hP := hY
    refine lv_iconst (v := 0) hx hb dX7_read_39 (by decide) ?_
    refine lv_istore (lv' := [(5, .int 0), (0, .ref (b + 106)), (1, .ref (b + 23)), (2, .int p2), (3, .int p3), (4, .ref (b + p4))]) hx hb dX7_read_40 hl (by decide) rfl (fun ls hl => ?_)
    exact L42_1 n _ _ _ _ _ _ _ h hP hS (lv_sub hl [1, 4, 5, 0] rfl)
  rw [if_neg z_7] at h
  by_cases z_112 : gb_kN p4 = true
  · rw [if_pos z_112] at h
    obtain ⟨s_113, r_114, z_115, h⟩ := gb_cd_s h
    refine gb_callv (va_runU (x := ⟨"GooseBorder$Sheet", "clear", "()V"⟩) (C := RX5) (owner := "GooseBorder$Sheet") (As := []) (rest := []) ⟨hx, hb, hml, hown, hq⟩ (cc_Lines_clear_N l D cT tt b1 b hb1 n s_6 p4 s_113 r_114 z_115) (va_cwA (owner := "GooseBorder$Sheet") (C := RX5) 0 hq (gb_gU w_369 w_371 w_379 w_376 w_6 w_377) rfl rfl rfl (hSt.2.1 _ gb_n370) (by decide +kernel) ⟨Nat.le_of_ble_eq_true rfl, Nat.le_of_ble_eq_true rfl⟩) (gb_preV (r := (RX5, TX5, 4)) (ci := 4) (q0 := p4) hSt hP rfl (gb_at b (gb_cN z_112).1) hS (fun q h => Nat.le_trans hb1 h.1) hP) rfl rfl hl.1 rfl (lv_room (Nat.le_of_ble_eq_true rfl)) dX7_read_32 ⟨Nat.le_of_ble_eq_true rfl, Nat.le_of_ble_eq_true rfl⟩) hS (fun _ h => h) (fun _ h => h) (fun H locs hY hk hS => ?_)
    have hP := hY
    refine lv_aload_n hx hb dX7_read_35 rfl (lv_at hl 0 rfl) ?_
    obtain ⟨s_117, r_118, z_119, h⟩ := gb_cd_s h
    refine gb_callv (va_runV (C := RX7) (As := []) (rest := []) ⟨hx, hb, hml, hown, hq⟩ (cc_Reader_skipBlanks l D cT tt b1 b hb1 n s_113 s_117 r_118 z_119) (cwV 0 hq (gb_gV w_380 w_382 s_1_0 w_10 w_383) rfl rfl rfl (by decide +kernel) ⟨Nat.le_of_ble_eq_true rfl, Nat.le_of_ble_eq_true rfl⟩) (gb_preV (r := (RX7, TX7, 6)) (ci := 6) (q0 := 106) hSt hP rfl (gb_at b rfl) hS (fun q h => Nat.le_trans hb1 h.1) hP) rfl rfl hl.1 rfl (lv_room (Nat.le_of_ble_eq_true rfl)) dX7_read_36 ⟨Nat.le_of_ble_eq_true rfl, Nat.le_of_ble_eq_true rfl⟩) hS (fun _ h => h) (fun _ h => h) (fun H locs hY hk hS => ?_)
    have hP := hY
    refine lv_iconst (v := 0) hx hb dX7_read_39 (by decide) ?_
    refine lv_istore (lv' := [(5, .int 0), (0, .ref (b + 106)), (1, .ref (b + 23)), (2, .int p2), (3, .int p3), (4, .ref (b + p4))]) hx hb dX7_read_40 hl (by decide) rfl (fun ls hl => ?_)
    exact L42_1 n _ _ _ _ _ _ _ h hP hS (lv_sub hl [1, 4, 5, 0] rfl)
  rw [if_neg z_112] at h
  by_cases z_121 : gb_kL p4 = true
  · rw [if_pos z_121] at h
    obtain ⟨s_122, r_123, z_124, h⟩ := gb_cd_s h
    refine gb_callv (va_runU (x := ⟨"GooseBorder$Sheet", "clear", "()V"⟩) (C := RX3) (owner := "GooseBorder$Sheet") (As := []) (rest := []) ⟨hx, hb, hml, hown, hq⟩ (cc_Lines_clear_L l D cT tt b1 b hb1 n s_6 p4 s_122 r_123 z_124) (va_cwA (owner := "GooseBorder$Sheet") (C := RX3) 0 hq (gb_gU w_369 w_371 w_378 w_376 w_6 w_377) rfl rfl rfl (hSt.2.1 _ gb_n370) (by decide +kernel) ⟨Nat.le_of_ble_eq_true rfl, Nat.le_of_ble_eq_true rfl⟩) (gb_preV (r := (RX3, TX3, 4)) (ci := 3) (q0 := p4) hSt hP rfl (gb_at b (gb_cL z_121).1) hS (fun q h => Nat.le_trans hb1 h.1) hP) rfl rfl hl.1 rfl (lv_room (Nat.le_of_ble_eq_true rfl)) dX7_read_32 ⟨Nat.le_of_ble_eq_true rfl, Nat.le_of_ble_eq_true rfl⟩) hS (fun _ h => h) (fun _ h => h) (fun H locs hY hk hS => ?_)
    have hP := hY
    refine lv_aload_n hx hb dX7_read_35 rfl (lv_at hl 0 rfl) ?_
    obtain ⟨s_126, r_127, z_128, h⟩ := gb_cd_s h
    refine gb_callv (va_runV (C := RX7) (As := []) (rest := []) ⟨hx, hb, hml, hown, hq⟩ (cc_Reader_skipBlanks l D cT tt b1 b hb1 n s_122 s_126 r_127 z_128) (cwV 0 hq (gb_gV w_380 w_382 s_1_0 w_10 w_383) rfl rfl rfl (by decide +kernel) ⟨Nat.le_of_ble_eq_true rfl, Nat.le_of_ble_eq_true rfl⟩) (gb_preV (r := (RX7, TX7, 6)) (ci := 6) (q0 := 106) hSt hP rfl (gb_at b rfl) hS (fun q h => Nat.le_trans hb1 h.1) hP) rfl rfl hl.1 rfl (lv_room (Nat.le_of_ble_eq_true rfl)) dX7_read_36 ⟨Nat.le_of_ble_eq_true rfl, Nat.le_of_ble_eq_true rfl⟩) hS (fun _ h => h) (fun _ h => h) (fun H locs hY hk hS => ?_)
    have hP := hY
    refine lv_iconst (v := 0) hx hb dX7_read_39 (by decide) ?_
    refine lv_istore (lv' := [(5, .int 0), (0, .ref (b + 106)), (1, .ref (b + 23)), (2, .int p2), (3, .int p3), (4, .ref (b + p4))]) hx hb dX7_read_40 hl (by decide) rfl (fun ls hl => ?_)
    exact L42_1 n _ _ _ _ _ _ _ h hP hS (lv_sub hl [1, 4, 5, 0] rfl)
  rw [if_neg z_121] at h
  by_cases z_130 : gb_kD p4 = true
  · rw [if_pos z_130] at h
    obtain ⟨s_131, r_132, z_133, h⟩ := gb_cd_s h
    refine gb_callv (va_runU (x := ⟨"GooseBorder$Sheet", "clear", "()V"⟩) (C := RX1) (owner := "GooseBorder$Sheet") (As := []) (rest := []) ⟨hx, hb, hml, hown, hq⟩ (cc_Lines_clear_D l D cT tt b1 b hb1 n s_6 p4 s_131 r_132 z_133) (va_cwA (owner := "GooseBorder$Sheet") (C := RX1) 0 hq (gb_gU w_369 w_371 w_375 w_376 w_6 w_377) rfl rfl rfl (hSt.2.1 _ gb_n370) (by decide +kernel) ⟨Nat.le_of_ble_eq_true rfl, Nat.le_of_ble_eq_true rfl⟩) (gb_preV (r := (RX1, TX1, 4)) (ci := 1) (q0 := p4) hSt hP rfl (gb_at b (gb_cD z_130).1) hS (fun q h => Nat.le_trans hb1 h.1) hP) rfl rfl hl.1 rfl (lv_room (Nat.le_of_ble_eq_true rfl)) dX7_read_32 ⟨Nat.le_of_ble_eq_true rfl, Nat.le_of_ble_eq_true rfl⟩) hS (fun _ h => h) (fun _ h => h) (fun H locs hY hk hS => ?_)
    have hP := hY
    refine lv_aload_n hx hb dX7_read_35 rfl (lv_at hl 0 rfl) ?_
    obtain ⟨s_135, r_136, z_137, h⟩ := gb_cd_s h
    refine gb_callv (va_runV (C := RX7) (As := []) (rest := []) ⟨hx, hb, hml, hown, hq⟩ (cc_Reader_skipBlanks l D cT tt b1 b hb1 n s_131 s_135 r_136 z_137) (cwV 0 hq (gb_gV w_380 w_382 s_1_0 w_10 w_383) rfl rfl rfl (by decide +kernel) ⟨Nat.le_of_ble_eq_true rfl, Nat.le_of_ble_eq_true rfl⟩) (gb_preV (r := (RX7, TX7, 6)) (ci := 6) (q0 := 106) hSt hP rfl (gb_at b rfl) hS (fun q h => Nat.le_trans hb1 h.1) hP) rfl rfl hl.1 rfl (lv_room (Nat.le_of_ble_eq_true rfl)) dX7_read_36 ⟨Nat.le_of_ble_eq_true rfl, Nat.le_of_ble_eq_true rfl⟩) hS (fun _ h => h) (fun _ h => h) (fun H locs hY hk hS => ?_)
    have hP := hY
    refine lv_iconst (v := 0) hx hb dX7_read_39 (by decide) ?_
    refine lv_istore (lv' := [(5, .int 0), (0, .ref (b + 106)), (1, .ref (b + 23)), (2, .int p2), (3, .int p3), (4, .ref (b + p4))]) hx hb dX7_read_40 hl (by decide) rfl (fun ls hl => ?_)
    exact L42_1 n _ _ _ _ _ _ _ h hP hS (lv_sub hl [1, 4, 5, 0] rfl)
  rw [if_neg z_130] at h
  cases h
theorem w_365 : (Cond.code ({ cls := "GooseBorder$Reader", name := "read", desc := "([BIILGooseBorder$Sheet;)V" } : MethodName) prog_9_method_2_code (6 : Nat) (Option.none : Option FieldType)) ∈ gb_wA := gb_t2 125 rfl rfl
theorem w_362 : (Cond.methodLink "GooseBorder" (96 : Nat) ({ cls := "GooseBorder$Reader", name := "read", desc := "([BIILGooseBorder$Sheet;)V" } : MethodName)) ∈ gb_wA := gb_t2 122 rfl rfl
theorem w_363 : (Cond.instanceMethod ({ cls := "GooseBorder$Reader", name := "read", desc := "([BIILGooseBorder$Sheet;)V" } : MethodName)) ∈ gb_wA := gb_t2 123 rfl rfl
theorem w_364 : (Cond.selects "GooseBorder$Reader" ({ cls := "GooseBorder$Reader", name := "read", desc := "([BIILGooseBorder$Sheet;)V" } : MethodName) ({ cls := "GooseBorder$Reader", name := "read", desc := "([BIILGooseBorder$Sheet;)V" } : MethodName)) ∈ gb_wA := gb_t2 124 rfl rfl
theorem dX11_text_120 : decode cX11_text 120 = .ok (.aload_n 0, 1) := dc_42 (show ((cX11_text.data.toList.drop 120).take 1).map UInt8.toNat = [42] by decide +kernel)
theorem dX11_text_121 : decode cX11_text 121 = .ok (.getfield 12, 3) := dc_180 (show ((cX11_text.data.toList.drop 121).take 3).map UInt8.toNat = [180, 0, 12] by decide +kernel) rfl
theorem dX11_text_124 : decode cX11_text 124 = .ok (.aload_n 0, 1) := dc_42 (show ((cX11_text.data.toList.drop 124).take 1).map UInt8.toNat = [42] by decide +kernel)
theorem dX11_text_125 : decode cX11_text 125 = .ok (.getfield 49, 3) := dc_180 (show ((cX11_text.data.toList.drop 125).take 3).map UInt8.toNat = [180, 0, 49] by decide +kernel) rfl
theorem dX11_text_128 : decode cX11_text 128 = .ok (.getfield 100, 3) := dc_180 (show ((cX11_text.data.toList.drop 128).take 3).map UInt8.toNat = [180, 0, 100] by decide +kernel) rfl
theorem w_172 : (Cond.fieldLink "GooseBorder" (100 : Nat) "GooseBorder$Reader" "fault" "I") ∈ gb_wA := gb_t1 172 rfl rfl
theorem dX11_text_131 : decode cX11_text 131 = .ok (.putfield 82, 3) := dc_181 (show ((cX11_text.data.toList.drop 131).take 3).map UInt8.toNat = [181, 0, 82] by decide +kernel) rfl
theorem dX11_text_134 : decode cX11_text 134 = .ok (.aload_n 0, 1) := dc_42 (show ((cX11_text.data.toList.drop 134).take 1).map UInt8.toNat = [42] by decide +kernel)
theorem dX11_text_135 : decode cX11_text 135 = .ok (.getfield 12, 3) := dc_180 (show ((cX11_text.data.toList.drop 135).take 3).map UInt8.toNat = [180, 0, 12] by decide +kernel) rfl
theorem dX11_text_138 : decode cX11_text 138 = .ok (.aload_n 0, 1) := dc_42 (show ((cX11_text.data.toList.drop 138).take 1).map UInt8.toNat = [42] by decide +kernel)
theorem dX11_text_139 : decode cX11_text 139 = .ok (.getfield 49, 3) := dc_180 (show ((cX11_text.data.toList.drop 139).take 3).map UInt8.toNat = [180, 0, 49] by decide +kernel) rfl
theorem dX11_text_142 : decode cX11_text 142 = .ok (.getfield 101, 3) := dc_180 (show ((cX11_text.data.toList.drop 142).take 3).map UInt8.toNat = [180, 0, 101] by decide +kernel) rfl
theorem w_174 : (Cond.fieldLink "GooseBorder" (101 : Nat) "GooseBorder$Reader" "place" "I") ∈ gb_wA := gb_t1 174 rfl rfl
theorem dX11_text_145 : decode cX11_text 145 = .ok (.putfield 85, 3) := dc_181 (show ((cX11_text.data.toList.drop 145).take 3).map UInt8.toNat = [181, 0, 85] by decide +kernel) rfl
theorem dX11_text_148 : decode cX11_text 148 = .ok (.aload_n 0, 1) := dc_42 (show ((cX11_text.data.toList.drop 148).take 1).map UInt8.toNat = [42] by decide +kernel)
theorem dX11_text_149 : decode cX11_text 149 = .ok (.getfield 12, 3) := dc_180 (show ((cX11_text.data.toList.drop 149).take 3).map UInt8.toNat = [180, 0, 12] by decide +kernel) rfl
theorem dX11_text_152 : decode cX11_text 152 = .ok (.getfield 82, 3) := dc_180 (show ((cX11_text.data.toList.drop 152).take 3).map UInt8.toNat = [180, 0, 82] by decide +kernel) rfl
theorem dX11_text_155 : decode cX11_text 155 = .ok (.ifCond .eq 5, 3) := dc_153 (show ((cX11_text.data.toList.drop 155).take 3).map UInt8.toNat = [153, 0, 5] by decide +kernel) rfl
theorem dX11_text_160 : decode cX11_text 160 = .ok (.iload 5, 2) := dc_21 (show ((cX11_text.data.toList.drop 160).take 2).map UInt8.toNat = [21, 5] by decide +kernel) rfl
theorem dX11_text_162 : decode cX11_text 162 = .ok (.ifCond .eq 8, 3) := dc_153 (show ((cX11_text.data.toList.drop 162).take 3).map UInt8.toNat = [153, 0, 8] by decide +kernel) rfl
theorem dX11_text_170 : decode cX11_text 170 = .ok (.iload_n 2, 1) := dc_28 (show ((cX11_text.data.toList.drop 170).take 1).map UInt8.toNat = [28] by decide +kernel)
theorem dX11_text_171 : decode cX11_text 171 = .ok (.istore 7, 2) := dc_54 (show ((cX11_text.data.toList.drop 171).take 2).map UInt8.toNat = [54, 7] by decide +kernel) rfl
theorem dX11_text_173 : decode cX11_text 173 = .ok (.aload_n 0, 1) := dc_42 (show ((cX11_text.data.toList.drop 173).take 1).map UInt8.toNat = [42] by decide +kernel)
theorem dX11_text_174 : decode cX11_text 174 = .ok (.getfield 12, 3) := dc_180 (show ((cX11_text.data.toList.drop 174).take 3).map UInt8.toNat = [180, 0, 12] by decide +kernel) rfl
theorem dX11_text_177 : decode cX11_text 177 = .ok (.iload_n 1, 1) := dc_27 (show ((cX11_text.data.toList.drop 177).take 1).map UInt8.toNat = [27] by decide +kernel)
theorem dX11_text_178 : decode cX11_text 178 = .ok (.iload 7, 2) := dc_21 (show ((cX11_text.data.toList.drop 178).take 2).map UInt8.toNat = [21, 7] by decide +kernel) rfl
theorem dX11_text_180 : decode cX11_text 180 = .ok (.invokevirtual 102, 3) := dc_182 (show ((cX11_text.data.toList.drop 180).take 3).map UInt8.toNat = [182, 0, 102] by decide +kernel) rfl
theorem w_552 : (Cond.methodLink "GooseBorder" (102 : Nat) ({ cls := "GooseBorder$Told", name := "sheetOf", desc := "(II)LGooseBorder$Sheet;" } : MethodName)) ∈ gb_wA := gb_t3 72 rfl rfl
theorem dX11_text_183 : decode cX11_text 183 = .ok (.aload 6, 2) := dc_25 (show ((cX11_text.data.toList.drop 183).take 2).map UInt8.toNat = [25, 6] by decide +kernel) rfl
theorem dX11_text_185 : decode cX11_text 185 = .ok (.invokevirtual 106, 3) := dc_182 (show ((cX11_text.data.toList.drop 185).take 3).map UInt8.toNat = [182, 0, 106] by decide +kernel) rfl
theorem w_556 : (Cond.methodLink "GooseBorder" (106 : Nat) ({ cls := "GooseBorder$Sheet", name := "copyFrom", desc := "(LGooseBorder$Sheet;)V" } : MethodName)) ∈ gb_wA := gb_t3 76 rfl rfl
theorem dX11_text_188 : decode cX11_text 188 = .ok (.iload 5, 2) := dc_21 (show ((cX11_text.data.toList.drop 188).take 2).map UInt8.toNat = [21, 5] by decide +kernel) rfl
theorem dX11_text_190 : decode cX11_text 190 = .ok (.ifCond .eq 16, 3) := dc_153 (show ((cX11_text.data.toList.drop 190).take 3).map UInt8.toNat = [153, 0, 16] by decide +kernel) rfl
theorem dX11_text_206 : decode cX11_text 206 = .ok (.iload 7, 2) := dc_21 (show ((cX11_text.data.toList.drop 206).take 2).map UInt8.toNat = [21, 7] by decide +kernel) rfl
theorem dX11_text_208 : decode cX11_text 208 = .ok (.ireturn, 1) := dc_172 (show ((cX11_text.data.toList.drop 208).take 1).map UInt8.toNat = [172] by decide +kernel)
theorem dX11_text_193 : decode cX11_text 193 = .ok (.aload_n 0, 1) := dc_42 (show ((cX11_text.data.toList.drop 193).take 1).map UInt8.toNat = [42] by decide +kernel)
theorem dX11_text_194 : decode cX11_text 194 = .ok (.getfield 12, 3) := dc_180 (show ((cX11_text.data.toList.drop 194).take 3).map UInt8.toNat = [180, 0, 12] by decide +kernel) rfl
theorem dX11_text_197 : decode cX11_text 197 = .ok (.getfield 88, 3) := dc_180 (show ((cX11_text.data.toList.drop 197).take 3).map UInt8.toNat = [180, 0, 88] by decide +kernel) rfl
theorem dX11_text_200 : decode cX11_text 200 = .ok (.iload_n 1, 1) := dc_27 (show ((cX11_text.data.toList.drop 200).take 1).map UInt8.toNat = [27] by decide +kernel)
theorem dX11_text_201 : decode cX11_text 201 = .ok (.iload 4, 2) := dc_21 (show ((cX11_text.data.toList.drop 201).take 2).map UInt8.toNat = [21, 4] by decide +kernel) rfl
theorem dX11_text_203 : decode cX11_text 203 = .ok (.iconst 1, 1) := dc_4 (show ((cX11_text.data.toList.drop 203).take 1).map UInt8.toNat = [4] by decide +kernel)
theorem dX11_text_204 : decode cX11_text 204 = .ok (.iadd, 1) := dc_96 (show ((cX11_text.data.toList.drop 204).take 1).map UInt8.toNat = [96] by decide +kernel)
theorem dX11_text_205 : decode cX11_text 205 = .ok (.iastore, 1) := dc_79 (show ((cX11_text.data.toList.drop 205).take 1).map UInt8.toNat = [79] by decide +kernel)
theorem dX11_text_165 : decode cX11_text 165 = .ok (.iload 4, 2) := dc_21 (show ((cX11_text.data.toList.drop 165).take 2).map UInt8.toNat = [21, 4] by decide +kernel) rfl
theorem dX11_text_167 : decode cX11_text 167 = .ok (.goto 4, 3) := dc_167 (show ((cX11_text.data.toList.drop 167).take 3).map UInt8.toNat = [167, 0, 4] by decide +kernel) rfl
theorem dX11_text_158 : decode cX11_text 158 = .ok (.iconst (-1), 1) := dc_2 (show ((cX11_text.data.toList.drop 158).take 1).map UInt8.toNat = [2] by decide +kernel)
theorem dX11_text_159 : decode cX11_text 159 = .ok (.ireturn, 1) := dc_172 (show ((cX11_text.data.toList.drop 159).take 1).map UInt8.toNat = [172] by decide +kernel)
theorem dX11_text_72 : decode cX11_text 72 = .ok (.iload 4, 2) := dc_21 (show ((cX11_text.data.toList.drop 72).take 2).map UInt8.toNat = [21, 4] by decide +kernel) rfl
theorem dX11_text_74 : decode cX11_text 74 = .ok (.iconst 2, 1) := dc_5 (show ((cX11_text.data.toList.drop 74).take 1).map UInt8.toNat = [5] by decide +kernel)
theorem dX11_text_75 : decode cX11_text 75 = .ok (.if_icmp .lt 19, 3) := dc_161 (show ((cX11_text.data.toList.drop 75).take 3).map UInt8.toNat = [161, 0, 19] by decide +kernel) rfl
theorem dX11_text_78 : decode cX11_text 78 = .ok (.goto 13, 3) := dc_167 (show ((cX11_text.data.toList.drop 78).take 3).map UInt8.toNat = [167, 0, 13] by decide +kernel) rfl
theorem dX11_text_60 : decode cX11_text 60 = .ok (.iconst 1, 1) := dc_4 (show ((cX11_text.data.toList.drop 60).take 1).map UInt8.toNat = [4] by decide +kernel)
theorem dX11_text_61 : decode cX11_text 61 = .ok (.goto 4, 3) := dc_167 (show ((cX11_text.data.toList.drop 61).take 3).map UInt8.toNat = [167, 0, 4] by decide +kernel) rfl
def cs_Face_text_171 (n : Nat) (σ : gb_S) (v1 : Int32) (v4 : Int32) (v5 : Int32) (v6 : Nat) (t0 : Int32) : gb_CR Int32 := gb_cd (cs_Told_sheetOf_T n σ 1 v1 t0) (fun s_23 r_24 => (if r_24 = 0 then none else (if gb_kB r_24 = true then gb_kk (gb_kB v6) (gb_cd (cs_Sheet_copyFrom_B_B n s_23 r_24 v6) (fun s_30 _ => (if v5 = 0 then some (s_30, t0) else gb_ck v1 4 (gb_lt (gb_su s_30 22 (upd (s_30.1 22) (Int32.toNatClampNeg v1) (v4 + 1))) (fun s_36 => some (s_36, t0)))))) else (if gb_kN r_24 = true then gb_kk (gb_kN v6) (gb_cd (cs_Sheet_copyFrom_N_N n s_23 r_24 v6) (fun s_39 _ => (if v5 = 0 then some (s_39, t0) else gb_ck v1 4 (gb_lt (gb_su s_39 22 (upd (s_39.1 22) (Int32.toNatClampNeg v1) (v4 + 1))) (fun s_45 => some (s_45, t0)))))) else (if gb_kL r_24 = true then gb_kk (gb_kL v6) (gb_cd (cs_Sheet_copyFrom_L_L n s_23 r_24 v6) (fun s_48 _ => (if v5 = 0 then some (s_48, t0) else gb_ck v1 4 (gb_lt (gb_su s_48 22 (upd (s_48.1 22) (Int32.toNatClampNeg v1) (v4 + 1))) (fun s_54 => some (s_54, t0)))))) else (if gb_kD r_24 = true then gb_kk (gb_kD v6) (gb_cd (cs_Sheet_copyFrom_D_D n s_23 r_24 v6) (fun s_57 _ => (if v5 = 0 then some (s_57, t0) else gb_ck v1 4 (gb_lt (gb_su s_57 22 (upd (s_57.1 22) (Int32.toNatClampNeg v1) (v4 + 1))) (fun s_63 => some (s_63, t0)))))) else none))))))
def cs_Face_text_94 (n : Nat) (σ : gb_S) (v1 : Int32) (v2 : Int32) (v3 : Int32) (v4 : Int32) (v5 : Int32) : gb_CR Int32 := gb_ck v1 4 (gb_lt (([96, 98, 100, 102] : List Nat).getD (Int32.toNatClampNeg v1) 0) (fun a_14 => gb_cd (cs_Reader_read_c23_S n σ v3 v1 a_14) (fun s_15 _ => gb_lt (gb_su s_15 1 (upd (s_15.1 1) 7 (s_15.1 106 4))) (fun s_19 => gb_lt (gb_su s_19 1 (upd (s_19.1 1) 8 (s_19.1 106 5))) (fun s_20 => (if (s_20.1 1 7) = 0 then (if v5 = 0 then cs_Face_text_171 n s_20 v1 v4 v5 a_14 v2 else cs_Face_text_171 n s_20 v1 v4 v5 a_14 v4) else some (s_20, (-1))))))))
def cs_Face_text_65 (n : Nat) (σ : gb_S) (v1 : Int32) (v2 : Int32) (v3 : Int32) (v4 : Int32) (t0 : Int32) : gb_CR Int32 := (if t0 = 0 then (if v2 < 0 then some (σ, (-2)) else (if v2 < v4 then cs_Face_text_94 n σ v1 v2 v3 v4 t0 else some (σ, (-2)))) else (if v4 < 2 then cs_Face_text_94 n σ v1 v2 v3 v4 t0 else some (σ, (-2))))
def cs_Face_text (n : Nat) (σ : gb_S) (p1 : Int32) (p2 : Int32) : gb_CR Int32 := gb_lt (σ.1 1 6) (fun x_1 => gb_lt (gb_su σ 1 (upd (σ.1 1) 6 0)) (fun s_2 => gb_lt (gb_su s_2 1 (upd (s_2.1 1) 7 0)) (fun s_3 => gb_lt (gb_su s_3 1 (upd (s_3.1 1) 8 (-1))) (fun s_4 => (if p1 < 0 then some (s_4, (-2)) else (if p1 < 4 then gb_ck p1 4 (gb_lt ((s_4.1 22) (Int32.toNatClampNeg p1)) (fun x_8 => (if p2 = (-1) then cs_Face_text_65 n s_4 p1 p2 x_1 x_8 1 else cs_Face_text_65 n s_4 p1 p2 x_1 x_8 0))) else some (s_4, (-2))))))))
set_option maxHeartbeats 8000000 in
set_option maxRecDepth 100000 in
theorem cc_Face_text (l : Launch) (D : va_G) (cT : Nat → ClassId) (tt : Nat → Nat) (ak av : Nat → Nat) (b1 b : Nat) (hb1 : b1 ≤ b) (n : Nat) (σ : gb_S) (p1 : Int32) (p2 : Int32) (σE : gb_S) (rE : Int32) (h : cs_Face_text n σ p1 p2 = some (σE, rE)) : Met l yX11_text (.code yX11_text cX11_text 8 (some FieldType.int) :: gb_wA) ({ frames := 8, cells := 0, slots := 0, locals := 181 }) (gb_Pc2 D cT tt ak av b1 [.ref (b + 0), .int p1, .int p2] (fun h => va_P D vwCl (gb_wl b (gb_CW cT b σ)) h)) (gb_Qi (fun r h => r = rE ∧ va_P D vwCl (gb_wl b (gb_CW cT b σE)) h) (gb_fr b 135)) 0 0 (gb_fr b 135) := by
  refine Met.ofW (cc := cX11_text) (maxL := 8) (ret := (some FieldType.int)) (by decide) rfl ?_
  intro p e s m args below meth c s₁ B hml hv
  obtain ⟨rfl, hSt2, hP⟩ := hv
  have hSt := hSt2.1
  have hx := B.exec
  have hb := B.bytes
  have hr := B.returns
  have hts := atoms_spec (ws := .code yX11_text cX11_text 8 (some FieldType.int) :: gb_wA) B.pre
  have hq : ∀ w ∈ gb_wA, w.before _ s = true := fun w h => hts w (List.mem_cons_of_mem _ h)
  have hown : s.vm.findClass RX11 = some m.cls := findClass_of_methodNamed B.named
  have hlocks := B.notSynchronized
  clear B hts
  have hK := hSt.1
  have hS : va_S (gb_fr b 135) s.heap s.heap [] := va_S.rf
  have hl := lv_entry ([.ref (b + 0), .int p1, .int p2]) (n := 8) (Nat.le_of_ble_eq_true rfl)
  rw [lg_entry_eq]
  generalize (lg_sl ([.ref (b + 0), .int p1, .int p2]) ++ List.replicate (8 - (lg_sl ([.ref (b + 0), .int p1, .int p2])).length) Slot.unset).toArray = ls at hl ⊢
  replace hl : lv_has ls 8 [(0, .ref (b + 0)), (1, .int p1), (2, .int p2)] := hl
  have L171_3 : ∀ (σ : gb_S) (v1 : Int32) (v4 : Int32) (v5 : Int32) (v6 : Nat) (t0 : Int32) (H : Heap) (locs : List Loc) (ls : Array Slot), cs_Face_text_171 n σ v1 v4 v5 v6 t0 = some (σE, rE) → va_P D vwCl (gb_wl b (gb_CW cT b σ)) H → va_S (gb_fr b 135) s.heap H locs → lv_has ls 8 [(0, .ref (b + 0)), (1, .int v1), (4, .int v4), (5, .int v5), (6, .ref (b + v6))] → W p l e (headSpec (.code yX11_text cX11_text 8 (some FieldType.int) :: gb_wA) ({ frames := 8, cells := 0, slots := 0, locals := 181 })).room s m ([.ref (b + 0), .int p1, .int p2]).toArray below meth c H locs 0 0 (MQ below (gb_Qi (fun r h => r = rE ∧ va_P D vwCl (gb_wl b (gb_CW cT b σE)) h) (gb_fr b 135)) ([.ref (b + 0), .int p1, .int p2]).toArray s 0 0 (gb_fr b 135)) (F0 m 171 ls [.int t0]) := by
    clear h hP hS hl ls
    intro σ v1 v4 v5 v6 t0 H locs ls h hP hS hl
    unfold cs_Face_text_171 at h
    refine lv_istore (lv' := [(7, .int t0), (0, .ref (b + 0)), (1, .int v1), (4, .int v4), (5, .int v5), (6, .ref (b + v6))]) hx hb dX11_text_171 hl (by decide) rfl (fun ls hl => ?_)
    refine lv_aload_n hx hb dX11_text_173 rfl (lv_at hl 1 rfl) ?_
    refine va_get (ci := 9) (v := (.ref (b + 1))) (C := RX11) (T := TX11) (N := 10) hx hb hq i_X11 hown hK hP 0 (gb_at b rfl) rfl 0 (by decide) (hq _ w_315) (fun _ h9 => h9) rfl dX11_text_174 ?_
    refine lv_iload_n hx hb dX11_text_177 rfl (lv_at hl 2 rfl) ?_
    refine lv_iload hx hb dX11_text_178 (lv_at hl 0 rfl) ?_
    obtain ⟨s_23, r_24, z_25, h⟩ := gb_cd_s h
    refine gb_callq (va_runV (C := RX10) (As := [.int v1, .int t0]) (rest := []) ⟨hx, hb, hml, hown, hq⟩ (cc_Told_sheetOf_T l D cT tt b1 b hb1 n σ 1 v1 t0 s_23 r_24 z_25) (cwV 2 hq (gb_gV w_552 w_553 w_554 w_2 w_555) rfl rfl rfl (by decide +kernel) ⟨Nat.le_of_ble_eq_true rfl, Nat.le_of_ble_eq_true rfl⟩) (gb_preV (r := (RX10, TX10, 9)) (ci := 8) (q0 := 1) hSt hP rfl (gb_at b (gb_cT rfl).1) hS (fun q h => Nat.le_trans hb1 h.1) hP) rfl rfl hl.1 rfl (lv_room (Nat.le_of_ble_eq_true rfl)) dX11_text_180 ⟨Nat.le_of_ble_eq_true rfl, Nat.le_of_ble_eq_true rfl⟩) hS (fun _ h => h) (fun _ h => h) (fun q_26 H locs hY hk hS => ?_)
    obtain ⟨hq_26, hP⟩ := hY
    subst hq_26
    rw [gb_onv]
    by_cases c_27 : r_24 = 0
    · rw [if_pos c_27] at h
      rw [gb_nv0 c_27]
      refine lv_aload hx hb dX11_text_183 (lv_at hl 5 rfl) ?_
      cases h
    rw [if_neg c_27] at h
    rw [gb_nv1 c_27]
    refine lv_aload hx hb dX11_text_183 (lv_at hl 5 rfl) ?_
    by_cases z_28 : gb_kB r_24 = true
    · rw [if_pos z_28] at h
      obtain ⟨z_29, h⟩ := gb_kk_s h
      obtain ⟨s_30, r_31, z_32, h⟩ := gb_cd_s h
      refine gb_callv (va_runU (x := yX9_copyFrom) (C := RX0) (owner := "GooseBorder$Sheet") (As := [.ref (b + v6)]) (rest := []) ⟨hx, hb, hml, hown, hq⟩ (cc_Sheet_copyFrom_B_B l D cT tt b1 b hb1 n s_23 r_24 v6 s_30 r_31 z_32) (va_cwU (owner := "GooseBorder$Sheet") (C := RX0) 1 hq (gb_gU w_556 w_558 w_559 w_557 w_3 w_563) rfl rfl rfl rfl (by decide +kernel) ⟨Nat.le_of_ble_eq_true rfl, Nat.le_of_ble_eq_true rfl⟩) (gb_preV (r := (RX0, TX0, 1)) (ci := 0) (q0 := r_24) hSt hP rfl (gb_at b (gb_cB z_28).1) hS (fun q h => Nat.le_trans hb1 h.1) hP) rfl rfl hl.1 rfl (lv_room (Nat.le_of_ble_eq_true rfl)) dX11_text_185 ⟨Nat.le_of_ble_eq_true rfl, Nat.le_of_ble_eq_true rfl⟩) hS (fun _ h => h) (fun _ h => h) (fun H locs hY hk hS => ?_)
      have hP := hY
      refine lv_iload hx hb dX11_text_188 (lv_at hl 4 rfl) ?_
      refine lv_if_eq (tgt := 206) hx hb dX11_text_190 (by decide) (fun c_34 => ?_) (fun c_34 => ?_)
      · rw [if_pos c_34] at h
        refine lv_iload hx hb dX11_text_206 (lv_at hl 0 rfl) ?_
        obtain ⟨e1, e2⟩ := gb_eq2 h
        exact W.iret (v := t0) hx hb hr (fun t ht hW => gb_ri ht ⟨e2, by rw [← e1]; exact hP⟩ hS) hS.2.2 dX11_text_208
      · rw [if_neg c_34] at h
        refine lv_aload_n hx hb dX11_text_193 rfl (lv_at hl 1 rfl) ?_
        refine va_get (ci := 9) (v := (.ref (b + 1))) (C := RX11) (T := TX11) (N := 10) hx hb hq i_X11 hown hK hP 0 (gb_at b rfl) rfl 0 (by decide) (hq _ w_315) (fun _ h9 => h9) rfl dX11_text_194 ?_
        refine va_get (ci := 8) (v := (.ref (b + 22))) (C := RX10) (T := TX10) (N := 9) hx hb hq i_X10 hown hK hP 1 (gb_at b rfl) rfl 4 (by decide) (hq _ w_121) (fun _ h9 => h9) rfl dX11_text_197 ?_
        refine lv_iload_n hx hb dX11_text_200 rfl (lv_at hl 2 rfl) ?_
        refine lv_iload hx hb dX11_text_201 (lv_at hl 3 rfl) ?_
        refine lv_iconst (v := 1) hx hb dX11_text_203 (by decide) ?_
        refine lv_iadd hx hb dX11_text_204 ?_
        obtain ⟨z_35, h⟩ := gb_ck_s h
        refine va_iast (x := (v4 + 1)) hx hb hK hP (gb_D (fun k h => ⟨Nat.le_add_right b k, Nat.add_lt_add_left h b⟩)) hS 22 0 (gb_at b rfl) rfl z_35 dX11_text_205 (fun H locs hP hD hS => ?_)
        rw [gb_set] at hP
        obtain ⟨s_36, es_36⟩ : ∃ q, q = (gb_su s_30 22 (upd (s_30.1 22) (Int32.toNatClampNeg v1) (v4 + 1))) := ⟨_, rfl⟩
        replace hP : va_P D vwCl (gb_wl b (gb_CW cT b s_36)) H := by rw [es_36]; exact hP
        replace h := gb_lt_s es_36 h
        refine lv_iload hx hb dX11_text_206 (lv_at hl 0 rfl) ?_
        obtain ⟨e1, e2⟩ := gb_eq2 h
        exact W.iret (v := t0) hx hb hr (fun t ht hW => gb_ri ht ⟨e2, by rw [← e1]; exact hP⟩ hS) hS.2.2 dX11_text_208
    rw [if_neg z_28] at h
    by_cases z_37 : gb_kN r_24 = true
    · rw [if_pos z_37] at h
      obtain ⟨z_38, h⟩ := gb_kk_s h
      obtain ⟨s_39, r_40, z_41, h⟩ := gb_cd_s h
      refine gb_callv (va_runU (x := yX9_copyFrom) (C := RX5) (owner := "GooseBorder$Sheet") (As := [.ref (b + v6)]) (rest := []) ⟨hx, hb, hml, hown, hq⟩ (cc_Sheet_copyFrom_N_N l D cT tt b1 b hb1 n s_23 r_24 v6 s_39 r_40 z_41) (va_cwU (owner := "GooseBorder$Sheet") (C := RX5) 1 hq (gb_gU w_556 w_558 w_562 w_557 w_3 w_563) rfl rfl rfl rfl (by decide +kernel) ⟨Nat.le_of_ble_eq_true rfl, Nat.le_of_ble_eq_true rfl⟩) (gb_preV (r := (RX5, TX5, 4)) (ci := 4) (q0 := r_24) hSt hP rfl (gb_at b (gb_cN z_37).1) hS (fun q h => Nat.le_trans hb1 h.1) hP) rfl rfl hl.1 rfl (lv_room (Nat.le_of_ble_eq_true rfl)) dX11_text_185 ⟨Nat.le_of_ble_eq_true rfl, Nat.le_of_ble_eq_true rfl⟩) hS (fun _ h => h) (fun _ h => h) (fun H locs hY hk hS => ?_)
      have hP := hY
      refine lv_iload hx hb dX11_text_188 (lv_at hl 4 rfl) ?_
      refine lv_if_eq (tgt := 206) hx hb dX11_text_190 (by decide) (fun c_43 => ?_) (fun c_43 => ?_)
      · rw [if_pos c_43] at h
        refine lv_iload hx hb dX11_text_206 (lv_at hl 0 rfl) ?_
        obtain ⟨e1, e2⟩ := gb_eq2 h
        exact W.iret (v := t0) hx hb hr (fun t ht hW => gb_ri ht ⟨e2, by rw [← e1]; exact hP⟩ hS) hS.2.2 dX11_text_208
      · rw [if_neg c_43] at h
        refine lv_aload_n hx hb dX11_text_193 rfl (lv_at hl 1 rfl) ?_
        refine va_get (ci := 9) (v := (.ref (b + 1))) (C := RX11) (T := TX11) (N := 10) hx hb hq i_X11 hown hK hP 0 (gb_at b rfl) rfl 0 (by decide) (hq _ w_315) (fun _ h9 => h9) rfl dX11_text_194 ?_
        refine va_get (ci := 8) (v := (.ref (b + 22))) (C := RX10) (T := TX10) (N := 9) hx hb hq i_X10 hown hK hP 1 (gb_at b rfl) rfl 4 (by decide) (hq _ w_121) (fun _ h9 => h9) rfl dX11_text_197 ?_
        refine lv_iload_n hx hb dX11_text_200 rfl (lv_at hl 2 rfl) ?_
        refine lv_iload hx hb dX11_text_201 (lv_at hl 3 rfl) ?_
        refine lv_iconst (v := 1) hx hb dX11_text_203 (by decide) ?_
        refine lv_iadd hx hb dX11_text_204 ?_
        obtain ⟨z_44, h⟩ := gb_ck_s h
        refine va_iast (x := (v4 + 1)) hx hb hK hP (gb_D (fun k h => ⟨Nat.le_add_right b k, Nat.add_lt_add_left h b⟩)) hS 22 0 (gb_at b rfl) rfl z_44 dX11_text_205 (fun H locs hP hD hS => ?_)
        rw [gb_set] at hP
        obtain ⟨s_45, es_45⟩ : ∃ q, q = (gb_su s_39 22 (upd (s_39.1 22) (Int32.toNatClampNeg v1) (v4 + 1))) := ⟨_, rfl⟩
        replace hP : va_P D vwCl (gb_wl b (gb_CW cT b s_45)) H := by rw [es_45]; exact hP
        replace h := gb_lt_s es_45 h
        refine lv_iload hx hb dX11_text_206 (lv_at hl 0 rfl) ?_
        obtain ⟨e1, e2⟩ := gb_eq2 h
        exact W.iret (v := t0) hx hb hr (fun t ht hW => gb_ri ht ⟨e2, by rw [← e1]; exact hP⟩ hS) hS.2.2 dX11_text_208
    rw [if_neg z_37] at h
    by_cases z_46 : gb_kL r_24 = true
    · rw [if_pos z_46] at h
      obtain ⟨z_47, h⟩ := gb_kk_s h
      obtain ⟨s_48, r_49, z_50, h⟩ := gb_cd_s h
      refine gb_callv (va_runU (x := yX9_copyFrom) (C := RX3) (owner := "GooseBorder$Sheet") (As := [.ref (b + v6)]) (rest := []) ⟨hx, hb, hml, hown, hq⟩ (cc_Sheet_copyFrom_L_L l D cT tt b1 b hb1 n s_23 r_24 v6 s_48 r_49 z_50) (va_cwU (owner := "GooseBorder$Sheet") (C := RX3) 1 hq (gb_gU w_556 w_558 w_561 w_557 w_3 w_563) rfl rfl rfl rfl (by decide +kernel) ⟨Nat.le_of_ble_eq_true rfl, Nat.le_of_ble_eq_true rfl⟩) (gb_preV (r := (RX3, TX3, 4)) (ci := 3) (q0 := r_24) hSt hP rfl (gb_at b (gb_cL z_46).1) hS (fun q h => Nat.le_trans hb1 h.1) hP) rfl rfl hl.1 rfl (lv_room (Nat.le_of_ble_eq_true rfl)) dX11_text_185 ⟨Nat.le_of_ble_eq_true rfl, Nat.le_of_ble_eq_true rfl⟩) hS (fun _ h => h) (fun _ h => h) (fun H locs hY hk hS => ?_)
      have hP := hY
      refine lv_iload hx hb dX11_text_188 (lv_at hl 4 rfl) ?_
      refine lv_if_eq (tgt := 206) hx hb dX11_text_190 (by decide) (fun c_52 => ?_) (fun c_52 => ?_)
      · rw [if_pos c_52] at h
        refine lv_iload hx hb dX11_text_206 (lv_at hl 0 rfl) ?_
        obtain ⟨e1, e2⟩ := gb_eq2 h
        exact W.iret (v := t0) hx hb hr (fun t ht hW => gb_ri ht ⟨e2, by rw [← e1]; exact hP⟩ hS) hS.2.2 dX11_text_208
      · rw [if_neg c_52] at h
        refine lv_aload_n hx hb dX11_text_193 rfl (lv_at hl 1 rfl) ?_
        refine va_get (ci := 9) (v := (.ref (b + 1))) (C := RX11) (T := TX11) (N := 10) hx hb hq i_X11 hown hK hP 0 (gb_at b rfl) rfl 0 (by decide) (hq _ w_315) (fun _ h9 => h9) rfl dX11_text_194 ?_
        refine va_get (ci := 8) (v := (.ref (b + 22))) (C := RX10) (T := TX10) (N := 9) hx hb hq i_X10 hown hK hP 1 (gb_at b rfl) rfl 4 (by decide) (hq _ w_121) (fun _ h9 => h9) rfl dX11_text_197 ?_
        refine lv_iload_n hx hb dX11_text_200 rfl (lv_at hl 2 rfl) ?_
        refine lv_iload hx hb dX11_text_201 (lv_at hl 3 rfl) ?_
        refine lv_iconst (v := 1) hx hb dX11_text_203 (by decide) ?_
        refine lv_iadd hx hb dX11_text_204 ?_
        obtain ⟨z_53, h⟩ := gb_ck_s h
        refine va_iast (x := (v4 + 1)) hx hb hK hP (gb_D (fun k h => ⟨Nat.le_add_right b k, Nat.add_lt_add_left h b⟩)) hS 22 0 (gb_at b rfl) rfl z_53 dX11_text_205 (fun H locs hP hD hS => ?_)
        rw [gb_set] at hP
        obtain ⟨s_54, es_54⟩ : ∃ q, q = (gb_su s_48 22 (upd (s_48.1 22) (Int32.toNatClampNeg v1) (v4 + 1))) := ⟨_, rfl⟩
        replace hP : va_P D vwCl (gb_wl b (gb_CW cT b s_54)) H := by rw [es_54]; exact hP
        replace h := gb_lt_s es_54 h
        refine lv_iload hx hb dX11_text_206 (lv_at hl 0 rfl) ?_
        obtain ⟨e1, e2⟩ := gb_eq2 h
        exact W.iret (v := t0) hx hb hr (fun t ht hW => gb_ri ht ⟨e2, by rw [← e1]; exact hP⟩ hS) hS.2.2 dX11_text_208
    rw [if_neg z_46] at h
    by_cases z_55 : gb_kD r_24 = true
    · rw [if_pos z_55] at h
      obtain ⟨z_56, h⟩ := gb_kk_s h
      obtain ⟨s_57, r_58, z_59, h⟩ := gb_cd_s h
      refine gb_callv (va_runU (x := yX9_copyFrom) (C := RX1) (owner := "GooseBorder$Sheet") (As := [.ref (b + v6)]) (rest := []) ⟨hx, hb, hml, hown, hq⟩ (cc_Sheet_copyFrom_D_D l D cT tt b1 b hb1 n s_23 r_24 v6 s_57 r_58 z_59) (va_cwU (owner := "GooseBorder$Sheet") (C := RX1) 1 hq (gb_gU w_556 w_558 w_560 w_557 w_3 w_563) rfl rfl rfl rfl (by decide +kernel) ⟨Nat.le_of_ble_eq_true rfl, Nat.le_of_ble_eq_true rfl⟩) (gb_preV (r := (RX1, TX1, 4)) (ci := 1) (q0 := r_24) hSt hP rfl (gb_at b (gb_cD z_55).1) hS (fun q h => Nat.le_trans hb1 h.1) hP) rfl rfl hl.1 rfl (lv_room (Nat.le_of_ble_eq_true rfl)) dX11_text_185 ⟨Nat.le_of_ble_eq_true rfl, Nat.le_of_ble_eq_true rfl⟩) hS (fun _ h => h) (fun _ h => h) (fun H locs hY hk hS => ?_)
      have hP := hY
      refine lv_iload hx hb dX11_text_188 (lv_at hl 4 rfl) ?_
      refine lv_if_eq (tgt := 206) hx hb dX11_text_190 (by decide) (fun c_61 => ?_) (fun c_61 => ?_)
      · rw [if_pos c_61] at h
        refine lv_iload hx hb dX11_text_206 (lv_at hl 0 rfl) ?_
        obtain ⟨e1, e2⟩ := gb_eq2 h
        exact W.iret (v := t0) hx hb hr (fun t ht hW => gb_ri ht ⟨e2, by rw [← e1]; exact hP⟩ hS) hS.2.2 dX11_text_208
      · rw [if_neg c_61] at h
        refine lv_aload_n hx hb dX11_text_193 rfl (lv_at hl 1 rfl) ?_
        refine va_get (ci := 9) (v := (.ref (b + 1))) (C := RX11) (T := TX11) (N := 10) hx hb hq i_X11 hown hK hP 0 (gb_at b rfl) rfl 0 (by decide) (hq _ w_315) (fun _ h9 => h9) rfl dX11_text_194 ?_
        refine va_get (ci := 8) (v := (.ref (b + 22))) (C := RX10) (T := TX10) (N := 9) hx hb hq i_X10 hown hK hP 1 (gb_at b rfl) rfl 4 (by decide) (hq _ w_121) (fun _ h9 => h9) rfl dX11_text_197 ?_
        refine lv_iload_n hx hb dX11_text_200 rfl (lv_at hl 2 rfl) ?_
        refine lv_iload hx hb dX11_text_201 (lv_at hl 3 rfl) ?_
        refine lv_iconst (v := 1) hx hb dX11_text_203 (by decide) ?_
        refine lv_iadd hx hb dX11_text_204 ?_
        obtain ⟨z_62, h⟩ := gb_ck_s h
        refine va_iast (x := (v4 + 1)) hx hb hK hP (gb_D (fun k h => ⟨Nat.le_add_right b k, Nat.add_lt_add_left h b⟩)) hS 22 0 (gb_at b rfl) rfl z_62 dX11_text_205 (fun H locs hP hD hS => ?_)
        rw [gb_set] at hP
        obtain ⟨s_63, es_63⟩ : ∃ q, q = (gb_su s_57 22 (upd (s_57.1 22) (Int32.toNatClampNeg v1) (v4 + 1))) := ⟨_, rfl⟩
        replace hP : va_P D vwCl (gb_wl b (gb_CW cT b s_63)) H := by rw [es_63]; exact hP
        replace h := gb_lt_s es_63 h
        refine lv_iload hx hb dX11_text_206 (lv_at hl 0 rfl) ?_
        obtain ⟨e1, e2⟩ := gb_eq2 h
        exact W.iret (v := t0) hx hb hr (fun t ht hW => gb_ri ht ⟨e2, by rw [← e1]; exact hP⟩ hS) hS.2.2 dX11_text_208
    rw [if_neg z_55] at h
    cases h
  have L94_2 : ∀ (σ : gb_S) (v1 : Int32) (v2 : Int32) (v3 : Int32) (v4 : Int32) (v5 : Int32) (H : Heap) (locs : List Loc) (ls : Array Slot), cs_Face_text_94 n σ v1 v2 v3 v4 v5 = some (σE, rE) → va_P D vwCl (gb_wl b (gb_CW cT b σ)) H → va_S (gb_fr b 135) s.heap H locs → lv_has ls 8 [(0, .ref (b + 0)), (1, .int v1), (2, .int v2), (3, .int v3), (4, .int v4), (5, .int v5)] → W p l e (headSpec (.code yX11_text cX11_text 8 (some FieldType.int) :: gb_wA) ({ frames := 8, cells := 0, slots := 0, locals := 181 })).room s m ([.ref (b + 0), .int p1, .int p2]).toArray below meth c H locs 0 0 (MQ below (gb_Qi (fun r h => r = rE ∧ va_P D vwCl (gb_wl b (gb_CW cT b σE)) h) (gb_fr b 135)) ([.ref (b + 0), .int p1, .int p2]).toArray s 0 0 (gb_fr b 135)) (F0 m 94 ls []) := by
    clear h hP hS hl ls
    intro σ v1 v2 v3 v4 v5 H locs ls h hP hS hl
    unfold cs_Face_text_94 at h
    refine lv_aload_n hx hb dX11_text_94 rfl (lv_at hl 0 rfl) ?_
    refine va_get (ci := 9) (v := (.ref (b + 95))) (C := RX11) (T := TX11) (N := 10) hx hb hq i_X11 hown hK hP 0 (gb_at b rfl) rfl 3 (by decide) (hq _ w_318) (fun _ h9 => h9) rfl dX11_text_95 ?_
    refine lv_iload_n hx hb dX11_text_98 rfl (lv_at hl 1 rfl) ?_
    obtain ⟨z_13, h⟩ := gb_ck_s h
    refine gb_aald (v := .ref (b + (([96, 98, 100, 102] : List Nat).getD (Int32.toNatClampNeg v1) 0))) hx hb hK hP 95 9 (gb_at b rfl) rfl z_13 (gb_ra_at (L := ([96, 98, 100, 102] : List Nat)) z_13) dX11_text_99 ?_
    obtain ⟨a_14, ea_14⟩ : ∃ q, q = (([96, 98, 100, 102] : List Nat).getD (Int32.toNatClampNeg v1) 0) := ⟨_, rfl⟩
    rw [← ea_14]
    replace h := gb_lt_s ea_14 h
    refine lv_astore (lv' := [(6, .ref (b + a_14)), (0, .ref (b + 0)), (1, .int v1), (2, .int v2), (3, .int v3), (4, .int v4), (5, .int v5)]) hx hb dX11_text_100 hl (by decide) rfl (fun ls hl => ?_)
    refine lv_aload_n hx hb dX11_text_102 rfl (lv_at hl 1 rfl) ?_
    refine va_get (ci := 9) (v := (.ref (b + 106))) (C := RX11) (T := TX11) (N := 10) hx hb hq i_X11 hown hK hP 0 (gb_at b rfl) rfl 5 (by decide) (hq _ w_320) (fun _ h9 => h9) rfl dX11_text_103 ?_
    refine lv_aload_n hx hb dX11_text_106 rfl (lv_at hl 1 rfl) ?_
    refine va_get (ci := 9) (v := (.ref (b + 1))) (C := RX11) (T := TX11) (N := 10) hx hb hq i_X11 hown hK hP 0 (gb_at b rfl) rfl 0 (by decide) (hq _ w_315) (fun _ h9 => h9) rfl dX11_text_107 ?_
    refine va_get (ci := 8) (v := (.ref (b + 23))) (C := RX10) (T := TX10) (N := 9) hx hb hq i_X10 hown hK hP 1 (gb_at b rfl) rfl 5 (by decide) (hq _ w_123) (fun _ h9 => h9) rfl dX11_text_110 ?_
    refine lv_iload_n hx hb dX11_text_113 rfl (lv_at hl 4 rfl) ?_
    refine lv_iload_n hx hb dX11_text_114 rfl (lv_at hl 2 rfl) ?_
    refine lv_aload hx hb dX11_text_115 (lv_at hl 0 rfl) ?_
    obtain ⟨s_15, r_16, z_17, h⟩ := gb_cd_s h
    refine gb_callv (va_runV (C := RX7) (As := [.ref (b + 23), .int v3, .int v1, .ref (b + a_14)]) (rest := []) ⟨hx, hb, hml, hown, hq⟩ (cc_Reader_read_c23_S l D cT tt ak av b1 b hb1 n σ v3 v1 a_14 s_15 r_16 z_17) (cwV 4 hq (gb_gV w_362 w_363 w_364 w_10 w_365) rfl rfl rfl (by decide +kernel) ⟨Nat.le_of_ble_eq_true rfl, Nat.le_of_ble_eq_true rfl⟩) (gb_preV2 (r := (RX7, TX7, 6)) (ci := 6) (q0 := 106) hSt2 hP rfl (gb_at b rfl) hS (fun q h => Nat.le_trans hb1 h.1) hP) rfl rfl hl.1 rfl (lv_room (Nat.le_of_ble_eq_true rfl)) dX11_text_117 ⟨Nat.le_of_ble_eq_true rfl, Nat.le_of_ble_eq_true rfl⟩) hS (fun _ h => h) (fun _ h => h) (fun H locs hY hk hS => ?_)
    have hP := hY
    refine lv_aload_n hx hb dX11_text_120 rfl (lv_at hl 1 rfl) ?_
    refine va_get (ci := 9) (v := (.ref (b + 1))) (C := RX11) (T := TX11) (N := 10) hx hb hq i_X11 hown hK hP 0 (gb_at b rfl) rfl 0 (by decide) (hq _ w_315) (fun _ h9 => h9) rfl dX11_text_121 ?_
    refine lv_aload_n hx hb dX11_text_124 rfl (lv_at hl 1 rfl) ?_
    refine va_get (ci := 9) (v := (.ref (b + 106))) (C := RX11) (T := TX11) (N := 10) hx hb hq i_X11 hown hK hP 0 (gb_at b rfl) rfl 5 (by decide) (hq _ w_320) (fun _ h9 => h9) rfl dX11_text_125 ?_
    refine va_get (ci := 6) (v := (.int (s_15.1 106 4))) (C := RX7) (T := TX7) (N := 6) hx hb hq i_X7 hown hK hP 106 (gb_at b rfl) rfl 4 (by decide) (hq _ w_172) (fun _ h9 => h9) rfl dX11_text_128 ?_
    refine gb_put (ci := 8) (v := (.int (s_15.1 106 4))) (ty := .int) (C := RX10) (T := TX10) (N := 9) hx hb hq i_X10 tyX10 tyX10_ok nmX10 hown hK hP (fun k h => ⟨Nat.le_add_right b k, Nat.add_lt_add_left h b⟩) hS rfl 1 rfl rfl 7 (by decide) (hq _ w_126) (fun _ h9 => h9) rfl (by decide +kernel) rfl rfl (Nat.le_of_ble_eq_true rfl) dX11_text_131 (fun H locs hP hz_ hS => ?_)
    obtain ⟨s_19, es_19⟩ : ∃ q, q = (gb_su s_15 1 (upd (s_15.1 1) 7 (s_15.1 106 4))) := ⟨_, rfl⟩
    replace hP : va_P D vwCl (gb_wl b (gb_CW cT b s_19)) H := by rw [es_19]; exact hP
    replace h := gb_lt_s es_19 h
    refine lv_aload_n hx hb dX11_text_134 rfl (lv_at hl 1 rfl) ?_
    refine va_get (ci := 9) (v := (.ref (b + 1))) (C := RX11) (T := TX11) (N := 10) hx hb hq i_X11 hown hK hP 0 (gb_at b rfl) rfl 0 (by decide) (hq _ w_315) (fun _ h9 => h9) rfl dX11_text_135 ?_
    refine lv_aload_n hx hb dX11_text_138 rfl (lv_at hl 1 rfl) ?_
    refine va_get (ci := 9) (v := (.ref (b + 106))) (C := RX11) (T := TX11) (N := 10) hx hb hq i_X11 hown hK hP 0 (gb_at b rfl) rfl 5 (by decide) (hq _ w_320) (fun _ h9 => h9) rfl dX11_text_139 ?_
    refine va_get (ci := 6) (v := (.int (s_19.1 106 5))) (C := RX7) (T := TX7) (N := 6) hx hb hq i_X7 hown hK hP 106 (gb_at b rfl) rfl 5 (by decide) (hq _ w_174) (fun _ h9 => h9) rfl dX11_text_142 ?_
    refine gb_put (ci := 8) (v := (.int (s_19.1 106 5))) (ty := .int) (C := RX10) (T := TX10) (N := 9) hx hb hq i_X10 tyX10 tyX10_ok nmX10 hown hK hP (fun k h => ⟨Nat.le_add_right b k, Nat.add_lt_add_left h b⟩) hS rfl 1 rfl rfl 8 (by decide) (hq _ w_129) (fun _ h9 => h9) rfl (by decide +kernel) rfl rfl (Nat.le_of_ble_eq_true rfl) dX11_text_145 (fun H locs hP hz_ hS => ?_)
    obtain ⟨s_20, es_20⟩ : ∃ q, q = (gb_su s_19 1 (upd (s_19.1 1) 8 (s_19.1 106 5))) := ⟨_, rfl⟩
    replace hP : va_P D vwCl (gb_wl b (gb_CW cT b s_20)) H := by rw [es_20]; exact hP
    replace h := gb_lt_s es_20 h
    refine lv_aload_n hx hb dX11_text_148 rfl (lv_at hl 1 rfl) ?_
    refine va_get (ci := 9) (v := (.ref (b + 1))) (C := RX11) (T := TX11) (N := 10) hx hb hq i_X11 hown hK hP 0 (gb_at b rfl) rfl 0 (by decide) (hq _ w_315) (fun _ h9 => h9) rfl dX11_text_149 ?_
    refine va_get (ci := 8) (v := (.int (s_20.1 1 7))) (C := RX10) (T := TX10) (N := 9) hx hb hq i_X10 hown hK hP 1 (gb_at b rfl) rfl 7 (by decide) (hq _ w_126) (fun _ h9 => h9) rfl dX11_text_152 ?_
    refine lv_if_eq (tgt := 160) hx hb dX11_text_155 (by decide) (fun c_21 => ?_) (fun c_21 => ?_)
    · rw [if_pos c_21] at h
      refine lv_iload hx hb dX11_text_160 (lv_at hl 6 rfl) ?_
      refine lv_if_eq (tgt := 170) hx hb dX11_text_162 (by decide) (fun c_22 => ?_) (fun c_22 => ?_)
      · rw [if_pos c_22] at h
        refine lv_iload_n hx hb dX11_text_170 rfl (lv_at hl 3 rfl) ?_
        exact L171_3 _ _ _ _ _ _ _ _ _ h hP hS (lv_sub hl [1, 2, 5, 6, 0] rfl)
      · rw [if_neg c_22] at h
        refine lv_iload hx hb dX11_text_165 (lv_at hl 5 rfl) ?_
        refine lv_goto (tgt := 171) hx hb dX11_text_167 (by decide) ?_
        exact L171_3 _ _ _ _ _ _ _ _ _ h hP hS (lv_sub hl [1, 2, 5, 6, 0] rfl)
    · rw [if_neg c_21] at h
      refine lv_iconst (v := (-1)) hx hb dX11_text_158 (by decide) ?_
      obtain ⟨e1, e2⟩ := gb_eq2 h
      exact W.iret (v := (-1)) hx hb hr (fun t ht hW => gb_ri ht ⟨e2, by rw [← e1]; exact hP⟩ hS) hS.2.2 dX11_text_159
  have L65_1 : ∀ (σ : gb_S) (v1 : Int32) (v2 : Int32) (v3 : Int32) (v4 : Int32) (t0 : Int32) (H : Heap) (locs : List Loc) (ls : Array Slot), cs_Face_text_65 n σ v1 v2 v3 v4 t0 = some (σE, rE) → va_P D vwCl (gb_wl b (gb_CW cT b σ)) H → va_S (gb_fr b 135) s.heap H locs → lv_has ls 8 [(0, .ref (b + 0)), (1, .int v1), (2, .int v2), (3, .int v3), (4, .int v4)] → W p l e (headSpec (.code yX11_text cX11_text 8 (some FieldType.int) :: gb_wA) ({ frames := 8, cells := 0, slots := 0, locals := 181 })).room s m ([.ref (b + 0), .int p1, .int p2]).toArray below meth c H locs 0 0 (MQ below (gb_Qi (fun r h => r = rE ∧ va_P D vwCl (gb_wl b (gb_CW cT b σE)) h) (gb_fr b 135)) ([.ref (b + 0), .int p1, .int p2]).toArray s 0 0 (gb_fr b 135)) (F0 m 65 ls [.int t0]) := by
    clear h hP hS hl ls
    intro σ v1 v2 v3 v4 t0 H locs ls h hP hS hl
    unfold cs_Face_text_65 at h
    refine lv_istore (lv' := [(5, .int t0), (0, .ref (b + 0)), (1, .int v1), (2, .int v2), (3, .int v3), (4, .int v4)]) hx hb dX11_text_65 hl (by decide) rfl (fun ls hl => ?_)
    refine lv_iload hx hb dX11_text_67 (lv_at hl 0 rfl) ?_
    refine lv_if_eq (tgt := 81) hx hb dX11_text_69 (by decide) (fun c_10 => ?_) (fun c_10 => ?_)
    · rw [if_pos c_10] at h
      refine lv_iload_n hx hb dX11_text_81 rfl (lv_at hl 3 rfl) ?_
      refine lv_if_lt (tgt := 91) hx hb dX11_text_82 (by decide) (fun c_11 => ?_) (fun c_11 => ?_)
      · rw [if_pos c_11] at h
        refine lv_bipush (v := (-2)) hx hb dX11_text_91 (by decide) ?_
        obtain ⟨e1, e2⟩ := gb_eq2 h
        exact W.iret (v := (-2)) hx hb hr (fun t ht hW => gb_ri ht ⟨e2, by rw [← e1]; exact hP⟩ hS) hS.2.2 dX11_text_93
      · rw [if_neg c_11] at h
        refine lv_iload_n hx hb dX11_text_85 rfl (lv_at hl 3 rfl) ?_
        refine lv_iload hx hb dX11_text_86 (lv_at hl 5 rfl) ?_
        refine lv_icmp_lt (tgt := 94) hx hb dX11_text_88 (by decide) (fun c_12 => ?_) (fun c_12 => ?_)
        · rw [if_pos c_12] at h
          exact L94_2 _ _ _ _ _ _ _ _ _ h hP hS (lv_sub hl [1, 2, 3, 4, 5, 0] rfl)
        · rw [if_neg c_12] at h
          refine lv_bipush (v := (-2)) hx hb dX11_text_91 (by decide) ?_
          obtain ⟨e1, e2⟩ := gb_eq2 h
          exact W.iret (v := (-2)) hx hb hr (fun t ht hW => gb_ri ht ⟨e2, by rw [← e1]; exact hP⟩ hS) hS.2.2 dX11_text_93
    · rw [if_neg c_10] at h
      refine lv_iload hx hb dX11_text_72 (lv_at hl 5 rfl) ?_
      refine lv_iconst (v := 2) hx hb dX11_text_74 (by decide) ?_
      refine lv_icmp_lt (tgt := 94) hx hb dX11_text_75 (by decide) (fun c_64 => ?_) (fun c_64 => ?_)
      · rw [if_pos c_64] at h
        exact L94_2 _ _ _ _ _ _ _ _ _ h hP hS (lv_sub hl [1, 2, 3, 4, 5, 0] rfl)
      · rw [if_neg c_64] at h
        refine lv_goto (tgt := 91) hx hb dX11_text_78 (by decide) ?_
        refine lv_bipush (v := (-2)) hx hb dX11_text_91 (by decide) ?_
        obtain ⟨e1, e2⟩ := gb_eq2 h
        exact W.iret (v := (-2)) hx hb hr (fun t ht hW => gb_ri ht ⟨e2, by rw [← e1]; exact hP⟩ hS) hS.2.2 dX11_text_93
  unfold cs_Face_text at h
  refine lv_aload_n hx hb dX11_text_0 rfl (lv_at hl 0 rfl) ?_
  refine va_get (ci := 9) (v := (.ref (b + 1))) (C := RX11) (T := TX11) (N := 10) hx hb hq i_X11 hown hK hP 0 (gb_at b rfl) rfl 0 (by decide) (hq _ w_315) (fun _ h9 => h9) rfl dX11_text_1 ?_
  refine va_get (ci := 8) (v := (.int (σ.1 1 6))) (C := RX10) (T := TX10) (N := 9) hx hb hq i_X10 hown hK hP 1 (gb_at b rfl) rfl 6 (by decide) (hq _ w_125) (fun _ h9 => h9) rfl dX11_text_4 ?_
  refine lv_topi (fun x_1 ex_1 => ?_)
  replace h := gb_lt_s ex_1 h
  refine lv_istore_n (lv' := [(3, .int x_1), (0, .ref (b + 0)), (1, .int p1), (2, .int p2)]) hx hb dX11_text_7 rfl hl (by decide) rfl (fun ls hl => ?_)
  refine lv_aload_n hx hb dX11_text_8 rfl (lv_at hl 1 rfl) ?_
  refine va_get (ci := 9) (v := (.ref (b + 1))) (C := RX11) (T := TX11) (N := 10) hx hb hq i_X11 hown hK hP 0 (gb_at b rfl) rfl 0 (by decide) (hq _ w_315) (fun _ h9 => h9) rfl dX11_text_9 ?_
  refine lv_iconst (v := 0) hx hb dX11_text_12 (by decide) ?_
  refine gb_put (ci := 8) (v := (.int 0)) (ty := .int) (C := RX10) (T := TX10) (N := 9) hx hb hq i_X10 tyX10 tyX10_ok nmX10 hown hK hP (fun k h => ⟨Nat.le_add_right b k, Nat.add_lt_add_left h b⟩) hS rfl 1 rfl rfl 6 (by decide) (hq _ w_125) (fun _ h9 => h9) rfl (by decide +kernel) rfl rfl (Nat.le_of_ble_eq_true rfl) dX11_text_13 (fun H locs hP hz_ hS => ?_)
  obtain ⟨s_2, es_2⟩ : ∃ q, q = (gb_su σ 1 (upd (σ.1 1) 6 0)) := ⟨_, rfl⟩
  replace hP : va_P D vwCl (gb_wl b (gb_CW cT b s_2)) H := by rw [es_2]; exact hP
  replace h := gb_lt_s es_2 h
  refine lv_aload_n hx hb dX11_text_16 rfl (lv_at hl 1 rfl) ?_
  refine va_get (ci := 9) (v := (.ref (b + 1))) (C := RX11) (T := TX11) (N := 10) hx hb hq i_X11 hown hK hP 0 (gb_at b rfl) rfl 0 (by decide) (hq _ w_315) (fun _ h9 => h9) rfl dX11_text_17 ?_
  refine lv_iconst (v := 0) hx hb dX11_text_20 (by decide) ?_
  refine gb_put (ci := 8) (v := (.int 0)) (ty := .int) (C := RX10) (T := TX10) (N := 9) hx hb hq i_X10 tyX10 tyX10_ok nmX10 hown hK hP (fun k h => ⟨Nat.le_add_right b k, Nat.add_lt_add_left h b⟩) hS rfl 1 rfl rfl 7 (by decide) (hq _ w_126) (fun _ h9 => h9) rfl (by decide +kernel) rfl rfl (Nat.le_of_ble_eq_true rfl) dX11_text_21 (fun H locs hP hz_ hS => ?_)
  obtain ⟨s_3, es_3⟩ : ∃ q, q = (gb_su s_2 1 (upd (s_2.1 1) 7 0)) := ⟨_, rfl⟩
  replace hP : va_P D vwCl (gb_wl b (gb_CW cT b s_3)) H := by rw [es_3]; exact hP
  replace h := gb_lt_s es_3 h
  refine lv_aload_n hx hb dX11_text_24 rfl (lv_at hl 1 rfl) ?_
  refine va_get (ci := 9) (v := (.ref (b + 1))) (C := RX11) (T := TX11) (N := 10) hx hb hq i_X11 hown hK hP 0 (gb_at b rfl) rfl 0 (by decide) (hq _ w_315) (fun _ h9 => h9) rfl dX11_text_25 ?_
  refine lv_iconst (v := (-1)) hx hb dX11_text_28 (by decide) ?_
  refine gb_put (ci := 8) (v := (.int (-1))) (ty := .int) (C := RX10) (T := TX10) (N := 9) hx hb hq i_X10 tyX10 tyX10_ok nmX10 hown hK hP (fun k h => ⟨Nat.le_add_right b k, Nat.add_lt_add_left h b⟩) hS rfl 1 rfl rfl 8 (by decide) (hq _ w_129) (fun _ h9 => h9) rfl (by decide +kernel) rfl rfl (Nat.le_of_ble_eq_true rfl) dX11_text_29 (fun H locs hP hz_ hS => ?_)
  obtain ⟨s_4, es_4⟩ : ∃ q, q = (gb_su s_3 1 (upd (s_3.1 1) 8 (-1))) := ⟨_, rfl⟩
  replace hP : va_P D vwCl (gb_wl b (gb_CW cT b s_4)) H := by rw [es_4]; exact hP
  replace h := gb_lt_s es_4 h
  refine lv_iload_n hx hb dX11_text_32 rfl (lv_at hl 2 rfl) ?_
  refine lv_if_lt (tgt := 41) hx hb dX11_text_33 (by decide) (fun c_5 => ?_) (fun c_5 => ?_)
  · rw [if_pos c_5] at h
    refine lv_bipush (v := (-2)) hx hb dX11_text_41 (by decide) ?_
    obtain ⟨e1, e2⟩ := gb_eq2 h
    exact W.iret (v := (-2)) hx hb hr (fun t ht hW => gb_ri ht ⟨e2, by rw [← e1]; exact hP⟩ hS) hS.2.2 dX11_text_43
  · rw [if_neg c_5] at h
    refine lv_iload_n hx hb dX11_text_36 rfl (lv_at hl 2 rfl) ?_
    refine lv_iconst (v := 4) hx hb dX11_text_37 (by decide) ?_
    refine lv_icmp_lt (tgt := 44) hx hb dX11_text_38 (by decide) (fun c_6 => ?_) (fun c_6 => ?_)
    · rw [if_pos c_6] at h
      refine lv_aload_n hx hb dX11_text_44 rfl (lv_at hl 1 rfl) ?_
      refine va_get (ci := 9) (v := (.ref (b + 1))) (C := RX11) (T := TX11) (N := 10) hx hb hq i_X11 hown hK hP 0 (gb_at b rfl) rfl 0 (by decide) (hq _ w_315) (fun _ h9 => h9) rfl dX11_text_45 ?_
      refine va_get (ci := 8) (v := (.ref (b + 22))) (C := RX10) (T := TX10) (N := 9) hx hb hq i_X10 hown hK hP 1 (gb_at b rfl) rfl 4 (by decide) (hq _ w_121) (fun _ h9 => h9) rfl dX11_text_48 ?_
      refine lv_iload_n hx hb dX11_text_51 rfl (lv_at hl 2 rfl) ?_
      obtain ⟨z_7, h⟩ := gb_ck_s h
      refine va_iald hx hb hK hP 22 0 (gb_at b rfl) rfl z_7 dX11_text_52 ?_
      refine lv_topi (fun x_8 ex_8 => ?_)
      replace h := gb_lt_s ex_8 h
      refine lv_istore (lv' := [(4, .int x_8), (3, .int x_1), (0, .ref (b + 0)), (1, .int p1), (2, .int p2)]) hx hb dX11_text_53 hl (by decide) rfl (fun ls hl => ?_)
      refine lv_iload_n hx hb dX11_text_55 rfl (lv_at hl 4 rfl) ?_
      refine lv_iconst (v := (-1)) hx hb dX11_text_56 (by decide) ?_
      refine lv_icmp_ne (tgt := 64) hx hb dX11_text_57 (by decide) (fun c_9 => ?_) (fun c_9 => ?_)
      · rw [if_neg c_9] at h
        refine lv_iconst (v := 0) hx hb dX11_text_64 (by decide) ?_
        exact L65_1 _ _ _ _ _ _ _ _ _ h hP hS (lv_sub hl [2, 3, 4, 1, 0] rfl)
      · rw [if_pos c_9] at h
        refine lv_iconst (v := 1) hx hb dX11_text_60 (by decide) ?_
        refine lv_goto (tgt := 65) hx hb dX11_text_61 (by decide) ?_
        exact L65_1 _ _ _ _ _ _ _ _ _ h hP hS (lv_sub hl [2, 3, 4, 1, 0] rfl)
    · rw [if_neg c_6] at h
      refine lv_bipush (v := (-2)) hx hb dX11_text_41 (by decide) ?_
      obtain ⟨e1, e2⟩ := gb_eq2 h
      exact W.iret (v := (-2)) hx hb hr (fun t ht hW => gb_ri ht ⟨e2, by rw [← e1]; exact hP⟩ hS) hS.2.2 dX11_text_43
