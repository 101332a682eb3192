/-! THE CLASS: by hand -/
/-! feeding -/
theorem gb_nnar (x : Int32) : gb_iv (-128) 127 (vp_nar .byte (x.toInt8.toInt32)) := by
  rw [pk_vb]
  have h1 := Int8.le_toInt x.toInt8
  have h2 := Int8.toInt_lt x.toInt8
  have e : x.toInt8.toInt32.toInt = x.toInt8.toInt := Int8.toInt_toInt32 _
  constructor <;> (rw [e]; omega)
set_option maxHeartbeats 4000000 in
theorem ct_Told_addBytes_14 {n : Nat} : ∀ (mm : Nat) (σ : gb_S) (v1 v2 : Int32), gb_TC σ → (∃ j : Nat, j ≤ 4 ∧ v2.toInt = 8 * j - 8 ∧ (σ.1 1 6).toInt + j ≤ 600 ∧ j < mm) → gb_tc (cs_Told_addBytes_14 n mm σ v1 v2) (fun s _ => gb_TC s ∧ True) := by
  intro mm
  induction mm with
  | zero =>
    intro σ v1 v2 hT h
    obtain ⟨j, -, -, -, hm⟩ := h
    exact absurd hm (Nat.not_lt_zero _)
  | succ mm ih =>
    intro σ v1 v2 hT h
    obtain ⟨j, hj, ev, hl, hm⟩ := h
    rw [cs_Told_addBytes_14]
    refine gc_if (fun c => gc_some ⟨hT, trivial⟩) (fun c => ?_)
    have z : (0 : Int32).toInt = 0 := by decide
    have hc := gb_dnlt c
    obtain ⟨k, rfl⟩ : ∃ k, j = k + 1 := ⟨j - 1, by omega⟩
    have i6 : gb_iv 0 600 (σ.1 1 6) := gc_rd (c := 7) hT rfl (by decide)
    have i6' : gb_iv 0 599 (σ.1 1 6) := ⟨i6.1, by omega⟩
    refine gc_ck i6' (by decide) ?_
    refine gc_ltT (gc_su (c := 6) (lo := -128) (hi := 127) hT rfl (gb_nnar _) ⟨Int.le_refl _, Int.le_refl _⟩) (fun s2 e2 hT2 => ?_)
    have e6 : s2.1 1 6 = σ.1 1 6 := by
      rw [e2]
      rfl
    obtain ⟨q1, q2⟩ := gb_inc i6'
    refine gc_ltT (gc_su (c := 7) (lo := 0) (hi := 600) hT2 rfl (by rw [e6]; exact q1) (by decide)) (fun s3 e3 hT3 => gc_lt (fun x ex => ?_))
    have e7 : s3.1 1 6 = σ.1 1 6 + 1 := by
      rw [e3, ← e6]
      rfl
    have m8 : (-8 : Int32).toInt = -8 := by decide
    have ex2 : x.toInt = v2.toInt - 8 := by
      rw [ex, gb_tadd (by rw [m8]; omega) (by rw [m8]; omega), m8]
      omega
    exact ih s3 v1 x hT3 ⟨k, by omega, by omega, by rw [e7, q2]; omega, by omega⟩
theorem ct_Told_addBytes {n : Nat} (hn : gb_N ≤ n) {σ : gb_S} {p1 : Int32} (hT : gb_TC σ) : gb_tc (cs_Told_addBytes n σ p1) (fun s _ => gb_TC s ∧ True) := by
  unfold cs_Told_addBytes
  refine gc_if (fun c => ?_) (fun c => gc_some ⟨hT, trivial⟩)
  have h := gb_dle c
  have z : (596 : Int32).toInt = 596 := by decide
  exact ct_Told_addBytes_14 n σ p1 24 hT ⟨4, by decide, by decide, by omega, by unfold gb_N at hn; omega⟩
/-! a night changed -/
set_option maxHeartbeats 4000000 in
theorem ct_Night_changeWithNext_31 {n : Nat} : ∀ (mm : Nat) (σ : gb_S) (v2 v3 v4 : Int32), gb_TC σ → v2 = 4 → gb_iv 1 89 v3 → gb_iv 0 4 v4 → (4 - v4.toInt).toNat < mm → gb_tc (cs_Night_changeWithNext_31 n mm σ v2 v3 v4) (fun s _ => gb_TC s ∧ True) := by
  have st : ∀ (σ : gb_S) (i v : Int32) (a b : Int), gb_TC σ → gb_iv a b i → 1 ≤ a → gb_TC (gb_su σ 105 (upd (σ.1 105) (Int32.toNatClampNeg i) v)) := fun σ i v a b hT hi ha => by
    refine gc_su (c := 2) (lo := -2147483648) (hi := 2147483647) hT rfl (gb_it v) ?_
    have : ¬ Int32.toNatClampNeg i = 0 := by
      have := gb_cl hi (by omega)
      have := hi.1
      omega
    unfold gc_ty
    show (if Int32.toNatClampNeg i = 0 then ((0, 24) : Int × Int) else (-2147483648, 2147483647)).1 ≤ _ ∧ _
    rw [if_neg this]
    exact ⟨Int.le_refl _, Int.le_refl _⟩
  intro mm
  induction mm with
  | zero =>
    intro σ v2 v3 v4 hT e2 i3 i4 hm
    exact absurd hm (Nat.not_lt_zero _)
  | succ mm ih =>
    intro σ v2 v3 v4 hT e2 i3 i4 hm
    subst e2
    rw [cs_Night_changeWithNext_31]
    refine gc_if (fun c => gc_some ⟨hT, trivial⟩) (fun c => ?_)
    have i4' : gb_iv 0 3 v4 := gb_rU (s := 1) (gb_dnle c) i4 (gb_ic (a := 4) (by decide)) (by decide)
    have a1 := gb_iadd (lo := 1) (hi := 92) i3 i4' (by decide)
    have a2 := gb_iadd (lo := 5) (hi := 96) (gb_iadd (lo := 5) (hi := 93) i3 (gb_ic (x := 4) (a := 4) (by decide)) (by decide)) i4' (by decide)
    refine gc_ck a1 (by decide) (gc_lt (fun x ex => gc_ck a2 (by decide) (gc_lt (fun y ey => gc_ck a1 (by decide) (gc_ltT (st σ _ _ _ _ hT a1 (by decide)) (fun s2 e2 hT2 => gc_ck a2 (by decide) (gc_ltT (st s2 _ _ _ _ hT2 a2 (by decide)) (fun s3 e3 hT3 => gc_lt (fun z ez => ?_)))))))))
    refine ih s3 4 v3 z hT3 rfl i3 ?_ (gb_mup ez i4' (by decide) hm)
    rw [ez]
    exact gb_iw (gb_iadd (lo := 1) (hi := 4) i4' (gb_ic (a := 1) (by decide)) (by decide)) (by decide)
theorem ct_Night_changeWithNext {n : Nat} (hn : gb_N ≤ n) {σ : gb_S} {p1 : Int32} (hT : gb_TC σ) (i1 : gb_iv 0 22 p1) : gb_tc (cs_Night_changeWithNext n σ p1) (fun s _ => gb_TC s ∧ True) := by
  unfold cs_Night_changeWithNext
  refine gc_if (fun c => gc_some ⟨hT, trivial⟩) (fun c => ?_)
  refine gc_cdP (ct_Lines_size hn hT) (fun r er hr => gc_if (fun c2 => ?_) (fun c2 => gc_some ⟨hT, trivial⟩))
  refine gc_lt (fun x ex => gc_lt (fun y ey => ?_))
  have e4 : x = 4 := by
    rw [ex]
    decide
  subst e4
  have iy : gb_iv 1 89 y := by
    rw [ey]
    exact gb_iadd (lo := 1) (hi := 89) (gb_ic (a := 1) (by decide)) (gb_imul (lo := 0) (hi := 88) i1 (gb_ic (a := 4) (by decide)) (by decide)) (by decide)
  have i0 : gb_iv 0 4 (0 : Int32) := gb_iw (gb_ic (a := 0) (by decide)) (by decide)
  exact ct_Night_changeWithNext_31 n σ 4 y 0 hT rfl iy i0 (gb_fuu hn i0 (by decide))
/-! bits -/
def gc_bc (p1 : Int32) : Int32 :=
  let x_1 := (p1 - ((((p1 : Int32).toUInt32 >>> ((1 : Int32).toUInt32 &&& Int32.toUInt32 31)).toInt32) &&& 1431655765))
  let x_2 := ((x_1 &&& 858993459) + ((((x_1 : Int32).toUInt32 >>> ((2 : Int32).toUInt32 &&& Int32.toUInt32 31)).toInt32) &&& 858993459))
  let x_3 := ((x_2 + (((x_2 : Int32).toUInt32 >>> ((4 : Int32).toUInt32 &&& Int32.toUInt32 31)).toInt32)) &&& 252645135)
  let x_4 := (x_3 + (((x_3 : Int32).toUInt32 >>> ((8 : Int32).toUInt32 &&& Int32.toUInt32 31)).toInt32))
  let x_5 := (x_4 + (((x_4 : Int32).toUInt32 >>> ((16 : Int32).toUInt32 &&& Int32.toUInt32 31)).toInt32))
  (x_5 &&& 63)
theorem gc_bcE (n : Nat) (σ : gb_S) (p : Int32) : cs_java_lang_Integer_bitCount n σ p = some (σ, gc_bc p) := rfl
theorem gc_bc1 : ∀ j : Fin 256, 1 ≤ j.val → 1 ≤ (gc_bc (nI j.val)).toInt ∧ (gc_bc (nI j.val)).toInt ≤ 8 := by decide +kernel
theorem gb_nI {p : Int32} {a b : Int} (h : gb_iv a b p) (k : 0 ≤ a ∧ b ≤ 255) : ∃ j : Fin 256, p = nI j.val ∧ p.toInt = (j.val : Int) := by
  obtain ⟨h1, h2⟩ := h
  obtain ⟨j, hj, e⟩ := nI_of (x := p) (fun q => by have := gb_dlt q; have z : (0 : Int32).toInt = 0 := (by decide); omega)
  have ej : (nI j).toInt = j := by
    show (Int32.ofNat j).toInt = j
    exact Int32.toInt_ofNat_of_lt (by omega)
  have h3 : p.toInt = (j : Int) := by rw [e, ej]
  exact ⟨⟨j, by omega⟩, e, h3⟩
theorem ct_bitCount1 {n : Nat} (hn : gb_N ≤ n) {σ : gb_S} {p1 : Int32} (hT : gb_TC σ) (i1 : gb_iv 1 255 p1) : gb_tc (cs_java_lang_Integer_bitCount n σ p1) (fun s r => s = σ ∧ gb_iv 1 8 r) := by
  obtain ⟨j, e, ej⟩ := gb_nI i1 (by decide)
  have h1 := i1.1
  have := gc_bc1 j (by omega)
  rw [← e] at this
  exact ⟨σ, _, gc_bcE n σ p1, rfl, this⟩
/-! evenest -/
def gb_TS (σ : gb_S) : Prop := gb_TC σ ∧ 1 ≤ (σ.1 130 4).toInt
theorem gc_ss0 {σ : gb_S} {i : Nat} {v : Int32} (h : gb_TS σ) (e : gc_cat 132 = 0) : gb_TS (gb_su σ 132 (upd (σ.1 132) i v)) := ⟨gc_su0 h.1 e, h.2⟩
theorem gc_ltS {ρ : Type} {v : gb_S} {k : gb_S → gb_CR ρ} {Q : gb_S → ρ → Prop} (h : gb_TS v) (H : ∀ s, s = v → gb_TS s → gb_tc (k s) Q) : gb_tc (gb_lt v k) Q := H v rfl h
set_option maxHeartbeats 4000000 in
theorem cs2_sumUp_44 {n : Nat} (hn : gb_N ≤ n) {Q : gb_S → Unit → Prop} {k17 : gb_S → Nat → Int32 → Int32 → gb_CR Unit} {M17 : Nat} (hk17 : ∀ (σ : gb_S) (v1 : Nat) (v2 : Int32) (v4 : Int32), gb_TS σ → gb_kB v1 = true → gb_iv 0 4 v2 → gb_iv 0 8 v4 → (8 - v4.toInt).toNat < M17 → gb_tc (k17 σ v1 v2 v4) Q) (hret : ∀ (σ : gb_S) (r : Unit), gb_TS σ → True → Q σ r) : ∀ (mm : Nat) (σ : gb_S) (v1 : Nat) (v2 : Int32) (v4 : Int32) (v5 : Int32) (v6 : Int32) (v7 : Int32), gb_TS σ → gb_kB v1 = true → gb_iv 0 4 v2 → gb_iv 0 7 v4 → gb_iv (-2147483648) 2147483647 v5 → gb_iv 1 128 v6 → gb_iv 0 128 v7 → (8 - v4.toInt).toNat < M17 + 1 → (128 - v7.toInt).toNat < mm → gb_tc (cs_Flocks_sumUp_B_c132_44 n k17 mm σ v1 v2 v4 v5 v6 v7) Q := by
  intro mm
  induction mm with
  | zero =>
    intro σ v1 v2 v4 v5 v6 v7 hT hv1 iv2 iv4 iv5 iv6 iv7 hm17 hm
    exact absurd hm (Nat.not_lt_zero _)
  | succ mm ih =>
    intro σ v1 v2 v4 v5 v6 v7 hT hv1 iv2 iv4 iv5 iv6 iv7 hm17 hm
    rw [cs_Flocks_sumUp_B_c132_44]
    refine gc_kk hv1 ?_
    refine gc_if (fun c_30778 => ?_) (fun c_30778 => ?_)
    · have j_30779 : gb_iv 1 128 v7 := (gb_rL (lo := 1) (hi := 128) (gb_dle c_30778) iv7 iv6 (by decide))
      refine gc_lti (lo := 1) (hi := 8) (gb_iadd (lo := 1) (hi := 8) iv4 (gb_ic (a := 1) (by decide)) (by decide)) (fun x_21 ex_21 ix_21 => ?_)
      exact hk17 _ _ _ _ hT hv1 iv2 (gb_iw (lo := 0) (hi := 8) ix_21 (by decide)) (gb_mup ex_21 iv4 (by decide) hm17)
    · have j_30780 : gb_iv 0 127 v7 := (gb_rU (lo := 0) (hi := 127) (gb_dnle c_30778) iv7 iv6 (by decide))
      refine gc_ck j_30780 (by decide) ?_
      refine gc_lti (lo := (-2147483648)) (hi := 2147483647) (gb_it _) (fun x_23 ex_23 ix_23 => ?_)
      refine gc_ck (gb_iadd (lo := 1) (hi := 255) iv6 j_30780 (by decide)) (by decide) ?_
      refine gc_ltS (gc_ss0 hT (rfl : gc_cat 132 = 0)) (fun s_25 es_25 hTs_25 => ?_)
      refine gc_lti (lo := 1) (hi := 128) (gb_iadd (lo := 1) (hi := 128) j_30780 (gb_ic (a := 1) (by decide)) (by decide)) (fun x_26 ex_26 ix_26 => ?_)
      exact ih _ _ _ _ _ _ _ hTs_25 hv1 iv2 iv4 (gb_it _) iv6 (gb_iw (lo := 0) (hi := 128) ix_26 (by decide)) hm17 (gb_mup ex_26 j_30780 (by decide) hm)
set_option maxHeartbeats 4000000 in
theorem cs2_sumUp_17 {n : Nat} (hn : gb_N ≤ n) {Q : gb_S → Unit → Prop} (hret : ∀ (σ : gb_S) (r : Unit), gb_TS σ → True → Q σ r) : ∀ (mm : Nat) (σ : gb_S) (v1 : Nat) (v2 : Int32) (v4 : Int32), gb_TS σ → gb_kB v1 = true → gb_iv 0 4 v2 → gb_iv 0 8 v4 → (8 - v4.toInt).toNat < mm → gb_tc (cs_Flocks_sumUp_B_c132_17 n mm σ v1 v2 v4) Q := by
  intro mm
  induction mm with
  | zero =>
    intro σ v1 v2 v4 hT hv1 iv2 iv4 hm
    exact absurd hm (Nat.not_lt_zero _)
  | succ mm ih =>
    intro σ v1 v2 v4 hT hv1 iv2 iv4 hm
    rw [cs_Flocks_sumUp_B_c132_17]
    refine gc_kk hv1 ?_
    refine gc_cdP (ct_Border_geese_B hn hT.1 hv1) (fun r_10 qr_10 h_30685 => ?_)
    refine gc_if (fun c_30686 => ?_) (fun c_30686 => ?_)
    · exact gc_some (hret _ _ hT trivial)
    · have j_30687 : gb_iv 0 7 v4 := (gb_rU (lo := 0) (hi := 7) (gb_dnle c_30686) iv4 h_30685 (by decide))
      have j_30688 : gb_iv 1 8 r_10 := (gb_rL (lo := 1) (hi := 8) (gb_dnle c_30686) h_30685 j_30687 (by decide))
      refine gc_cdP (ct_Border_marksFirst_B hn hT.1 hv1 j_30687 iv2) (fun r_15 qr_15 h_30689 => ?_)
      refine gc_lti (lo := 1) (hi := 128) (gb_ishl (lo := 1) (hi := 128) j_30687 (by decide)) (fun x_18 ex_18 ix_18 => ?_)
      exact cs2_sumUp_44 hn ih hret n _ _ _ _ _ _ _ hT hv1 iv2 j_30687 (gb_it _) ix_18 (gb_iw (lo := 0) (hi := 128) (gb_ic (a := 0) (by decide)) (by decide)) hm (gb_fuu hn (gb_iw (lo := 0) (hi := 128) (gb_ic (a := 0) (by decide)) (by decide)) (by decide))
set_option maxHeartbeats 4000000 in
theorem cs2_sumUp {n : Nat} (hn : gb_N ≤ n) {σ : gb_S} {p1 : Nat} {p2 : Int32} (hT : gb_TC σ) (h1 : gb_kB p1 = true) (i2 : gb_iv 0 4 p2) : gb_tc (cs_Flocks_sumUp_B_c132 n σ p1 p2) (fun s _ => gb_TC s ∧ 1 ≤ (s.1 130 4).toInt) := by
  unfold cs_Flocks_sumUp_B_c132
  refine gc_kk h1 ?_
  refine gc_cdP (ct_Border_geese_B hn hT h1) (fun r _ hr => ?_)
  have ib := gb_ishl (lo := 1) (hi := 256) hr (by decide)
  refine gc_ltT (gc_su (c := 11) (lo := 1) (hi := 256) hT rfl ib (by decide)) (fun s2 e2 hT2 => ?_)
  have hS2 : gb_TS s2 := ⟨hT2, by rw [e2]; exact ib.1⟩
  refine gc_ltS (gc_ss0 hS2 rfl) (fun s3 e3 hS3 => ?_)
  have i0 : gb_iv 0 8 (0 : Int32) := gb_iw (gb_ic (a := 0) (by decide)) (by decide)
  exact cs2_sumUp_17 hn (fun _ _ hT _ => hT) n _ _ _ _ hS3 h1 i2 i0 (gb_fuu hn i0 (by decide))

set_option maxHeartbeats 4000000 in
theorem ct_Flocks_evenest_B_41 {n : Nat} : ∀ (mm : Nat) (σ : gb_S) (v4 v5 : Int32), gb_TC σ → gb_iv 0 256 v5 → (256 - v5.toInt).toNat < mm → gb_tc (cs_Flocks_evenest_B_41 n mm σ v4 v5) (fun s _ => gb_TC s ∧ True) := by
  intro mm
  induction mm with
  | zero =>
    intro σ v4 v5 hT i5 hm
    exact absurd hm (Nat.not_lt_zero _)
  | succ mm ih =>
    intro σ v4 v5 hT i5 hm
    rw [cs_Flocks_evenest_B_41]
    refine gc_if (fun c => gc_some ⟨hT, trivial⟩) (fun c => ?_)
    have is : gb_iv 0 256 (σ.1 130 4) := gc_rd (c := 11) hT rfl (by decide)
    have hc := gb_dnle c
    have h1 := i5.1
    have h2 := is.2
    have i5' : gb_iv 0 255 v5 := ⟨h1, by omega⟩
    have c1 : (1 : Int32).toInt = 1 := by decide
    have a1 : ((σ.1 130 4) - 1).toInt = (σ.1 130 4).toInt - 1 := by
      rw [gb_tsub (by rw [c1]; omega) (by rw [c1]; omega), c1]
    have a2 : (((σ.1 130 4) - 1) - v5).toInt = (σ.1 130 4).toInt - 1 - v5.toInt := by
      rw [gb_tsub (by rw [a1]; omega) (by rw [a1]; omega), a1]
    have ia : gb_iv 0 255 (((σ.1 130 4) - 1) - v5) := ⟨by omega, by omega⟩
    have st : ∀ x : Int32, x = v5 + 1 → gb_iv 0 256 x := fun x e => by
      rw [e]
      exact gb_iw (gb_iadd (lo := 1) (hi := 256) i5' (gb_ic (a := 1) (by decide)) (by decide)) (by decide)
    refine gc_ck i5' (by decide) (gc_lt (fun x ex => gc_ck ia (by decide) (gc_lt (fun y ey => gc_lt (fun z ez => gc_if (fun _ => gc_lt (fun u eu => ih _ _ _ hT (st u eu) (gb_mup eu i5' (by decide) hm))) (fun _ => ?_))))))
    exact gc_ltT (gc_su (c := 11) (lo := -2147483648) (hi := 2147483647) hT rfl (gb_it _) (by decide)) (fun s2 e2 hT2 => gc_lt (fun u eu => ih _ _ _ hT2 (st u eu) (gb_mup eu i5' (by decide) hm)))
theorem ct_Flocks_evenest_B {n : Nat} (hn : gb_N ≤ n) {σ : gb_S} {p1 : Nat} {p2 p3 : Int32} (hT : gb_TC σ) (h1 : gb_kB p1 = true) (i2 : gb_iv 0 4 p2) (i3 : gb_iv 0 4 p3) : gb_tc (cs_Flocks_evenest_B n σ p1 p2 p3) (fun s r => gb_TC s ∧ gb_iv (-2147483648) 2147483647 r) := by
  unfold cs_Flocks_evenest_B
  refine gc_kk h1 ?_
  refine gc_cdT (ct_Flocks_sumUp_B_c131 hn hT h1 i2) (fun s2 _ hT2 _ => ?_)
  refine gc_cd (cs2_sumUp hn hT2 h1 i3) (fun s3 _ h3 => ?_)
  obtain ⟨hT3, hs⟩ := h3
  have is : gb_iv 0 256 (s3.1 130 4) := gc_rd (c := 11) hT3 rfl (by decide)
  have ia := gb_isub (lo := 0) (hi := 255) (a := 1) (b := 256) ⟨hs, is.2⟩ (gb_ic (x := 1) (a := 1) (by decide)) (by decide)
  refine gc_ck ia (by decide) (gc_lt (fun x ex => gc_ltT (gc_su (c := 11) (lo := -2147483648) (hi := 2147483647) hT3 rfl (gb_it _) (by decide)) (fun s4 e4 hT4 => ?_)))
  have i0 : gb_iv 0 256 (1 : Int32) := gb_iw (gb_ic (a := 1) (by decide)) (by decide)
  exact gc_mono (ct_Flocks_evenest_B_41 n s4 0 1 hT4 i0 (gb_fuu hn i0 (by decide))) (fun _ _ h => ⟨h.1, gb_it _⟩)
/-! ways -/
set_option maxHeartbeats 4000000 in
theorem ct_Flocks_addGoing_13 {n : Nat} : ∀ (mm : Nat) (σ : gb_S) (v1 v2 v3 : Int32), gb_TS σ → gb_iv 0 255 v1 → gb_iv 0 255 v3 → v3.toInt.toNat < mm → gb_tc (cs_Flocks_addGoing_13 n mm σ v1 v2 v3) (fun s _ => gb_TS s ∧ True) := by
  intro mm
  induction mm with
  | zero =>
    intro σ v1 v2 v3 hT i1 i3 hm
    exact absurd hm (Nat.not_lt_zero _)
  | succ mm ih =>
    intro σ v1 v2 v3 hT i1 i3 hm
    rw [cs_Flocks_addGoing_13]
    refine gc_if (fun c => ?_) (fun c => ?_)
    · exact gc_kk (gc_q5 hT.1) (gc_ck i1 (by decide) (gc_lt (fun x ex => gc_kk (gc_q4 hT.1) (gc_lt (fun y ey => gc_ck i1 (by decide) (gc_lt (fun s2 e2 => gc_some ⟨by rw [e2]; exact hT, trivial⟩)))))))
    · have hc := gb_dnle c
      have z : (0 : Int32).toInt = 0 := by decide
      have c1 : (1 : Int32).toInt = 1 := by decide
      have h3 := i3.2
      have io := gb_ior i3 i1
      have e1 : (v3 - 1).toInt = v3.toInt - 1 := by
        rw [gb_tsub (by rw [c1]; omega) (by rw [c1]; omega), c1]
      refine gc_kk (gc_q5 hT.1) (gc_ck io (by decide) (gc_lt (fun x ex => gc_kk (gc_q4 hT.1) (gc_ck i3 (by decide) (gc_lt (fun y ey => gc_ck io (by decide) (gc_lt (fun s2 e2 => gc_lt (fun u eu => ?_)))))))))
      have iu : gb_iv 0 (v3.toInt - 1) u := by
        rw [eu]
        exact gb_iand ⟨by omega, by omega⟩ ⟨Int.le_refl _, Int.le_refl _⟩
      have hu1 := iu.1
      have hu2 := iu.2
      exact ih s2 v1 v2 u (by rw [e2]; exact hT) i1 ⟨hu1, by omega⟩ (by omega)
theorem ct_Flocks_addGoing {n : Nat} (hn : gb_N ≤ n) {σ : gb_S} {p1 : Int32} (hT : gb_TS σ) (i1 : gb_iv 0 255 p1) : gb_tc (cs_Flocks_addGoing n σ p1) (fun s _ => gb_TS s ∧ True) := by
  unfold cs_Flocks_addGoing
  have is : gb_iv 0 256 (σ.1 130 4) := gc_rd (c := 11) hT.1 rfl (by decide)
  have ia := gb_isub (lo := 0) (hi := 255) (a := 1) (b := 256) ⟨hT.2, is.2⟩ (gb_ic (x := 1) (a := 1) (by decide)) (by decide)
  refine gc_lti (gb_iand (lo := 0) (hi := 255) ia (by decide)) (fun x ex ix => ct_Flocks_addGoing_13 n σ p1 x x hT i1 ix ?_)
  have := ix.2
  unfold gb_N at hn
  omega
set_option maxHeartbeats 4000000 in
theorem ct_Flocks_goBy_10 {n : Nat} (hn : gb_N ≤ n) : ∀ (mm : Nat) (σ : gb_S) (v1 v2 v3 : Int32), gb_TC σ → gb_iv 0 256 v3 → (256 - v3.toInt).toNat < mm → gb_tc (cs_Flocks_goBy_10 n mm σ v1 v2 v3) (fun s _ => gb_TC s ∧ True) := by
  intro mm
  induction mm with
  | zero =>
    intro σ v1 v2 v3 hT i3 hm
    exact absurd hm (Nat.not_lt_zero _)
  | succ mm ih =>
    intro σ v1 v2 v3 hT i3 hm
    rw [cs_Flocks_goBy_10]
    refine gc_if (fun c => ?_) (fun c => ?_)
    · refine gc_kk (gc_q4 hT) (gc_kk (gc_q5 hT) (gc_ltT (gc_sq4 hT (gc_q5 hT)) (fun s2 e2 hT2 => gc_ltT (gc_sq5 hT2 (gc_q4 hT)) (fun s3 e3 hT3 => gc_some ⟨hT3, trivial⟩))))
    · have is : gb_iv 0 256 (σ.1 130 4) := gc_rd (c := 11) hT rfl (by decide)
      have hc := gb_dnle c
      have h1 := i3.1
      have h2 := is.2
      have i3' : gb_iv 0 255 v3 := ⟨h1, by omega⟩
      have hS : gb_TS σ := ⟨hT, by omega⟩
      have st : ∀ x : Int32, x = v3 + 1 → gb_iv 0 256 x := fun x e => by
        rw [e]
        exact gb_iw (gb_iadd (lo := 1) (hi := 256) i3' (gb_ic (a := 1) (by decide)) (by decide)) (by decide)
      refine gc_ck i3' (by decide) (gc_lt (fun x ex => gc_if (fun _ => gc_if (fun _ => ?_) (fun _ => gc_lt (fun u eu => ih _ _ _ _ hT (st u eu) (gb_mup eu i3' (by decide) hm)))) (fun _ => gc_lt (fun u eu => ih _ _ _ _ hT (st u eu) (gb_mup eu i3' (by decide) hm)))))
      exact gc_cd (ct_Flocks_addGoing hn hS i3') (fun s2 _ h2 => gc_lt (fun u eu => ih _ _ _ _ h2.1.1 (st u eu) (gb_mup eu i3' (by decide) hm)))
theorem ct_Flocks_goBy {n : Nat} (hn : gb_N ≤ n) {σ : gb_S} {p1 p2 : Int32} (hT : gb_TC σ) : gb_tc (cs_Flocks_goBy n σ p1 p2) (fun s _ => gb_TC s ∧ True) := by
  unfold cs_Flocks_goBy
  refine gc_kk (gc_q5 hT) (gc_cdT (ct_java_util_Arrays_fillJ_J hn hT (gc_q5 hT)) (fun s2 _ hT2 _ => ?_))
  have i0 : gb_iv 0 256 (0 : Int32) := gb_iw (gb_ic (a := 0) (by decide)) (by decide)
  exact ct_Flocks_goBy_10 hn n s2 p1 p2 0 hT2 i0 (gb_fuu hn i0 (by decide))
set_option maxHeartbeats 4000000 in
theorem ct_shb_n {n : Nat} (hn : gb_N ≤ n) : ∀ (mm : Nat) (σ : gb_S) (v3 v4 : Int32), gb_TC σ → (σ.1 120 4).toInt ≤ v4.toInt → gb_iv 0 5 v4 → (5 - v4.toInt).toNat < mm → gb_tc (cs_Sharing_begin_B_n_18 n mm σ v3 v4) (fun s _ => gb_TC s ∧ True) := by
  intro mm
  induction mm with
  | zero =>
    intro σ v3 v4 hT ho i4 hm
    exact absurd hm (Nat.not_lt_zero _)
  | succ mm ih =>
    intro σ v3 v4 hT ho i4 hm
    rw [cs_Sharing_begin_B_n_18]
    refine gc_kk (gc_q2 hT) (gc_cdP (ct_Border_paths_B hn hT (gc_q2 hT)) (fun r er hr => gc_if (fun c => ct_shrest_n hn hT) (fun c => ?_)))
    have i4' : gb_iv 0 4 v4 := gb_rU (s := 1) (gb_dnle c) i4 hr (by decide)
    have st : ∀ x : Int32, x = v4 + 1 → gb_iv 0 5 x ∧ x.toInt = v4.toInt + 1 := fun x e => by
      refine ⟨?_, ?_⟩
      · rw [e]
        exact gb_iw (gb_iadd (lo := 1) (hi := 5) i4' (gb_ic (a := 1) (by decide)) (by decide)) (by decide)
      · rw [e]
        exact gb_i1 i4' (by decide)
    refine gc_ck i4' (by decide) (gc_ltT (gc_su0 hT rfl) (fun s2 e2 hT2 => ?_))
    have e4 : s2.1 120 4 = σ.1 120 4 := by
      rw [e2]
      rfl
    refine gc_if (fun _ => gc_lt (fun x ex => ih _ _ _ hT2 (by rw [e4]; have := (st x ex).2; omega) (st x ex).1 (gb_mup ex i4' (by decide) hm))) (fun _ => ?_)
    have io : gb_iv 0 4 (s2.1 120 4) := by
      have h1 : gb_iv 0 5 (s2.1 120 4) := gc_rd (c := 8) hT2 rfl (by decide)
      have h2 := i4'.2
      exact ⟨h1.1, by rw [e4]; omega⟩
    refine gc_ck io (by decide) (gc_ltT (gc_su (c := 9) (lo := 0) (hi := 4) hT2 rfl i4' ⟨Int.le_refl _, Int.le_refl _⟩) (fun s3 e3 hT3 => ?_))
    have e5 : s3.1 120 4 = s2.1 120 4 := by
      rw [e3]
      rfl
    have iq := gb_iadd (lo := 1) (hi := 5) io (gb_ic (x := 1) (a := 1) (by decide)) (by decide)
    have eq := gb_i1 io (by decide)
    refine gc_ltT (gc_su (c := 8) (lo := 1) (hi := 5) hT3 rfl (by rw [e5]; exact iq) (by decide)) (fun s4 e6 hT4 => gc_lt (fun x ex => ?_))
    have e7 : s4.1 120 4 = s2.1 120 4 + 1 := by
      rw [e6, ← e5]
      rfl
    refine ih _ _ _ hT4 ?_ (st x ex).1 (gb_mup ex i4' (by decide) hm)
    have h3 := (st x ex).2
    rw [e7, eq, e4]
    omega
theorem ct_Sharing_begin_B_n {n : Nat} (hn : gb_N ≤ n) {σ : gb_S} {p1 : Nat} {p3 : Int32} (hT : gb_TC σ) (h1 : gb_kB p1 = true) : gb_tc (cs_Sharing_begin_B_n n σ p1 p3) (fun s _ => gb_TC s ∧ True) := by
  unfold cs_Sharing_begin_B_n
  have i0 : gb_iv 0 5 (0 : Int32) := gb_iw (gb_ic (a := 0) (by decide)) (by decide)
  refine gc_kk h1 (gc_ltT (gc_sq2 hT h1) (fun s2 e2 hT2 => gc_ltT (gc_sq3 hT2 (Or.inl rfl)) (fun s3 e3 hT3 => gc_ltT (gc_su (c := 8) (lo := 0) (hi := 0) hT3 rfl (gb_ic (a := 0) (by decide)) (by decide)) (fun s4 e4 hT4 => ?_))))
  exact ct_shb_n hn n s4 p3 0 hT4 (by rw [e4]; show (0 : Int32).toInt ≤ (0 : Int32).toInt; decide) i0 (gb_fuu hn i0 (by decide))
set_option maxHeartbeats 4000000 in
theorem ct_shb_L {n : Nat} (hn : gb_N ≤ n) : ∀ (mm : Nat) (σ : gb_S) (v3 v4 : Int32), gb_TC σ → (σ.1 120 4).toInt ≤ v4.toInt → gb_iv 0 5 v4 → (5 - v4.toInt).toNat < mm → gb_tc (cs_Sharing_begin_B_L_18 n mm σ v3 v4) (fun s _ => gb_TC s ∧ True) := by
  intro mm
  induction mm with
  | zero =>
    intro σ v3 v4 hT ho i4 hm
    exact absurd hm (Nat.not_lt_zero _)
  | succ mm ih =>
    intro σ v3 v4 hT ho i4 hm
    rw [cs_Sharing_begin_B_L_18]
    refine gc_kk (gc_q2 hT) (gc_cdP (ct_Border_paths_B hn hT (gc_q2 hT)) (fun r er hr => gc_if (fun c => ct_shrest_L hn hT) (fun c => ?_)))
    have i4' : gb_iv 0 4 v4 := gb_rU (s := 1) (gb_dnle c) i4 hr (by decide)
    have st : ∀ x : Int32, x = v4 + 1 → gb_iv 0 5 x ∧ x.toInt = v4.toInt + 1 := fun x e => by
      refine ⟨?_, ?_⟩
      · rw [e]
        exact gb_iw (gb_iadd (lo := 1) (hi := 5) i4' (gb_ic (a := 1) (by decide)) (by decide)) (by decide)
      · rw [e]
        exact gb_i1 i4' (by decide)
    refine gc_ck i4' (by decide) (gc_ltT (gc_su0 hT rfl) (fun s2 e2 hT2 => ?_))
    have e4 : s2.1 120 4 = σ.1 120 4 := by
      rw [e2]
      rfl
    refine gc_if (fun _ => gc_lt (fun x ex => ih _ _ _ hT2 (by rw [e4]; have := (st x ex).2; omega) (st x ex).1 (gb_mup ex i4' (by decide) hm))) (fun _ => ?_)
    have io : gb_iv 0 4 (s2.1 120 4) := by
      have h1 : gb_iv 0 5 (s2.1 120 4) := gc_rd (c := 8) hT2 rfl (by decide)
      have h2 := i4'.2
      exact ⟨h1.1, by rw [e4]; omega⟩
    refine gc_ck io (by decide) (gc_ltT (gc_su (c := 9) (lo := 0) (hi := 4) hT2 rfl i4' ⟨Int.le_refl _, Int.le_refl _⟩) (fun s3 e3 hT3 => ?_))
    have e5 : s3.1 120 4 = s2.1 120 4 := by
      rw [e3]
      rfl
    have iq := gb_iadd (lo := 1) (hi := 5) io (gb_ic (x := 1) (a := 1) (by decide)) (by decide)
    have eq := gb_i1 io (by decide)
    refine gc_ltT (gc_su (c := 8) (lo := 1) (hi := 5) hT3 rfl (by rw [e5]; exact iq) (by decide)) (fun s4 e6 hT4 => gc_lt (fun x ex => ?_))
    have e7 : s4.1 120 4 = s2.1 120 4 + 1 := by
      rw [e6, ← e5]
      rfl
    refine ih _ _ _ hT4 ?_ (st x ex).1 (gb_mup ex i4' (by decide) hm)
    have h3 := (st x ex).2
    rw [e7, eq, e4]
    omega
theorem ct_Sharing_begin_B_L {n : Nat} (hn : gb_N ≤ n) {σ : gb_S} {p1 p2 : Nat} {p3 : Int32} (hT : gb_TC σ) (h1 : gb_kB p1 = true) (h2 : gb_kL p2 = true) : gb_tc (cs_Sharing_begin_B_L n σ p1 p2 p3) (fun s _ => gb_TC s ∧ True) := by
  unfold cs_Sharing_begin_B_L
  have i0 : gb_iv 0 5 (0 : Int32) := gb_iw (gb_ic (a := 0) (by decide)) (by decide)
  refine gc_kk h1 (gc_kk h2 (gc_ltT (gc_sq2 hT h1) (fun s2 e2 hT2 => gc_ltT (gc_sq3 hT2 (Or.inr h2)) (fun s3 e3 hT3 => gc_ltT (gc_su (c := 8) (lo := 0) (hi := 0) hT3 rfl (gb_ic (a := 0) (by decide)) (by decide)) (fun s4 e4 hT4 => ?_)))))
  exact ct_shb_L hn n s4 p3 0 hT4 (by rw [e4]; show (0 : Int32).toInt ≤ (0 : Int32).toInt; decide) i0 (gb_fuu hn i0 (by decide))
/-! deeds that can be -/
def gc_cv (F : Nat → Int32) (k j : Int32) : Int32 := F (Int32.toNatClampNeg (((1 : Int32) + (k * ((3 : Int32) + 1))) + j))
def gc_Dc (F : Nat → Int32) (k : Int32) : Prop :=
  ((gc_cv F k 0 = 0 ∨ gc_cv F k 0 = 1 ∨ gc_cv F k 0 = 2) → gb_iv 0 7 (gc_cv F k 1) ∧ gb_iv 0 4 (gc_cv F k 2)) ∧
  (gc_cv F k 0 = 3 → gb_iv 0 7 (gc_cv F k 1) ∧ gb_iv 0 7 (gc_cv F k 2) ∧ gb_iv 0 4 (gc_cv F k 3)) ∧
  (gc_cv F k 0 = 4 → gb_iv 0 7 (gc_cv F k 1)) ∧ (gc_cv F k 0 = 8 → gb_iv 0 4 (gc_cv F k 1))
theorem gc_Dc0 {F : Nat → Int32} {k : Int32} (h : gc_cv F k 0 = 0 ∨ gc_cv F k 0 = 1 ∨ gc_cv F k 0 = 2) (ha : gb_iv 0 7 (gc_cv F k 1)) (hb : gb_iv 0 4 (gc_cv F k 2)) : gc_Dc F k := by
  refine ⟨fun _ => ⟨ha, hb⟩, fun q => ?_, fun q => ?_, fun q => ?_⟩ <;> (rw [q] at h; exact absurd h (by decide))
theorem gc_Dc3 {F : Nat → Int32} {k : Int32} (h : gc_cv F k 0 = 3) (ha : gb_iv 0 7 (gc_cv F k 1)) (hb : gb_iv 0 7 (gc_cv F k 2)) (hc : gb_iv 0 4 (gc_cv F k 3)) : gc_Dc F k := by
  refine ⟨fun q => ?_, fun _ => ⟨ha, hb, hc⟩, fun q => ?_, fun q => ?_⟩ <;> (rw [h] at q; exact absurd q (by decide))
theorem gc_Dc4 {F : Nat → Int32} {k : Int32} (h : gc_cv F k 0 = 4) (ha : gb_iv 0 7 (gc_cv F k 1)) : gc_Dc F k := by
  refine ⟨fun q => ?_, fun q => ?_, fun _ => ha, fun q => ?_⟩ <;> (rw [h] at q; exact absurd q (by decide))
theorem gc_Dc5 {F : Nat → Int32} {k : Int32} (c0 : ¬ gc_cv F k 0 = 0) (c1 : ¬ gc_cv F k 0 = 1) (c2 : ¬ gc_cv F k 0 = 2) (c3 : ¬ gc_cv F k 0 = 3) (c4 : ¬ gc_cv F k 0 = 4) (c8 : ¬ gc_cv F k 0 = 8) : gc_Dc F k :=
  ⟨fun q => (q.elim c0 (fun q => q.elim c1 c2)).elim, fun q => absurd q c3, fun q => absurd q c4, fun q => absurd q c8⟩
theorem gc_Dc8 {F : Nat → Int32} {k : Int32} (h : gc_cv F k 0 = 8) (ha : gb_iv 0 4 (gc_cv F k 1)) : gc_Dc F k := by
  refine ⟨fun q => ?_, fun q => ?_, fun q => ?_, fun _ => ha⟩ <;> (rw [h] at q; exact absurd q (by decide))
theorem ct_cellEN {n : Nat} {σ : gb_S} {kn : Nat} {k j : Int32} (hkn : gb_kN kn = true) (i1 : gb_iv 0 23 k) (i2 : gb_iv 0 3 j) : gb_tc (cs_Lines_cell_N n σ kn k j) (fun s r => s = σ ∧ r = gc_cv (σ.1 (kn + 1)) k j) := by
  unfold cs_Lines_cell_N
  refine gc_kk hkn (gc_ck (gb_iadd (lo := 1) (hi := 96) (gb_iadd (lo := 1) (hi := 93) (gb_ic (a := 1) (by decide)) (gb_imul (lo := 0) (hi := 92) i1 (gb_ic (x := (3 : Int32) + 1) (a := 4) (by decide)) (by decide)) (by decide)) i2 (by decide)) (by decide) ?_)
  exact gc_lt (fun x e => gc_some ⟨rfl, e⟩)
theorem ct_kindEN {n : Nat} {σ : gb_S} {kn : Nat} {k : Int32} (hkn : gb_kN kn = true) (i1 : gb_iv 0 23 k) : gb_tc (cs_Lines_kind_N n σ kn k) (fun s r => s = σ ∧ r = gc_cv (σ.1 (kn + 1)) k 0) := by
  unfold cs_Lines_kind_N
  refine gc_kk hkn (gc_cdP (ct_cellEN hkn i1 (gb_iw (gb_ic (a := 0) (by decide)) (by decide))) (fun r _ hr => gc_some ⟨rfl, hr⟩))
set_option maxHeartbeats 4000000 in
theorem ct_canBeN {n : Nat} (hn : gb_N ≤ n) {σ : gb_S} {kn : Nat} {k : Int32} (hT : gb_TC σ) (hkn : gb_kN kn = true) (ik : gb_iv 0 23 k) : gb_tc (cs_Play_canBe_N n σ kn k) (fun s r => s = σ ∧ (¬ r = 0 → gc_Dc (σ.1 (kn + 1)) k)) := by
  have hq := gc_q1 hT
  have no : ∀ {P : Prop}, ¬ (0 : Int32) = 0 → P := fun h => absurd rfl h
  unfold cs_Play_canBe_N
  refine gc_kk hkn (gc_cdP (ct_cellEN hkn ik (gb_iw (gb_ic (a := 1) (by decide)) (by decide))) (fun a _ ea => ?_))
  refine gc_cdP (ct_cellEN hkn ik (gb_iw (gb_ic (a := 2) (by decide)) (by decide))) (fun b _ eb => ?_)
  refine gc_cdP (ct_kindEN hkn ik) (fun d _ ed => ?_)
  refine gc_if (fun c0 => ?_) (fun c0 => ?_)
  · refine gc_cdP (ct_Play_stands hn hT) (fun r1 _ h1 => gc_if (fun _ => gc_some ⟨rfl, no⟩) (fun c1 => gc_kk hq ?_))
    refine gc_cdP (ct_Border_hasPath_B hn hT hq) (fun r2 _ h2 => gc_if (fun _ => gc_some ⟨rfl, no⟩) (fun c2 => gc_some ⟨rfl, fun _ => ?_⟩))
    exact gc_Dc0 (Or.inl (ed ▸ c0)) (ea ▸ h1.2 c1) (eb ▸ h2.2 c2)
  refine gc_if (fun c1 => ?_) (fun c1 => ?_)
  · refine gc_cdP (ct_Play_stands hn hT) (fun r1 _ h1 => gc_if (fun _ => gc_some ⟨rfl, no⟩) (fun c2 => gc_kk hq ?_))
    refine gc_cdP (ct_Border_hasPath_B hn hT hq) (fun r2 _ h2 => gc_if (fun _ => gc_some ⟨rfl, no⟩) (fun c3 => gc_some ⟨rfl, fun _ => ?_⟩))
    exact gc_Dc0 (Or.inr (Or.inl (ed ▸ c1))) (ea ▸ h1.2 c2) (eb ▸ h2.2 c3)
  refine gc_if (fun c2 => ?_) (fun c2 => ?_)
  · refine gc_cdP (ct_Play_stands hn hT) (fun r1 _ h1 => gc_if (fun _ => gc_some ⟨rfl, no⟩) (fun c3 => gc_kk hq ?_))
    refine gc_cdP (ct_Border_hasPath_B hn hT hq) (fun r2 _ h2 => gc_if (fun _ => gc_some ⟨rfl, no⟩) (fun c4 => gc_some ⟨rfl, fun _ => ?_⟩))
    exact gc_Dc0 (Or.inr (Or.inr (ed ▸ c2))) (ea ▸ h1.2 c3) (eb ▸ h2.2 c4)
  refine gc_if (fun c3 => ?_) (fun c3 => ?_)
  · refine gc_cdP (ct_Play_stands hn hT) (fun r1 _ h1 => gc_if (fun _ => gc_some ⟨rfl, no⟩) (fun c4 => ?_))
    refine gc_cdP (ct_Play_stands hn hT) (fun r2 _ h2 => gc_if (fun _ => gc_some ⟨rfl, no⟩) (fun c5 => gc_kk hq ?_))
    refine gc_cdP (ct_cellEN hkn ik (gb_iw (gb_ic (a := 3) (by decide)) (by decide))) (fun e _ ee => ?_)
    refine gc_cdP (ct_Border_hasPath_B hn hT hq) (fun r3 _ h3 => gc_if (fun _ => gc_some ⟨rfl, no⟩) (fun c6 => gc_some ⟨rfl, fun _ => ?_⟩))
    exact gc_Dc3 (ed ▸ c3) (ea ▸ h1.2 c4) (eb ▸ h2.2 c5) (ee ▸ h3.2 c6)
  refine gc_if (fun c4 => ?_) (fun c4 => ?_)
  · refine gc_cdP (ct_Play_stands hn hT) (fun r1 _ h1 => gc_if (fun _ => ?_) (fun c5 => gc_some ⟨rfl, fun _ => gc_Dc4 (ed ▸ c4) (ea ▸ h1.2 c5)⟩))
    exact gc_cdP (ct_Play_stands hn hT) (fun r2 _ h2 => gc_if (fun _ => gc_some ⟨rfl, no⟩) (fun c5 => gc_some ⟨rfl, fun _ => gc_Dc4 (ed ▸ c4) (ea ▸ h2.2 c5)⟩))
  refine gc_if (fun c5 => gc_some ⟨rfl, fun _ => gc_Dc5 (ed ▸ c0) (ed ▸ c1) (ed ▸ c2) (ed ▸ c3) (ed ▸ c4) (by rw [← ed, c5]; decide)⟩) (fun c5 => ?_)
  refine gc_if (fun c6 => gc_some ⟨rfl, fun _ => gc_Dc5 (ed ▸ c0) (ed ▸ c1) (ed ▸ c2) (ed ▸ c3) (ed ▸ c4) (by rw [← ed, c6]; decide)⟩) (fun c6 => ?_)
  refine gc_if (fun c7 => gc_some ⟨rfl, fun _ => gc_Dc5 (ed ▸ c0) (ed ▸ c1) (ed ▸ c2) (ed ▸ c3) (ed ▸ c4) (by rw [← ed, c7]; decide)⟩) (fun c7 => ?_)
  refine gc_if (fun c8 => ?_) (fun c8 => gc_some ⟨rfl, fun _ => gc_Dc5 (ed ▸ c0) (ed ▸ c1) (ed ▸ c2) (ed ▸ c3) (ed ▸ c4) (ed ▸ c8)⟩)
  refine gc_kk hq (gc_cdP (ct_Border_hasPath_B hn hT hq) (fun r1 _ h1 => gc_if (fun _ => gc_some ⟨rfl, no⟩) (fun c9 => ?_)))
  refine gc_cdP (ct_Play_latestGoer hn hT (h1.2 c9)) (fun r2 _ h2 => gc_if (fun _ => gc_some ⟨rfl, no⟩) (fun c10 => gc_some ⟨rfl, fun _ => ?_⟩))
  exact gc_Dc8 (ed ▸ c8) (ea ▸ h1.2 c9)
set_option maxHeartbeats 4000000 in
theorem ct_doDeedN {n : Nat} (hn : gb_N ≤ n) {σ : gb_S} {kn : Nat} {k m : Int32} (hT : gb_TC σ) (hkn : gb_kN kn = true) (ik : gb_iv 0 23 k) (hd : gc_Dc (σ.1 (kn + 1)) k) : gb_tc (cs_Play_doDeed_N n σ kn k m) (fun s _ => gb_TC s ∧ True) := by
  obtain ⟨d0, d3, d4, d8⟩ := hd
  unfold cs_Play_doDeed_N
  refine gc_kk hkn (gc_cdP (ct_cellEN hkn ik (gb_iw (gb_ic (a := 1) (by decide)) (by decide))) (fun a _ ea => ?_))
  refine gc_cdP (ct_cellEN hkn ik (gb_iw (gb_ic (a := 2) (by decide)) (by decide))) (fun b _ eb => ?_)
  refine gc_cdP (ct_kindEN hkn ik) (fun d _ ed => ?_)
  rw [← ea, ← eb, ← ed] at d0
  rw [← ea, ← eb, ← ed] at d3
  rw [← ea, ← ed] at d4
  rw [← ea, ← ed] at d8
  have ok : ∀ {s : gb_S}, gb_TC s → gb_tc (some (s, ()) : gb_CR Unit) (fun s _ => gb_TC s ∧ True) := fun h => gc_some ⟨h, trivial⟩
  refine gc_if (fun c0 => ?_) (fun c0 => ?_)
  · have z := d0 (Or.inl c0)
    exact gc_if (fun _ => gc_cdT (ct_Play_go_n hn hT z.1 z.2) (fun s2 _ hT2 _ => ok hT2)) (fun _ => gc_cdT (ct_Play_go_c116 hn hT z.1 z.2) (fun s2 _ hT2 _ => ok hT2))
  refine gc_if (fun c1 => ?_) (fun c1 => ?_)
  · have z := d0 (Or.inr (Or.inl c1))
    exact gc_cdT (ct_Play_go_c117 hn hT z.1 z.2) (fun s2 _ hT2 _ => ok hT2)
  refine gc_if (fun c2 => ?_) (fun c2 => ?_)
  · have z := d0 (Or.inr (Or.inr c2))
    exact gc_cdT (ct_Play_go_c117 hn hT z.1 z.2) (fun s2 _ hT2 _ => ok hT2)
  refine gc_if (fun c3 => ?_) (fun c3 => ?_)
  · obtain ⟨z1, z2, z3⟩ := d3 c3
    refine gc_cdP (ct_cellEN hkn ik (gb_iw (gb_ic (a := 3) (by decide)) (by decide))) (fun e _ ee => ?_)
    rw [← ee] at z3
    refine gc_cdT (ct_Play_go_c116 hn hT z1 z3) (fun s2 _ hT2 _ => ?_)
    refine gc_ck z2 (by decide) (gc_ltT (gc_su0 hT2 rfl) (fun s3 e3 hT3 => ?_))
    refine gc_cdP (ct_cellEN hkn ik (gb_iw (gb_ic (a := 3) (by decide)) (by decide))) (fun e2 _ ee2 => ?_)
    exact gc_ck z2 (by decide) (gc_ltT (gc_su0 hT3 rfl) (fun s4 e4 hT4 => ok hT4))
  refine gc_if (fun c4 => ?_) (fun c4 => ?_)
  · have z := d4 c4
    exact gc_ck z (by decide) (gc_ltT (gc_su0 hT rfl) (fun s3 e3 hT3 => gc_ltT (gc_su (c := 10) (lo := -2147483648) (hi := 2147483647) hT3 rfl (gb_it _) (by decide)) (fun s4 e4 hT4 => ok hT4)))
  refine gc_if (fun c5 => gc_cdT (ct_Play_rainDown hn hT) (fun s2 _ hT2 _ => ok hT2)) (fun c5 => ?_)
  refine gc_if (fun c6 => gc_ltT (gc_su (c := 10) (lo := -2147483648) (hi := 2147483647) hT rfl (gb_it _) (by decide)) (fun s4 e4 hT4 => ok hT4)) (fun c6 => ?_)
  refine gc_if (fun c7 => gc_ltT (gc_su (c := 10) (lo := -2147483648) (hi := 2147483647) hT rfl (gb_it _) (by decide)) (fun s4 e4 hT4 => ok hT4)) (fun c7 => ?_)
  refine gc_if (fun c8 => ?_) (fun _ => ok hT)
  refine gc_cdP (ct_Play_latestGoer hn hT (d8 c8)) (fun r _ hr => ?_)
  exact gc_cdT (ct_Play_eat hn hT) (fun s2 _ hT2 _ => ok hT2)
set_option maxHeartbeats 4000000 in
theorem ct_run18N {n : Nat} (hn : gb_N ≤ n) {kn : Nat} (hkn : gb_kN kn = true) : ∀ (mm : Nat) (σ : gb_S) (v4 v5 v6 : Int32), gb_TC σ → gb_iv (-2147483648) 24 v5 → gb_iv 0 24 v6 → (24 - v6.toInt).toNat < mm → gb_tc (cs_Play_run_B_N_18 n mm σ kn v4 v5 v6) (fun s _ => gb_TC s ∧ True) := by
  intro mm
  induction mm with
  | zero =>
    intro σ v4 v5 v6 hT i5 i6 hm
    exact absurd hm (Nat.not_lt_zero _)
  | succ mm ih =>
    intro σ v4 v5 v6 hT i5 i6 hm
    rw [cs_Play_run_B_N_18]
    refine gc_kk hkn (gc_if (fun _ => gc_some ⟨hT, trivial⟩) (fun c => ?_))
    have i6' : gb_iv 0 23 v6 := gb_rU (s := 1) (gb_dnle c) i6 i5 (by decide)
    have inc := gb_iadd (lo := 1) (hi := 24) i6' (gb_ic (x := 1) (a := 1) (by decide)) (by decide)
    refine gc_cdP (ct_canBeN hn hT hkn i6') (fun r _ hr => gc_if (fun _ => gc_some ⟨hT, trivial⟩) (fun c2 => ?_))
    have go : ∀ (s2 : gb_S), gb_TC s2 → gb_tc (gb_lt (gb_su s2 109 (upd (s2.1 109) 11 (v6 + 1))) (fun s_24 => gb_lt (v6 + 1) (fun x_25 => cs_Play_run_B_N_18 n mm s_24 kn v4 v5 x_25))) (fun s _ => gb_TC s ∧ True) := fun s2 hT2 => by
      refine gc_ltT (gc_su (c := 10) (lo := 1) (hi := 24) hT2 rfl inc (by decide)) (fun s3 e3 hT3 => gc_lt (fun x ex => ?_))
      exact ih s3 v4 v5 x hT3 i5 (by rw [ex]; exact gb_iw inc (by decide)) (gb_mup ex i6' (by decide) hm)
    exact gc_if (fun _ => gc_cdT (ct_doDeedN hn hT hkn i6' (hr c2)) (fun s2 _ hT2 _ => go s2 hT2)) (fun _ => gc_cdT (ct_doDeedN hn hT hkn i6' (hr c2)) (fun s2 _ hT2 _ => go s2 hT2))
theorem ct_Play_run_B_N {n : Nat} (hn : gb_N ≤ n) {σ : gb_S} {p1 : Nat} {kn : Nat} {p3 p4 : Int32} (hT : gb_TC σ) (h1 : gb_kB p1 = true) (hkn : gb_kN kn = true) : gb_tc (cs_Play_run_B_N n σ p1 kn p3 p4) (fun s _ => gb_TC s ∧ True) := by
  unfold cs_Play_run_B_N
  have i0 : gb_iv 0 24 (0 : Int32) := gb_iw (gb_ic (a := 0) (by decide)) (by decide)
  refine gc_kk h1 (gc_kk hkn (gc_cdT (ct_Play_begin_B hn hT h1) (fun s2 _ hT2 _ => ?_)))
  refine gc_cdP (ct_Lines_size_N hn hT2 hkn) (fun r _ hr => ?_)
  refine gc_lti (gb_imin (lo := -2147483648) (hi := 24) (gb_it p3) hr (by decide)) (fun x ex ix => ?_)
  exact ct_run18N hn hkn n s2 p4 x 0 hT2 ix i0 (gb_fuu hn i0 (by decide))
theorem ct_cellEC {n : Nat} {σ : gb_S} {k j : Int32} (i1 : gb_iv 0 23 k) (i2 : gb_iv 0 3 j) : gb_tc (cs_Lines_cell n σ k j) (fun s r => s = σ ∧ r = gc_cv (σ.1 105) k j) := by
  unfold cs_Lines_cell
  refine gc_ck (gb_iadd (lo := 1) (hi := 96) (gb_iadd (lo := 1) (hi := 93) (gb_ic (a := 1) (by decide)) (gb_imul (lo := 0) (hi := 92) i1 (gb_ic (x := (3 : Int32) + 1) (a := 4) (by decide)) (by decide)) (by decide)) i2 (by decide)) (by decide) ?_
  exact gc_lt (fun x e => gc_some ⟨rfl, e⟩)
theorem ct_kindEC {n : Nat} {σ : gb_S} {k : Int32} (i1 : gb_iv 0 23 k) : gb_tc (cs_Lines_kind n σ k) (fun s r => s = σ ∧ r = gc_cv (σ.1 105) k 0) := by
  unfold cs_Lines_kind
  refine gc_cdP (ct_cellEC i1 (gb_iw (gb_ic (a := 0) (by decide)) (by decide))) (fun r _ hr => gc_some ⟨rfl, hr⟩)
set_option maxHeartbeats 4000000 in
theorem ct_canBeC {n : Nat} (hn : gb_N ≤ n) {σ : gb_S} {k : Int32} (hT : gb_TC σ) (ik : gb_iv 0 23 k) : gb_tc (cs_Play_canBe_c104 n σ k) (fun s r => s = σ ∧ (¬ r = 0 → gc_Dc (σ.1 105) k)) := by
  have hq := gc_q1 hT
  have no : ∀ {P : Prop}, ¬ (0 : Int32) = 0 → P := fun h => absurd rfl h
  unfold cs_Play_canBe_c104
  refine gc_cdP (ct_cellEC ik (gb_iw (gb_ic (a := 1) (by decide)) (by decide))) (fun a _ ea => ?_)
  refine gc_cdP (ct_cellEC ik (gb_iw (gb_ic (a := 2) (by decide)) (by decide))) (fun b _ eb => ?_)
  refine gc_cdP (ct_kindEC ik) (fun d _ ed => ?_)
  refine gc_if (fun c0 => ?_) (fun c0 => ?_)
  · refine gc_cdP (ct_Play_stands hn hT) (fun r1 _ h1 => gc_if (fun _ => gc_some ⟨rfl, no⟩) (fun c1 => gc_kk hq ?_))
    refine gc_cdP (ct_Border_hasPath_B hn hT hq) (fun r2 _ h2 => gc_if (fun _ => gc_some ⟨rfl, no⟩) (fun c2 => gc_some ⟨rfl, fun _ => ?_⟩))
    exact gc_Dc0 (Or.inl (ed ▸ c0)) (ea ▸ h1.2 c1) (eb ▸ h2.2 c2)
  refine gc_if (fun c1 => ?_) (fun c1 => ?_)
  · refine gc_cdP (ct_Play_stands hn hT) (fun r1 _ h1 => gc_if (fun _ => gc_some ⟨rfl, no⟩) (fun c2 => gc_kk hq ?_))
    refine gc_cdP (ct_Border_hasPath_B hn hT hq) (fun r2 _ h2 => gc_if (fun _ => gc_some ⟨rfl, no⟩) (fun c3 => gc_some ⟨rfl, fun _ => ?_⟩))
    exact gc_Dc0 (Or.inr (Or.inl (ed ▸ c1))) (ea ▸ h1.2 c2) (eb ▸ h2.2 c3)
  refine gc_if (fun c2 => ?_) (fun c2 => ?_)
  · refine gc_cdP (ct_Play_stands hn hT) (fun r1 _ h1 => gc_if (fun _ => gc_some ⟨rfl, no⟩) (fun c3 => gc_kk hq ?_))
    refine gc_cdP (ct_Border_hasPath_B hn hT hq) (fun r2 _ h2 => gc_if (fun _ => gc_some ⟨rfl, no⟩) (fun c4 => gc_some ⟨rfl, fun _ => ?_⟩))
    exact gc_Dc0 (Or.inr (Or.inr (ed ▸ c2))) (ea ▸ h1.2 c3) (eb ▸ h2.2 c4)
  refine gc_if (fun c3 => ?_) (fun c3 => ?_)
  · refine gc_cdP (ct_Play_stands hn hT) (fun r1 _ h1 => gc_if (fun _ => gc_some ⟨rfl, no⟩) (fun c4 => ?_))
    refine gc_cdP (ct_Play_stands hn hT) (fun r2 _ h2 => gc_if (fun _ => gc_some ⟨rfl, no⟩) (fun c5 => gc_kk hq ?_))
    refine gc_cdP (ct_cellEC ik (gb_iw (gb_ic (a := 3) (by decide)) (by decide))) (fun e _ ee => ?_)
    refine gc_cdP (ct_Border_hasPath_B hn hT hq) (fun r3 _ h3 => gc_if (fun _ => gc_some ⟨rfl, no⟩) (fun c6 => gc_some ⟨rfl, fun _ => ?_⟩))
    exact gc_Dc3 (ed ▸ c3) (ea ▸ h1.2 c4) (eb ▸ h2.2 c5) (ee ▸ h3.2 c6)
  refine gc_if (fun c4 => ?_) (fun c4 => ?_)
  · refine gc_cdP (ct_Play_stands hn hT) (fun r1 _ h1 => gc_if (fun _ => ?_) (fun c5 => gc_some ⟨rfl, fun _ => gc_Dc4 (ed ▸ c4) (ea ▸ h1.2 c5)⟩))
    exact gc_cdP (ct_Play_stands hn hT) (fun r2 _ h2 => gc_if (fun _ => gc_some ⟨rfl, no⟩) (fun c5 => gc_some ⟨rfl, fun _ => gc_Dc4 (ed ▸ c4) (ea ▸ h2.2 c5)⟩))
  refine gc_if (fun c5 => gc_some ⟨rfl, fun _ => gc_Dc5 (ed ▸ c0) (ed ▸ c1) (ed ▸ c2) (ed ▸ c3) (ed ▸ c4) (by rw [← ed, c5]; decide)⟩) (fun c5 => ?_)
  refine gc_if (fun c6 => gc_some ⟨rfl, fun _ => gc_Dc5 (ed ▸ c0) (ed ▸ c1) (ed ▸ c2) (ed ▸ c3) (ed ▸ c4) (by rw [← ed, c6]; decide)⟩) (fun c6 => ?_)
  refine gc_if (fun c7 => gc_some ⟨rfl, fun _ => gc_Dc5 (ed ▸ c0) (ed ▸ c1) (ed ▸ c2) (ed ▸ c3) (ed ▸ c4) (by rw [← ed, c7]; decide)⟩) (fun c7 => ?_)
  refine gc_if (fun c8 => ?_) (fun c8 => gc_some ⟨rfl, fun _ => gc_Dc5 (ed ▸ c0) (ed ▸ c1) (ed ▸ c2) (ed ▸ c3) (ed ▸ c4) (ed ▸ c8)⟩)
  refine gc_kk hq (gc_cdP (ct_Border_hasPath_B hn hT hq) (fun r1 _ h1 => gc_if (fun _ => gc_some ⟨rfl, no⟩) (fun c9 => ?_)))
  refine gc_cdP (ct_Play_latestGoer hn hT (h1.2 c9)) (fun r2 _ h2 => gc_if (fun _ => gc_some ⟨rfl, no⟩) (fun c10 => gc_some ⟨rfl, fun _ => ?_⟩))
  exact gc_Dc8 (ed ▸ c8) (ea ▸ h1.2 c9)
set_option maxHeartbeats 4000000 in
theorem ct_doDeedC {n : Nat} (hn : gb_N ≤ n) {σ : gb_S} {k m : Int32} (hT : gb_TC σ) (ik : gb_iv 0 23 k) (hd : gc_Dc (σ.1 105) k) : gb_tc (cs_Play_doDeed_c104 n σ k m) (fun s _ => gb_TC s ∧ True) := by
  obtain ⟨d0, d3, d4, d8⟩ := hd
  unfold cs_Play_doDeed_c104
  refine gc_cdP (ct_cellEC ik (gb_iw (gb_ic (a := 1) (by decide)) (by decide))) (fun a _ ea => ?_)
  refine gc_cdP (ct_cellEC ik (gb_iw (gb_ic (a := 2) (by decide)) (by decide))) (fun b _ eb => ?_)
  refine gc_cdP (ct_kindEC ik) (fun d _ ed => ?_)
  rw [← ea, ← eb, ← ed] at d0
  rw [← ea, ← eb, ← ed] at d3
  rw [← ea, ← ed] at d4
  rw [← ea, ← ed] at d8
  have ok : ∀ {s : gb_S}, gb_TC s → gb_tc (some (s, ()) : gb_CR Unit) (fun s _ => gb_TC s ∧ True) := fun h => gc_some ⟨h, trivial⟩
  refine gc_if (fun c0 => ?_) (fun c0 => ?_)
  · have z := d0 (Or.inl c0)
    exact gc_if (fun _ => gc_cdT (ct_Play_go_n hn hT z.1 z.2) (fun s2 _ hT2 _ => ok hT2)) (fun _ => gc_cdT (ct_Play_go_c116 hn hT z.1 z.2) (fun s2 _ hT2 _ => ok hT2))
  refine gc_if (fun c1 => ?_) (fun c1 => ?_)
  · have z := d0 (Or.inr (Or.inl c1))
    exact gc_cdT (ct_Play_go_c117 hn hT z.1 z.2) (fun s2 _ hT2 _ => ok hT2)
  refine gc_if (fun c2 => ?_) (fun c2 => ?_)
  · have z := d0 (Or.inr (Or.inr c2))
    exact gc_cdT (ct_Play_go_c117 hn hT z.1 z.2) (fun s2 _ hT2 _ => ok hT2)
  refine gc_if (fun c3 => ?_) (fun c3 => ?_)
  · obtain ⟨z1, z2, z3⟩ := d3 c3
    refine gc_cdP (ct_cellEC ik (gb_iw (gb_ic (a := 3) (by decide)) (by decide))) (fun e _ ee => ?_)
    rw [← ee] at z3
    refine gc_cdT (ct_Play_go_c116 hn hT z1 z3) (fun s2 _ hT2 _ => ?_)
    refine gc_ck z2 (by decide) (gc_ltT (gc_su0 hT2 rfl) (fun s3 e3 hT3 => ?_))
    refine gc_cdP (ct_cellEC ik (gb_iw (gb_ic (a := 3) (by decide)) (by decide))) (fun e2 _ ee2 => ?_)
    exact gc_ck z2 (by decide) (gc_ltT (gc_su0 hT3 rfl) (fun s4 e4 hT4 => ok hT4))
  refine gc_if (fun c4 => ?_) (fun c4 => ?_)
  · have z := d4 c4
    exact gc_ck z (by decide) (gc_ltT (gc_su0 hT rfl) (fun s3 e3 hT3 => gc_ltT (gc_su (c := 10) (lo := -2147483648) (hi := 2147483647) hT3 rfl (gb_it _) (by decide)) (fun s4 e4 hT4 => ok hT4)))
  refine gc_if (fun c5 => gc_cdT (ct_Play_rainDown hn hT) (fun s2 _ hT2 _ => ok hT2)) (fun c5 => ?_)
  refine gc_if (fun c6 => gc_ltT (gc_su (c := 10) (lo := -2147483648) (hi := 2147483647) hT rfl (gb_it _) (by decide)) (fun s4 e4 hT4 => ok hT4)) (fun c6 => ?_)
  refine gc_if (fun c7 => gc_ltT (gc_su (c := 10) (lo := -2147483648) (hi := 2147483647) hT rfl (gb_it _) (by decide)) (fun s4 e4 hT4 => ok hT4)) (fun c7 => ?_)
  refine gc_if (fun c8 => ?_) (fun _ => ok hT)
  refine gc_cdP (ct_Play_latestGoer hn hT (d8 c8)) (fun r _ hr => ?_)
  exact gc_cdT (ct_Play_eat hn hT) (fun s2 _ hT2 _ => ok hT2)
set_option maxHeartbeats 4000000 in
theorem ct_run18C {n : Nat} (hn : gb_N ≤ n) : ∀ (mm : Nat) (σ : gb_S) (v4 v5 v6 : Int32), gb_TC σ → gb_iv (-2147483648) 24 v5 → gb_iv 0 24 v6 → (24 - v6.toInt).toNat < mm → gb_tc (cs_Play_run_B_c104_18 n mm σ v4 v5 v6) (fun s _ => gb_TC s ∧ True) := by
  intro mm
  induction mm with
  | zero =>
    intro σ v4 v5 v6 hT i5 i6 hm
    exact absurd hm (Nat.not_lt_zero _)
  | succ mm ih =>
    intro σ v4 v5 v6 hT i5 i6 hm
    rw [cs_Play_run_B_c104_18]
    refine gc_if (fun _ => gc_some ⟨hT, trivial⟩) (fun c => ?_)
    have i6' : gb_iv 0 23 v6 := gb_rU (s := 1) (gb_dnle c) i6 i5 (by decide)
    have inc := gb_iadd (lo := 1) (hi := 24) i6' (gb_ic (x := 1) (a := 1) (by decide)) (by decide)
    refine gc_cdP (ct_canBeC hn hT i6') (fun r _ hr => gc_if (fun _ => gc_some ⟨hT, trivial⟩) (fun c2 => ?_))
    have go : ∀ (s2 : gb_S), gb_TC s2 → gb_tc (gb_lt (gb_su s2 109 (upd (s2.1 109) 11 (v6 + 1))) (fun s_24 => gb_lt (v6 + 1) (fun x_25 => cs_Play_run_B_c104_18 n mm s_24 v4 v5 x_25))) (fun s _ => gb_TC s ∧ True) := fun s2 hT2 => by
      refine gc_ltT (gc_su (c := 10) (lo := 1) (hi := 24) hT2 rfl inc (by decide)) (fun s3 e3 hT3 => gc_lt (fun x ex => ?_))
      exact ih s3 v4 v5 x hT3 i5 (by rw [ex]; exact gb_iw inc (by decide)) (gb_mup ex i6' (by decide) hm)
    exact gc_if (fun _ => gc_cdT (ct_doDeedC hn hT i6' (hr c2)) (fun s2 _ hT2 _ => go s2 hT2)) (fun _ => gc_cdT (ct_doDeedC hn hT i6' (hr c2)) (fun s2 _ hT2 _ => go s2 hT2))
theorem ct_Play_run_B_c104 {n : Nat} (hn : gb_N ≤ n) {σ : gb_S} {p1 : Nat} {p3 p4 : Int32} (hT : gb_TC σ) (h1 : gb_kB p1 = true) : gb_tc (cs_Play_run_B_c104 n σ p1 p3 p4) (fun s _ => gb_TC s ∧ True) := by
  unfold cs_Play_run_B_c104
  have i0 : gb_iv 0 24 (0 : Int32) := gb_iw (gb_ic (a := 0) (by decide)) (by decide)
  refine gc_kk h1 (gc_cdT (ct_Play_begin_B hn hT h1) (fun s2 _ hT2 _ => ?_))
  refine gc_cdP (ct_Lines_size hn hT2) (fun r _ hr => ?_)
  refine gc_lti (gb_imin (lo := -2147483648) (hi := 24) (gb_it p3) hr (by decide)) (fun x ex ix => ?_)
  exact ct_run18C hn n s2 p4 x 0 hT2 ix i0 (gb_fuu hn i0 (by decide))
