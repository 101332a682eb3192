/-! THE CLASS: read, text -/
theorem gb_kS_B {k : Nat} (h : gb_kB k = true) : gb_kS k = true := by unfold gb_kS; rw [h]; rfl
theorem gb_kS_N {k : Nat} (h : gb_kN k = true) : gb_kS k = true := by unfold gb_kS; rw [h]; cases gb_kB k <;> rfl
theorem gb_kS_L {k : Nat} (h : gb_kL k = true) : gb_kS k = true := by unfold gb_kS; rw [h]; cases gb_kB k <;> cases gb_kN k <;> rfl
theorem gb_kS_D {k : Nat} (h : gb_kD k = true) : gb_kS k = true := by unfold gb_kS; rw [h]; cases gb_kB k <;> cases gb_kN k <;> cases gb_kL k <;> rfl
set_option maxHeartbeats 4000000 in
theorem cr_read {n : Nat} (hn : gb_N ≤ n) {σ : gb_S} {p2 p3 : Int32} {p4 : Nat} (hT : gb_TC σ) (hk : gb_kS p4 = true) (i2 : gb_iv 0 600 p2) (i3 : gb_iv 0 3 p3) : gb_tc (cs_Reader_read_c23_S n σ p2 p3 p4) (fun s _ => gb_TC s) := by
  unfold cs_Reader_read_c23_S
  refine gc_lt (fun s1 e1 => ?_)
  have hT1 : gb_TR s1 := by
    rw [e1]
    exact ⟨⟨hT.1, hT.2⟩, rfl⟩
  refine gc_lti (gb_imin (lo := 0) (hi := 600) i2 (gb_ic (x := 600) (a := 600) (by decide)) (by decide)) (fun x ex ix => ?_)
  refine gr_ltT (gr_su (c := 12) (lo := 0) (hi := 600) hT1 rfl ix (by decide)) (fun s2 e2 hT2 => ?_)
  refine gr_ltT (gr_su (c := 12) (lo := 0) (hi := 0) hT2 rfl (gb_ic (a := 0) (by decide)) (by decide)) (fun s3 e3 hT3 => ?_)
  refine gr_ltT (gr_su (c := 12) (lo := -2147483648) (hi := 2147483647) hT3 rfl (gb_it _) (by decide)) (fun s4 e4 hT4 => ?_)
  refine gr_ltT (gr_su (c := 12) (lo := -2147483648) (hi := 2147483647) hT4 rfl (gb_it _) (by decide)) (fun s5 e5 hT5 => ?_)
  have rest : ∀ s : gb_S, gb_TR s → gb_tc (gb_cd (cs_Reader_skipBlanks n s) (fun s_12 _ => cs_Reader_read_c23_S_42 n n s_12 p3 p4 0)) (fun s _ => gb_TC s) := fun s hs => by
    refine gr_cdT (cr_Reader_skipBlanks hn hs) (fun s6 _ hT6 _ => ?_)
    exact gc_mono (cr_readAll hn hT6 hk i3) (fun _ _ h => h.1.1)
  refine gc_if (fun h => gr_cdT (cr_Border_clear_B hn hT5 h) (fun s _ hs _ => rest s hs)) (fun h1 => ?_)
  refine gc_if (fun h => gr_cdT (cr_Lines_clear_N hn hT5 h) (fun s _ hs _ => rest s hs)) (fun h2 => ?_)
  refine gc_if (fun h => gr_cdT (cr_Lines_clear_L hn hT5 h) (fun s _ hs _ => rest s hs)) (fun h3 => ?_)
  refine gc_if (fun h => gr_cdT (cr_Lines_clear_D hn hT5 h) (fun s _ hs _ => rest s hs)) (fun h4 => ?_)
  exact (gb_kS_no hk h1 h2 h3 h4).elim
set_option maxHeartbeats 4000000 in
theorem ct_text_171 {n : Nat} {σ : gb_S} {v1 v4 v5 t0 : Int32} {v6 : Nat} (hT : gb_TC σ) (i1 : gb_iv 0 3 v1) (i4 : gb_iv 0 1 v4) (it : gb_iv 0 1 t0) (h6 : gc_ks v1 v6) : gb_tc (cs_Face_text_171 n σ v1 v4 v5 v6 t0) (fun s _ => gb_TC s) := by
  unfold cs_Face_text_171
  refine gc_cdP (ct_sheetOf (k0 := 1) rfl i1 it) (fun r _ hr => ?_)
  have hr0 : ¬ r = 0 := by
    rcases gc_4 i1 with e | e | e | e
    · exact gb_nzB (hr.1 e)
    · exact gb_nzN (hr.2.1 e)
    · exact gb_nzL (hr.2.2.1 e)
    · exact gb_nzD (hr.2.2.2 e)
  rw [if_neg hr0]
  have fin : ∀ s : gb_S, gb_TC s → gb_tc (if v5 = 0 then (some (s, t0) : gb_CR Int32) else gb_ck v1 4 (gb_lt (gb_su s 22 (upd (s.1 22) (Int32.toNatClampNeg v1) (v4 + 1))) (fun s_36 => some (s_36, t0)))) (fun s _ => gb_TC s) := fun s hs => by
    refine gc_if (fun _ => gc_some hs) (fun _ => gc_ck i1 (by decide) (gc_ltT (gc_su (c := 5) (lo := 0) (hi := 2) hs rfl (gb_iw (gb_iadd (lo := 1) (hi := 2) i4 (gb_ic (a := 1) (by decide)) (by decide)) (by decide)) ⟨Int.le_refl _, Int.le_refl _⟩) (fun s2 e2 hs2 => gc_some hs2)))
  rcases gc_4 i1 with e | e | e | e
  · have a := hr.1 e
    rw [if_pos a]
    exact gc_kk (h6.1 e) (gc_cdT (ct_Sheet_copyFrom_B_B hT a (h6.1 e)) (fun s _ hs _ => fin s hs))
  · have a := hr.2.1 e
    rw [if_neg (gc_BN a), if_pos a]
    exact gc_kk (h6.2.1 e) (gc_cdT (ct_Sheet_copyFrom_NN hT a (h6.2.1 e)) (fun s _ hs _ => fin s hs))
  · have a := hr.2.2.1 e
    rw [if_neg (gc_BL a).1, if_neg (gc_BL a).2, if_pos a]
    exact gc_kk (h6.2.2.1 e) (gc_cdT (ct_Sheet_copyFrom_L_L hT a (h6.2.2.1 e)) (fun s _ hs _ => fin s hs))
  · have a := hr.2.2.2 e
    rw [if_neg (gc_BD a).1, if_neg (gc_BD a).2.1, if_neg (gc_BD a).2.2, if_pos a]
    exact gc_kk (h6.2.2.2 e) (gc_cdT (ct_Sheet_copyFrom_D_D hT a (h6.2.2.2 e)) (fun s _ hs _ => fin s hs))
set_option maxHeartbeats 4000000 in
theorem ct_text_94 {n : Nat} (hn : gb_N ≤ n) {σ : gb_S} {v1 v2 v3 v4 v5 : Int32} (hT : gb_TC σ) (i1 : gb_iv 0 3 v1) (i3 : gb_iv 0 600 v3) (i4 : gb_iv 0 2 v4) (h5 : v5 = 0 → gb_iv 0 1 v2) (h5' : ¬ v5 = 0 → gb_iv 0 1 v4) : gb_tc (cs_Face_text_94 n σ v1 v2 v3 v4 v5) (fun s _ => gb_TC s) := by
  unfold cs_Face_text_94
  refine gc_ck i1 (by decide) (gc_lt (fun a ea => ?_))
  have ha : gc_ks v1 a := by
    rcases gc_4 i1 with e | e | e | e
    · rw [e] at ea ⊢
      rw [ea]
      exact ⟨fun _ => rfl, fun q => absurd q (by decide), fun q => absurd q (by decide), fun q => absurd q (by decide)⟩
    · rw [e] at ea ⊢
      rw [ea]
      exact ⟨fun q => absurd q (by decide), fun _ => rfl, fun q => absurd q (by decide), fun q => absurd q (by decide)⟩
    · rw [e] at ea ⊢
      rw [ea]
      exact ⟨fun q => absurd q (by decide), fun q => absurd q (by decide), fun _ => rfl, fun q => absurd q (by decide)⟩
    · rw [e] at ea ⊢
      rw [ea]
      exact ⟨fun q => absurd q (by decide), fun q => absurd q (by decide), fun q => absurd q (by decide), fun _ => rfl⟩
  have hs : gb_kS a = true := by
    rcases gc_4 i1 with e | e | e | e
    · exact gb_kS_B (ha.1 e)
    · exact gb_kS_N (ha.2.1 e)
    · exact gb_kS_L (ha.2.2.1 e)
    · exact gb_kS_D (ha.2.2.2 e)
  refine gc_cd (cr_read hn hT hs i3 i1) (fun s2 _ hT2 => ?_)
  refine gc_ltT (gc_su (c := 7) (lo := -2147483648) (hi := 2147483647) hT2 rfl (gb_it _) (by decide)) (fun s3 e3 hT3 => ?_)
  refine gc_ltT (gc_su (c := 7) (lo := -2147483648) (hi := 2147483647) hT3 rfl (gb_it _) (by decide)) (fun s4 e4 hT4 => ?_)
  refine gc_if (fun _ => gc_if (fun c => ?_) (fun c => ?_)) (fun _ => gc_some hT4)
  · subst c
    unfold cs_Face_text_171
    refine gc_cdP (ct_sheetOf (k0 := 1) rfl i1 (h5 rfl)) (fun r _ hr => ?_)
    have hr0 : ¬ r = 0 := by
      rcases gc_4 i1 with e | e | e | e
      · exact gb_nzB (hr.1 e)
      · exact gb_nzN (hr.2.1 e)
      · exact gb_nzL (hr.2.2.1 e)
      · exact gb_nzD (hr.2.2.2 e)
    rw [if_neg hr0]
    rcases gc_4 i1 with e | e | e | e
    · have q := hr.1 e
      rw [if_pos q]
      refine gc_kk (ha.1 e) (gc_cdT (ct_Sheet_copyFrom_B_B hT4 q (ha.1 e)) (fun s _ hs _ => ?_))
      rw [if_pos rfl]
      exact gc_some hs
    · have q := hr.2.1 e
      rw [if_neg (gc_BN q), if_pos q]
      refine gc_kk (ha.2.1 e) (gc_cdT (ct_Sheet_copyFrom_NN hT4 q (ha.2.1 e)) (fun s _ hs _ => ?_))
      rw [if_pos rfl]
      exact gc_some hs
    · have q := hr.2.2.1 e
      rw [if_neg (gc_BL q).1, if_neg (gc_BL q).2, if_pos q]
      refine gc_kk (ha.2.2.1 e) (gc_cdT (ct_Sheet_copyFrom_L_L hT4 q (ha.2.2.1 e)) (fun s _ hs _ => ?_))
      rw [if_pos rfl]
      exact gc_some hs
    · have q := hr.2.2.2 e
      rw [if_neg (gc_BD q).1, if_neg (gc_BD q).2.1, if_neg (gc_BD q).2.2, if_pos q]
      refine gc_kk (ha.2.2.2 e) (gc_cdT (ct_Sheet_copyFrom_D_D hT4 q (ha.2.2.2 e)) (fun s _ hs _ => ?_))
      rw [if_pos rfl]
      exact gc_some hs
  · exact ct_text_171 hT4 i1 (h5' c) (h5' c) ha
theorem ct_text_65 {n : Nat} (hn : gb_N ≤ n) {σ : gb_S} {v1 v2 v3 v4 t0 : Int32} (hT : gb_TC σ) (i1 : gb_iv 0 3 v1) (i3 : gb_iv 0 600 v3) (i4 : gb_iv 0 2 v4) : gb_tc (cs_Face_text_65 n σ v1 v2 v3 v4 t0) (fun s _ => gb_TC s) := by
  have z0 : (0 : Int32).toInt = 0 := by decide
  have z2 : (2 : Int32).toInt = 2 := by decide
  unfold cs_Face_text_65
  refine gc_if (fun c => gc_if (fun _ => gc_some hT) (fun c2 => gc_if (fun c3 => ?_) (fun _ => gc_some hT))) (fun c => gc_if (fun c2 => ?_) (fun _ => gc_some hT))
  · refine ct_text_94 hn hT i1 i3 i4 (fun _ => ?_) (fun q => absurd c q)
    have h1 := gb_dnlt c2
    have h2 := gb_dlt c3
    have h3 := i4.2
    exact ⟨by omega, by omega⟩
  · refine ct_text_94 hn hT i1 i3 i4 (fun q => absurd q c) (fun _ => ?_)
    have h1 := gb_dlt c2
    exact ⟨i4.1, by omega⟩
theorem ct_Face_text {n : Nat} (hn : gb_N ≤ n) {σ : gb_S} {p1 p2 : Int32} (hT : gb_TC σ) : gb_tc (cs_Face_text n σ p1 p2) (fun s _ => gb_TC s) := by
  have z0 : (0 : Int32).toInt = 0 := by decide
  have z4 : (4 : Int32).toInt = 4 := by decide
  unfold cs_Face_text
  refine gc_lti (gc_rd (c := 7) (lo := 0) (hi := 600) hT rfl (by decide)) (fun x ex ix => ?_)
  refine gc_ltT (gc_su (c := 7) (lo := 0) (hi := 0) hT rfl (gb_ic (a := 0) (by decide)) (by decide)) (fun s2 e2 hT2 => ?_)
  refine gc_ltT (gc_su (c := 7) (lo := -2147483648) (hi := 2147483647) hT2 rfl (gb_it _) (by decide)) (fun s3 e3 hT3 => ?_)
  refine gc_ltT (gc_su (c := 7) (lo := -2147483648) (hi := 2147483647) hT3 rfl (gb_it _) (by decide)) (fun s4 e4 hT4 => ?_)
  refine gc_if (fun _ => gc_some hT4) (fun c => gc_if (fun c2 => ?_) (fun _ => gc_some hT4))
  have i1 : gb_iv 0 3 p1 := by
    have h1 := gb_dnlt c
    have h2 := gb_dlt c2
    exact ⟨by omega, by omega⟩
  refine gc_ck i1 (by decide) (gc_lti (gc_rd (c := 5) (lo := 0) (hi := 2) hT4 rfl ⟨Int.le_refl _, Int.le_refl _⟩) (fun y ey iy => ?_))
  exact gc_if (fun _ => ct_text_65 hn hT4 i1 ix iy) (fun _ => ct_text_65 hn hT4 i1 ix iy)
