/-! THE CLASS: more methods (written by wip/tot) -/
set_option maxHeartbeats 4000000 in
theorem ct_Sharing_begin_B_n_177 {n : Nat} (hn : gb_N ≤ n) {Q : gb_S → Unit → Prop} (hret : ∀ (σ : gb_S) (r : Unit), gb_TC σ → True → Q σ r) : ∀ (mm : Nat) (σ : gb_S) (v4 : Int32), gb_TC σ → gb_iv 0 5 v4 → (5 - v4.toInt).toNat < mm → gb_tc (cs_Sharing_begin_B_n_177 n mm σ v4) Q := by
  intro mm
  induction mm with
  | zero =>
    intro σ v4 hT iv4 hm
    exact absurd hm (Nat.not_lt_zero _)
  | succ mm ih =>
    intro σ v4 hT iv4 hm
    rw [cs_Sharing_begin_B_n_177]
    refine gc_if (fun c_30308 => ?_) (fun c_30308 => ?_)
    · exact gc_some (hret _ _ hT trivial)
    · have j_30309 : gb_iv 0 4 v4 := (gb_rU (lo := 0) (hi := 4) (gb_dnle c_30308) iv4 (gc_rd (c := 8) (lo := 0) (hi := 5) hT (rfl : gc_cat 120 = 8) (by decide)) (by decide))
      have j_30310 : gb_iv 1 5 (σ.1 120 4) := (gb_rL (lo := 1) (hi := 5) (gb_dnle c_30308) (gc_rd (c := 8) (lo := 0) (hi := 5) hT (rfl : gc_cat 120 = 8) (by decide)) j_30309 (by decide))
      refine gc_ck j_30309 (by decide) ?_
      refine gc_lti (lo := 0) (hi := 4) (gc_rd (c := 9) (lo := 0) (hi := 4) hT (rfl : gc_cat 124 = 9) ⟨Int.le_refl _, Int.le_refl _⟩) (fun x_19 ex_19 ix_19 => ?_)
      refine gc_cdT (ct_Sharing_payAnew hn hT ix_19) (fun s_20 u_30311 hTs_20 _ => ?_)
      refine gc_lti (lo := 1) (hi := 5) (gb_iadd (lo := 1) (hi := 5) j_30309 (gb_ic (a := 1) (by decide)) (by decide)) (fun x_24 ex_24 ix_24 => ?_)
      exact ih _ _ hTs_20 (gb_iw (lo := 0) (hi := 5) ix_24 (by decide)) (gb_mup ex_24 j_30309 (by decide) hm)
set_option maxHeartbeats 4000000 in
theorem ct_Sharing_begin_B_n_97 {n : Nat} (hn : gb_N ≤ n) {Q : gb_S → Unit → Prop} {k74 : gb_S → Int32 → gb_CR Unit} {M74 : Nat} (hk74 : ∀ (σ : gb_S) (v4 : Int32), gb_TC σ → gb_iv 0 8 v4 → (8 - v4.toInt).toNat < M74 → gb_tc (k74 σ v4) Q) (hret : ∀ (σ : gb_S) (r : Unit), gb_TC σ → True → Q σ r) : ∀ (mm : Nat) (σ : gb_S) (v4 : Int32) (v5 : Int32), gb_TC σ → gb_iv 0 7 v4 → gb_iv 0 5 v5 → (8 - v4.toInt).toNat < M74 + 1 → (5 - v5.toInt).toNat < mm → gb_tc (cs_Sharing_begin_B_n_97 n k74 mm σ v4 v5) Q := by
  intro mm
  induction mm with
  | zero =>
    intro σ v4 v5 hT iv4 iv5 hm74 hm
    exact absurd hm (Nat.not_lt_zero _)
  | succ mm ih =>
    intro σ v4 v5 hT iv4 iv5 hm74 hm
    rw [cs_Sharing_begin_B_n_97]
    refine gc_kk (gc_q2 hT) ?_
    refine gc_cdP (ct_Border_paths_B hn hT (gc_q2 hT)) (fun r_29 qr_29 h_30379 => ?_)
    refine gc_if (fun c_30380 => ?_) (fun c_30380 => ?_)
    · refine gc_lti (lo := 0) (hi := 4) (gc_rd (c := 9) (lo := 0) (hi := 4) hT (rfl : gc_cat 124 = 9) (by decide)) (fun x_33 ex_33 ix_33 => ?_)
      refine gc_ck ix_33 (by decide) ?_
      refine gc_lti (lo := (-2147483648)) (hi := 2147483647) (gb_it _) (fun x_35 ex_35 ix_35 => ?_)
      refine gc_lti (lo := 0) (hi := 4) (gc_rd (c := 9) (lo := 0) (hi := 4) hT (rfl : gc_cat 124 = 9) (by decide)) (fun x_36 ex_36 ix_36 => ?_)
      refine gc_ck (gb_iadd (lo := 0) (hi := 39) (gb_imul (lo := 0) (hi := 35) iv4 (gb_ic (a := 5) (by decide)) (by decide)) ix_36 (by decide)) (by decide) ?_
      refine gc_lti (lo := (-2147483648)) (hi := 2147483647) (gb_it _) (fun x_38 ex_38 ix_38 => ?_)
      refine gc_ck ix_33 (by decide) ?_
      refine gc_ltT (gc_su0 hT (rfl : gc_cat 126 = 0)) (fun s_40 es_40 hTs_40 => ?_)
      refine gc_lti (lo := 1) (hi := 8) (gb_iadd (lo := 1) (hi := 8) iv4 (gb_ic (a := 1) (by decide)) (by decide)) (fun x_41 ex_41 ix_41 => ?_)
      exact hk74 _ _ hTs_40 (gb_iw (lo := 0) (hi := 8) ix_41 (by decide)) (gb_mup ex_41 iv4 (by decide) hm74)
    · have j_30381 : gb_iv 0 4 v5 := (gb_rU (lo := 0) (hi := 4) (gb_dnle c_30380) iv5 h_30379 (by decide))
      have j_30382 : gb_iv 1 5 r_29 := (gb_rL (lo := 1) (hi := 5) (gb_dnle c_30380) h_30379 j_30381 (by decide))
      refine gc_kk (gc_q2 hT) ?_
      refine gc_cdP (ct_Border_marksFirst_B hn hT (gc_q2 hT) iv4 j_30381) (fun r_44 qr_44 h_30383 => ?_)
      refine gc_ck (gb_iadd (lo := 0) (hi := 39) (gb_imul (lo := 0) (hi := 35) iv4 (gb_ic (a := 5) (by decide)) (by decide)) j_30381 (by decide)) (by decide) ?_
      refine gc_ltT (gc_su0 hT (rfl : gc_cat 123 = 0)) (fun s_48 es_48 hTs_48 => ?_)
      refine gc_lti (lo := 1) (hi := 5) (gb_iadd (lo := 1) (hi := 5) j_30381 (gb_ic (a := 1) (by decide)) (by decide)) (fun x_49 ex_49 ix_49 => ?_)
      exact ih _ _ _ hTs_48 iv4 (gb_iw (lo := 0) (hi := 5) ix_49 (by decide)) hm74 (gb_mup ex_49 j_30381 (by decide) hm)
set_option maxHeartbeats 4000000 in
theorem ct_Sharing_begin_B_n_74 {n : Nat} (hn : gb_N ≤ n) {Q : gb_S → Unit → Prop} (hret : ∀ (σ : gb_S) (r : Unit), gb_TC σ → True → Q σ r) : ∀ (mm : Nat) (σ : gb_S) (v4 : Int32), gb_TC σ → gb_iv 0 8 v4 → (8 - v4.toInt).toNat < mm → gb_tc (cs_Sharing_begin_B_n_74 n mm σ v4) Q := by
  intro mm
  induction mm with
  | zero =>
    intro σ v4 hT iv4 hm
    exact absurd hm (Nat.not_lt_zero _)
  | succ mm ih =>
    intro σ v4 hT iv4 hm
    rw [cs_Sharing_begin_B_n_74]
    refine gc_kk (gc_q2 hT) ?_
    refine gc_cdP (ct_Border_geese_B hn hT (gc_q2 hT)) (fun r_13 qr_13 h_30254 => ?_)
    refine gc_if (fun c_30255 => ?_) (fun c_30255 => ?_)
    · exact ct_Sharing_begin_B_n_177 hn hret n _ _ hT (gb_iw (lo := 0) (hi := 5) (gb_ic (a := 0) (by decide)) (by decide)) (gb_fuu hn (gb_iw (lo := 0) (hi := 5) (gb_ic (a := 0) (by decide)) (by decide)) (by decide))
    · have j_30312 : gb_iv 0 7 v4 := (gb_rU (lo := 0) (hi := 7) (gb_dnle c_30255) iv4 h_30254 (by decide))
      have j_30313 : gb_iv 1 8 r_13 := (gb_rL (lo := 1) (hi := 8) (gb_dnle c_30255) h_30254 j_30312 (by decide))
      refine gc_ck j_30312 (by decide) ?_
      refine gc_ltT (gc_su (c := 9) (lo := 0) (hi := 4) hT (rfl : gc_cat 125 = 9) (gb_iw (lo := 0) (hi := 4) (gb_ic (a := 0) (by decide)) (by decide)) ⟨Int.le_refl _, Int.le_refl _⟩) (fun s_26 es_26 hTs_26 => ?_)
      exact ct_Sharing_begin_B_n_97 hn ih hret n _ _ _ hTs_26 j_30312 (gb_iw (lo := 0) (hi := 5) (gb_ic (a := 0) (by decide)) (by decide)) hm (gb_fuu hn (gb_iw (lo := 0) (hi := 5) (gb_ic (a := 0) (by decide)) (by decide)) (by decide))
set_option maxHeartbeats 4000000 in
theorem ct_shrest_n {n : Nat} (hn : gb_N ≤ n) {σ : gb_S} (hT : gb_TC σ) : gb_tc (cs_Sharing_begin_B_n_74 n n σ 0) (fun s _ => gb_TC s ∧ True) := by
  exact ct_Sharing_begin_B_n_74 hn (fun _ _ hT h => ⟨hT, h⟩) n _ _ hT (gb_iw (lo := 0) (hi := 8) (gb_ic (a := 0) (by decide)) (by decide)) (gb_fuu hn (gb_iw (lo := 0) (hi := 8) (gb_ic (a := 0) (by decide)) (by decide)) (by decide))
set_option maxHeartbeats 4000000 in
theorem ct_Sharing_begin_B_L_177 {n : Nat} (hn : gb_N ≤ n) {Q : gb_S → Unit → Prop} (hret : ∀ (σ : gb_S) (r : Unit), gb_TC σ → True → Q σ r) : ∀ (mm : Nat) (σ : gb_S) (v4 : Int32), gb_TC σ → gb_iv 0 5 v4 → (5 - v4.toInt).toNat < mm → gb_tc (cs_Sharing_begin_B_L_177 n mm σ v4) Q := by
  intro mm
  induction mm with
  | zero =>
    intro σ v4 hT iv4 hm
    exact absurd hm (Nat.not_lt_zero _)
  | succ mm ih =>
    intro σ v4 hT iv4 hm
    rw [cs_Sharing_begin_B_L_177]
    refine gc_if (fun c_32253 => ?_) (fun c_32253 => ?_)
    · exact gc_some (hret _ _ hT trivial)
    · have j_32254 : gb_iv 0 4 v4 := (gb_rU (lo := 0) (hi := 4) (gb_dnle c_32253) iv4 (gc_rd (c := 8) (lo := 0) (hi := 5) hT (rfl : gc_cat 120 = 8) (by decide)) (by decide))
      have j_32255 : gb_iv 1 5 (σ.1 120 4) := (gb_rL (lo := 1) (hi := 5) (gb_dnle c_32253) (gc_rd (c := 8) (lo := 0) (hi := 5) hT (rfl : gc_cat 120 = 8) (by decide)) j_32254 (by decide))
      refine gc_ck j_32254 (by decide) ?_
      refine gc_lti (lo := 0) (hi := 4) (gc_rd (c := 9) (lo := 0) (hi := 4) hT (rfl : gc_cat 124 = 9) ⟨Int.le_refl _, Int.le_refl _⟩) (fun x_20 ex_20 ix_20 => ?_)
      refine gc_cdT (ct_Sharing_payAnew hn hT ix_20) (fun s_21 u_32256 hTs_21 _ => ?_)
      refine gc_lti (lo := 1) (hi := 5) (gb_iadd (lo := 1) (hi := 5) j_32254 (gb_ic (a := 1) (by decide)) (by decide)) (fun x_25 ex_25 ix_25 => ?_)
      exact ih _ _ hTs_21 (gb_iw (lo := 0) (hi := 5) ix_25 (by decide)) (gb_mup ex_25 j_32254 (by decide) hm)
set_option maxHeartbeats 4000000 in
theorem ct_Sharing_begin_B_L_97 {n : Nat} (hn : gb_N ≤ n) {Q : gb_S → Unit → Prop} {k74 : gb_S → Int32 → gb_CR Unit} {M74 : Nat} (hk74 : ∀ (σ : gb_S) (v4 : Int32), gb_TC σ → gb_iv 0 8 v4 → (8 - v4.toInt).toNat < M74 → gb_tc (k74 σ v4) Q) (hret : ∀ (σ : gb_S) (r : Unit), gb_TC σ → True → Q σ r) : ∀ (mm : Nat) (σ : gb_S) (v4 : Int32) (v5 : Int32), gb_TC σ → gb_iv 0 7 v4 → gb_iv 0 5 v5 → (8 - v4.toInt).toNat < M74 + 1 → (5 - v5.toInt).toNat < mm → gb_tc (cs_Sharing_begin_B_L_97 n k74 mm σ v4 v5) Q := by
  intro mm
  induction mm with
  | zero =>
    intro σ v4 v5 hT iv4 iv5 hm74 hm
    exact absurd hm (Nat.not_lt_zero _)
  | succ mm ih =>
    intro σ v4 v5 hT iv4 iv5 hm74 hm
    rw [cs_Sharing_begin_B_L_97]
    refine gc_kk (gc_q2 hT) ?_
    refine gc_cdP (ct_Border_paths_B hn hT (gc_q2 hT)) (fun r_30 qr_30 h_32324 => ?_)
    refine gc_if (fun c_32325 => ?_) (fun c_32325 => ?_)
    · refine gc_lti (lo := 0) (hi := 4) (gc_rd (c := 9) (lo := 0) (hi := 4) hT (rfl : gc_cat 124 = 9) (by decide)) (fun x_34 ex_34 ix_34 => ?_)
      refine gc_ck ix_34 (by decide) ?_
      refine gc_lti (lo := (-2147483648)) (hi := 2147483647) (gb_it _) (fun x_36 ex_36 ix_36 => ?_)
      refine gc_lti (lo := 0) (hi := 4) (gc_rd (c := 9) (lo := 0) (hi := 4) hT (rfl : gc_cat 124 = 9) (by decide)) (fun x_37 ex_37 ix_37 => ?_)
      refine gc_ck (gb_iadd (lo := 0) (hi := 39) (gb_imul (lo := 0) (hi := 35) iv4 (gb_ic (a := 5) (by decide)) (by decide)) ix_37 (by decide)) (by decide) ?_
      refine gc_lti (lo := (-2147483648)) (hi := 2147483647) (gb_it _) (fun x_39 ex_39 ix_39 => ?_)
      refine gc_ck ix_34 (by decide) ?_
      refine gc_ltT (gc_su0 hT (rfl : gc_cat 126 = 0)) (fun s_41 es_41 hTs_41 => ?_)
      refine gc_lti (lo := 1) (hi := 8) (gb_iadd (lo := 1) (hi := 8) iv4 (gb_ic (a := 1) (by decide)) (by decide)) (fun x_42 ex_42 ix_42 => ?_)
      exact hk74 _ _ hTs_41 (gb_iw (lo := 0) (hi := 8) ix_42 (by decide)) (gb_mup ex_42 iv4 (by decide) hm74)
    · have j_32326 : gb_iv 0 4 v5 := (gb_rU (lo := 0) (hi := 4) (gb_dnle c_32325) iv5 h_32324 (by decide))
      have j_32327 : gb_iv 1 5 r_30 := (gb_rL (lo := 1) (hi := 5) (gb_dnle c_32325) h_32324 j_32326 (by decide))
      refine gc_kk (gc_q2 hT) ?_
      refine gc_cdP (ct_Border_marksFirst_B hn hT (gc_q2 hT) iv4 j_32326) (fun r_45 qr_45 h_32328 => ?_)
      refine gc_ck (gb_iadd (lo := 0) (hi := 39) (gb_imul (lo := 0) (hi := 35) iv4 (gb_ic (a := 5) (by decide)) (by decide)) j_32326 (by decide)) (by decide) ?_
      refine gc_ltT (gc_su0 hT (rfl : gc_cat 123 = 0)) (fun s_49 es_49 hTs_49 => ?_)
      refine gc_lti (lo := 1) (hi := 5) (gb_iadd (lo := 1) (hi := 5) j_32326 (gb_ic (a := 1) (by decide)) (by decide)) (fun x_50 ex_50 ix_50 => ?_)
      exact ih _ _ _ hTs_49 iv4 (gb_iw (lo := 0) (hi := 5) ix_50 (by decide)) hm74 (gb_mup ex_50 j_32326 (by decide) hm)
set_option maxHeartbeats 4000000 in
theorem ct_Sharing_begin_B_L_74 {n : Nat} (hn : gb_N ≤ n) {Q : gb_S → Unit → Prop} (hret : ∀ (σ : gb_S) (r : Unit), gb_TC σ → True → Q σ r) : ∀ (mm : Nat) (σ : gb_S) (v4 : Int32), gb_TC σ → gb_iv 0 8 v4 → (8 - v4.toInt).toNat < mm → gb_tc (cs_Sharing_begin_B_L_74 n mm σ v4) Q := by
  intro mm
  induction mm with
  | zero =>
    intro σ v4 hT iv4 hm
    exact absurd hm (Nat.not_lt_zero _)
  | succ mm ih =>
    intro σ v4 hT iv4 hm
    rw [cs_Sharing_begin_B_L_74]
    refine gc_kk (gc_q2 hT) ?_
    refine gc_cdP (ct_Border_geese_B hn hT (gc_q2 hT)) (fun r_14 qr_14 h_32199 => ?_)
    refine gc_if (fun c_32200 => ?_) (fun c_32200 => ?_)
    · exact ct_Sharing_begin_B_L_177 hn hret n _ _ hT (gb_iw (lo := 0) (hi := 5) (gb_ic (a := 0) (by decide)) (by decide)) (gb_fuu hn (gb_iw (lo := 0) (hi := 5) (gb_ic (a := 0) (by decide)) (by decide)) (by decide))
    · have j_32257 : gb_iv 0 7 v4 := (gb_rU (lo := 0) (hi := 7) (gb_dnle c_32200) iv4 h_32199 (by decide))
      have j_32258 : gb_iv 1 8 r_14 := (gb_rL (lo := 1) (hi := 8) (gb_dnle c_32200) h_32199 j_32257 (by decide))
      refine gc_ck j_32257 (by decide) ?_
      refine gc_ltT (gc_su (c := 9) (lo := 0) (hi := 4) hT (rfl : gc_cat 125 = 9) (gb_iw (lo := 0) (hi := 4) (gb_ic (a := 0) (by decide)) (by decide)) ⟨Int.le_refl _, Int.le_refl _⟩) (fun s_27 es_27 hTs_27 => ?_)
      exact ct_Sharing_begin_B_L_97 hn ih hret n _ _ _ hTs_27 j_32257 (gb_iw (lo := 0) (hi := 5) (gb_ic (a := 0) (by decide)) (by decide)) hm (gb_fuu hn (gb_iw (lo := 0) (hi := 5) (gb_ic (a := 0) (by decide)) (by decide)) (by decide))
set_option maxHeartbeats 4000000 in
theorem ct_shrest_L {n : Nat} (hn : gb_N ≤ n) {σ : gb_S} (hT : gb_TC σ) : gb_tc (cs_Sharing_begin_B_L_74 n n σ 0) (fun s _ => gb_TC s ∧ True) := by
  exact ct_Sharing_begin_B_L_74 hn (fun _ _ hT h => ⟨hT, h⟩) n _ _ hT (gb_iw (lo := 0) (hi := 8) (gb_ic (a := 0) (by decide)) (by decide)) (gb_fuu hn (gb_iw (lo := 0) (hi := 8) (gb_ic (a := 0) (by decide)) (by decide)) (by decide))
set_option maxHeartbeats 4000000 in
theorem ct_Sharing_advance_68 {n : Nat} (hn : gb_N ≤ n) {Q : gb_S → Unit → Prop} {k10 : gb_S → Int32 → gb_CR Unit} {M10 : Nat} (hk10 : ∀ (σ : gb_S) (v1 : Int32), gb_TC σ → gb_iv (-1) 7 v1 → (v1.toInt - (-1)).toNat < M10 → gb_tc (k10 σ v1) Q) (hret : ∀ (σ : gb_S) (r : Unit), gb_TC σ → True → Q σ r) : ∀ (σ : gb_S) (v1 : Int32) (v2 : Int32) (v3 : Int32) (t0 : Int32) (t1 : Int32), gb_TC σ → gb_iv 0 7 v1 → gb_iv 0 4 v2 → gb_iv 0 0 v3 → gb_iv 1 4 t0 → gb_iv 0 7 t1 → gb_iv 0 3 ((σ.1 125) (Int32.toNatClampNeg t1)) → (v1.toInt - (-1)).toNat < M10 + 1 → gb_tc (cs_Sharing_advance_68 n k10 σ v1 v2 v3 t0 t1) Q := by
  intro σ v1 v2 v3 t0 t1 hT iv1 iv2 iv3 it0 it1 y_0 hm10
  unfold cs_Sharing_advance_68
  refine gc_ck it1 (by decide) ?_
  refine gc_ltT (gc_su (c := 9) (lo := 0) (hi := 4) hT (rfl : gc_cat 125 = 9) (gb_iw (lo := 0) (hi := 4) it0 (by decide)) ⟨Int.le_refl _, Int.le_refl _⟩) (fun s_19 es_19 hTs_19 => ?_)
  refine gc_ck iv1 (by decide) ?_
  refine gc_lti (lo := 0) (hi := 4) (gc_rd (c := 9) (lo := 0) (hi := 4) hTs_19 (rfl : gc_cat 125 = 9) ⟨Int.le_refl _, Int.le_refl _⟩) (fun x_21 ex_21 ix_21 => ?_)
  refine gc_ck ix_21 (by decide) ?_
  refine gc_lti (lo := 0) (hi := 4) (gc_rd (c := 9) (lo := 0) (hi := 4) hTs_19 (rfl : gc_cat 124 = 9) ⟨Int.le_refl _, Int.le_refl _⟩) (fun x_23 ex_23 ix_23 => ?_)
  refine gc_ck iv2 (by decide) ?_
  refine gc_lti (lo := (-2147483648)) (hi := 2147483647) (gb_it _) (fun x_25 ex_25 ix_25 => ?_)
  refine gc_ck (gb_iadd (lo := 0) (hi := 39) (gb_imul (lo := 0) (hi := 35) iv1 (gb_ic (a := 5) (by decide)) (by decide)) iv2 (by decide)) (by decide) ?_
  refine gc_lti (lo := (-2147483648)) (hi := 2147483647) (gb_it _) (fun x_27 ex_27 ix_27 => ?_)
  refine gc_ck iv2 (by decide) ?_
  refine gc_ltT (gc_su0 hTs_19 (rfl : gc_cat 126 = 0)) (fun s_29 es_29 hTs_29 => ?_)
  refine gc_ck ix_23 (by decide) ?_
  refine gc_lti (lo := (-2147483648)) (hi := 2147483647) (gb_it _) (fun x_31 ex_31 ix_31 => ?_)
  refine gc_ck (gb_iadd (lo := 0) (hi := 39) (gb_imul (lo := 0) (hi := 35) iv1 (gb_ic (a := 5) (by decide)) (by decide)) ix_23 (by decide)) (by decide) ?_
  refine gc_lti (lo := (-2147483648)) (hi := 2147483647) (gb_it _) (fun x_33 ex_33 ix_33 => ?_)
  refine gc_ck ix_23 (by decide) ?_
  refine gc_ltT (gc_su0 hTs_29 (rfl : gc_cat 126 = 0)) (fun s_35 es_35 hTs_35 => ?_)
  refine gc_cdT (ct_Sharing_payAnew hn hTs_35 iv2) (fun s_36 u_32579 hTs_36 _ => ?_)
  refine gc_cdT (ct_Sharing_payAnew hn hTs_36 ix_23) (fun s_40 u_32580 hTs_40 _ => ?_)
  refine gc_if (fun c_32581 => ?_) (fun c_32581 => ?_)
  · exact gc_some (hret _ _ hTs_40 trivial)
  · exact (gb_em (gb_rN (lo := 1) (hi := (-1)) (v := 0) c_32581 iv3 (by decide) (by decide)) (by decide)).elim
set_option maxHeartbeats 4000000 in
theorem ct_Sharing_advance_46 {n : Nat} (hn : gb_N ≤ n) {Q : gb_S → Unit → Prop} {k10 : gb_S → Int32 → gb_CR Unit} {M10 : Nat} (hk10 : ∀ (σ : gb_S) (v1 : Int32), gb_TC σ → gb_iv (-1) 7 v1 → (v1.toInt - (-1)).toNat < M10 → gb_tc (k10 σ v1) Q) (hret : ∀ (σ : gb_S) (r : Unit), gb_TC σ → True → Q σ r) : ∀ (σ : gb_S) (v1 : Int32) (v2 : Int32) (t0 : Int32), gb_TC σ → gb_iv 0 7 v1 → gb_iv 0 4 v2 → gb_iv 0 0 t0 → gb_iv 0 3 ((σ.1 125) (Int32.toNatClampNeg v1)) → (v1.toInt - (-1)).toNat < M10 + 1 → gb_tc (cs_Sharing_advance_46 n k10 σ v1 v2 t0) Q := by
  intro σ v1 v2 t0 hT iv1 iv2 it0 y_0 hm10
  unfold cs_Sharing_advance_46
  refine gc_if (fun c_32578 => ?_) (fun c_32578 => ?_)
  · refine gc_ck iv1 (by decide) ?_
    refine gc_lti (lo := 0) (hi := 3) y_0 (fun x_17 ex_17 ix_17 => ?_)
    exact ct_Sharing_advance_68 hn hk10 hret _ _ _ _ _ _ hT iv1 iv2 it0 (gb_iadd (lo := 1) (hi := 4) ix_17 (gb_ic (a := 1) (by decide)) (by decide)) iv1 y_0 hm10
  · exact (gb_em (gb_rN (lo := 1) (hi := (-1)) (v := 0) c_32578 it0 (by decide) (by decide)) (by decide)).elim
set_option maxHeartbeats 4000000 in
theorem ct_Sharing_advance_68_i1 {n : Nat} (hn : gb_N ≤ n) {Q : gb_S → Unit → Prop} {k10 : gb_S → Int32 → gb_CR Unit} {M10 : Nat} (hk10 : ∀ (σ : gb_S) (v1 : Int32), gb_TC σ → gb_iv (-1) 7 v1 → (v1.toInt - (-1)).toNat < M10 → gb_tc (k10 σ v1) Q) (hret : ∀ (σ : gb_S) (r : Unit), gb_TC σ → True → Q σ r) : ∀ (σ : gb_S) (v1 : Int32) (v2 : Int32) (v3 : Int32) (t0 : Int32) (t1 : Int32), gb_TC σ → gb_iv 0 7 v1 → gb_iv 0 4 v2 → gb_iv 1 1 v3 → gb_iv 0 0 t0 → gb_iv 0 7 t1 → (v1.toInt - (-1)).toNat < M10 + 1 → gb_tc (cs_Sharing_advance_68 n k10 σ v1 v2 v3 t0 t1) Q := by
  intro σ v1 v2 v3 t0 t1 hT iv1 iv2 iv3 it0 it1 hm10
  unfold cs_Sharing_advance_68
  refine gc_ck it1 (by decide) ?_
  refine gc_ltT (gc_su (c := 9) (lo := 0) (hi := 4) hT (rfl : gc_cat 125 = 9) (gb_iw (lo := 0) (hi := 4) it0 (by decide)) ⟨Int.le_refl _, Int.le_refl _⟩) (fun s_19 es_19 hTs_19 => ?_)
  refine gc_ck iv1 (by decide) ?_
  refine gc_lti (lo := 0) (hi := 4) (gc_rd (c := 9) (lo := 0) (hi := 4) hTs_19 (rfl : gc_cat 125 = 9) ⟨Int.le_refl _, Int.le_refl _⟩) (fun x_21 ex_21 ix_21 => ?_)
  refine gc_ck ix_21 (by decide) ?_
  refine gc_lti (lo := 0) (hi := 4) (gc_rd (c := 9) (lo := 0) (hi := 4) hTs_19 (rfl : gc_cat 124 = 9) ⟨Int.le_refl _, Int.le_refl _⟩) (fun x_23 ex_23 ix_23 => ?_)
  refine gc_ck iv2 (by decide) ?_
  refine gc_lti (lo := (-2147483648)) (hi := 2147483647) (gb_it _) (fun x_25 ex_25 ix_25 => ?_)
  refine gc_ck (gb_iadd (lo := 0) (hi := 39) (gb_imul (lo := 0) (hi := 35) iv1 (gb_ic (a := 5) (by decide)) (by decide)) iv2 (by decide)) (by decide) ?_
  refine gc_lti (lo := (-2147483648)) (hi := 2147483647) (gb_it _) (fun x_27 ex_27 ix_27 => ?_)
  refine gc_ck iv2 (by decide) ?_
  refine gc_ltT (gc_su0 hTs_19 (rfl : gc_cat 126 = 0)) (fun s_29 es_29 hTs_29 => ?_)
  refine gc_ck ix_23 (by decide) ?_
  refine gc_lti (lo := (-2147483648)) (hi := 2147483647) (gb_it _) (fun x_31 ex_31 ix_31 => ?_)
  refine gc_ck (gb_iadd (lo := 0) (hi := 39) (gb_imul (lo := 0) (hi := 35) iv1 (gb_ic (a := 5) (by decide)) (by decide)) ix_23 (by decide)) (by decide) ?_
  refine gc_lti (lo := (-2147483648)) (hi := 2147483647) (gb_it _) (fun x_33 ex_33 ix_33 => ?_)
  refine gc_ck ix_23 (by decide) ?_
  refine gc_ltT (gc_su0 hTs_29 (rfl : gc_cat 126 = 0)) (fun s_35 es_35 hTs_35 => ?_)
  refine gc_cdT (ct_Sharing_payAnew hn hTs_35 iv2) (fun s_36 u_32583 hTs_36 _ => ?_)
  refine gc_cdT (ct_Sharing_payAnew hn hTs_36 ix_23) (fun s_40 u_32584 hTs_40 _ => ?_)
  refine gc_if (fun c_32585 => ?_) (fun c_32585 => ?_)
  · exact (gb_em (gb_rU (lo := 1) (hi := 0) (gb_deq c_32585) iv3 (gb_ic (a := 0) (by decide)) (by decide)) (by decide)).elim
  · refine gc_lti (lo := (-1)) (hi := 6) (gb_iadd (lo := (-1)) (hi := 6) iv1 (gb_ic (a := (-1)) (by decide)) (by decide)) (fun x_45 ex_45 ix_45 => ?_)
    exact hk10 _ _ hTs_40 (gb_iw (lo := (-1)) (hi := 7) ix_45 (by decide)) (gb_mdn ex_45 iv1 (by decide) hm10)
set_option maxHeartbeats 4000000 in
theorem ct_Sharing_advance_46_i1 {n : Nat} (hn : gb_N ≤ n) {Q : gb_S → Unit → Prop} {k10 : gb_S → Int32 → gb_CR Unit} {M10 : Nat} (hk10 : ∀ (σ : gb_S) (v1 : Int32), gb_TC σ → gb_iv (-1) 7 v1 → (v1.toInt - (-1)).toNat < M10 → gb_tc (k10 σ v1) Q) (hret : ∀ (σ : gb_S) (r : Unit), gb_TC σ → True → Q σ r) : ∀ (σ : gb_S) (v1 : Int32) (v2 : Int32) (t0 : Int32), gb_TC σ → gb_iv 0 7 v1 → gb_iv 0 4 v2 → gb_iv 1 1 t0 → (v1.toInt - (-1)).toNat < M10 + 1 → gb_tc (cs_Sharing_advance_46 n k10 σ v1 v2 t0) Q := by
  intro σ v1 v2 t0 hT iv1 iv2 it0 hm10
  unfold cs_Sharing_advance_46
  refine gc_if (fun c_32582 => ?_) (fun c_32582 => ?_)
  · exact (gb_em (gb_rU (lo := 1) (hi := 0) (gb_deq c_32582) it0 (gb_ic (a := 0) (by decide)) (by decide)) (by decide)).elim
  · exact ct_Sharing_advance_68_i1 hn hk10 hret _ _ _ _ _ _ hT iv1 iv2 it0 (gb_ic (a := 0) (by decide)) iv1 hm10
set_option maxHeartbeats 4000000 in
theorem ct_Sharing_advance_10 {n : Nat} (hn : gb_N ≤ n) {Q : gb_S → Unit → Prop} (hret : ∀ (σ : gb_S) (r : Unit), gb_TC σ → True → Q σ r) : ∀ (mm : Nat) (σ : gb_S) (v1 : Int32), gb_TC σ → gb_iv (-1) 7 v1 → (v1.toInt - (-1)).toNat < mm → gb_tc (cs_Sharing_advance_10 n mm σ v1) Q := by
  intro mm
  induction mm with
  | zero =>
    intro σ v1 hT iv1 hm
    exact absurd hm (Nat.not_lt_zero _)
  | succ mm ih =>
    intro σ v1 hT iv1 hm
    rw [cs_Sharing_advance_10]
    refine gc_if (fun c_32571 => ?_) (fun c_32571 => ?_)
    · have j_32572 : gb_iv (-1) (-1) v1 := (gb_rU (lo := (-1)) (hi := (-1)) (gb_dlt c_32571) iv1 (gb_ic (a := 0) (by decide)) (by decide))
      exact gc_some (hret _ _ hT trivial)
    · have j_32573 : gb_iv 0 7 v1 := (gb_rL (lo := 0) (hi := 7) (gb_dnlt c_32571) iv1 (gb_ic (a := 0) (by decide)) (by decide))
      refine gc_ck j_32573 (by decide) ?_
      refine gc_lti (lo := 0) (hi := 4) (gc_rd (c := 9) (lo := 0) (hi := 4) hT (rfl : gc_cat 125 = 9) ⟨Int.le_refl _, Int.le_refl _⟩) (fun x_9 ex_9 ix_9 => ?_)
      refine gc_ck ix_9 (by decide) ?_
      refine gc_lti (lo := 0) (hi := 4) (gc_rd (c := 9) (lo := 0) (hi := 4) hT (rfl : gc_cat 124 = 9) ⟨Int.le_refl _, Int.le_refl _⟩) (fun x_11 ex_11 ix_11 => ?_)
      refine gc_ck j_32573 (by decide) ?_
      refine gc_lti (lo := 0) (hi := 4) (gc_rd (c := 9) (lo := 0) (hi := 4) hT (rfl : gc_cat 125 = 9) ⟨Int.le_refl _, Int.le_refl _⟩) (fun x_13 ex_13 ix_13 => ?_)
      refine gc_if (fun c_32574 => ?_) (fun c_32574 => ?_)
      · have j_32575 : gb_iv 1 4 (x_13 + 1) := (gb_rU (lo := 1) (hi := 4) (gb_dlt c_32574) (gb_iadd (lo := 1) (hi := 5) ix_13 (gb_ic (a := 1) (by decide)) (by decide)) (gc_rd (c := 8) (lo := 0) (hi := 5) hT (rfl : gc_cat 120 = 8) (by decide)) (by decide))
        have j_32576 : gb_iv 0 3 x_13 := (gb_vadd (lo := 0) (hi := 3) (v := 1) j_32575 (by decide) (by decide))
        have j_32577 : gb_iv 2 5 (σ.1 120 4) := (gb_rL (lo := 2) (hi := 5) (gb_dlt c_32574) (gc_rd (c := 8) (lo := 0) (hi := 5) hT (rfl : gc_cat 120 = 8) (by decide)) (gb_iadd (lo := 1) (hi := 4) j_32576 (gb_ic (a := 1) (by decide)) (by decide)) (by decide))
        exact ct_Sharing_advance_46 hn ih hret _ _ _ _ hT j_32573 ix_11 (gb_ic (a := 0) (by decide)) (gb_ie ex_13.symm j_32576) hm
      · exact ct_Sharing_advance_46_i1 hn ih hret _ _ _ _ hT j_32573 ix_11 (gb_ic (a := 1) (by decide)) hm
set_option maxHeartbeats 4000000 in
theorem ct_Sharing_advance {n : Nat} (hn : gb_N ≤ n) {σ : gb_S} (hT : gb_TC σ) : gb_tc (cs_Sharing_advance n σ) (fun s _ => gb_TC s ∧ True) := by
  unfold cs_Sharing_advance
  refine gc_kk (gc_q2 hT) ?_
  refine gc_cdP (ct_Border_geese_B hn hT (gc_q2 hT)) (fun r_3 qr_3 h_32450 => ?_)
  refine gc_lti (lo := (-1)) (hi := 7) (gb_isub (lo := (-1)) (hi := 7) h_32450 (gb_ic (a := 1) (by decide)) (by decide)) (fun x_6 ex_6 ix_6 => ?_)
  exact ct_Sharing_advance_10 hn (fun _ _ hT h => ⟨hT, h⟩) n _ _ hT ix_6 (gb_fud hn ix_6 (by decide))
set_option maxHeartbeats 4000000 in
theorem ct_Flocks_fewestBackwards_B_21 {n : Nat} (hn : gb_N ≤ n) {Q : gb_S → Int32 → Prop} (hret : ∀ (σ : gb_S) (r : Int32), gb_TC σ → gb_iv (-1) 255 r → Q σ r) : ∀ (mm : Nat) (σ : gb_S) (v3 : Int32) (v4 : Int32) (v5 : Int32), gb_TC σ → gb_iv (-2147483648) 2147483647 v3 → gb_iv (-1) 255 v4 → gb_iv 0 256 v5 → (256 - v5.toInt).toNat < mm → gb_tc (cs_Flocks_fewestBackwards_B_21 n mm σ v3 v4 v5) Q := by
  intro mm
  induction mm with
  | zero =>
    intro σ v3 v4 v5 hT iv3 iv4 iv5 hm
    exact absurd hm (Nat.not_lt_zero _)
  | succ mm ih =>
    intro σ v3 v4 v5 hT iv3 iv4 iv5 hm
    rw [cs_Flocks_fewestBackwards_B_21]
    refine gc_if (fun c_33704 => ?_) (fun c_33704 => ?_)
    · exact gc_some (hret _ _ hT iv4)
    · have j_33705 : gb_iv 0 255 v5 := (gb_rU (lo := 0) (hi := 255) (gb_dnle c_33704) iv5 (gc_rd (c := 11) (lo := 0) (hi := 256) hT (rfl : gc_cat 130 = 11) (by decide)) (by decide))
      have j_33706 : gb_iv 1 256 (σ.1 130 4) := (gb_rL (lo := 1) (hi := 256) (gb_dnle c_33704) (gc_rd (c := 11) (lo := 0) (hi := 256) hT (rfl : gc_cat 130 = 11) (by decide)) j_33705 (by decide))
      refine gc_ck (gb_isub (lo := 0) (hi := 255) j_33706 (gb_ic (a := 1) (by decide)) (by decide)) (by decide) ?_
      refine gc_lti (lo := (-2147483648)) (hi := 2147483647) (gb_it _) (fun x_9 ex_9 ix_9 => ?_)
      refine gc_ck j_33705 (by decide) ?_
      refine gc_lti (lo := (-2147483648)) (hi := 2147483647) (gb_it _) (fun x_11 ex_11 ix_11 => ?_)
      refine gc_if (fun c_33707 => ?_) (fun c_33707 => ?_)
      · have j_33708 : gb_iv (-2147483648) 2147483646 v3 := (gb_rU (lo := (-2147483648)) (hi := 2147483646) (gb_dlt c_33707) (gb_it _) (gb_it _) (by decide))
        have j_33709 : gb_iv (-2147483647) 2147483647 (x_9 - (2 * x_11)) := (gb_rL (lo := (-2147483647)) (hi := 2147483647) (gb_dlt c_33707) (gb_it _) j_33708 (by decide))
        refine gc_if (fun c_33710 => ?_) (fun c_33710 => ?_)
        · refine gc_lti (lo := 1) (hi := 256) (gb_iadd (lo := 1) (hi := 256) j_33705 (gb_ic (a := 1) (by decide)) (by decide)) (fun x_14 ex_14 ix_14 => ?_)
          exact ih _ _ _ _ hT (gb_iw (lo := (-2147483648)) (hi := 2147483647) j_33708 (by decide)) iv4 (gb_iw (lo := 0) (hi := 256) ix_14 (by decide)) (gb_mup ex_14 j_33705 (by decide) hm)
        · refine gc_cdP (ct_java_lang_Integer_bitCount hn hT) (fun r_16 qr_16 h_33711 => ?_)
          refine gc_cdP (ct_java_lang_Integer_bitCount hn hT) (fun r_20 qr_20 h_33712 => ?_)
          refine gc_if (fun c_33713 => ?_) (fun c_33713 => ?_)
          · refine gc_lti (lo := 1) (hi := 256) (gb_iadd (lo := 1) (hi := 256) j_33705 (gb_ic (a := 1) (by decide)) (by decide)) (fun x_24 ex_24 ix_24 => ?_)
            exact ih _ _ _ _ hT (gb_iw (lo := (-2147483648)) (hi := 2147483647) j_33708 (by decide)) iv4 (gb_iw (lo := 0) (hi := 256) ix_24 (by decide)) (gb_mup ex_24 j_33705 (by decide) hm)
          · have j_33714 : gb_iv 0 62 r_16 := (gb_rU (lo := 0) (hi := 62) (gb_dnle c_33713) h_33711 h_33712 (by decide))
            have j_33715 : gb_iv 1 63 r_20 := (gb_rL (lo := 1) (hi := 63) (gb_dnle c_33713) h_33712 j_33714 (by decide))
            refine gc_lti (lo := 1) (hi := 256) (gb_iadd (lo := 1) (hi := 256) j_33705 (gb_ic (a := 1) (by decide)) (by decide)) (fun x_25 ex_25 ix_25 => ?_)
            exact ih _ _ _ _ hT (gb_iw (lo := (-2147483648)) (hi := 2147483647) j_33708 (by decide)) (gb_iw (lo := (-1)) (hi := 255) j_33705 (by decide)) (gb_iw (lo := 0) (hi := 256) ix_25 (by decide)) (gb_mup ex_25 j_33705 (by decide) hm)
      · refine gc_if (fun c_33716 => ?_) (fun c_33716 => ?_)
        · exact absurd c_33716 (by decide)
        · refine gc_cdP (ct_java_lang_Integer_bitCount hn hT) (fun r_29 qr_29 h_33717 => ?_)
          refine gc_cdP (ct_java_lang_Integer_bitCount hn hT) (fun r_33 qr_33 h_33718 => ?_)
          refine gc_if (fun c_33719 => ?_) (fun c_33719 => ?_)
          · refine gc_lti (lo := 1) (hi := 256) (gb_iadd (lo := 1) (hi := 256) j_33705 (gb_ic (a := 1) (by decide)) (by decide)) (fun x_37 ex_37 ix_37 => ?_)
            exact ih _ _ _ _ hT (gb_it _) iv4 (gb_iw (lo := 0) (hi := 256) ix_37 (by decide)) (gb_mup ex_37 j_33705 (by decide) hm)
          · have j_33720 : gb_iv 0 62 r_29 := (gb_rU (lo := 0) (hi := 62) (gb_dnle c_33719) h_33717 h_33718 (by decide))
            have j_33721 : gb_iv 1 63 r_33 := (gb_rL (lo := 1) (hi := 63) (gb_dnle c_33719) h_33718 j_33720 (by decide))
            refine gc_lti (lo := 1) (hi := 256) (gb_iadd (lo := 1) (hi := 256) j_33705 (gb_ic (a := 1) (by decide)) (by decide)) (fun x_38 ex_38 ix_38 => ?_)
            exact ih _ _ _ _ hT (gb_it _) (gb_iw (lo := (-1)) (hi := 255) j_33705 (by decide)) (gb_iw (lo := 0) (hi := 256) ix_38 (by decide)) (gb_mup ex_38 j_33705 (by decide) hm)
set_option maxHeartbeats 4000000 in
theorem ct_Flocks_fewestBackwards_B {n : Nat} (hn : gb_N ≤ n) {σ : gb_S} {p1 : Nat} {p2 : Int32} {p3 : Int32} (hT : gb_TC σ) (hp1 : gb_kB p1 = true) (ip2 : gb_iv 0 4 p2) : gb_tc (cs_Flocks_fewestBackwards_B n σ p1 p2 p3) (fun s r => gb_TC s ∧ gb_iv (-1) 255 r) := by
  unfold cs_Flocks_fewestBackwards_B
  refine gc_kk hp1 ?_
  refine gc_cdT (ct_Flocks_sumUp_B_c131 hn hT hp1 ip2) (fun s_2 u_33145 hTs_2 _ => ?_)
  refine gc_lti (lo := (-1)) (hi := 255) (gb_isub (lo := (-1)) (hi := 255) (gc_rd (c := 11) (lo := 0) (hi := 256) hTs_2 (rfl : gc_cat 130 = 11) (by decide)) (gb_ic (a := 1) (by decide)) (by decide)) (fun x_6 ex_6 ix_6 => ?_)
  exact ct_Flocks_fewestBackwards_B_21 hn (fun _ _ hT h => ⟨hT, h⟩) n _ _ _ _ hTs_2 (gb_it _) ix_6 (gb_iw (lo := 0) (hi := 256) (gb_ic (a := 0) (by decide)) (by decide)) (gb_fuu hn (gb_iw (lo := 0) (hi := 256) (gb_ic (a := 0) (by decide)) (by decide)) (by decide))
set_option maxHeartbeats 4000000 in
theorem ct_Face_backs {n : Nat} (hn : gb_N ≤ n) {σ : gb_S} {p1 : Int32} {p2 : Int32} {p3 : Int32} {p4 : Int32} (hT : gb_TC σ) : gb_tc (cs_Face_backs n σ p1 p2 p3 p4) (fun s r => gb_TC s ∧ gb_iv (-1) 255 r) := by
  unfold cs_Face_backs
  refine gc_cdP (ct_Face_borderAt hn hT) (fun r_2 qr_2 h_33740 => ?_)
  refine gc_if (fun c_33741 => ?_) (fun c_33741 => ?_)
  · exact gc_some ⟨hT, (gb_iw (lo := (-1)) (hi := 255) (gb_ic (a := (-1)) (by decide)) (by decide))⟩
  · refine gc_kk (Or.resolve_left h_33740 c_33741) ?_
    refine gc_cdP (ct_Border_hasPath_B hn hT (Or.resolve_left h_33740 c_33741)) (fun r_8 qr_8 h_33742 => ?_)
    refine gc_if (fun c_33743 => ?_) (fun c_33743 => ?_)
    · have j_33744 : gb_iv 0 0 r_8 := (gb_rU (lo := 0) (hi := 0) (gb_deq c_33743) h_33742.1 (gb_ic (a := 0) (by decide)) (by decide))
      exact gc_some ⟨hT, (gb_iw (lo := (-1)) (hi := 255) (gb_ic (a := (-1)) (by decide)) (by decide))⟩
    · have j_33745 : gb_iv 1 1 r_8 := (gb_rN (lo := 1) (hi := 1) (v := 0) c_33743 h_33742.1 (by decide) (by decide))
      have j_33746 : gb_iv 0 4 p2 := (h_33742.2 c_33743)
      refine gc_if (fun c_33747 => ?_) (fun c_33747 => ?_)
      · have j_33748 : gb_iv (-2147483648) (-1) p3 := (gb_rU (lo := (-2147483648)) (hi := (-1)) (gb_dlt c_33747) (gb_it _) (gb_ic (a := 0) (by decide)) (by decide))
        exact gc_some ⟨hT, (gb_iw (lo := (-1)) (hi := 255) (gb_ic (a := (-1)) (by decide)) (by decide))⟩
      · have j_33749 : gb_iv 0 2147483647 p3 := (gb_rL (lo := 0) (hi := 2147483647) (gb_dnlt c_33747) (gb_it _) (gb_ic (a := 0) (by decide)) (by decide))
        refine gc_if (fun c_33750 => ?_) (fun c_33750 => ?_)
        · have j_33751 : gb_iv 0 9999 p3 := (gb_rU (lo := 0) (hi := 9999) (gb_dle c_33750) j_33749 (gb_ic (a := 9999) (by decide)) (by decide))
          refine gc_cdT (ct_Flocks_fewestBackwards_B hn hT (Or.resolve_left h_33740 c_33741) j_33746) (fun s_14 r_15 hTs_14 h_33752 => ?_)
          refine gc_if (fun c_33753 => ?_) (fun c_33753 => ?_)
          · have j_33754 : gb_iv (-2147483648) 0 p4 := (gb_rU (lo := (-2147483648)) (hi := 0) (gb_deq c_33753) (gb_it _) (gb_ic (a := 0) (by decide)) (by decide))
            have j_33755 : gb_iv 0 0 p4 := (gb_rL (lo := 0) (hi := 0) (gb_deq2 c_33753) j_33754 (gb_ic (a := 0) (by decide)) (by decide))
            exact gc_some ⟨hTs_14, h_33752⟩
          · refine gc_cdP (ct_java_lang_Integer_bitCount hn hTs_14) (fun r_20 qr_20 h_33756 => ?_)
            exact gc_some ⟨hTs_14, (gb_iw (lo := (-1)) (hi := 255) h_33756 (by decide))⟩
        · have j_33757 : gb_iv 10000 2147483647 p3 := (gb_rL (lo := 10000) (hi := 2147483647) (gb_dnle c_33750) j_33749 (gb_ic (a := 9999) (by decide)) (by decide))
          exact gc_some ⟨hT, (gb_iw (lo := (-1)) (hi := 255) (gb_ic (a := (-1)) (by decide)) (by decide))⟩
